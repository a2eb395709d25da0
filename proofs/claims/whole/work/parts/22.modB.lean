def zRv (σ : zS) (N : Nat → Nat) : Prop := ∀ p, p < 6 → 1 ≤ N p ∧ N p ≤ 16 ∧ sa σ 23 p = nI (N p) ∧ ∀ i, i < N p → zcf (sa σ 24 (16 * p + i)) ∧ zcf (sa σ 25 (16 * p + i)) ∧ zcf (sa σ 26 (16 * p + i))
theorem zin1 {r y : Int32} {lo hi : Int64} {L H : Int} (h : zb r (lo.toInt ≤ y.toInt64.toInt ∧ y.toInt64.toInt ≤ hi.toInt)) (hl : lo.toInt = L) (hh : hi.toInt = H) : zb r (L ≤ y.toInt ∧ y.toInt ≤ H) := by
  rw [Int32.toInt_toInt64, hl, hh] at h; exact h
theorem zN64 {m : Nat} (h : m < 2 ^ 31) : (nI m).toInt64.toInt = m := by rw [Int32.toInt_toInt64, nI_toInt h]
theorem zy4_u (σ : zS) (A B C : Nat → Int32) : ua (ua (ua σ 24 A) 25 B) 26 C = zy4 σ (sa σ 23) A B C := by
  apply zS_ext <;> intro j <;> try rfl
  simp only [sa_ua]
  show _ = (if j = 23 then sa σ 23 else if j = 24 then A else if j = 25 then B else if j = 26 then C else _)
  (repeat' split) <;> first | rfl | omega | (subst_vars; rfl)
theorem zsmall {r x : Int32} (h : zb r (zcfl x.toInt64)) : zb r (zcf x) := h.iff (by unfold zcfl zcf; rw [Int32.toInt_toInt64])
theorem zpc_i {N : Nat → Nat} {x y : Int32} {k : Nat} (hk : k < 6) (hxk : x = nI k) (hN1 : 1 ≤ N k) (hN : N k ≤ 16) : (0 ≤ y.toInt ∧ y.toInt ≤ ((N k - 1 : Nat) : Int)) ↔ zpcs N x y := by
  constructor
  · intro h
    obtain ⟨i, h1, h2⟩ := zof_nat (x := y) (n := N k) h.1 (by omega) (by omega)
    exact ⟨k, i, hk, hxk, h1, h2⟩
  · rintro ⟨k2, i, g1, g2, g3, g4⟩
    have e : k = k2 := (nI_eq (by omega) (by omega)).mp (hxk.symm.trans g2)
    subst e
    rw [g4, nI_toInt (by omega)]
    omega
/-- at a box's edge -/
def zAt (σ : zS) (i k : Nat) : Int := zh (4096 * (sm σ 0 i).toInt) (64 * (sm σ 1 i).toInt) (sm σ 2 i).toInt k
def zSt (σ : zS) (i k : Nat) : Int := zrr (64 * (sm σ 1 i).toInt) (sm σ 2 i).toInt k
theorem zAt_t {σ : zS} {i k : Nat} (h0 : zbd (sm σ 0 i).toInt 200000) (h1 : zbd (sm σ 1 i).toInt 200000) (h2 : zbd (sm σ 2 i).toInt 200000) (hk : k ≤ 64) : (4096 * sm σ 0 i + 64 * (nI k).toInt64 * sm σ 1 i + (nI k).toInt64 * (nI k).toInt64 * sm σ 2 i).toInt = zAt σ i k := by
  have k1 := zbN hk (by decide)
  have c1 : zbd (4096 : Int64).toInt 4096 := by unfold zbd; decide
  have c2 : zbd (64 : Int64).toInt 64 := by unfold zbd; decide
  have e1 := zLm c1 h0 (by decide)
  have b1 : zbd (4096 * sm σ 0 i).toInt 819200000 := by rw [e1]; exact c1.mul h0
  have e2 := zLm c2 k1 (by decide)
  have b2 : zbd (64 * (nI k).toInt64).toInt 4096 := by rw [e2]; exact c2.mul k1
  have e3 := zLm b2 h1 (by decide)
  have b3 : zbd (64 * (nI k).toInt64 * sm σ 1 i).toInt 819200000 := by rw [e3]; exact b2.mul h1
  have e4 := zLa b1 b3 (by decide)
  have b4 : zbd (4096 * sm σ 0 i + 64 * (nI k).toInt64 * sm σ 1 i).toInt 1638400000 := by rw [e4]; exact b1.add b3
  have e5 := zLm k1 k1 (by decide)
  have b5 : zbd ((nI k).toInt64 * (nI k).toInt64).toInt 4096 := by rw [e5]; exact k1.mul k1
  have e6 := zLm b5 h2 (by decide)
  have b6 : zbd ((nI k).toInt64 * (nI k).toInt64 * sm σ 2 i).toInt 819200000 := by rw [e6]; exact b5.mul h2
  rw [zLa b4 b6 (by decide), e6, e5, e4, e3, e2, e1, zN64 (by omega), show (4096 : Int64).toInt = 4096 by decide, show (64 : Int64).toInt = 64 by decide]
  unfold zAt zh
  grind
theorem zSt_t {σ : zS} {i k : Nat} (h1 : zbd (sm σ 1 i).toInt 200000) (h2 : zbd (sm σ 2 i).toInt 200000) (hk : k ≤ 64) : (64 * sm σ 1 i + 2 * (nI k).toInt64 * sm σ 2 i).toInt = zSt σ i k := by
  have k1 := zbN hk (by decide)
  have c1 : zbd (64 : Int64).toInt 64 := by unfold zbd; decide
  have c2 : zbd (2 : Int64).toInt 2 := by unfold zbd; decide
  have e1 := zLm c1 h1 (by decide)
  have b1 : zbd (64 * sm σ 1 i).toInt 12800000 := by rw [e1]; exact c1.mul h1
  have e2 := zLm c2 k1 (by decide)
  have b2 : zbd (2 * (nI k).toInt64).toInt 128 := by rw [e2]; exact c2.mul k1
  have e3 := zLm b2 h2 (by decide)
  have b3 : zbd (2 * (nI k).toInt64 * sm σ 2 i).toInt 25600000 := by rw [e3]; exact b2.mul h2
  rw [zLa b1 b3 (by decide), e3, e2, e1, zN64 (by omega), show (64 : Int64).toInt = 64 by decide, show (2 : Int64).toInt = 2 by decide]
  unfold zSt zrr
  grind
theorem zms_st (τ : zS) (F : Nat → Int32) (A B C A' B' C' : Nat → Int64) (F' : Nat → Int32) : ua (um (um (um (z3 (ua τ 29 F) A B C) 0 A') 1 B') 2 C') 29 F' = z3 (ua τ 29 F') A' B' C' := by
  rw [um3]
  apply zS_ext <;> intro j <;> try rfl
  show (if j = 29 then F' else (if j = 29 then F else sa τ j)) = (if j = 29 then F' else sa τ j)
  split <;> rfl
theorem zms_eq {τ : zS} {F F' : Nat → Int32} {A B C A' B' C' : Nat → Int64} (h : F = F') (h1 : A = A') (h2 : B = B') (h3 : C = C') : z3 (ua τ 29 F) A B C = z3 (ua τ 29 F') A' B' C' := by rw [h, h1, h2, h3]
theorem zx4 {x : Int32} (h : 1 ≤ x.toInt ∧ x.toInt ≤ 4) : x = 1 ∨ x = 2 ∨ x = 3 ∨ x = 4 := by
  rcases (show x.toInt = 1 ∨ x.toInt = 2 ∨ x.toInt = 3 ∨ x.toInt = 4 by omega) with q | q | q | q
  · exact Or.inl (zi_eq.mpr q)
  · exact Or.inr (Or.inl (zi_eq.mpr q))
  · exact Or.inr (Or.inr (Or.inl (zi_eq.mpr q)))
  · exact Or.inr (Or.inr (Or.inr (zi_eq.mpr q)))
/-- what hasShape asks of a piece -/
def zhr (σ : zS) (g : Int64) (i : Nat) : Prop := ¬ g * sm σ 1 i < 0 ∧ ¬ g * (sm σ 1 i + 2 * sm σ 2 i) < 0 ∧ (0 < i → ¬ g * sm σ 0 i < g * (sm σ 0 (i - 1) + sm σ 1 (i - 1) + sm σ 2 (i - 1)))
def zhb (σ : zS) (g : Int64) (i : Nat) : Prop := ¬ g * (sm σ 1 i + 2 * sm σ 2 i) < g * sm σ 1 i ∧ (0 < i → ¬ zjm σ i < 0 ∧ ¬ g * sm σ 1 i < g * (sm σ 1 (i - 1) + 2 * sm σ 2 (i - 1)))
def zgs (x : Int32) : Int64 := if x = 1 ∨ x = 3 then 1 else -1
def zhs (σ : zS) (x : Int32) (i : Nat) : Prop := if x.toInt < 3 then zhr σ (zgs x) i else zhb σ (zgs x) i
set_option maxRecDepth 100000 in
set_option maxHeartbeats 4000000 in
theorem c_X4_at {l : Launch} {gg : zG} {σ : zS} {i k : Nat} {x y : Int32} (hx : x = nI i) (hy : y = nI k) (hi : i < 16) (hk : k ≤ 64) (h0 : zbd (sm σ 0 i).toInt 200000) (h1 : zbd (sm σ 1 i).toInt 200000) (h2 : zbd (sm σ 2 i).toInt 200000) : zMl l gg yX4_at cX4_at 3 0 0 [.ref (zM gg), .int x, .int y] σ (fun r u => r.toInt = zAt σ i k ∧ u = σ) := by
  subst hx
  subst hy
  refine zM_l (own := RX4) (lv := [some (.ref (zM gg)), some (.int (nI i)), some (.int (nI k))]) (by decide +kernel) rfl (Nat.le_of_ble_eq_true rfl) rfl (fun cx hc hR hI => ?_)
  refine nX4_99 (pc := 0) hc dX4_at_0 ?_
  refine J_aloadn_0 (pc := 3) hc dX4_at_3 ?_
  refine gX4_25 (pc := 4) hc dX4_at_4 ?_
  refine J_iloadn_1 (pc := 7) hc dX4_at_7 ?_
  refine J_lald (pc := 8) hc (by decide) dX4_at_8 (by first | with_reducible exact rfl | with_reducible exact nI_1 _ | with_reducible exact z16 _ _ | with_reducible exact zm1 (by omega) | assumption | exact rfl) (by omega) ?_
  refine J_lmul (pc := 9) hc dX4_at_9 ?_
  refine nX4_72 (pc := 10) hc dX4_at_10 ?_
  refine J_iloadn_2 (pc := 13) hc dX4_at_13 ?_
  refine J_i2l (pc := 14) hc dX4_at_14 ?_
  refine J_lmul (pc := 15) hc dX4_at_15 ?_
  refine J_aloadn_0 (pc := 16) hc dX4_at_16 ?_
  refine gX4_29 (pc := 17) hc dX4_at_17 ?_
  refine J_iloadn_1 (pc := 20) hc dX4_at_20 ?_
  refine J_lald (pc := 21) hc (by decide) dX4_at_21 (by first | with_reducible exact rfl | with_reducible exact nI_1 _ | with_reducible exact z16 _ _ | with_reducible exact zm1 (by omega) | assumption | exact rfl) (by omega) ?_
  refine J_lmul (pc := 22) hc dX4_at_22 ?_
  refine J_ladd (pc := 23) hc dX4_at_23 ?_
  refine J_iloadn_2 (pc := 24) hc dX4_at_24 ?_
  refine J_i2l (pc := 25) hc dX4_at_25 ?_
  refine J_iloadn_2 (pc := 26) hc dX4_at_26 ?_
  refine J_i2l (pc := 27) hc dX4_at_27 ?_
  refine J_lmul (pc := 28) hc dX4_at_28 ?_
  refine J_aloadn_0 (pc := 29) hc dX4_at_29 ?_
  refine gX4_32 (pc := 30) hc dX4_at_30 ?_
  refine J_iloadn_1 (pc := 33) hc dX4_at_33 ?_
  refine J_lald (pc := 34) hc (by decide) dX4_at_34 (by first | with_reducible exact rfl | with_reducible exact nI_1 _ | with_reducible exact z16 _ _ | with_reducible exact zm1 (by omega) | assumption | exact rfl) (by omega) ?_
  refine J_lmul (pc := 35) hc dX4_at_35 ?_
  refine J_ladd (pc := 36) hc dX4_at_36 ?_
  exact J_lret (pc := 37) hc hI dX4_at_37 ⟨zAt_t h0 h1 h2 hk, rfl⟩
set_option maxRecDepth 100000 in
set_option maxHeartbeats 4000000 in
theorem c_X4_slopeAt {l : Launch} {gg : zG} {σ : zS} {i k : Nat} {x y : Int32} (hx : x = nI i) (hy : y = nI k) (hi : i < 16) (hk : k ≤ 64) (h1 : zbd (sm σ 1 i).toInt 200000) (h2 : zbd (sm σ 2 i).toInt 200000) : zMl l gg yX4_slopeAt cX4_slopeAt 3 0 0 [.ref (zM gg), .int x, .int y] σ (fun r u => r.toInt = zSt σ i k ∧ u = σ) := by
  subst hx
  subst hy
  refine zM_l (own := RX4) (lv := [some (.ref (zM gg)), some (.int (nI i)), some (.int (nI k))]) (by decide +kernel) rfl (Nat.le_of_ble_eq_true rfl) rfl (fun cx hc hR hI => ?_)
  refine nX4_72 (pc := 0) hc dX4_slopeAt_0 ?_
  refine J_aloadn_0 (pc := 3) hc dX4_slopeAt_3 ?_
  refine gX4_29 (pc := 4) hc dX4_slopeAt_4 ?_
  refine J_iloadn_1 (pc := 7) hc dX4_slopeAt_7 ?_
  refine J_lald (pc := 8) hc (by decide) dX4_slopeAt_8 (by first | with_reducible exact rfl | with_reducible exact nI_1 _ | with_reducible exact z16 _ _ | with_reducible exact zm1 (by omega) | assumption | exact rfl) (by omega) ?_
  refine J_lmul (pc := 9) hc dX4_slopeAt_9 ?_
  refine nX4_61 (pc := 10) hc dX4_slopeAt_10 ?_
  refine J_iloadn_2 (pc := 13) hc dX4_slopeAt_13 ?_
  refine J_i2l (pc := 14) hc dX4_slopeAt_14 ?_
  refine J_lmul (pc := 15) hc dX4_slopeAt_15 ?_
  refine J_aloadn_0 (pc := 16) hc dX4_slopeAt_16 ?_
  refine gX4_32 (pc := 17) hc dX4_slopeAt_17 ?_
  refine J_iloadn_1 (pc := 20) hc dX4_slopeAt_20 ?_
  refine J_lald (pc := 21) hc (by decide) dX4_slopeAt_21 (by first | with_reducible exact rfl | with_reducible exact nI_1 _ | with_reducible exact z16 _ _ | with_reducible exact zm1 (by omega) | assumption | exact rfl) (by omega) ?_
  refine J_lmul (pc := 22) hc dX4_slopeAt_22 ?_
  refine J_ladd (pc := 23) hc dX4_slopeAt_23 ?_
  exact J_lret (pc := 24) hc hI dX4_slopeAt_24 ⟨zSt_t h1 h2 hk, rfl⟩
set_option maxRecDepth 100000 in
set_option maxHeartbeats 4000000 in
theorem c_X4_makeSpline {l : Launch} {gg : zG} {σ : zS} {s : Int32} {m : Nat} (hm : si σ 11 = nI m) (h2 : 2 ≤ m) (hm2 : m ≤ 17) : zMv l gg yX4_makeSpline cX4_makeSpline 4 0 0 [.ref (zM gg), .int s] σ (fun u => u = zms σ s (m - 1)) := by
  refine zM_v (own := RX4) (lv := [some (.ref (zM gg)), some (.int s), none, none]) (by decide +kernel) rfl (Nat.le_of_ble_eq_true rfl) rfl (fun cx hc hR hI => ?_)
  refine J_aloadn_0 (pc := 0) hc dX4_makeSpline_0 ?_
  refine J_aloadn_0 (pc := 1) hc dX4_makeSpline_1 ?_
  refine gX4_142 (pc := 2) hc dX4_makeSpline_2 ?_
  refine J_iconst (pc := 5) hc dX4_makeSpline_5 (v := 1) (by decide) ?_
  refine J_isub (pc := 6) hc dX4_makeSpline_6 ?_
  refine J_topi (y := nI (m - 1)) (by rw [hm]; exact zm1 (by omega)) ?_
  refine pX4_64 (pc := 7) hc dX4_makeSpline_7 ?_
  refine J_aloadn_0 (pc := 10) hc dX4_makeSpline_10 ?_
  refine gX4_38 (pc := 11) hc dX4_makeSpline_11 ?_
  refine J_iconst (pc := 14) hc dX4_makeSpline_14 (v := 0) (by decide) ?_
  refine J_iloadn_1 (pc := 15) hc dX4_makeSpline_15 ?_
  refine J_iast (pc := 16) hc 17 (by omega) rfl dX4_makeSpline_16 nI_0.symm (by omega) ?_
  refine J_iconst (pc := 17) hc dX4_makeSpline_17 (v := 0) (by decide) ?_
  refine J_istoren_2 (pc := 18) hc dX4_makeSpline_18 rfl ?_
  have hL19 : ∀ (μ : Nat) (i : Nat), (m - 1) - i = μ → i ≤ m - 1 → J cx gg (zQv cx gg (fun u => u = zms σ s (m - 1))) (z3 (ua (ui σ 12 (nI (m - 1))) 29 (zfill (i + 1) (zsr σ s) (sa σ 29))) (zfill i (fun i => (sa σ 27 i).toInt64) (sm σ 0)) (zfill i (fun i => (zsr σ s i).toInt64) (sm σ 1)) (zfill i (fun i => (sa σ 27 (i + 1) - sa σ 27 i - zsr σ s i).toInt64) (sm σ 2))) 19 [some (.ref (zM gg)), some (.int s), some (.int (nI i)), none] [] := by
    intro μ
    induction μ using Nat.strongRecOn with
    | ind μ ih19 =>
      intro i hμ hi
      refine J_iloadn_2 (pc := 19) hc dX4_makeSpline_19 ?_
      refine J_aloadn_0 (pc := 20) hc dX4_makeSpline_20 ?_
      refine gX4_64 (pc := 21) hc dX4_makeSpline_21 ?_
      refine J_icmp_ge (pc := 24) hc 108 dX4_makeSpline_24 (by decide) (fun bq24 => ?_) (fun bq24 => ?_)
      · skip
        have bq24 := (zge rfl rfl (by omega) (by omega)).mp bq24
        exact J_vret (pc := 108) hc hI dX4_makeSpline_108 (by rw [show i = m - 1 by omega]; rfl)
      · skip
        have bq24 := mt (zge rfl rfl (by omega) (by omega)).mpr bq24
        refine J_aloadn_0 (pc := 27) hc dX4_makeSpline_27 ?_
        refine gX4_22 (pc := 28) hc dX4_makeSpline_28 ?_
        refine J_iloadn_2 (pc := 31) hc dX4_makeSpline_31 ?_
        refine J_iconst (pc := 32) hc dX4_makeSpline_32 (v := 1) (by decide) ?_
        refine J_iadd (pc := 33) hc dX4_makeSpline_33 ?_
        refine J_iald (pc := 34) hc 17 (by omega) rfl dX4_makeSpline_34 (by first | with_reducible exact rfl | with_reducible exact nI_1 _ | with_reducible exact z16 _ _ | with_reducible exact zm1 (by omega) | assumption | exact rfl) (by omega) ?_
        refine J_aloadn_0 (pc := 35) hc dX4_makeSpline_35 ?_
        refine gX4_22 (pc := 36) hc dX4_makeSpline_36 ?_
        refine J_iloadn_2 (pc := 39) hc dX4_makeSpline_39 ?_
        refine J_iald (pc := 40) hc 17 (by omega) rfl dX4_makeSpline_40 (by first | with_reducible exact rfl | with_reducible exact nI_1 _ | with_reducible exact z16 _ _ | with_reducible exact zm1 (by omega) | assumption | exact rfl) (by omega) ?_
        refine J_isub (pc := 41) hc dX4_makeSpline_41 ?_
        refine J_istoren_3 (pc := 42) hc dX4_makeSpline_42 rfl ?_
        refine J_aloadn_0 (pc := 43) hc dX4_makeSpline_43 ?_
        refine gX4_25 (pc := 44) hc dX4_makeSpline_44 ?_
        refine J_iloadn_2 (pc := 47) hc dX4_makeSpline_47 ?_
        refine J_aloadn_0 (pc := 48) hc dX4_makeSpline_48 ?_
        refine gX4_22 (pc := 49) hc dX4_makeSpline_49 ?_
        refine J_iloadn_2 (pc := 52) hc dX4_makeSpline_52 ?_
        refine J_iald (pc := 53) hc 17 (by omega) rfl dX4_makeSpline_53 (by first | with_reducible exact rfl | with_reducible exact nI_1 _ | with_reducible exact z16 _ _ | with_reducible exact zm1 (by omega) | assumption | exact rfl) (by omega) ?_
        refine J_i2l (pc := 54) hc dX4_makeSpline_54 ?_
        refine J_last (pc := 55) hc (by decide) dX4_makeSpline_55 (by first | with_reducible exact rfl | with_reducible exact nI_1 _ | with_reducible exact z16 _ _ | with_reducible exact zm1 (by omega) | assumption | exact rfl) (by omega) ?_
        refine J_aloadn_0 (pc := 56) hc dX4_makeSpline_56 ?_
        refine gX4_29 (pc := 57) hc dX4_makeSpline_57 ?_
        refine J_iloadn_2 (pc := 60) hc dX4_makeSpline_60 ?_
        refine J_aloadn_0 (pc := 61) hc dX4_makeSpline_61 ?_
        refine gX4_38 (pc := 62) hc dX4_makeSpline_62 ?_
        refine J_iloadn_2 (pc := 65) hc dX4_makeSpline_65 ?_
        refine J_iald (pc := 66) hc 17 (by omega) rfl dX4_makeSpline_66 (by first | with_reducible exact rfl | with_reducible exact nI_1 _ | with_reducible exact z16 _ _ | with_reducible exact zm1 (by omega) | assumption | exact rfl) (by omega) ?_
        refine J_topi (y := zsr σ s i) (zfill_in _ _ (by omega)) ?_
        refine J_i2l (pc := 67) hc dX4_makeSpline_67 ?_
        refine J_last (pc := 68) hc (by decide) dX4_makeSpline_68 (by first | with_reducible exact rfl | with_reducible exact nI_1 _ | with_reducible exact z16 _ _ | with_reducible exact zm1 (by omega) | assumption | exact rfl) (by omega) ?_
        refine J_aloadn_0 (pc := 69) hc dX4_makeSpline_69 ?_
        refine gX4_32 (pc := 70) hc dX4_makeSpline_70 ?_
        refine J_iloadn_2 (pc := 73) hc dX4_makeSpline_73 ?_
        refine J_iloadn_3 (pc := 74) hc dX4_makeSpline_74 ?_
        refine J_aloadn_0 (pc := 75) hc dX4_makeSpline_75 ?_
        refine gX4_38 (pc := 76) hc dX4_makeSpline_76 ?_
        refine J_iloadn_2 (pc := 79) hc dX4_makeSpline_79 ?_
        refine J_iald (pc := 80) hc 17 (by omega) rfl dX4_makeSpline_80 (by first | with_reducible exact rfl | with_reducible exact nI_1 _ | with_reducible exact z16 _ _ | with_reducible exact zm1 (by omega) | assumption | exact rfl) (by omega) ?_
        refine J_topi (y := zsr σ s i) (zfill_in _ _ (by omega)) ?_
        refine J_isub (pc := 81) hc dX4_makeSpline_81 ?_
        refine J_i2l (pc := 82) hc dX4_makeSpline_82 ?_
        refine J_last (pc := 83) hc (by decide) dX4_makeSpline_83 (by first | with_reducible exact rfl | with_reducible exact nI_1 _ | with_reducible exact z16 _ _ | with_reducible exact zm1 (by omega) | assumption | exact rfl) (by omega) ?_
        refine J_aloadn_0 (pc := 84) hc dX4_makeSpline_84 ?_
        refine gX4_38 (pc := 85) hc dX4_makeSpline_85 ?_
        refine J_iloadn_2 (pc := 88) hc dX4_makeSpline_88 ?_
        refine J_iconst (pc := 89) hc dX4_makeSpline_89 (v := 1) (by decide) ?_
        refine J_iadd (pc := 90) hc dX4_makeSpline_90 ?_
        refine J_iconst (pc := 91) hc dX4_makeSpline_91 (v := 2) (by decide) ?_
        refine J_iloadn_3 (pc := 92) hc dX4_makeSpline_92 ?_
        refine J_imul (pc := 93) hc dX4_makeSpline_93 ?_
        refine J_aloadn_0 (pc := 94) hc dX4_makeSpline_94 ?_
        refine gX4_38 (pc := 95) hc dX4_makeSpline_95 ?_
        refine J_iloadn_2 (pc := 98) hc dX4_makeSpline_98 ?_
        refine J_iald (pc := 99) hc 17 (by omega) rfl dX4_makeSpline_99 (by first | with_reducible exact rfl | with_reducible exact nI_1 _ | with_reducible exact z16 _ _ | with_reducible exact zm1 (by omega) | assumption | exact rfl) (by omega) ?_
        refine J_topi (y := zsr σ s i) (zfill_in _ _ (by omega)) ?_
        refine J_isub (pc := 100) hc dX4_makeSpline_100 ?_
        refine J_iast (pc := 101) hc 17 (by omega) rfl dX4_makeSpline_101 (by first | with_reducible exact rfl | with_reducible exact nI_1 _ | with_reducible exact z16 _ _ | with_reducible exact zm1 (by omega) | assumption | exact rfl) (by omega) ?_
        refine J_iinc_2 (pc := 102) hc dX4_makeSpline_102 (by first | exact nI_1 _ | exact rfl) rfl ?_
        refine J_goto (pc := 105) hc 19 dX4_makeSpline_105 (by decide) ?_
        exact J_weak (by repeat (first | exact zle_nil | apply zle_s | apply zle_n)) (J_eq ((zms_st _ _ _ _ _ _ _ _ _).trans (zms_eq (zfill_s rfl) (zfill_sL rfl) (zfill_sL rfl) (zfill_sL rfl))) (ih19 _ (by omega) (i + 1) rfl (by omega)))
  exact J_weak (by repeat (first | exact zle_nil | apply zle_s | apply zle_n)) (J_eq (by rw [zfill_0, zfill_0, zfill_0, ← zfill_s (f := zsr σ s) (g := sa σ 29) (i := 0) (v := s) rfl, zfill_0]; exact (z3_self _).symm) (hL19 _ 0 rfl (by omega)))
set_option maxRecDepth 100000 in
set_option maxHeartbeats 4000000 in
theorem c_X4_hasShape {l : Launch} {gg : zG} {σ : zS} {x : Int32} {n : Nat} (hx : 1 ≤ x.toInt ∧ x.toInt ≤ 4) (hs : si σ 12 = nI n) (hn : n ≤ 16) : zMi l gg yX4_hasShape cX4_hasShape .boolean 10 1 21 [.ref (zM gg), .int x] σ (fun r u => zb r (∀ i, i < n → zhs σ x i) ∧ u = σ) := by
  refine zM_i (own := RX4) (lv := [some (.ref (zM gg)), some (.int x), none, none, none, none, none, none, none, none]) (by decide +kernel) rfl (Nat.le_of_ble_eq_true rfl) rfl (fun cx hc hR hI => ?_)
  have hJ15 : ∀ (g : Int64), g = zgs x → J cx gg (zQi cx gg (fun r u => zb r (∀ i, i < n → zhs σ x i) ∧ u = σ)) σ 15 [some (.ref (zM gg)), some (.int x), some (.long g), none, none, none, none, none, none, none] [] := by
    intro g hg
    refine J_iconst (pc := 15) hc dX4_hasShape_15 (v := 1) (by decide) ?_
    refine J_istore_4 (pc := 16) hc dX4_hasShape_16 rfl ?_
    refine J_iconst (pc := 18) hc dX4_hasShape_18 (v := 0) (by decide) ?_
    refine J_istore_5 (pc := 19) hc dX4_hasShape_19 rfl ?_
    have hL21 : ∀ (μ : Nat) (i : Nat) (b : Int32), n - i = μ → i ≤ n → zb b (∀ j, j < i → zhs σ x j) → J cx gg (zQi cx gg (fun r u => zb r (∀ i, i < n → zhs σ x i) ∧ u = σ)) σ 21 [some (.ref (zM gg)), some (.int x), some (.long (zgs x)), none, some (.int b), some (.int (nI i)), none, none, none, none] [] := by
      intro μ
      induction μ using Nat.strongRecOn with
      | ind μ ih21 =>
        intro i b hμ hi hb
        refine J_iload_5 (pc := 21) hc dX4_hasShape_21 ?_
        refine J_aloadn_0 (pc := 23) hc dX4_hasShape_23 ?_
        refine gX4_64 (pc := 24) hc dX4_hasShape_24 ?_
        refine J_icmp_ge (pc := 27) hc 218 dX4_hasShape_27 (by decide) (fun bq27 => ?_) (fun bq27 => ?_)
        · skip
          have bq27 := (zge rfl hs (by omega) (by omega)).mp bq27
          refine J_iload_4 (pc := 218) hc dX4_hasShape_218 ?_
          exact J_zret (pc := 220) hc hI dX4_hasShape_220 (by first | exact znb0 | exact znb1 | exact zb.n (by assumption)) ⟨by rw [show i = n by omega] at hb; exact hb, rfl⟩
        · skip
          have bq27 := mt (zge rfl hs (by omega) (by omega)).mpr bq27
          refine J_lloadn_2 (pc := 30) hc dX4_hasShape_30 ?_
          refine J_aloadn_0 (pc := 31) hc dX4_hasShape_31 ?_
          refine gX4_29 (pc := 32) hc dX4_hasShape_32 ?_
          refine J_iload_5 (pc := 35) hc dX4_hasShape_35 ?_
          refine J_lald (pc := 37) hc (by decide) dX4_hasShape_37 (by first | with_reducible exact rfl | with_reducible exact nI_1 _ | with_reducible exact z16 _ _ | with_reducible exact zm1 (by omega) | assumption | exact rfl) (by omega) ?_
          refine J_lmul (pc := 38) hc dX4_hasShape_38 ?_
          refine J_lstore_6 (pc := 39) hc dX4_hasShape_39 rfl ?_
          refine J_lloadn_2 (pc := 41) hc dX4_hasShape_41 ?_
          refine J_aloadn_0 (pc := 42) hc dX4_hasShape_42 ?_
          refine gX4_29 (pc := 43) hc dX4_hasShape_43 ?_
          refine J_iload_5 (pc := 46) hc dX4_hasShape_46 ?_
          refine J_lald (pc := 48) hc (by decide) dX4_hasShape_48 (by first | with_reducible exact rfl | with_reducible exact nI_1 _ | with_reducible exact z16 _ _ | with_reducible exact zm1 (by omega) | assumption | exact rfl) (by omega) ?_
          refine nX4_61 (pc := 49) hc dX4_hasShape_49 ?_
          refine J_aloadn_0 (pc := 52) hc dX4_hasShape_52 ?_
          refine gX4_32 (pc := 53) hc dX4_hasShape_53 ?_
          refine J_iload_5 (pc := 56) hc dX4_hasShape_56 ?_
          refine J_lald (pc := 58) hc (by decide) dX4_hasShape_58 (by first | with_reducible exact rfl | with_reducible exact nI_1 _ | with_reducible exact z16 _ _ | with_reducible exact zm1 (by omega) | assumption | exact rfl) (by omega) ?_
          refine J_lmul (pc := 59) hc dX4_hasShape_59 ?_
          refine J_ladd (pc := 60) hc dX4_hasShape_60 ?_
          refine J_lmul (pc := 61) hc dX4_hasShape_61 ?_
          refine J_lstore_8 (pc := 62) hc dX4_hasShape_62 rfl ?_
          refine J_iloadn_1 (pc := 64) hc dX4_hasShape_64 ?_
          refine J_iconst (pc := 65) hc dX4_hasShape_65 (v := 3) (by decide) ?_
          refine J_icmp_ge (pc := 66) hc 147 dX4_hasShape_66 (by decide) (fun bq66 => ?_) (fun bq66 => ?_)
          · skip
            have hx3 : ¬ x.toInt < 3 := by rw [zi_le] at bq66; have h3 : (3 : Int32).toInt = 3 := rfl; omega
            refine J_iload_4 (pc := 147) hc dX4_hasShape_147 ?_
            refine J_if_eq (pc := 149) hc 209 dX4_hasShape_149 (by decide) (fun bq149 => ?_) (fun bq149 => ?_)
            · skip
              refine J_iconst (pc := 209) hc dX4_hasShape_209 (v := 0) (by decide) ?_
              refine J_istore_4 (pc := 210) hc dX4_hasShape_210 rfl ?_
              refine J_iinc_5 (pc := 212) hc dX4_hasShape_212 (by first | exact nI_1 _ | exact rfl) rfl ?_
              refine J_goto (pc := 215) hc 21 dX4_hasShape_215 (by decide) ?_
              first | (have hz1 : zhs σ x i := (by unfold zhs; rw [if_pos hx3]; exact ⟨bq77, bq84, fun q => absurd q (by omega)⟩); exact J_weak (by repeat (first | exact zle_nil | apply zle_s | apply zle_n)) (ih21 _ (by omega) (i + 1) 1 rfl (by omega) (zb_1 (lt_s (hb.t bq71) hz1)))) | (have hz1 : zhs σ x i := (by unfold zhs; rw [if_pos hx3]; exact ⟨bq77, bq84, fun _ => bq133⟩); exact J_weak (by repeat (first | exact zle_nil | apply zle_s | apply zle_n)) (ih21 _ (by omega) (i + 1) 1 rfl (by omega) (zb_1 (lt_s (hb.t bq71) hz1)))) | (have hz1 : ¬ zhs σ x i := (by unfold zhs; rw [if_pos hx3]; exact fun h => h.2.2 (by omega) bq133); exact J_weak (by repeat (first | exact zle_nil | apply zle_s | apply zle_n)) (ih21 _ (by omega) (i + 1) 0 rfl (by omega) (zb_0 (fun h => hz1 (h i (by omega)))))) | (have hz1 : ¬ zhs σ x i := (by unfold zhs; rw [if_pos hx3]; exact fun h => h.2.1 bq84); exact J_weak (by repeat (first | exact zle_nil | apply zle_s | apply zle_n)) (ih21 _ (by omega) (i + 1) 0 rfl (by omega) (zb_0 (fun h => hz1 (h i (by omega)))))) | (have hz1 : ¬ zhs σ x i := (by unfold zhs; rw [if_pos hx3]; exact fun h => h.1 bq77); exact J_weak (by repeat (first | exact zle_nil | apply zle_s | apply zle_n)) (ih21 _ (by omega) (i + 1) 0 rfl (by omega) (zb_0 (fun h => hz1 (h i (by omega)))))) | exact J_weak (by repeat (first | exact zle_nil | apply zle_s | apply zle_n)) (ih21 _ (by omega) (i + 1) 0 rfl (by omega) (zb_0 (fun h => hb.f bq71 (fun j hj => h j (by omega))))) | (have hz1 : zhs σ x i := (by unfold zhs; rw [if_neg hx3]; exact ⟨bq156, fun q => absurd q (by omega)⟩); exact J_weak (by repeat (first | exact zle_nil | apply zle_s | apply zle_n)) (ih21 _ (by omega) (i + 1) 1 rfl (by omega) (zb_1 (lt_s (hb.t bq149) hz1)))) | (have hz1 : zhs σ x i := (by unfold zhs; rw [if_neg hx3]; exact ⟨bq156, fun _ => ⟨bq171, bq201⟩⟩); exact J_weak (by repeat (first | exact zle_nil | apply zle_s | apply zle_n)) (ih21 _ (by omega) (i + 1) 1 rfl (by omega) (zb_1 (lt_s (hb.t bq149) hz1)))) | (have hz1 : ¬ zhs σ x i := (by unfold zhs; rw [if_neg hx3]; exact fun h => (h.2 (by omega)).2 bq201); exact J_weak (by repeat (first | exact zle_nil | apply zle_s | apply zle_n)) (ih21 _ (by omega) (i + 1) 0 rfl (by omega) (zb_0 (fun h => hz1 (h i (by omega)))))) | (have hz1 : ¬ zhs σ x i := (by unfold zhs; rw [if_neg hx3]; exact fun h => (h.2 (by omega)).1 bq171); exact J_weak (by repeat (first | exact zle_nil | apply zle_s | apply zle_n)) (ih21 _ (by omega) (i + 1) 0 rfl (by omega) (zb_0 (fun h => hz1 (h i (by omega)))))) | (have hz1 : ¬ zhs σ x i := (by unfold zhs; rw [if_neg hx3]; exact fun h => h.1 bq156); exact J_weak (by repeat (first | exact zle_nil | apply zle_s | apply zle_n)) (ih21 _ (by omega) (i + 1) 0 rfl (by omega) (zb_0 (fun h => hz1 (h i (by omega)))))) | exact J_weak (by repeat (first | exact zle_nil | apply zle_s | apply zle_n)) (ih21 _ (by omega) (i + 1) 0 rfl (by omega) (zb_0 (fun h => hb.f bq149 (fun j hj => h j (by omega)))))
            · skip
              refine J_lload_8 (pc := 152) hc dX4_hasShape_152 ?_
              refine J_lload_6 (pc := 154) hc dX4_hasShape_154 ?_
              refine J_lcmp_lt (pc := 156) hc 209 dX4_hasShape_156 dX4_hasShape_157 (by decide) (fun bq156 => ?_) (fun bq156 => ?_)
              · skip
                refine J_iconst (pc := 209) hc dX4_hasShape_209 (v := 0) (by decide) ?_
                refine J_istore_4 (pc := 210) hc dX4_hasShape_210 rfl ?_
                refine J_iinc_5 (pc := 212) hc dX4_hasShape_212 (by first | exact nI_1 _ | exact rfl) rfl ?_
                refine J_goto (pc := 215) hc 21 dX4_hasShape_215 (by decide) ?_
                first | (have hz1 : zhs σ x i := (by unfold zhs; rw [if_pos hx3]; exact ⟨bq77, bq84, fun q => absurd q (by omega)⟩); exact J_weak (by repeat (first | exact zle_nil | apply zle_s | apply zle_n)) (ih21 _ (by omega) (i + 1) 1 rfl (by omega) (zb_1 (lt_s (hb.t bq71) hz1)))) | (have hz1 : zhs σ x i := (by unfold zhs; rw [if_pos hx3]; exact ⟨bq77, bq84, fun _ => bq133⟩); exact J_weak (by repeat (first | exact zle_nil | apply zle_s | apply zle_n)) (ih21 _ (by omega) (i + 1) 1 rfl (by omega) (zb_1 (lt_s (hb.t bq71) hz1)))) | (have hz1 : ¬ zhs σ x i := (by unfold zhs; rw [if_pos hx3]; exact fun h => h.2.2 (by omega) bq133); exact J_weak (by repeat (first | exact zle_nil | apply zle_s | apply zle_n)) (ih21 _ (by omega) (i + 1) 0 rfl (by omega) (zb_0 (fun h => hz1 (h i (by omega)))))) | (have hz1 : ¬ zhs σ x i := (by unfold zhs; rw [if_pos hx3]; exact fun h => h.2.1 bq84); exact J_weak (by repeat (first | exact zle_nil | apply zle_s | apply zle_n)) (ih21 _ (by omega) (i + 1) 0 rfl (by omega) (zb_0 (fun h => hz1 (h i (by omega)))))) | (have hz1 : ¬ zhs σ x i := (by unfold zhs; rw [if_pos hx3]; exact fun h => h.1 bq77); exact J_weak (by repeat (first | exact zle_nil | apply zle_s | apply zle_n)) (ih21 _ (by omega) (i + 1) 0 rfl (by omega) (zb_0 (fun h => hz1 (h i (by omega)))))) | exact J_weak (by repeat (first | exact zle_nil | apply zle_s | apply zle_n)) (ih21 _ (by omega) (i + 1) 0 rfl (by omega) (zb_0 (fun h => hb.f bq71 (fun j hj => h j (by omega))))) | (have hz1 : zhs σ x i := (by unfold zhs; rw [if_neg hx3]; exact ⟨bq156, fun q => absurd q (by omega)⟩); exact J_weak (by repeat (first | exact zle_nil | apply zle_s | apply zle_n)) (ih21 _ (by omega) (i + 1) 1 rfl (by omega) (zb_1 (lt_s (hb.t bq149) hz1)))) | (have hz1 : zhs σ x i := (by unfold zhs; rw [if_neg hx3]; exact ⟨bq156, fun _ => ⟨bq171, bq201⟩⟩); exact J_weak (by repeat (first | exact zle_nil | apply zle_s | apply zle_n)) (ih21 _ (by omega) (i + 1) 1 rfl (by omega) (zb_1 (lt_s (hb.t bq149) hz1)))) | (have hz1 : ¬ zhs σ x i := (by unfold zhs; rw [if_neg hx3]; exact fun h => (h.2 (by omega)).2 bq201); exact J_weak (by repeat (first | exact zle_nil | apply zle_s | apply zle_n)) (ih21 _ (by omega) (i + 1) 0 rfl (by omega) (zb_0 (fun h => hz1 (h i (by omega)))))) | (have hz1 : ¬ zhs σ x i := (by unfold zhs; rw [if_neg hx3]; exact fun h => (h.2 (by omega)).1 bq171); exact J_weak (by repeat (first | exact zle_nil | apply zle_s | apply zle_n)) (ih21 _ (by omega) (i + 1) 0 rfl (by omega) (zb_0 (fun h => hz1 (h i (by omega)))))) | (have hz1 : ¬ zhs σ x i := (by unfold zhs; rw [if_neg hx3]; exact fun h => h.1 bq156); exact J_weak (by repeat (first | exact zle_nil | apply zle_s | apply zle_n)) (ih21 _ (by omega) (i + 1) 0 rfl (by omega) (zb_0 (fun h => hz1 (h i (by omega)))))) | exact J_weak (by repeat (first | exact zle_nil | apply zle_s | apply zle_n)) (ih21 _ (by omega) (i + 1) 0 rfl (by omega) (zb_0 (fun h => hb.f bq149 (fun j hj => h j (by omega)))))
              · skip
                refine J_iload_5 (pc := 160) hc dX4_hasShape_160 ?_
                refine J_if_eq (pc := 162) hc 205 dX4_hasShape_162 (by decide) (fun bq162 => ?_) (fun bq162 => ?_)
                · skip
                  have bq162 : i = 0 := (nI_eq (by omega) (by omega)).mp (bq162.trans nI_0.symm)
                  refine J_iconst (pc := 205) hc dX4_hasShape_205 (v := 1) (by decide) ?_
                  refine J_goto (pc := 206) hc 210 dX4_hasShape_206 (by decide) ?_
                  refine J_istore_4 (pc := 210) hc dX4_hasShape_210 rfl ?_
                  refine J_iinc_5 (pc := 212) hc dX4_hasShape_212 (by first | exact nI_1 _ | exact rfl) rfl ?_
                  refine J_goto (pc := 215) hc 21 dX4_hasShape_215 (by decide) ?_
                  first | (have hz1 : zhs σ x i := (by unfold zhs; rw [if_pos hx3]; exact ⟨bq77, bq84, fun q => absurd q (by omega)⟩); exact J_weak (by repeat (first | exact zle_nil | apply zle_s | apply zle_n)) (ih21 _ (by omega) (i + 1) 1 rfl (by omega) (zb_1 (lt_s (hb.t bq71) hz1)))) | (have hz1 : zhs σ x i := (by unfold zhs; rw [if_pos hx3]; exact ⟨bq77, bq84, fun _ => bq133⟩); exact J_weak (by repeat (first | exact zle_nil | apply zle_s | apply zle_n)) (ih21 _ (by omega) (i + 1) 1 rfl (by omega) (zb_1 (lt_s (hb.t bq71) hz1)))) | (have hz1 : ¬ zhs σ x i := (by unfold zhs; rw [if_pos hx3]; exact fun h => h.2.2 (by omega) bq133); exact J_weak (by repeat (first | exact zle_nil | apply zle_s | apply zle_n)) (ih21 _ (by omega) (i + 1) 0 rfl (by omega) (zb_0 (fun h => hz1 (h i (by omega)))))) | (have hz1 : ¬ zhs σ x i := (by unfold zhs; rw [if_pos hx3]; exact fun h => h.2.1 bq84); exact J_weak (by repeat (first | exact zle_nil | apply zle_s | apply zle_n)) (ih21 _ (by omega) (i + 1) 0 rfl (by omega) (zb_0 (fun h => hz1 (h i (by omega)))))) | (have hz1 : ¬ zhs σ x i := (by unfold zhs; rw [if_pos hx3]; exact fun h => h.1 bq77); exact J_weak (by repeat (first | exact zle_nil | apply zle_s | apply zle_n)) (ih21 _ (by omega) (i + 1) 0 rfl (by omega) (zb_0 (fun h => hz1 (h i (by omega)))))) | exact J_weak (by repeat (first | exact zle_nil | apply zle_s | apply zle_n)) (ih21 _ (by omega) (i + 1) 0 rfl (by omega) (zb_0 (fun h => hb.f bq71 (fun j hj => h j (by omega))))) | (have hz1 : zhs σ x i := (by unfold zhs; rw [if_neg hx3]; exact ⟨bq156, fun q => absurd q (by omega)⟩); exact J_weak (by repeat (first | exact zle_nil | apply zle_s | apply zle_n)) (ih21 _ (by omega) (i + 1) 1 rfl (by omega) (zb_1 (lt_s (hb.t bq149) hz1)))) | (have hz1 : zhs σ x i := (by unfold zhs; rw [if_neg hx3]; exact ⟨bq156, fun _ => ⟨bq171, bq201⟩⟩); exact J_weak (by repeat (first | exact zle_nil | apply zle_s | apply zle_n)) (ih21 _ (by omega) (i + 1) 1 rfl (by omega) (zb_1 (lt_s (hb.t bq149) hz1)))) | (have hz1 : ¬ zhs σ x i := (by unfold zhs; rw [if_neg hx3]; exact fun h => (h.2 (by omega)).2 bq201); exact J_weak (by repeat (first | exact zle_nil | apply zle_s | apply zle_n)) (ih21 _ (by omega) (i + 1) 0 rfl (by omega) (zb_0 (fun h => hz1 (h i (by omega)))))) | (have hz1 : ¬ zhs σ x i := (by unfold zhs; rw [if_neg hx3]; exact fun h => (h.2 (by omega)).1 bq171); exact J_weak (by repeat (first | exact zle_nil | apply zle_s | apply zle_n)) (ih21 _ (by omega) (i + 1) 0 rfl (by omega) (zb_0 (fun h => hz1 (h i (by omega)))))) | (have hz1 : ¬ zhs σ x i := (by unfold zhs; rw [if_neg hx3]; exact fun h => h.1 bq156); exact J_weak (by repeat (first | exact zle_nil | apply zle_s | apply zle_n)) (ih21 _ (by omega) (i + 1) 0 rfl (by omega) (zb_0 (fun h => hz1 (h i (by omega)))))) | exact J_weak (by repeat (first | exact zle_nil | apply zle_s | apply zle_n)) (ih21 _ (by omega) (i + 1) 0 rfl (by omega) (zb_0 (fun h => hb.f bq149 (fun j hj => h j (by omega)))))
                · skip
                  have bq162 : ¬ i = 0 := fun q => bq162 (by rw [q]; rfl)
                  refine J_aloadn_0 (pc := 165) hc dX4_hasShape_165 ?_
                  refine J_iload_5 (pc := 166) hc dX4_hasShape_166 ?_
                  refine kX4_84 (pc := 168) hc hR dX4_hasShape_168 (c_X4_joinOf rfl (by omega) (by omega)) (by decide) (Nat.le_of_ble_eq_true rfl) rfl (fun r u hu => ?_)
                  refine J_eq hu.2 (J_topi hu.1 ?_)
                  refine J_if_lt (pc := 171) hc 209 dX4_hasShape_171 (by decide) (fun bq171 => ?_) (fun bq171 => ?_)
                  · skip
                    refine J_iconst (pc := 209) hc dX4_hasShape_209 (v := 0) (by decide) ?_
                    refine J_istore_4 (pc := 210) hc dX4_hasShape_210 rfl ?_
                    refine J_iinc_5 (pc := 212) hc dX4_hasShape_212 (by first | exact nI_1 _ | exact rfl) rfl ?_
                    refine J_goto (pc := 215) hc 21 dX4_hasShape_215 (by decide) ?_
                    first | (have hz1 : zhs σ x i := (by unfold zhs; rw [if_pos hx3]; exact ⟨bq77, bq84, fun q => absurd q (by omega)⟩); exact J_weak (by repeat (first | exact zle_nil | apply zle_s | apply zle_n)) (ih21 _ (by omega) (i + 1) 1 rfl (by omega) (zb_1 (lt_s (hb.t bq71) hz1)))) | (have hz1 : zhs σ x i := (by unfold zhs; rw [if_pos hx3]; exact ⟨bq77, bq84, fun _ => bq133⟩); exact J_weak (by repeat (first | exact zle_nil | apply zle_s | apply zle_n)) (ih21 _ (by omega) (i + 1) 1 rfl (by omega) (zb_1 (lt_s (hb.t bq71) hz1)))) | (have hz1 : ¬ zhs σ x i := (by unfold zhs; rw [if_pos hx3]; exact fun h => h.2.2 (by omega) bq133); exact J_weak (by repeat (first | exact zle_nil | apply zle_s | apply zle_n)) (ih21 _ (by omega) (i + 1) 0 rfl (by omega) (zb_0 (fun h => hz1 (h i (by omega)))))) | (have hz1 : ¬ zhs σ x i := (by unfold zhs; rw [if_pos hx3]; exact fun h => h.2.1 bq84); exact J_weak (by repeat (first | exact zle_nil | apply zle_s | apply zle_n)) (ih21 _ (by omega) (i + 1) 0 rfl (by omega) (zb_0 (fun h => hz1 (h i (by omega)))))) | (have hz1 : ¬ zhs σ x i := (by unfold zhs; rw [if_pos hx3]; exact fun h => h.1 bq77); exact J_weak (by repeat (first | exact zle_nil | apply zle_s | apply zle_n)) (ih21 _ (by omega) (i + 1) 0 rfl (by omega) (zb_0 (fun h => hz1 (h i (by omega)))))) | exact J_weak (by repeat (first | exact zle_nil | apply zle_s | apply zle_n)) (ih21 _ (by omega) (i + 1) 0 rfl (by omega) (zb_0 (fun h => hb.f bq71 (fun j hj => h j (by omega))))) | (have hz1 : zhs σ x i := (by unfold zhs; rw [if_neg hx3]; exact ⟨bq156, fun q => absurd q (by omega)⟩); exact J_weak (by repeat (first | exact zle_nil | apply zle_s | apply zle_n)) (ih21 _ (by omega) (i + 1) 1 rfl (by omega) (zb_1 (lt_s (hb.t bq149) hz1)))) | (have hz1 : zhs σ x i := (by unfold zhs; rw [if_neg hx3]; exact ⟨bq156, fun _ => ⟨bq171, bq201⟩⟩); exact J_weak (by repeat (first | exact zle_nil | apply zle_s | apply zle_n)) (ih21 _ (by omega) (i + 1) 1 rfl (by omega) (zb_1 (lt_s (hb.t bq149) hz1)))) | (have hz1 : ¬ zhs σ x i := (by unfold zhs; rw [if_neg hx3]; exact fun h => (h.2 (by omega)).2 bq201); exact J_weak (by repeat (first | exact zle_nil | apply zle_s | apply zle_n)) (ih21 _ (by omega) (i + 1) 0 rfl (by omega) (zb_0 (fun h => hz1 (h i (by omega)))))) | (have hz1 : ¬ zhs σ x i := (by unfold zhs; rw [if_neg hx3]; exact fun h => (h.2 (by omega)).1 bq171); exact J_weak (by repeat (first | exact zle_nil | apply zle_s | apply zle_n)) (ih21 _ (by omega) (i + 1) 0 rfl (by omega) (zb_0 (fun h => hz1 (h i (by omega)))))) | (have hz1 : ¬ zhs σ x i := (by unfold zhs; rw [if_neg hx3]; exact fun h => h.1 bq156); exact J_weak (by repeat (first | exact zle_nil | apply zle_s | apply zle_n)) (ih21 _ (by omega) (i + 1) 0 rfl (by omega) (zb_0 (fun h => hz1 (h i (by omega)))))) | exact J_weak (by repeat (first | exact zle_nil | apply zle_s | apply zle_n)) (ih21 _ (by omega) (i + 1) 0 rfl (by omega) (zb_0 (fun h => hb.f bq149 (fun j hj => h j (by omega)))))
                  · skip
                    refine J_lload_6 (pc := 174) hc dX4_hasShape_174 ?_
                    refine J_lloadn_2 (pc := 176) hc dX4_hasShape_176 ?_
                    refine J_aloadn_0 (pc := 177) hc dX4_hasShape_177 ?_
                    refine gX4_29 (pc := 178) hc dX4_hasShape_178 ?_
                    refine J_iload_5 (pc := 181) hc dX4_hasShape_181 ?_
                    refine J_iconst (pc := 183) hc dX4_hasShape_183 (v := 1) (by decide) ?_
                    refine J_isub (pc := 184) hc dX4_hasShape_184 ?_
                    refine J_lald (pc := 185) hc (by decide) dX4_hasShape_185 (by first | with_reducible exact rfl | with_reducible exact nI_1 _ | with_reducible exact z16 _ _ | with_reducible exact zm1 (by omega) | assumption | exact rfl) (by omega) ?_
                    refine nX4_61 (pc := 186) hc dX4_hasShape_186 ?_
                    refine J_aloadn_0 (pc := 189) hc dX4_hasShape_189 ?_
                    refine gX4_32 (pc := 190) hc dX4_hasShape_190 ?_
                    refine J_iload_5 (pc := 193) hc dX4_hasShape_193 ?_
                    refine J_iconst (pc := 195) hc dX4_hasShape_195 (v := 1) (by decide) ?_
                    refine J_isub (pc := 196) hc dX4_hasShape_196 ?_
                    refine J_lald (pc := 197) hc (by decide) dX4_hasShape_197 (by first | with_reducible exact rfl | with_reducible exact nI_1 _ | with_reducible exact z16 _ _ | with_reducible exact zm1 (by omega) | assumption | exact rfl) (by omega) ?_
                    refine J_lmul (pc := 198) hc dX4_hasShape_198 ?_
                    refine J_ladd (pc := 199) hc dX4_hasShape_199 ?_
                    refine J_lmul (pc := 200) hc dX4_hasShape_200 ?_
                    refine J_lcmp_lt (pc := 201) hc 209 dX4_hasShape_201 dX4_hasShape_202 (by decide) (fun bq201 => ?_) (fun bq201 => ?_)
                    · skip
                      refine J_iconst (pc := 209) hc dX4_hasShape_209 (v := 0) (by decide) ?_
                      refine J_istore_4 (pc := 210) hc dX4_hasShape_210 rfl ?_
                      refine J_iinc_5 (pc := 212) hc dX4_hasShape_212 (by first | exact nI_1 _ | exact rfl) rfl ?_
                      refine J_goto (pc := 215) hc 21 dX4_hasShape_215 (by decide) ?_
                      first | (have hz1 : zhs σ x i := (by unfold zhs; rw [if_pos hx3]; exact ⟨bq77, bq84, fun q => absurd q (by omega)⟩); exact J_weak (by repeat (first | exact zle_nil | apply zle_s | apply zle_n)) (ih21 _ (by omega) (i + 1) 1 rfl (by omega) (zb_1 (lt_s (hb.t bq71) hz1)))) | (have hz1 : zhs σ x i := (by unfold zhs; rw [if_pos hx3]; exact ⟨bq77, bq84, fun _ => bq133⟩); exact J_weak (by repeat (first | exact zle_nil | apply zle_s | apply zle_n)) (ih21 _ (by omega) (i + 1) 1 rfl (by omega) (zb_1 (lt_s (hb.t bq71) hz1)))) | (have hz1 : ¬ zhs σ x i := (by unfold zhs; rw [if_pos hx3]; exact fun h => h.2.2 (by omega) bq133); exact J_weak (by repeat (first | exact zle_nil | apply zle_s | apply zle_n)) (ih21 _ (by omega) (i + 1) 0 rfl (by omega) (zb_0 (fun h => hz1 (h i (by omega)))))) | (have hz1 : ¬ zhs σ x i := (by unfold zhs; rw [if_pos hx3]; exact fun h => h.2.1 bq84); exact J_weak (by repeat (first | exact zle_nil | apply zle_s | apply zle_n)) (ih21 _ (by omega) (i + 1) 0 rfl (by omega) (zb_0 (fun h => hz1 (h i (by omega)))))) | (have hz1 : ¬ zhs σ x i := (by unfold zhs; rw [if_pos hx3]; exact fun h => h.1 bq77); exact J_weak (by repeat (first | exact zle_nil | apply zle_s | apply zle_n)) (ih21 _ (by omega) (i + 1) 0 rfl (by omega) (zb_0 (fun h => hz1 (h i (by omega)))))) | exact J_weak (by repeat (first | exact zle_nil | apply zle_s | apply zle_n)) (ih21 _ (by omega) (i + 1) 0 rfl (by omega) (zb_0 (fun h => hb.f bq71 (fun j hj => h j (by omega))))) | (have hz1 : zhs σ x i := (by unfold zhs; rw [if_neg hx3]; exact ⟨bq156, fun q => absurd q (by omega)⟩); exact J_weak (by repeat (first | exact zle_nil | apply zle_s | apply zle_n)) (ih21 _ (by omega) (i + 1) 1 rfl (by omega) (zb_1 (lt_s (hb.t bq149) hz1)))) | (have hz1 : zhs σ x i := (by unfold zhs; rw [if_neg hx3]; exact ⟨bq156, fun _ => ⟨bq171, bq201⟩⟩); exact J_weak (by repeat (first | exact zle_nil | apply zle_s | apply zle_n)) (ih21 _ (by omega) (i + 1) 1 rfl (by omega) (zb_1 (lt_s (hb.t bq149) hz1)))) | (have hz1 : ¬ zhs σ x i := (by unfold zhs; rw [if_neg hx3]; exact fun h => (h.2 (by omega)).2 bq201); exact J_weak (by repeat (first | exact zle_nil | apply zle_s | apply zle_n)) (ih21 _ (by omega) (i + 1) 0 rfl (by omega) (zb_0 (fun h => hz1 (h i (by omega)))))) | (have hz1 : ¬ zhs σ x i := (by unfold zhs; rw [if_neg hx3]; exact fun h => (h.2 (by omega)).1 bq171); exact J_weak (by repeat (first | exact zle_nil | apply zle_s | apply zle_n)) (ih21 _ (by omega) (i + 1) 0 rfl (by omega) (zb_0 (fun h => hz1 (h i (by omega)))))) | (have hz1 : ¬ zhs σ x i := (by unfold zhs; rw [if_neg hx3]; exact fun h => h.1 bq156); exact J_weak (by repeat (first | exact zle_nil | apply zle_s | apply zle_n)) (ih21 _ (by omega) (i + 1) 0 rfl (by omega) (zb_0 (fun h => hz1 (h i (by omega)))))) | exact J_weak (by repeat (first | exact zle_nil | apply zle_s | apply zle_n)) (ih21 _ (by omega) (i + 1) 0 rfl (by omega) (zb_0 (fun h => hb.f bq149 (fun j hj => h j (by omega)))))
                    · skip
                      refine J_iconst (pc := 205) hc dX4_hasShape_205 (v := 1) (by decide) ?_
                      refine J_goto (pc := 206) hc 210 dX4_hasShape_206 (by decide) ?_
                      refine J_istore_4 (pc := 210) hc dX4_hasShape_210 rfl ?_
                      refine J_iinc_5 (pc := 212) hc dX4_hasShape_212 (by first | exact nI_1 _ | exact rfl) rfl ?_
                      refine J_goto (pc := 215) hc 21 dX4_hasShape_215 (by decide) ?_
                      first | (have hz1 : zhs σ x i := (by unfold zhs; rw [if_pos hx3]; exact ⟨bq77, bq84, fun q => absurd q (by omega)⟩); exact J_weak (by repeat (first | exact zle_nil | apply zle_s | apply zle_n)) (ih21 _ (by omega) (i + 1) 1 rfl (by omega) (zb_1 (lt_s (hb.t bq71) hz1)))) | (have hz1 : zhs σ x i := (by unfold zhs; rw [if_pos hx3]; exact ⟨bq77, bq84, fun _ => bq133⟩); exact J_weak (by repeat (first | exact zle_nil | apply zle_s | apply zle_n)) (ih21 _ (by omega) (i + 1) 1 rfl (by omega) (zb_1 (lt_s (hb.t bq71) hz1)))) | (have hz1 : ¬ zhs σ x i := (by unfold zhs; rw [if_pos hx3]; exact fun h => h.2.2 (by omega) bq133); exact J_weak (by repeat (first | exact zle_nil | apply zle_s | apply zle_n)) (ih21 _ (by omega) (i + 1) 0 rfl (by omega) (zb_0 (fun h => hz1 (h i (by omega)))))) | (have hz1 : ¬ zhs σ x i := (by unfold zhs; rw [if_pos hx3]; exact fun h => h.2.1 bq84); exact J_weak (by repeat (first | exact zle_nil | apply zle_s | apply zle_n)) (ih21 _ (by omega) (i + 1) 0 rfl (by omega) (zb_0 (fun h => hz1 (h i (by omega)))))) | (have hz1 : ¬ zhs σ x i := (by unfold zhs; rw [if_pos hx3]; exact fun h => h.1 bq77); exact J_weak (by repeat (first | exact zle_nil | apply zle_s | apply zle_n)) (ih21 _ (by omega) (i + 1) 0 rfl (by omega) (zb_0 (fun h => hz1 (h i (by omega)))))) | exact J_weak (by repeat (first | exact zle_nil | apply zle_s | apply zle_n)) (ih21 _ (by omega) (i + 1) 0 rfl (by omega) (zb_0 (fun h => hb.f bq71 (fun j hj => h j (by omega))))) | (have hz1 : zhs σ x i := (by unfold zhs; rw [if_neg hx3]; exact ⟨bq156, fun q => absurd q (by omega)⟩); exact J_weak (by repeat (first | exact zle_nil | apply zle_s | apply zle_n)) (ih21 _ (by omega) (i + 1) 1 rfl (by omega) (zb_1 (lt_s (hb.t bq149) hz1)))) | (have hz1 : zhs σ x i := (by unfold zhs; rw [if_neg hx3]; exact ⟨bq156, fun _ => ⟨bq171, bq201⟩⟩); exact J_weak (by repeat (first | exact zle_nil | apply zle_s | apply zle_n)) (ih21 _ (by omega) (i + 1) 1 rfl (by omega) (zb_1 (lt_s (hb.t bq149) hz1)))) | (have hz1 : ¬ zhs σ x i := (by unfold zhs; rw [if_neg hx3]; exact fun h => (h.2 (by omega)).2 bq201); exact J_weak (by repeat (first | exact zle_nil | apply zle_s | apply zle_n)) (ih21 _ (by omega) (i + 1) 0 rfl (by omega) (zb_0 (fun h => hz1 (h i (by omega)))))) | (have hz1 : ¬ zhs σ x i := (by unfold zhs; rw [if_neg hx3]; exact fun h => (h.2 (by omega)).1 bq171); exact J_weak (by repeat (first | exact zle_nil | apply zle_s | apply zle_n)) (ih21 _ (by omega) (i + 1) 0 rfl (by omega) (zb_0 (fun h => hz1 (h i (by omega)))))) | (have hz1 : ¬ zhs σ x i := (by unfold zhs; rw [if_neg hx3]; exact fun h => h.1 bq156); exact J_weak (by repeat (first | exact zle_nil | apply zle_s | apply zle_n)) (ih21 _ (by omega) (i + 1) 0 rfl (by omega) (zb_0 (fun h => hz1 (h i (by omega)))))) | exact J_weak (by repeat (first | exact zle_nil | apply zle_s | apply zle_n)) (ih21 _ (by omega) (i + 1) 0 rfl (by omega) (zb_0 (fun h => hb.f bq149 (fun j hj => h j (by omega)))))
          · skip
            have hx3 : x.toInt < 3 := by rw [zi_le] at bq66; have h3 : (3 : Int32).toInt = 3 := rfl; omega
            refine J_iload_4 (pc := 69) hc dX4_hasShape_69 ?_
            refine J_if_eq (pc := 71) hc 141 dX4_hasShape_71 (by decide) (fun bq71 => ?_) (fun bq71 => ?_)
            · skip
              refine J_iconst (pc := 141) hc dX4_hasShape_141 (v := 0) (by decide) ?_
              refine J_istore_4 (pc := 142) hc dX4_hasShape_142 rfl ?_
              refine J_goto (pc := 144) hc 212 dX4_hasShape_144 (by decide) ?_
              refine J_iinc_5 (pc := 212) hc dX4_hasShape_212 (by first | exact nI_1 _ | exact rfl) rfl ?_
              refine J_goto (pc := 215) hc 21 dX4_hasShape_215 (by decide) ?_
              first | (have hz1 : zhs σ x i := (by unfold zhs; rw [if_pos hx3]; exact ⟨bq77, bq84, fun q => absurd q (by omega)⟩); exact J_weak (by repeat (first | exact zle_nil | apply zle_s | apply zle_n)) (ih21 _ (by omega) (i + 1) 1 rfl (by omega) (zb_1 (lt_s (hb.t bq71) hz1)))) | (have hz1 : zhs σ x i := (by unfold zhs; rw [if_pos hx3]; exact ⟨bq77, bq84, fun _ => bq133⟩); exact J_weak (by repeat (first | exact zle_nil | apply zle_s | apply zle_n)) (ih21 _ (by omega) (i + 1) 1 rfl (by omega) (zb_1 (lt_s (hb.t bq71) hz1)))) | (have hz1 : ¬ zhs σ x i := (by unfold zhs; rw [if_pos hx3]; exact fun h => h.2.2 (by omega) bq133); exact J_weak (by repeat (first | exact zle_nil | apply zle_s | apply zle_n)) (ih21 _ (by omega) (i + 1) 0 rfl (by omega) (zb_0 (fun h => hz1 (h i (by omega)))))) | (have hz1 : ¬ zhs σ x i := (by unfold zhs; rw [if_pos hx3]; exact fun h => h.2.1 bq84); exact J_weak (by repeat (first | exact zle_nil | apply zle_s | apply zle_n)) (ih21 _ (by omega) (i + 1) 0 rfl (by omega) (zb_0 (fun h => hz1 (h i (by omega)))))) | (have hz1 : ¬ zhs σ x i := (by unfold zhs; rw [if_pos hx3]; exact fun h => h.1 bq77); exact J_weak (by repeat (first | exact zle_nil | apply zle_s | apply zle_n)) (ih21 _ (by omega) (i + 1) 0 rfl (by omega) (zb_0 (fun h => hz1 (h i (by omega)))))) | exact J_weak (by repeat (first | exact zle_nil | apply zle_s | apply zle_n)) (ih21 _ (by omega) (i + 1) 0 rfl (by omega) (zb_0 (fun h => hb.f bq71 (fun j hj => h j (by omega))))) | (have hz1 : zhs σ x i := (by unfold zhs; rw [if_neg hx3]; exact ⟨bq156, fun q => absurd q (by omega)⟩); exact J_weak (by repeat (first | exact zle_nil | apply zle_s | apply zle_n)) (ih21 _ (by omega) (i + 1) 1 rfl (by omega) (zb_1 (lt_s (hb.t bq149) hz1)))) | (have hz1 : zhs σ x i := (by unfold zhs; rw [if_neg hx3]; exact ⟨bq156, fun _ => ⟨bq171, bq201⟩⟩); exact J_weak (by repeat (first | exact zle_nil | apply zle_s | apply zle_n)) (ih21 _ (by omega) (i + 1) 1 rfl (by omega) (zb_1 (lt_s (hb.t bq149) hz1)))) | (have hz1 : ¬ zhs σ x i := (by unfold zhs; rw [if_neg hx3]; exact fun h => (h.2 (by omega)).2 bq201); exact J_weak (by repeat (first | exact zle_nil | apply zle_s | apply zle_n)) (ih21 _ (by omega) (i + 1) 0 rfl (by omega) (zb_0 (fun h => hz1 (h i (by omega)))))) | (have hz1 : ¬ zhs σ x i := (by unfold zhs; rw [if_neg hx3]; exact fun h => (h.2 (by omega)).1 bq171); exact J_weak (by repeat (first | exact zle_nil | apply zle_s | apply zle_n)) (ih21 _ (by omega) (i + 1) 0 rfl (by omega) (zb_0 (fun h => hz1 (h i (by omega)))))) | (have hz1 : ¬ zhs σ x i := (by unfold zhs; rw [if_neg hx3]; exact fun h => h.1 bq156); exact J_weak (by repeat (first | exact zle_nil | apply zle_s | apply zle_n)) (ih21 _ (by omega) (i + 1) 0 rfl (by omega) (zb_0 (fun h => hz1 (h i (by omega)))))) | exact J_weak (by repeat (first | exact zle_nil | apply zle_s | apply zle_n)) (ih21 _ (by omega) (i + 1) 0 rfl (by omega) (zb_0 (fun h => hb.f bq149 (fun j hj => h j (by omega)))))
            · skip
              refine J_lload_6 (pc := 74) hc dX4_hasShape_74 ?_
              refine J_lconst (pc := 76) hc dX4_hasShape_76 (v := 0) (by decide) ?_
              refine J_lcmp_lt (pc := 77) hc 141 dX4_hasShape_77 dX4_hasShape_78 (by decide) (fun bq77 => ?_) (fun bq77 => ?_)
              · skip
                refine J_iconst (pc := 141) hc dX4_hasShape_141 (v := 0) (by decide) ?_
                refine J_istore_4 (pc := 142) hc dX4_hasShape_142 rfl ?_
                refine J_goto (pc := 144) hc 212 dX4_hasShape_144 (by decide) ?_
                refine J_iinc_5 (pc := 212) hc dX4_hasShape_212 (by first | exact nI_1 _ | exact rfl) rfl ?_
                refine J_goto (pc := 215) hc 21 dX4_hasShape_215 (by decide) ?_
                first | (have hz1 : zhs σ x i := (by unfold zhs; rw [if_pos hx3]; exact ⟨bq77, bq84, fun q => absurd q (by omega)⟩); exact J_weak (by repeat (first | exact zle_nil | apply zle_s | apply zle_n)) (ih21 _ (by omega) (i + 1) 1 rfl (by omega) (zb_1 (lt_s (hb.t bq71) hz1)))) | (have hz1 : zhs σ x i := (by unfold zhs; rw [if_pos hx3]; exact ⟨bq77, bq84, fun _ => bq133⟩); exact J_weak (by repeat (first | exact zle_nil | apply zle_s | apply zle_n)) (ih21 _ (by omega) (i + 1) 1 rfl (by omega) (zb_1 (lt_s (hb.t bq71) hz1)))) | (have hz1 : ¬ zhs σ x i := (by unfold zhs; rw [if_pos hx3]; exact fun h => h.2.2 (by omega) bq133); exact J_weak (by repeat (first | exact zle_nil | apply zle_s | apply zle_n)) (ih21 _ (by omega) (i + 1) 0 rfl (by omega) (zb_0 (fun h => hz1 (h i (by omega)))))) | (have hz1 : ¬ zhs σ x i := (by unfold zhs; rw [if_pos hx3]; exact fun h => h.2.1 bq84); exact J_weak (by repeat (first | exact zle_nil | apply zle_s | apply zle_n)) (ih21 _ (by omega) (i + 1) 0 rfl (by omega) (zb_0 (fun h => hz1 (h i (by omega)))))) | (have hz1 : ¬ zhs σ x i := (by unfold zhs; rw [if_pos hx3]; exact fun h => h.1 bq77); exact J_weak (by repeat (first | exact zle_nil | apply zle_s | apply zle_n)) (ih21 _ (by omega) (i + 1) 0 rfl (by omega) (zb_0 (fun h => hz1 (h i (by omega)))))) | exact J_weak (by repeat (first | exact zle_nil | apply zle_s | apply zle_n)) (ih21 _ (by omega) (i + 1) 0 rfl (by omega) (zb_0 (fun h => hb.f bq71 (fun j hj => h j (by omega))))) | (have hz1 : zhs σ x i := (by unfold zhs; rw [if_neg hx3]; exact ⟨bq156, fun q => absurd q (by omega)⟩); exact J_weak (by repeat (first | exact zle_nil | apply zle_s | apply zle_n)) (ih21 _ (by omega) (i + 1) 1 rfl (by omega) (zb_1 (lt_s (hb.t bq149) hz1)))) | (have hz1 : zhs σ x i := (by unfold zhs; rw [if_neg hx3]; exact ⟨bq156, fun _ => ⟨bq171, bq201⟩⟩); exact J_weak (by repeat (first | exact zle_nil | apply zle_s | apply zle_n)) (ih21 _ (by omega) (i + 1) 1 rfl (by omega) (zb_1 (lt_s (hb.t bq149) hz1)))) | (have hz1 : ¬ zhs σ x i := (by unfold zhs; rw [if_neg hx3]; exact fun h => (h.2 (by omega)).2 bq201); exact J_weak (by repeat (first | exact zle_nil | apply zle_s | apply zle_n)) (ih21 _ (by omega) (i + 1) 0 rfl (by omega) (zb_0 (fun h => hz1 (h i (by omega)))))) | (have hz1 : ¬ zhs σ x i := (by unfold zhs; rw [if_neg hx3]; exact fun h => (h.2 (by omega)).1 bq171); exact J_weak (by repeat (first | exact zle_nil | apply zle_s | apply zle_n)) (ih21 _ (by omega) (i + 1) 0 rfl (by omega) (zb_0 (fun h => hz1 (h i (by omega)))))) | (have hz1 : ¬ zhs σ x i := (by unfold zhs; rw [if_neg hx3]; exact fun h => h.1 bq156); exact J_weak (by repeat (first | exact zle_nil | apply zle_s | apply zle_n)) (ih21 _ (by omega) (i + 1) 0 rfl (by omega) (zb_0 (fun h => hz1 (h i (by omega)))))) | exact J_weak (by repeat (first | exact zle_nil | apply zle_s | apply zle_n)) (ih21 _ (by omega) (i + 1) 0 rfl (by omega) (zb_0 (fun h => hb.f bq149 (fun j hj => h j (by omega)))))
              · skip
                refine J_lload_8 (pc := 81) hc dX4_hasShape_81 ?_
                refine J_lconst (pc := 83) hc dX4_hasShape_83 (v := 0) (by decide) ?_
                refine J_lcmp_lt (pc := 84) hc 141 dX4_hasShape_84 dX4_hasShape_85 (by decide) (fun bq84 => ?_) (fun bq84 => ?_)
                · skip
                  refine J_iconst (pc := 141) hc dX4_hasShape_141 (v := 0) (by decide) ?_
                  refine J_istore_4 (pc := 142) hc dX4_hasShape_142 rfl ?_
                  refine J_goto (pc := 144) hc 212 dX4_hasShape_144 (by decide) ?_
                  refine J_iinc_5 (pc := 212) hc dX4_hasShape_212 (by first | exact nI_1 _ | exact rfl) rfl ?_
                  refine J_goto (pc := 215) hc 21 dX4_hasShape_215 (by decide) ?_
                  first | (have hz1 : zhs σ x i := (by unfold zhs; rw [if_pos hx3]; exact ⟨bq77, bq84, fun q => absurd q (by omega)⟩); exact J_weak (by repeat (first | exact zle_nil | apply zle_s | apply zle_n)) (ih21 _ (by omega) (i + 1) 1 rfl (by omega) (zb_1 (lt_s (hb.t bq71) hz1)))) | (have hz1 : zhs σ x i := (by unfold zhs; rw [if_pos hx3]; exact ⟨bq77, bq84, fun _ => bq133⟩); exact J_weak (by repeat (first | exact zle_nil | apply zle_s | apply zle_n)) (ih21 _ (by omega) (i + 1) 1 rfl (by omega) (zb_1 (lt_s (hb.t bq71) hz1)))) | (have hz1 : ¬ zhs σ x i := (by unfold zhs; rw [if_pos hx3]; exact fun h => h.2.2 (by omega) bq133); exact J_weak (by repeat (first | exact zle_nil | apply zle_s | apply zle_n)) (ih21 _ (by omega) (i + 1) 0 rfl (by omega) (zb_0 (fun h => hz1 (h i (by omega)))))) | (have hz1 : ¬ zhs σ x i := (by unfold zhs; rw [if_pos hx3]; exact fun h => h.2.1 bq84); exact J_weak (by repeat (first | exact zle_nil | apply zle_s | apply zle_n)) (ih21 _ (by omega) (i + 1) 0 rfl (by omega) (zb_0 (fun h => hz1 (h i (by omega)))))) | (have hz1 : ¬ zhs σ x i := (by unfold zhs; rw [if_pos hx3]; exact fun h => h.1 bq77); exact J_weak (by repeat (first | exact zle_nil | apply zle_s | apply zle_n)) (ih21 _ (by omega) (i + 1) 0 rfl (by omega) (zb_0 (fun h => hz1 (h i (by omega)))))) | exact J_weak (by repeat (first | exact zle_nil | apply zle_s | apply zle_n)) (ih21 _ (by omega) (i + 1) 0 rfl (by omega) (zb_0 (fun h => hb.f bq71 (fun j hj => h j (by omega))))) | (have hz1 : zhs σ x i := (by unfold zhs; rw [if_neg hx3]; exact ⟨bq156, fun q => absurd q (by omega)⟩); exact J_weak (by repeat (first | exact zle_nil | apply zle_s | apply zle_n)) (ih21 _ (by omega) (i + 1) 1 rfl (by omega) (zb_1 (lt_s (hb.t bq149) hz1)))) | (have hz1 : zhs σ x i := (by unfold zhs; rw [if_neg hx3]; exact ⟨bq156, fun _ => ⟨bq171, bq201⟩⟩); exact J_weak (by repeat (first | exact zle_nil | apply zle_s | apply zle_n)) (ih21 _ (by omega) (i + 1) 1 rfl (by omega) (zb_1 (lt_s (hb.t bq149) hz1)))) | (have hz1 : ¬ zhs σ x i := (by unfold zhs; rw [if_neg hx3]; exact fun h => (h.2 (by omega)).2 bq201); exact J_weak (by repeat (first | exact zle_nil | apply zle_s | apply zle_n)) (ih21 _ (by omega) (i + 1) 0 rfl (by omega) (zb_0 (fun h => hz1 (h i (by omega)))))) | (have hz1 : ¬ zhs σ x i := (by unfold zhs; rw [if_neg hx3]; exact fun h => (h.2 (by omega)).1 bq171); exact J_weak (by repeat (first | exact zle_nil | apply zle_s | apply zle_n)) (ih21 _ (by omega) (i + 1) 0 rfl (by omega) (zb_0 (fun h => hz1 (h i (by omega)))))) | (have hz1 : ¬ zhs σ x i := (by unfold zhs; rw [if_neg hx3]; exact fun h => h.1 bq156); exact J_weak (by repeat (first | exact zle_nil | apply zle_s | apply zle_n)) (ih21 _ (by omega) (i + 1) 0 rfl (by omega) (zb_0 (fun h => hz1 (h i (by omega)))))) | exact J_weak (by repeat (first | exact zle_nil | apply zle_s | apply zle_n)) (ih21 _ (by omega) (i + 1) 0 rfl (by omega) (zb_0 (fun h => hb.f bq149 (fun j hj => h j (by omega)))))
                · skip
                  refine J_iload_5 (pc := 88) hc dX4_hasShape_88 ?_
                  refine J_if_eq (pc := 90) hc 137 dX4_hasShape_90 (by decide) (fun bq90 => ?_) (fun bq90 => ?_)
                  · skip
                    have bq90 : i = 0 := (nI_eq (by omega) (by omega)).mp (bq90.trans nI_0.symm)
                    refine J_iconst (pc := 137) hc dX4_hasShape_137 (v := 1) (by decide) ?_
                    refine J_goto (pc := 138) hc 142 dX4_hasShape_138 (by decide) ?_
                    refine J_istore_4 (pc := 142) hc dX4_hasShape_142 rfl ?_
                    refine J_goto (pc := 144) hc 212 dX4_hasShape_144 (by decide) ?_
                    refine J_iinc_5 (pc := 212) hc dX4_hasShape_212 (by first | exact nI_1 _ | exact rfl) rfl ?_
                    refine J_goto (pc := 215) hc 21 dX4_hasShape_215 (by decide) ?_
                    first | (have hz1 : zhs σ x i := (by unfold zhs; rw [if_pos hx3]; exact ⟨bq77, bq84, fun q => absurd q (by omega)⟩); exact J_weak (by repeat (first | exact zle_nil | apply zle_s | apply zle_n)) (ih21 _ (by omega) (i + 1) 1 rfl (by omega) (zb_1 (lt_s (hb.t bq71) hz1)))) | (have hz1 : zhs σ x i := (by unfold zhs; rw [if_pos hx3]; exact ⟨bq77, bq84, fun _ => bq133⟩); exact J_weak (by repeat (first | exact zle_nil | apply zle_s | apply zle_n)) (ih21 _ (by omega) (i + 1) 1 rfl (by omega) (zb_1 (lt_s (hb.t bq71) hz1)))) | (have hz1 : ¬ zhs σ x i := (by unfold zhs; rw [if_pos hx3]; exact fun h => h.2.2 (by omega) bq133); exact J_weak (by repeat (first | exact zle_nil | apply zle_s | apply zle_n)) (ih21 _ (by omega) (i + 1) 0 rfl (by omega) (zb_0 (fun h => hz1 (h i (by omega)))))) | (have hz1 : ¬ zhs σ x i := (by unfold zhs; rw [if_pos hx3]; exact fun h => h.2.1 bq84); exact J_weak (by repeat (first | exact zle_nil | apply zle_s | apply zle_n)) (ih21 _ (by omega) (i + 1) 0 rfl (by omega) (zb_0 (fun h => hz1 (h i (by omega)))))) | (have hz1 : ¬ zhs σ x i := (by unfold zhs; rw [if_pos hx3]; exact fun h => h.1 bq77); exact J_weak (by repeat (first | exact zle_nil | apply zle_s | apply zle_n)) (ih21 _ (by omega) (i + 1) 0 rfl (by omega) (zb_0 (fun h => hz1 (h i (by omega)))))) | exact J_weak (by repeat (first | exact zle_nil | apply zle_s | apply zle_n)) (ih21 _ (by omega) (i + 1) 0 rfl (by omega) (zb_0 (fun h => hb.f bq71 (fun j hj => h j (by omega))))) | (have hz1 : zhs σ x i := (by unfold zhs; rw [if_neg hx3]; exact ⟨bq156, fun q => absurd q (by omega)⟩); exact J_weak (by repeat (first | exact zle_nil | apply zle_s | apply zle_n)) (ih21 _ (by omega) (i + 1) 1 rfl (by omega) (zb_1 (lt_s (hb.t bq149) hz1)))) | (have hz1 : zhs σ x i := (by unfold zhs; rw [if_neg hx3]; exact ⟨bq156, fun _ => ⟨bq171, bq201⟩⟩); exact J_weak (by repeat (first | exact zle_nil | apply zle_s | apply zle_n)) (ih21 _ (by omega) (i + 1) 1 rfl (by omega) (zb_1 (lt_s (hb.t bq149) hz1)))) | (have hz1 : ¬ zhs σ x i := (by unfold zhs; rw [if_neg hx3]; exact fun h => (h.2 (by omega)).2 bq201); exact J_weak (by repeat (first | exact zle_nil | apply zle_s | apply zle_n)) (ih21 _ (by omega) (i + 1) 0 rfl (by omega) (zb_0 (fun h => hz1 (h i (by omega)))))) | (have hz1 : ¬ zhs σ x i := (by unfold zhs; rw [if_neg hx3]; exact fun h => (h.2 (by omega)).1 bq171); exact J_weak (by repeat (first | exact zle_nil | apply zle_s | apply zle_n)) (ih21 _ (by omega) (i + 1) 0 rfl (by omega) (zb_0 (fun h => hz1 (h i (by omega)))))) | (have hz1 : ¬ zhs σ x i := (by unfold zhs; rw [if_neg hx3]; exact fun h => h.1 bq156); exact J_weak (by repeat (first | exact zle_nil | apply zle_s | apply zle_n)) (ih21 _ (by omega) (i + 1) 0 rfl (by omega) (zb_0 (fun h => hz1 (h i (by omega)))))) | exact J_weak (by repeat (first | exact zle_nil | apply zle_s | apply zle_n)) (ih21 _ (by omega) (i + 1) 0 rfl (by omega) (zb_0 (fun h => hb.f bq149 (fun j hj => h j (by omega)))))
                  · skip
                    have bq90 : ¬ i = 0 := fun q => bq90 (by rw [q]; rfl)
                    refine J_lloadn_2 (pc := 93) hc dX4_hasShape_93 ?_
                    refine J_aloadn_0 (pc := 94) hc dX4_hasShape_94 ?_
                    refine gX4_25 (pc := 95) hc dX4_hasShape_95 ?_
                    refine J_iload_5 (pc := 98) hc dX4_hasShape_98 ?_
                    refine J_lald (pc := 100) hc (by decide) dX4_hasShape_100 (by first | with_reducible exact rfl | with_reducible exact nI_1 _ | with_reducible exact z16 _ _ | with_reducible exact zm1 (by omega) | assumption | exact rfl) (by omega) ?_
                    refine J_lmul (pc := 101) hc dX4_hasShape_101 ?_
                    refine J_lloadn_2 (pc := 102) hc dX4_hasShape_102 ?_
                    refine J_aloadn_0 (pc := 103) hc dX4_hasShape_103 ?_
                    refine gX4_25 (pc := 104) hc dX4_hasShape_104 ?_
                    refine J_iload_5 (pc := 107) hc dX4_hasShape_107 ?_
                    refine J_iconst (pc := 109) hc dX4_hasShape_109 (v := 1) (by decide) ?_
                    refine J_isub (pc := 110) hc dX4_hasShape_110 ?_
                    refine J_lald (pc := 111) hc (by decide) dX4_hasShape_111 (by first | with_reducible exact rfl | with_reducible exact nI_1 _ | with_reducible exact z16 _ _ | with_reducible exact zm1 (by omega) | assumption | exact rfl) (by omega) ?_
                    refine J_aloadn_0 (pc := 112) hc dX4_hasShape_112 ?_
                    refine gX4_29 (pc := 113) hc dX4_hasShape_113 ?_
                    refine J_iload_5 (pc := 116) hc dX4_hasShape_116 ?_
                    refine J_iconst (pc := 118) hc dX4_hasShape_118 (v := 1) (by decide) ?_
                    refine J_isub (pc := 119) hc dX4_hasShape_119 ?_
                    refine J_lald (pc := 120) hc (by decide) dX4_hasShape_120 (by first | with_reducible exact rfl | with_reducible exact nI_1 _ | with_reducible exact z16 _ _ | with_reducible exact zm1 (by omega) | assumption | exact rfl) (by omega) ?_
                    refine J_ladd (pc := 121) hc dX4_hasShape_121 ?_
                    refine J_aloadn_0 (pc := 122) hc dX4_hasShape_122 ?_
                    refine gX4_32 (pc := 123) hc dX4_hasShape_123 ?_
                    refine J_iload_5 (pc := 126) hc dX4_hasShape_126 ?_
                    refine J_iconst (pc := 128) hc dX4_hasShape_128 (v := 1) (by decide) ?_
                    refine J_isub (pc := 129) hc dX4_hasShape_129 ?_
                    refine J_lald (pc := 130) hc (by decide) dX4_hasShape_130 (by first | with_reducible exact rfl | with_reducible exact nI_1 _ | with_reducible exact z16 _ _ | with_reducible exact zm1 (by omega) | assumption | exact rfl) (by omega) ?_
                    refine J_ladd (pc := 131) hc dX4_hasShape_131 ?_
                    refine J_lmul (pc := 132) hc dX4_hasShape_132 ?_
                    refine J_lcmp_lt (pc := 133) hc 141 dX4_hasShape_133 dX4_hasShape_134 (by decide) (fun bq133 => ?_) (fun bq133 => ?_)
                    · skip
                      refine J_iconst (pc := 141) hc dX4_hasShape_141 (v := 0) (by decide) ?_
                      refine J_istore_4 (pc := 142) hc dX4_hasShape_142 rfl ?_
                      refine J_goto (pc := 144) hc 212 dX4_hasShape_144 (by decide) ?_
                      refine J_iinc_5 (pc := 212) hc dX4_hasShape_212 (by first | exact nI_1 _ | exact rfl) rfl ?_
                      refine J_goto (pc := 215) hc 21 dX4_hasShape_215 (by decide) ?_
                      first | (have hz1 : zhs σ x i := (by unfold zhs; rw [if_pos hx3]; exact ⟨bq77, bq84, fun q => absurd q (by omega)⟩); exact J_weak (by repeat (first | exact zle_nil | apply zle_s | apply zle_n)) (ih21 _ (by omega) (i + 1) 1 rfl (by omega) (zb_1 (lt_s (hb.t bq71) hz1)))) | (have hz1 : zhs σ x i := (by unfold zhs; rw [if_pos hx3]; exact ⟨bq77, bq84, fun _ => bq133⟩); exact J_weak (by repeat (first | exact zle_nil | apply zle_s | apply zle_n)) (ih21 _ (by omega) (i + 1) 1 rfl (by omega) (zb_1 (lt_s (hb.t bq71) hz1)))) | (have hz1 : ¬ zhs σ x i := (by unfold zhs; rw [if_pos hx3]; exact fun h => h.2.2 (by omega) bq133); exact J_weak (by repeat (first | exact zle_nil | apply zle_s | apply zle_n)) (ih21 _ (by omega) (i + 1) 0 rfl (by omega) (zb_0 (fun h => hz1 (h i (by omega)))))) | (have hz1 : ¬ zhs σ x i := (by unfold zhs; rw [if_pos hx3]; exact fun h => h.2.1 bq84); exact J_weak (by repeat (first | exact zle_nil | apply zle_s | apply zle_n)) (ih21 _ (by omega) (i + 1) 0 rfl (by omega) (zb_0 (fun h => hz1 (h i (by omega)))))) | (have hz1 : ¬ zhs σ x i := (by unfold zhs; rw [if_pos hx3]; exact fun h => h.1 bq77); exact J_weak (by repeat (first | exact zle_nil | apply zle_s | apply zle_n)) (ih21 _ (by omega) (i + 1) 0 rfl (by omega) (zb_0 (fun h => hz1 (h i (by omega)))))) | exact J_weak (by repeat (first | exact zle_nil | apply zle_s | apply zle_n)) (ih21 _ (by omega) (i + 1) 0 rfl (by omega) (zb_0 (fun h => hb.f bq71 (fun j hj => h j (by omega))))) | (have hz1 : zhs σ x i := (by unfold zhs; rw [if_neg hx3]; exact ⟨bq156, fun q => absurd q (by omega)⟩); exact J_weak (by repeat (first | exact zle_nil | apply zle_s | apply zle_n)) (ih21 _ (by omega) (i + 1) 1 rfl (by omega) (zb_1 (lt_s (hb.t bq149) hz1)))) | (have hz1 : zhs σ x i := (by unfold zhs; rw [if_neg hx3]; exact ⟨bq156, fun _ => ⟨bq171, bq201⟩⟩); exact J_weak (by repeat (first | exact zle_nil | apply zle_s | apply zle_n)) (ih21 _ (by omega) (i + 1) 1 rfl (by omega) (zb_1 (lt_s (hb.t bq149) hz1)))) | (have hz1 : ¬ zhs σ x i := (by unfold zhs; rw [if_neg hx3]; exact fun h => (h.2 (by omega)).2 bq201); exact J_weak (by repeat (first | exact zle_nil | apply zle_s | apply zle_n)) (ih21 _ (by omega) (i + 1) 0 rfl (by omega) (zb_0 (fun h => hz1 (h i (by omega)))))) | (have hz1 : ¬ zhs σ x i := (by unfold zhs; rw [if_neg hx3]; exact fun h => (h.2 (by omega)).1 bq171); exact J_weak (by repeat (first | exact zle_nil | apply zle_s | apply zle_n)) (ih21 _ (by omega) (i + 1) 0 rfl (by omega) (zb_0 (fun h => hz1 (h i (by omega)))))) | (have hz1 : ¬ zhs σ x i := (by unfold zhs; rw [if_neg hx3]; exact fun h => h.1 bq156); exact J_weak (by repeat (first | exact zle_nil | apply zle_s | apply zle_n)) (ih21 _ (by omega) (i + 1) 0 rfl (by omega) (zb_0 (fun h => hz1 (h i (by omega)))))) | exact J_weak (by repeat (first | exact zle_nil | apply zle_s | apply zle_n)) (ih21 _ (by omega) (i + 1) 0 rfl (by omega) (zb_0 (fun h => hb.f bq149 (fun j hj => h j (by omega)))))
                    · skip
                      refine J_iconst (pc := 137) hc dX4_hasShape_137 (v := 1) (by decide) ?_
                      refine J_goto (pc := 138) hc 142 dX4_hasShape_138 (by decide) ?_
                      refine J_istore_4 (pc := 142) hc dX4_hasShape_142 rfl ?_
                      refine J_goto (pc := 144) hc 212 dX4_hasShape_144 (by decide) ?_
                      refine J_iinc_5 (pc := 212) hc dX4_hasShape_212 (by first | exact nI_1 _ | exact rfl) rfl ?_
                      refine J_goto (pc := 215) hc 21 dX4_hasShape_215 (by decide) ?_
                      first | (have hz1 : zhs σ x i := (by unfold zhs; rw [if_pos hx3]; exact ⟨bq77, bq84, fun q => absurd q (by omega)⟩); exact J_weak (by repeat (first | exact zle_nil | apply zle_s | apply zle_n)) (ih21 _ (by omega) (i + 1) 1 rfl (by omega) (zb_1 (lt_s (hb.t bq71) hz1)))) | (have hz1 : zhs σ x i := (by unfold zhs; rw [if_pos hx3]; exact ⟨bq77, bq84, fun _ => bq133⟩); exact J_weak (by repeat (first | exact zle_nil | apply zle_s | apply zle_n)) (ih21 _ (by omega) (i + 1) 1 rfl (by omega) (zb_1 (lt_s (hb.t bq71) hz1)))) | (have hz1 : ¬ zhs σ x i := (by unfold zhs; rw [if_pos hx3]; exact fun h => h.2.2 (by omega) bq133); exact J_weak (by repeat (first | exact zle_nil | apply zle_s | apply zle_n)) (ih21 _ (by omega) (i + 1) 0 rfl (by omega) (zb_0 (fun h => hz1 (h i (by omega)))))) | (have hz1 : ¬ zhs σ x i := (by unfold zhs; rw [if_pos hx3]; exact fun h => h.2.1 bq84); exact J_weak (by repeat (first | exact zle_nil | apply zle_s | apply zle_n)) (ih21 _ (by omega) (i + 1) 0 rfl (by omega) (zb_0 (fun h => hz1 (h i (by omega)))))) | (have hz1 : ¬ zhs σ x i := (by unfold zhs; rw [if_pos hx3]; exact fun h => h.1 bq77); exact J_weak (by repeat (first | exact zle_nil | apply zle_s | apply zle_n)) (ih21 _ (by omega) (i + 1) 0 rfl (by omega) (zb_0 (fun h => hz1 (h i (by omega)))))) | exact J_weak (by repeat (first | exact zle_nil | apply zle_s | apply zle_n)) (ih21 _ (by omega) (i + 1) 0 rfl (by omega) (zb_0 (fun h => hb.f bq71 (fun j hj => h j (by omega))))) | (have hz1 : zhs σ x i := (by unfold zhs; rw [if_neg hx3]; exact ⟨bq156, fun q => absurd q (by omega)⟩); exact J_weak (by repeat (first | exact zle_nil | apply zle_s | apply zle_n)) (ih21 _ (by omega) (i + 1) 1 rfl (by omega) (zb_1 (lt_s (hb.t bq149) hz1)))) | (have hz1 : zhs σ x i := (by unfold zhs; rw [if_neg hx3]; exact ⟨bq156, fun _ => ⟨bq171, bq201⟩⟩); exact J_weak (by repeat (first | exact zle_nil | apply zle_s | apply zle_n)) (ih21 _ (by omega) (i + 1) 1 rfl (by omega) (zb_1 (lt_s (hb.t bq149) hz1)))) | (have hz1 : ¬ zhs σ x i := (by unfold zhs; rw [if_neg hx3]; exact fun h => (h.2 (by omega)).2 bq201); exact J_weak (by repeat (first | exact zle_nil | apply zle_s | apply zle_n)) (ih21 _ (by omega) (i + 1) 0 rfl (by omega) (zb_0 (fun h => hz1 (h i (by omega)))))) | (have hz1 : ¬ zhs σ x i := (by unfold zhs; rw [if_neg hx3]; exact fun h => (h.2 (by omega)).1 bq171); exact J_weak (by repeat (first | exact zle_nil | apply zle_s | apply zle_n)) (ih21 _ (by omega) (i + 1) 0 rfl (by omega) (zb_0 (fun h => hz1 (h i (by omega)))))) | (have hz1 : ¬ zhs σ x i := (by unfold zhs; rw [if_neg hx3]; exact fun h => h.1 bq156); exact J_weak (by repeat (first | exact zle_nil | apply zle_s | apply zle_n)) (ih21 _ (by omega) (i + 1) 0 rfl (by omega) (zb_0 (fun h => hz1 (h i (by omega)))))) | exact J_weak (by repeat (first | exact zle_nil | apply zle_s | apply zle_n)) (ih21 _ (by omega) (i + 1) 0 rfl (by omega) (zb_0 (fun h => hb.f bq149 (fun j hj => h j (by omega)))))
    subst hg
    exact J_weak (by repeat (first | exact zle_nil | apply zle_s | apply zle_n)) (hL21 _ 0 1 rfl (by omega) (zb_1 lt_0))
  refine J_iloadn_1 (pc := 0) hc dX4_hasShape_0 ?_
  refine J_iconst (pc := 1) hc dX4_hasShape_1 (v := 2) (by decide) ?_
  refine J_irem (pc := 2) hc dX4_hasShape_2 (by decide) ?_
  refine J_iconst (pc := 3) hc dX4_hasShape_3 (v := 1) (by decide) ?_
  refine J_icmp_ne (pc := 4) hc 11 dX4_hasShape_4 (by decide) (fun bq4 => ?_) (fun bq4 => ?_)
  · skip
    refine nX4_88 (pc := 11) hc dX4_hasShape_11 ?_
    refine J_lstoren_2 (pc := 14) hc dX4_hasShape_14 rfl ?_
    exact J_weak (by repeat (first | exact zle_nil | apply zle_s | apply zle_n)) (hJ15 _ (by rcases zx4 hx with rfl | rfl | rfl | rfl <;> first | rfl | exact absurd rfl bq4 | exact absurd bq4 (by decide)))
  · skip
    refine J_lconst (pc := 7) hc dX4_hasShape_7 (v := 1) (by decide) ?_
    refine J_goto (pc := 8) hc 14 dX4_hasShape_8 (by decide) ?_
    refine J_lstoren_2 (pc := 14) hc dX4_hasShape_14 rfl ?_
    exact J_weak (by repeat (first | exact zle_nil | apply zle_s | apply zle_n)) (hJ15 _ (by rcases zx4 hx with rfl | rfl | rfl | rfl <;> first | rfl | exact absurd rfl bq4 | exact absurd bq4 (by decide)))
set_option maxRecDepth 100000 in
set_option maxHeartbeats 4000000 in
theorem c_X4_isSlope {l : Launch} {gg : zG} {σ : zS} {x s : Int32} {m : Nat} (hx : 0 ≤ x.toInt ∧ x.toInt ≤ 4) (hm : si σ 11 = nI m) (h2 : 2 ≤ m) (hm2 : m ≤ 17) : zMi l gg yX4_isSlope cX4_isSlope .boolean 3 2 50 [.ref (zM gg), .int x, .int s] σ (fun r u => zb r (x = 0 ∨ ∀ i, i < m - 1 → zhs (zms σ s (m - 1)) x i) ∧ u = zms σ s (m - 1)) := by
  refine zM_i (own := RX4) (lv := [some (.ref (zM gg)), some (.int x), some (.int s)]) (by decide +kernel) rfl (Nat.le_of_ble_eq_true rfl) rfl (fun cx hc hR hI => ?_)
  refine J_aloadn_0 (pc := 0) hc dX4_isSlope_0 ?_
  refine J_iloadn_2 (pc := 1) hc dX4_isSlope_1 ?_
  refine kX4_145 (pc := 2) hc hR dX4_isSlope_2 (c_X4_makeSpline (m := m) hm h2 hm2) (by decide) (Nat.le_of_ble_eq_true rfl) rfl (fun u hu => ?_)
  refine J_eq hu ?_
  refine J_iloadn_1 (pc := 5) hc dX4_isSlope_5 ?_
  refine J_if_eq (pc := 6) hc 17 dX4_isSlope_6 (by decide) (fun bq6 => ?_) (fun bq6 => ?_)
  · skip
    refine J_iconst (pc := 17) hc dX4_isSlope_17 (v := 1) (by decide) ?_
    refine J_goto (pc := 18) hc 22 dX4_isSlope_18 (by decide) ?_
    exact J_zret (pc := 22) hc hI dX4_isSlope_22 (by first | exact znb0 | exact znb1 | exact zb.n (by assumption)) ⟨by first | exact zb_1 (Or.inl bq6) | exact zb_1 (Or.inr (hr.t bq14)) | exact zb_0 (fun h => h.elim bq6 (hr.f bq14)), rfl⟩
  · skip
    refine J_aloadn_0 (pc := 9) hc dX4_isSlope_9 ?_
    refine J_iloadn_1 (pc := 10) hc dX4_isSlope_10 ?_
    refine kX4_92 (pc := 11) hc hR dX4_isSlope_11 (c_X4_hasShape (n := m - 1) (by rw [zi_eq, z0I] at bq6; omega) rfl (by omega)) (by decide) (Nat.le_of_ble_eq_true rfl) rfl (fun r u hu => ?_)
    have hr := hu.1
    refine J_eq hu.2 ?_
    refine J_if_eq (pc := 14) hc 21 dX4_isSlope_14 (by decide) (fun bq14 => ?_) (fun bq14 => ?_)
    · skip
      refine J_iconst (pc := 21) hc dX4_isSlope_21 (v := 0) (by decide) ?_
      exact J_zret (pc := 22) hc hI dX4_isSlope_22 (by first | exact znb0 | exact znb1 | exact zb.n (by assumption)) ⟨by first | exact zb_1 (Or.inl bq6) | exact zb_1 (Or.inr (hr.t bq14)) | exact zb_0 (fun h => h.elim bq6 (hr.f bq14)), rfl⟩
    · skip
      refine J_iconst (pc := 17) hc dX4_isSlope_17 (v := 1) (by decide) ?_
      refine J_goto (pc := 18) hc 22 dX4_isSlope_18 (by decide) ?_
      exact J_zret (pc := 22) hc hI dX4_isSlope_22 (by first | exact znb0 | exact znb1 | exact zb.n (by assumption)) ⟨by first | exact zb_1 (Or.inl bq6) | exact zb_1 (Or.inr (hr.t bq14)) | exact zb_0 (fun h => h.elim bq6 (hr.f bq14)), rfl⟩
