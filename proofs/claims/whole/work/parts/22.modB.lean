def zRv (σ : zS) (N : Nat → Nat) : Prop := ∀ p, p < 6 → 1 ≤ N p ∧ N p ≤ 16 ∧ sa σ 23 p = nI (N p) ∧ ∀ i, i < N p → zcf (sa σ 24 (16 * p + i)) ∧ zcf (sa σ 25 (16 * p + i)) ∧ zcf (sa σ 26 (16 * p + i))
theorem zin1 {r y : Int32} {lo hi : Int64} {L H : Int} (h : zb r (lo.toInt ≤ y.toInt64.toInt ∧ y.toInt64.toInt ≤ hi.toInt)) (hl : lo.toInt = L) (hh : hi.toInt = H) : zb r (L ≤ y.toInt ∧ y.toInt ≤ H) := by
  rw [Int32.toInt_toInt64, hl, hh] at h; exact h
theorem zN64 {m : Nat} (h : m < 2 ^ 31) : (nI m).toInt64.toInt = m := by rw [Int32.toInt_toInt64, nI_toInt h]
theorem zy4_u (σ : zS) (A B C : Nat → Int32) : ua (ua (ua σ 24 A) 25 B) 26 C = zy4 σ (sa σ 23) A B C := by
  apply zS_ext <;> intro j <;> try rfl
  simp only [sa_ua]
  show _ = (if j = 23 then sa σ 23 else if j = 24 then A else if j = 25 then B else if j = 26 then C else _)
  (repeat' split) <;> first | rfl | omega | (subst_vars; rfl)
theorem zsmall {r x : Int32} (h : zb r (zcfl x.toInt64)) : zb r (zcf x) := h.iff (by unfold zcfl zcf; rw [Int32.toInt_toInt64])
theorem zpc_i {N : Nat → Nat} {x y : Int32} {k : Nat} (hk : k < 6) (hxk : x = nI k) (hN1 : 1 ≤ N k) (hN : N k ≤ 16) : (0 ≤ y.toInt ∧ y.toInt ≤ ((N k - 1 : Nat) : Int)) ↔ zpcs N x y := by
  constructor
  · intro h
    obtain ⟨i, h1, h2⟩ := zof_nat (x := y) (n := N k) h.1 (by omega) (by omega)
    exact ⟨k, i, hk, hxk, h1, h2⟩
  · rintro ⟨k2, i, g1, g2, g3, g4⟩
    have e : k = k2 := (nI_eq (by omega) (by omega)).mp (hxk.symm.trans g2)
    subst e
    rw [g4, nI_toInt (by omega)]
    omega
/-- at a box's edge -/
def zAt (σ : zS) (i k : Nat) : Int := zh (4096 * (sm σ 0 i).toInt) (64 * (sm σ 1 i).toInt) (sm σ 2 i).toInt k
def zSt (σ : zS) (i k : Nat) : Int := zrr (64 * (sm σ 1 i).toInt) (sm σ 2 i).toInt k
theorem zAt_t {σ : zS} {i k : Nat} (h0 : zbd (sm σ 0 i).toInt 200000) (h1 : zbd (sm σ 1 i).toInt 200000) (h2 : zbd (sm σ 2 i).toInt 200000) (hk : k ≤ 64) : (4096 * sm σ 0 i + 64 * (nI k).toInt64 * sm σ 1 i + (nI k).toInt64 * (nI k).toInt64 * sm σ 2 i).toInt = zAt σ i k := by
  have k1 := zbN hk (by decide)
  have c1 : zbd (4096 : Int64).toInt 4096 := by unfold zbd; decide
  have c2 : zbd (64 : Int64).toInt 64 := by unfold zbd; decide
  have e1 := zLm c1 h0 (by decide)
  have b1 : zbd (4096 * sm σ 0 i).toInt 819200000 := by rw [e1]; exact c1.mul h0
  have e2 := zLm c2 k1 (by decide)
  have b2 : zbd (64 * (nI k).toInt64).toInt 4096 := by rw [e2]; exact c2.mul k1
  have e3 := zLm b2 h1 (by decide)
  have b3 : zbd (64 * (nI k).toInt64 * sm σ 1 i).toInt 819200000 := by rw [e3]; exact b2.mul h1
  have e4 := zLa b1 b3 (by decide)
  have b4 : zbd (4096 * sm σ 0 i + 64 * (nI k).toInt64 * sm σ 1 i).toInt 1638400000 := by rw [e4]; exact b1.add b3
  have e5 := zLm k1 k1 (by decide)
  have b5 : zbd ((nI k).toInt64 * (nI k).toInt64).toInt 4096 := by rw [e5]; exact k1.mul k1
  have e6 := zLm b5 h2 (by decide)
  have b6 : zbd ((nI k).toInt64 * (nI k).toInt64 * sm σ 2 i).toInt 819200000 := by rw [e6]; exact b5.mul h2
  rw [zLa b4 b6 (by decide), e6, e5, e4, e3, e2, e1, zN64 (by omega), show (4096 : Int64).toInt = 4096 by decide, show (64 : Int64).toInt = 64 by decide]
  unfold zAt zh
  grind
theorem zSt_t {σ : zS} {i k : Nat} (h1 : zbd (sm σ 1 i).toInt 200000) (h2 : zbd (sm σ 2 i).toInt 200000) (hk : k ≤ 64) : (64 * sm σ 1 i + 2 * (nI k).toInt64 * sm σ 2 i).toInt = zSt σ i k := by
  have k1 := zbN hk (by decide)
  have c1 : zbd (64 : Int64).toInt 64 := by unfold zbd; decide
  have c2 : zbd (2 : Int64).toInt 2 := by unfold zbd; decide
  have e1 := zLm c1 h1 (by decide)
  have b1 : zbd (64 * sm σ 1 i).toInt 12800000 := by rw [e1]; exact c1.mul h1
  have e2 := zLm c2 k1 (by decide)
  have b2 : zbd (2 * (nI k).toInt64).toInt 128 := by rw [e2]; exact c2.mul k1
  have e3 := zLm b2 h2 (by decide)
  have b3 : zbd (2 * (nI k).toInt64 * sm σ 2 i).toInt 25600000 := by rw [e3]; exact b2.mul h2
  rw [zLa b1 b3 (by decide), e3, e2, e1, zN64 (by omega), show (64 : Int64).toInt = 64 by decide, show (2 : Int64).toInt = 2 by decide]
  unfold zSt zrr
  grind
/-- what hasShape asks of a piece -/
def zhr (σ : zS) (g : Int64) (i : Nat) : Prop := ¬ g * sm σ 1 i < 0 ∧ ¬ g * (sm σ 1 i + 2 * sm σ 2 i) < 0 ∧ (0 < i → ¬ g * sm σ 0 i < g * (sm σ 0 (i - 1) + sm σ 1 (i - 1) + sm σ 2 (i - 1)))
def zhb (σ : zS) (g : Int64) (i : Nat) : Prop := ¬ g * (sm σ 1 i + 2 * sm σ 2 i) < g * sm σ 1 i ∧ (0 < i → ¬ zjm σ i < 0 ∧ ¬ g * sm σ 1 i < g * (sm σ 1 (i - 1) + 2 * sm σ 2 (i - 1)))
def zgs (x : Int32) : Int64 := if x = 1 ∨ x = 3 then 1 else -1
def zhs (σ : zS) (x : Int32) (i : Nat) : Prop := if x.toInt < 3 then zhr σ (zgs x) i else zhb σ (zgs x) i
set_option maxRecDepth 100000 in
set_option maxHeartbeats 4000000 in
theorem c_X4_at {l : Launch} {gg : zG} {σ : zS} {i k : Nat} {x y : Int32} (hx : x = nI i) (hy : y = nI k) (hi : i < 16) (hk : k ≤ 64) (h0 : zbd (sm σ 0 i).toInt 200000) (h1 : zbd (sm σ 1 i).toInt 200000) (h2 : zbd (sm σ 2 i).toInt 200000) : zMl l gg yX4_at cX4_at 3 0 0 [.ref (zM gg), .int x, .int y] σ (fun r u => r.toInt = zAt σ i k ∧ u = σ) := by
  subst hx
  subst hy
  refine zM_l (own := RX4) (lv := [some (.ref (zM gg)), some (.int (nI i)), some (.int (nI k))]) (by decide +kernel) rfl (Nat.le_of_ble_eq_true rfl) rfl (fun cx hc hR hI => ?_)
  refine nX4_99 (pc := 0) hc dX4_at_0 ?_
  refine J_aloadn_0 (pc := 3) hc dX4_at_3 ?_
  refine gX4_25 (pc := 4) hc dX4_at_4 ?_
  refine J_iloadn_1 (pc := 7) hc dX4_at_7 ?_
  refine J_lald (pc := 8) hc (by decide) dX4_at_8 (by first | with_reducible exact rfl | with_reducible exact nI_1 _ | with_reducible exact z16 _ _ | with_reducible exact zm1 (by omega) | assumption | exact rfl) (by omega) ?_
  refine J_lmul (pc := 9) hc dX4_at_9 ?_
  refine nX4_72 (pc := 10) hc dX4_at_10 ?_
  refine J_iloadn_2 (pc := 13) hc dX4_at_13 ?_
  refine J_i2l (pc := 14) hc dX4_at_14 ?_
  refine J_lmul (pc := 15) hc dX4_at_15 ?_
  refine J_aloadn_0 (pc := 16) hc dX4_at_16 ?_
  refine gX4_29 (pc := 17) hc dX4_at_17 ?_
  refine J_iloadn_1 (pc := 20) hc dX4_at_20 ?_
  refine J_lald (pc := 21) hc (by decide) dX4_at_21 (by first | with_reducible exact rfl | with_reducible exact nI_1 _ | with_reducible exact z16 _ _ | with_reducible exact zm1 (by omega) | assumption | exact rfl) (by omega) ?_
  refine J_lmul (pc := 22) hc dX4_at_22 ?_
  refine J_ladd (pc := 23) hc dX4_at_23 ?_
  refine J_iloadn_2 (pc := 24) hc dX4_at_24 ?_
  refine J_i2l (pc := 25) hc dX4_at_25 ?_
  refine J_iloadn_2 (pc := 26) hc dX4_at_26 ?_
  refine J_i2l (pc := 27) hc dX4_at_27 ?_
  refine J_lmul (pc := 28) hc dX4_at_28 ?_
  refine J_aloadn_0 (pc := 29) hc dX4_at_29 ?_
  refine gX4_32 (pc := 30) hc dX4_at_30 ?_
  refine J_iloadn_1 (pc := 33) hc dX4_at_33 ?_
  refine J_lald (pc := 34) hc (by decide) dX4_at_34 (by first | with_reducible exact rfl | with_reducible exact nI_1 _ | with_reducible exact z16 _ _ | with_reducible exact zm1 (by omega) | assumption | exact rfl) (by omega) ?_
  refine J_lmul (pc := 35) hc dX4_at_35 ?_
  refine J_ladd (pc := 36) hc dX4_at_36 ?_
  exact J_lret (pc := 37) hc hI dX4_at_37 ⟨zAt_t h0 h1 h2 hk, rfl⟩
set_option maxRecDepth 100000 in
set_option maxHeartbeats 4000000 in
theorem c_X4_slopeAt {l : Launch} {gg : zG} {σ : zS} {i k : Nat} {x y : Int32} (hx : x = nI i) (hy : y = nI k) (hi : i < 16) (hk : k ≤ 64) (h1 : zbd (sm σ 1 i).toInt 200000) (h2 : zbd (sm σ 2 i).toInt 200000) : zMl l gg yX4_slopeAt cX4_slopeAt 3 0 0 [.ref (zM gg), .int x, .int y] σ (fun r u => r.toInt = zSt σ i k ∧ u = σ) := by
  subst hx
  subst hy
  refine zM_l (own := RX4) (lv := [some (.ref (zM gg)), some (.int (nI i)), some (.int (nI k))]) (by decide +kernel) rfl (Nat.le_of_ble_eq_true rfl) rfl (fun cx hc hR hI => ?_)
  refine nX4_72 (pc := 0) hc dX4_slopeAt_0 ?_
  refine J_aloadn_0 (pc := 3) hc dX4_slopeAt_3 ?_
  refine gX4_29 (pc := 4) hc dX4_slopeAt_4 ?_
  refine J_iloadn_1 (pc := 7) hc dX4_slopeAt_7 ?_
  refine J_lald (pc := 8) hc (by decide) dX4_slopeAt_8 (by first | with_reducible exact rfl | with_reducible exact nI_1 _ | with_reducible exact z16 _ _ | with_reducible exact zm1 (by omega) | assumption | exact rfl) (by omega) ?_
  refine J_lmul (pc := 9) hc dX4_slopeAt_9 ?_
  refine nX4_61 (pc := 10) hc dX4_slopeAt_10 ?_
  refine J_iloadn_2 (pc := 13) hc dX4_slopeAt_13 ?_
  refine J_i2l (pc := 14) hc dX4_slopeAt_14 ?_
  refine J_lmul (pc := 15) hc dX4_slopeAt_15 ?_
  refine J_aloadn_0 (pc := 16) hc dX4_slopeAt_16 ?_
  refine gX4_32 (pc := 17) hc dX4_slopeAt_17 ?_
  refine J_iloadn_1 (pc := 20) hc dX4_slopeAt_20 ?_
  refine J_lald (pc := 21) hc (by decide) dX4_slopeAt_21 (by first | with_reducible exact rfl | with_reducible exact nI_1 _ | with_reducible exact z16 _ _ | with_reducible exact zm1 (by omega) | assumption | exact rfl) (by omega) ?_
  refine J_lmul (pc := 22) hc dX4_slopeAt_22 ?_
  refine J_ladd (pc := 23) hc dX4_slopeAt_23 ?_
  exact J_lret (pc := 24) hc hI dX4_slopeAt_24 ⟨zSt_t h1 h2 hk, rfl⟩
