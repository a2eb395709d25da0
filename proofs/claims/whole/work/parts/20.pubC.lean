theorem zmin {a b : Nat} (ha : a < 2 ^ 31) (hb : b < 2 ^ 31) : (if nI b < nI a then nI b else nI a) = nI (min a b) := by
  by_cases h : b < a
  · rw [if_pos ((nI_ltI hb ha).mpr h), Nat.min_eq_right (by omega)]
  · rw [if_neg (mt (nI_ltI hb ha).mp h), Nat.min_eq_left (by omega)]
/-- a value of a piece, over V V -/
def zvn (σ : zS) (k i V R : Nat) : Int64 := ((sa σ k i).toInt64 * (nI V).toInt64 + (sa σ (7 + k) i).toInt64 * (nI R).toInt64) * (nI V).toInt64 + (sa σ (14 + k) i).toInt64 * (nI R).toInt64 * (nI R).toInt64
theorem zbN {n X : Nat} (h : n ≤ X) (hX : X < 2 ^ 31) : zbd (nI n).toInt64.toInt X := by rw [Int32.toInt_toInt64, nI_toInt (by omega)]; unfold zbd; omega
theorem zvn_t {σ : zS} {k i V R : Nat} (h : zbdP σ k i) (hV : V ≤ 64) (hR : R ≤ 64) : (zvn σ k i V R).toInt = ((sa σ k i).toInt * V + (sa σ (7 + k) i).toInt * R) * V + (sa σ (14 + k) i).toInt * R * R ∧ zbd (zvn σ k i V R).toInt 2000000000 := by
  have a1 : zbd (sa σ k i).toInt64.toInt 100000 := by rw [Int32.toInt_toInt64]; exact h.1.b
  have a2 : zbd (sa σ (7 + k) i).toInt64.toInt 100000 := by rw [Int32.toInt_toInt64]; exact h.2.1.b
  have a3 : zbd (sa σ (14 + k) i).toInt64.toInt 100000 := by rw [Int32.toInt_toInt64]; exact h.2.2.b
  have v1 := zbN hV (by decide)
  have r1 := zbN hR (by decide)
  have e1 := zLm a1 v1 (by decide)
  have b1 : zbd ((sa σ k i).toInt64 * (nI V).toInt64).toInt 6400000 := by rw [e1]; exact (a1.mul v1)
  have e2 := zLm a2 r1 (by decide)
  have b2 : zbd ((sa σ (7 + k) i).toInt64 * (nI R).toInt64).toInt 6400000 := by rw [e2]; exact (a2.mul r1)
  have e3 := zLa b1 b2 (by decide)
  have b3 : zbd ((sa σ k i).toInt64 * (nI V).toInt64 + (sa σ (7 + k) i).toInt64 * (nI R).toInt64).toInt 12800000 := by rw [e3]; exact b1.add b2
  have e4 := zLm b3 v1 (by decide)
  have b4 : zbd (((sa σ k i).toInt64 * (nI V).toInt64 + (sa σ (7 + k) i).toInt64 * (nI R).toInt64) * (nI V).toInt64).toInt 819200000 := by rw [e4]; exact b3.mul v1
  have e5 := zLm a3 r1 (by decide)
  have b5 : zbd ((sa σ (14 + k) i).toInt64 * (nI R).toInt64).toInt 6400000 := by rw [e5]; exact a3.mul r1
  have e6 := zLm b5 r1 (by decide)
  have b6 : zbd ((sa σ (14 + k) i).toInt64 * (nI R).toInt64 * (nI R).toInt64).toInt 409600000 := by rw [e6]; exact b5.mul r1
  have e7 := zLa b4 b6 (by decide)
  refine ⟨?_, ?_⟩
  · show (((sa σ k i).toInt64 * (nI V).toInt64 + (sa σ (7 + k) i).toInt64 * (nI R).toInt64) * (nI V).toInt64 + (sa σ (14 + k) i).toInt64 * (nI R).toInt64 * (nI R).toInt64).toInt = _
    rw [e7, e6, e5, e4, e3, e2, e1]
    simp only [Int32.toInt_toInt64]
    rw [nI_toInt (show V < 2 ^ 31 by omega), nI_toInt (show R < 2 ^ 31 by omega)]
  · show zbd (((sa σ k i).toInt64 * (nI V).toInt64 + (sa σ (7 + k) i).toInt64 * (nI R).toInt64) * (nI V).toInt64 + (sa σ (14 + k) i).toInt64 * (nI R).toInt64 * (nI R).toInt64).toInt _
    rw [e7]; exact (b4.add b6).le (by decide)
def zvOK (N : Nat → Nat) (x y v w : Int32) (k V U : Nat) : Prop := k < 6 ∧ x = nI k ∧ 1 ≤ V ∧ V ≤ 64 ∧ v = nI V ∧ U ≤ N k * V ∧ y = nI U ∧ (w.toInt = 0 ∨ w.toInt = 1)
theorem zix {U V n : Nat} (hV : 0 < V) (hn : 1 ≤ n) (hU : U ≤ n * V) : min (U / V) (n - 1) < n ∧ min (U / V) (n - 1) * V ≤ U ∧ U - min (U / V) (n - 1) * V ≤ V := by
  have h1 := Nat.div_mul_le_self U V
  have h2 := Nat.mod_lt U hV
  have h3 := Nat.div_add_mod U V
  have h4 : V * (U / V) = U / V * V := Nat.mul_comm _ _
  by_cases q : U / V ≤ n - 1
  · rw [Nat.min_eq_left q]
    exact ⟨by omega, h1, by omega⟩
  · rw [Nat.min_eq_right (by omega)]
    have h5 : (n - 1) * V ≤ U / V * V := Nat.mul_le_mul_right V (by omega)
    have h6 : n * V = (n - 1) * V + V := by rw [← Nat.succ_mul, show (n - 1).succ = n by omega]
    exact ⟨by omega, by omega, by omega⟩
/-- six times the area of d pieces from i on -/
def zar (σ : zS) (k i : Nat) : Nat → Int64
  | 0 => 0
  | d + 1 => zar σ k i d + (6 * (sa σ k (i + d)).toInt64 + 3 * (sa σ (7 + k) (i + d)).toInt64 + 2 * (sa σ (14 + k) (i + d)).toInt64)
theorem zar_t {σ : zS} {k i : Nat} : ∀ {d : Nat}, d ≤ 16 → (∀ j, j < d → zbdP σ k (i + j)) → zbd (zar σ k i d).toInt (d * 1100000) ∧ (∀ e, e < d → (zar σ k i (e + 1)).toInt = (zar σ k i e).toInt + (6 * (sa σ k (i + e)).toInt + 3 * (sa σ (7 + k) (i + e)).toInt + 2 * (sa σ (14 + k) (i + e)).toInt))
  | 0, _, _ => ⟨by unfold zbd zar; decide, fun e he => absurd he (Nat.not_lt_zero e)⟩
  | d + 1, hd, h => by
    obtain ⟨ih1, ih2⟩ := zar_t (σ := σ) (k := k) (i := i) (d := d) (by omega) (fun j hj => h j (by omega))
    have hp := h d (by omega)
    have a1 : zbd (sa σ k (i + d)).toInt64.toInt 100000 := by rw [Int32.toInt_toInt64]; exact hp.1.b
    have a2 : zbd (sa σ (7 + k) (i + d)).toInt64.toInt 100000 := by rw [Int32.toInt_toInt64]; exact hp.2.1.b
    have a3 : zbd (sa σ (14 + k) (i + d)).toInt64.toInt 100000 := by rw [Int32.toInt_toInt64]; exact hp.2.2.b
    have c6 : zbd (6 : Int64).toInt 6 := by unfold zbd; decide
    have c3 : zbd (3 : Int64).toInt 3 := by unfold zbd; decide
    have c2 : zbd (2 : Int64).toInt 2 := by unfold zbd; decide
    have e1 := zLm c6 a1 (by decide)
    have b1 : zbd (6 * (sa σ k (i + d)).toInt64).toInt 600000 := by rw [e1]; exact c6.mul a1
    have e2 := zLm c3 a2 (by decide)
    have b2 : zbd (3 * (sa σ (7 + k) (i + d)).toInt64).toInt 300000 := by rw [e2]; exact c3.mul a2
    have e3 := zLm c2 a3 (by decide)
    have b3 : zbd (2 * (sa σ (14 + k) (i + d)).toInt64).toInt 200000 := by rw [e3]; exact c2.mul a3
    have e4 := zLa b1 b2 (by decide)
    have b4 : zbd (6 * (sa σ k (i + d)).toInt64 + 3 * (sa σ (7 + k) (i + d)).toInt64).toInt 900000 := by rw [e4]; exact b1.add b2
    have e5 := zLa b4 b3 (by decide)
    have b5 : zbd (6 * (sa σ k (i + d)).toInt64 + 3 * (sa σ (7 + k) (i + d)).toInt64 + 2 * (sa σ (14 + k) (i + d)).toInt64).toInt 1100000 := by rw [e5]; exact b4.add b3
    have e6 := zLa ih1 b5 (by omega)
    have key : (zar σ k i (d + 1)).toInt = (zar σ k i d).toInt + (6 * (sa σ k (i + d)).toInt + 3 * (sa σ (7 + k) (i + d)).toInt + 2 * (sa σ (14 + k) (i + d)).toInt) := by
      rw [zar, e6, e5, e4, e3, e2, e1]
      simp only [Int32.toInt_toInt64]
      rfl
    refine ⟨?_, fun e he => ?_⟩
    · rw [zar, e6]; exact (ih1.add b5).le (by omega)
    · by_cases q : e = d
      · rw [q]; exact key
      · exact ih2 e (by omega)
set_option maxRecDepth 100000 in
set_option maxHeartbeats 4000000 in
theorem c_X3_value {l : Launch} {gg : zG} {σ : zS} {x y v w : Int32} {N : Nat → Nat} (hz : zCv σ N) : zMl l gg yX3_value cX3_value 11 3 75 [.ref (zo gg), .int x, .int y, .int v, .int w] σ (fun r u => u = σ ∧ ((¬ (∃ k V U, zvOK N x y v w k V U) ∧ r = -9223372036854775808) ∨ (∃ k V U, zvOK N x y v w k V U ∧ r = (if w = 0 then zvn σ k (min (U / V) (N k - 1)) V (U - (min (U / V) (N k - 1)) * V) else lN (V * V)) / lN (Nat.gcd (zvn σ k (min (U / V) (N k - 1)) V (U - (min (U / V) (N k - 1)) * V)).toInt.natAbs (V * V))))) := by
  refine zM_l (own := RX3) (lv := [some (.ref (zo gg)), some (.int x), some (.int y), some (.int v), some (.int w), none, none, none, none, none, none]) (by decide +kernel) rfl (Nat.le_of_ble_eq_true rfl) rfl (fun cx hc hR hI => ?_)
  refine J_iloadn_1 (pc := 0) hc dX3_value_0 ?_
  refine kX3_42 (pc := 1) hc hR dX3_value_1 (c_X3_isNoPlace) (by decide) (Nat.le_of_ble_eq_true rfl) rfl (fun r u hu => ?_)
  have hr := hu.1
  refine J_eq hu.2 ?_
  refine J_if_ne (pc := 4) hc 26 dX3_value_4 (by decide) (fun bq4 => ?_) (fun bq4 => ?_)
  · skip
    have hn1 := hr.t bq4
    refine nX3_75 (pc := 26) hc dX3_value_26 ?_
    exact J_lret (pc := 29) hc hI dX3_value_29 ⟨rfl, Or.inl ⟨fun ⟨k2, V2, U2, h⟩ => by first | (have q1 := h.2.2.2.1; have q2 := h.2.2.2.2.1; rw [q2, zi_le, nI_toInt (by omega)] at bq23; have h2 : (64 : Int32).toInt = 64 := rfl; omega) | (have q1 := h.2.2.1; have q3 := h.2.2.2.1; have q2 := h.2.2.2.2.1; rw [q2, zi_lt, nI_toInt (by omega)] at bq17; have h1 : (1 : Int32).toInt = 1 := rfl; omega) | exact hn2 h.2.2.2.2.2.2.2 | exact hn1 (by rw [h.2.1]; exact zpl_k h.1), rfl⟩⟩
  · skip
    obtain ⟨k, hk, hxk⟩ := zpl_nI (Classical.not_not.mp (hr.f bq4))
    have hzk := hz k hk
    refine J_iload_4 (pc := 7) hc dX3_value_7 ?_
    refine kX3_72 (pc := 9) hc hR dX3_value_9 (c_X3_isNoPart) (by decide) (Nat.le_of_ble_eq_true rfl) rfl (fun r u hu => ?_)
    have hr := hu.1
    refine J_eq hu.2 ?_
    refine J_if_ne (pc := 12) hc 26 dX3_value_12 (by decide) (fun bq12 => ?_) (fun bq12 => ?_)
    · skip
      have hn2 := hr.t bq12
      refine nX3_75 (pc := 26) hc dX3_value_26 ?_
      exact J_lret (pc := 29) hc hI dX3_value_29 ⟨rfl, Or.inl ⟨fun ⟨k2, V2, U2, h⟩ => by first | (have q1 := h.2.2.2.1; have q2 := h.2.2.2.2.1; rw [q2, zi_le, nI_toInt (by omega)] at bq23; have h2 : (64 : Int32).toInt = 64 := rfl; omega) | (have q1 := h.2.2.1; have q3 := h.2.2.2.1; have q2 := h.2.2.2.2.1; rw [q2, zi_lt, nI_toInt (by omega)] at bq17; have h1 : (1 : Int32).toInt = 1 := rfl; omega) | exact hn2 h.2.2.2.2.2.2.2 | exact hn1 (by rw [h.2.1]; exact zpl_k h.1), rfl⟩⟩
    · skip
      have hw := Classical.not_not.mp (hr.f bq12)
      refine J_iloadn_3 (pc := 15) hc dX3_value_15 ?_
      refine J_iconst (pc := 16) hc dX3_value_16 (v := 1) (by decide) ?_
      refine J_icmp_lt (pc := 17) hc 26 dX3_value_17 (by decide) (fun bq17 => ?_) (fun bq17 => ?_)
      · skip
        refine nX3_75 (pc := 26) hc dX3_value_26 ?_
        exact J_lret (pc := 29) hc hI dX3_value_29 ⟨rfl, Or.inl ⟨fun ⟨k2, V2, U2, h⟩ => by first | (have q1 := h.2.2.2.1; have q2 := h.2.2.2.2.1; rw [q2, zi_le, nI_toInt (by omega)] at bq23; have h2 : (64 : Int32).toInt = 64 := rfl; omega) | (have q1 := h.2.2.1; have q3 := h.2.2.2.1; have q2 := h.2.2.2.2.1; rw [q2, zi_lt, nI_toInt (by omega)] at bq17; have h1 : (1 : Int32).toInt = 1 := rfl; omega) | exact hn2 h.2.2.2.2.2.2.2 | exact hn1 (by rw [h.2.1]; exact zpl_k h.1), rfl⟩⟩
      · skip
        refine J_iloadn_3 (pc := 20) hc dX3_value_20 ?_
        refine J_bipush (pc := 21) hc dX3_value_21 (v := 64) (by decide) ?_
        refine J_icmp_le (pc := 23) hc 30 dX3_value_23 (by decide) (fun bq23 => ?_) (fun bq23 => ?_)
        · skip
          obtain ⟨V, hV1, hV2, hvV⟩ := zvI (x := v) (n := 64) (by rw [zi_lt] at bq17; rw [zi_le] at bq23; have h1 : (1 : Int32).toInt = 1 := rfl; have h2 : (64 : Int32).toInt = 64 := rfl; omega) (by omega)
          subst hvV
          have hNV : N k * V ≤ 1024 := Nat.mul_le_mul (show N k ≤ 16 by omega) hV2
          refine J_aloadn_0 (pc := 30) hc dX3_value_30 ?_
          refine gX3_11 (pc := 31) hc dX3_value_31 ?_
          refine J_iloadn_1 (pc := 34) hc dX3_value_34 ?_
          refine J_aald (pc := 35) hc dX3_value_35 hxk (by omega) ?_
          refine J_astore_5 (pc := 36) hc dX3_value_36 rfl ?_
          refine J_iloadn_2 (pc := 38) hc dX3_value_38 ?_
          refine J_if_lt (pc := 39) hc 53 dX3_value_39 (by decide) (fun bq39 => ?_) (fun bq39 => ?_)
          · skip
            refine nX3_75 (pc := 53) hc dX3_value_53 ?_
            exact J_lret (pc := 56) hc hI dX3_value_56 ⟨rfl, Or.inl ⟨fun ⟨k2, V2, U2, h⟩ => by obtain ⟨g1, g2, g3, g4, g5, g6, g7, g8⟩ := h; have e1 : k = k2 := (nI_eq (by omega) (by omega)).mp (hxk.symm.trans g2); subst e1; have e2 : V = V2 := (nI_eq (by omega) (by omega)).mp g5; subst e2; first | (rw [g7, zi_le, nI_toInt (by omega), nI_toInt (by omega)] at bq50; omega) | (rw [g7, zi_lt, nI_toInt (by omega), z0I] at bq39; omega), rfl⟩⟩
          · skip
            refine J_iloadn_2 (pc := 42) hc dX3_value_42 ?_
            refine J_aload_5 (pc := 43) hc dX3_value_43 ?_
            refine gX3_77 (pc := 45) hc (by omega) dX3_value_45 ?_
            refine J_iloadn_3 (pc := 48) hc dX3_value_48 ?_
            refine J_imul (pc := 49) hc dX3_value_49 ?_
            refine J_topi (y := nI (N k * V)) (by rw [hzk.2.2.1, pk_mul]) ?_
            refine J_icmp_le (pc := 50) hc 57 dX3_value_50 (by decide) (fun bq50 => ?_) (fun bq50 => ?_)
            · skip
              obtain ⟨U, hU, hyU⟩ := zof_nat (x := y) (n := N k * V + 1) (by rw [zi_lt, z0I] at bq39; omega) (by rw [zi_le, nI_toInt (by omega)] at bq50; omega) (by omega)
              subst hyU
              have hix := zix (U := U) (V := V) (n := N k) (by omega) (by omega) (by omega)
              obtain ⟨I, hIe⟩ : ∃ I, I = (min (U / V) (N k - 1)) := ⟨_, rfl⟩
              rw [← hIe] at hix
              have hI1 := hix.1
              have hVV : V * V ≤ 4096 := Nat.mul_le_mul hV2 hV2
              have hVV0 : 0 < V * V := Nat.mul_pos (by omega) (by omega)
              refine J_iloadn_2 (pc := 57) hc dX3_value_57 ?_
              refine J_iloadn_3 (pc := 58) hc dX3_value_58 ?_
              refine J_idiv (pc := 59) hc dX3_value_59 (nI_ne0 (by omega) (by omega)) ?_
              refine J_topi (pk_div (by omega) (by omega) (by omega)) ?_
              refine J_aload_5 (pc := 60) hc dX3_value_60 ?_
              refine gX3_77 (pc := 62) hc (by omega) dX3_value_62 ?_
              refine J_iconst (pc := 65) hc dX3_value_65 (v := 1) (by decide) ?_
              refine J_isub (pc := 66) hc dX3_value_66 ?_
              refine J_topi (y := nI (N k - 1)) (by rw [hzk.2.2.1]; exact zm1 (by omega)) ?_
              refine kX3_80 (pc := 67) hc hR dX3_value_67 (c_J9_min_7cf53) (by decide) (Nat.le_of_ble_eq_true rfl) rfl (fun r u hu => ?_)
              refine J_eq hu.2 (J_topi hu.1 ?_)
              refine J_topi (y := nI I) (by rw [hIe]; exact zmin (by have := Nat.div_le_self U V; omega) (by omega)) ?_
              refine J_istore_6 (pc := 70) hc dX3_value_70 rfl ?_
              refine J_iloadn_2 (pc := 72) hc dX3_value_72 ?_
              refine J_iload_6 (pc := 73) hc dX3_value_73 ?_
              refine J_iloadn_3 (pc := 75) hc dX3_value_75 ?_
              refine J_imul (pc := 76) hc dX3_value_76 ?_
              refine J_isub (pc := 77) hc dX3_value_77 ?_
              refine J_topi (y := nI (U - I * V)) (by rw [pk_mul, pk_sub hix.2.1]) ?_
              refine J_i2l (pc := 78) hc dX3_value_78 ?_
              refine J_lstore_7 (pc := 79) hc dX3_value_79 rfl ?_
              refine J_aload_5 (pc := 81) hc dX3_value_81 ?_
              refine gX3_63 (pc := 83) hc (by omega) dX3_value_83 ?_
              refine J_iload_6 (pc := 86) hc dX3_value_86 ?_
              refine J_iald (pc := 88) hc 16 (by omega) (zlen_c (by omega)) dX3_value_88 (by first | with_reducible exact rfl | with_reducible exact nI_1 _ | with_reducible exact z16 _ _ | with_reducible exact zm1 (by omega) | assumption | exact rfl) (by omega) ?_
              refine J_i2l (pc := 89) hc dX3_value_89 ?_
              refine J_iloadn_3 (pc := 90) hc dX3_value_90 ?_
              refine J_i2l (pc := 91) hc dX3_value_91 ?_
              refine J_lmul (pc := 92) hc dX3_value_92 ?_
              refine J_aload_5 (pc := 93) hc dX3_value_93 ?_
              refine gX3_66 (pc := 95) hc (by omega) dX3_value_95 ?_
              refine J_iload_6 (pc := 98) hc dX3_value_98 ?_
              refine J_iald (pc := 100) hc 16 (by omega) (zlen_c (by omega)) dX3_value_100 (by first | with_reducible exact rfl | with_reducible exact nI_1 _ | with_reducible exact z16 _ _ | with_reducible exact zm1 (by omega) | assumption | exact rfl) (by omega) ?_
              refine J_i2l (pc := 101) hc dX3_value_101 ?_
              refine J_lload_7 (pc := 102) hc dX3_value_102 ?_
              refine J_lmul (pc := 104) hc dX3_value_104 ?_
              refine J_ladd (pc := 105) hc dX3_value_105 ?_
              refine J_iloadn_3 (pc := 106) hc dX3_value_106 ?_
              refine J_i2l (pc := 107) hc dX3_value_107 ?_
              refine J_lmul (pc := 108) hc dX3_value_108 ?_
              refine J_aload_5 (pc := 109) hc dX3_value_109 ?_
              refine gX3_69 (pc := 111) hc (by omega) dX3_value_111 ?_
              refine J_iload_6 (pc := 114) hc dX3_value_114 ?_
              refine J_iald (pc := 116) hc 16 (by omega) (zlen_c (by omega)) dX3_value_116 (by first | with_reducible exact rfl | with_reducible exact nI_1 _ | with_reducible exact z16 _ _ | with_reducible exact zm1 (by omega) | assumption | exact rfl) (by omega) ?_
              refine J_i2l (pc := 117) hc dX3_value_117 ?_
              refine J_lload_7 (pc := 118) hc dX3_value_118 ?_
              refine J_lmul (pc := 120) hc dX3_value_120 ?_
              refine J_lload_7 (pc := 121) hc dX3_value_121 ?_
              refine J_lmul (pc := 123) hc dX3_value_123 ?_
              refine J_ladd (pc := 124) hc dX3_value_124 ?_
              refine J_topl (y := zvn σ k I V (U - I * V)) rfl ?_
              refine J_lstore_9 (pc := 125) hc dX3_value_125 rfl ?_
              refine J_lload_9 (pc := 127) hc dX3_value_127 ?_
              refine J_iloadn_3 (pc := 129) hc dX3_value_129 ?_
              refine J_i2l (pc := 130) hc dX3_value_130 ?_
              refine J_iloadn_3 (pc := 131) hc dX3_value_131 ?_
              refine J_i2l (pc := 132) hc dX3_value_132 ?_
              refine J_lmul (pc := 133) hc dX3_value_133 ?_
              refine J_topl (y := lN (V * V)) (by rw [nI_l (by omega), lN_mul]) ?_
              refine J_iload_4 (pc := 134) hc dX3_value_134 ?_
              refine kX3_86 (pc := 136) hc hR dX3_value_136 (c_X3_partInLowestTerms ((zvn_t (hzk.2.2.2 I hI1) hV2 (by omega)).2.le (by decide)) hVV0 (by omega)) (by decide) (Nat.le_of_ble_eq_true rfl) rfl (fun r u hu => ?_)
              refine J_eq hu.2 (J_topl hu.1 ?_)
              exact J_lret (pc := 139) hc hI dX3_value_139 ⟨rfl, Or.inr ⟨k, V, U, ⟨hk, hxk, hV1, hV2, rfl, by omega, rfl, hw⟩, by rw [← hIe]⟩⟩
            · skip
              refine nX3_75 (pc := 53) hc dX3_value_53 ?_
              exact J_lret (pc := 56) hc hI dX3_value_56 ⟨rfl, Or.inl ⟨fun ⟨k2, V2, U2, h⟩ => by obtain ⟨g1, g2, g3, g4, g5, g6, g7, g8⟩ := h; have e1 : k = k2 := (nI_eq (by omega) (by omega)).mp (hxk.symm.trans g2); subst e1; have e2 : V = V2 := (nI_eq (by omega) (by omega)).mp g5; subst e2; first | (rw [g7, zi_le, nI_toInt (by omega), nI_toInt (by omega)] at bq50; omega) | (rw [g7, zi_lt, nI_toInt (by omega), z0I] at bq39; omega), rfl⟩⟩
        · skip
          refine nX3_75 (pc := 26) hc dX3_value_26 ?_
          exact J_lret (pc := 29) hc hI dX3_value_29 ⟨rfl, Or.inl ⟨fun ⟨k2, V2, U2, h⟩ => by first | (have q1 := h.2.2.2.1; have q2 := h.2.2.2.2.1; rw [q2, zi_le, nI_toInt (by omega)] at bq23; have h2 : (64 : Int32).toInt = 64 := rfl; omega) | (have q1 := h.2.2.1; have q3 := h.2.2.2.1; have q2 := h.2.2.2.2.1; rw [q2, zi_lt, nI_toInt (by omega)] at bq17; have h1 : (1 : Int32).toInt = 1 := rfl; omega) | exact hn2 h.2.2.2.2.2.2.2 | exact hn1 (by rw [h.2.1]; exact zpl_k h.1), rfl⟩⟩
def zaOK (N : Nat → Nat) (x y z w : Int32) (k i j : Nat) : Prop := k < 6 ∧ x = nI k ∧ y = nI i ∧ z = nI j ∧ i ≤ j ∧ j ≤ N k ∧ (w.toInt = 0 ∨ w.toInt = 1)
set_option maxRecDepth 100000 in
set_option maxHeartbeats 4000000 in
theorem c_X3_area {l : Launch} {gg : zG} {σ : zS} {x y z w : Int32} {N : Nat → Nat} (hz : zCv σ N) : zMl l gg yX3_area cX3_area 9 3 75 [.ref (zo gg), .int x, .int y, .int z, .int w] σ (fun r u => u = σ ∧ ((¬ (∃ kq eq fq, zaOK N x y z w kq eq fq) ∧ r = -9223372036854775808) ∨ (∃ kq eq fq, zaOK N x y z w kq eq fq ∧ r = (if w = 0 then zar σ kq eq (fq - eq) else lN 6) / lN (Nat.gcd (zar σ kq eq (fq - eq)).toInt.natAbs 6)))) := by
  refine zM_l (own := RX3) (lv := [some (.ref (zo gg)), some (.int x), some (.int y), some (.int z), some (.int w), none, none, none, none]) (by decide +kernel) rfl (Nat.le_of_ble_eq_true rfl) rfl (fun cx hc hR hI => ?_)
  refine J_iloadn_1 (pc := 0) hc dX3_area_0 ?_
  refine kX3_42 (pc := 1) hc hR dX3_area_1 (c_X3_isNoPlace) (by decide) (Nat.le_of_ble_eq_true rfl) rfl (fun r u hu => ?_)
  have hr := hu.1
  refine J_eq hu.2 ?_
  refine J_if_ne (pc := 4) hc 15 dX3_area_4 (by decide) (fun bq4 => ?_) (fun bq4 => ?_)
  · skip
    have hn1 := hr.t bq4
    refine nX3_75 (pc := 15) hc dX3_area_15 ?_
    exact J_lret (pc := 18) hc hI dX3_area_18 ⟨rfl, Or.inl ⟨fun ⟨k2, i2, j2, h⟩ => by first | exact hn2 h.2.2.2.2.2.2 | exact hn1 (by rw [h.2.1]; exact zpl_k h.1), rfl⟩⟩
  · skip
    obtain ⟨k, hk, hxk⟩ := zpl_nI (Classical.not_not.mp (hr.f bq4))
    have hzk := hz k hk
    refine J_iload_4 (pc := 7) hc dX3_area_7 ?_
    refine kX3_72 (pc := 9) hc hR dX3_area_9 (c_X3_isNoPart) (by decide) (Nat.le_of_ble_eq_true rfl) rfl (fun r u hu => ?_)
    have hr := hu.1
    refine J_eq hu.2 ?_
    refine J_if_eq (pc := 12) hc 19 dX3_area_12 (by decide) (fun bq12 => ?_) (fun bq12 => ?_)
    · skip
      have hw := Classical.not_not.mp (hr.f bq12)
      refine J_aloadn_0 (pc := 19) hc dX3_area_19 ?_
      refine gX3_11 (pc := 20) hc dX3_area_20 ?_
      refine J_iloadn_1 (pc := 23) hc dX3_area_23 ?_
      refine J_aald (pc := 24) hc dX3_area_24 hxk (by omega) ?_
      refine J_astore_5 (pc := 25) hc dX3_area_25 rfl ?_
      refine J_iloadn_2 (pc := 27) hc dX3_area_27 ?_
      refine J_if_lt (pc := 28) hc 45 dX3_area_28 (by decide) (fun bq28 => ?_) (fun bq28 => ?_)
      · skip
        refine nX3_75 (pc := 45) hc dX3_area_45 ?_
        exact J_lret (pc := 48) hc hI dX3_area_48 ⟨rfl, Or.inl ⟨fun ⟨k2, i2, j2, h⟩ => by obtain ⟨g1, g2, g3, g4, g5, g6, g7⟩ := h; have e1 : k = k2 := (nI_eq (by omega) (by omega)).mp (hxk.symm.trans g2); subst e1; first | (rw [g4, hzk.2.2.1, zi_le, nI_toInt (by omega), nI_toInt (by omega)] at bq42; omega) | (rw [g3, g4, zi_lt, nI_toInt (by omega), nI_toInt (by omega)] at bq33; omega) | (rw [g3, zi_lt, nI_toInt (by omega), z0I] at bq28; omega), rfl⟩⟩
      · skip
        refine J_iloadn_2 (pc := 31) hc dX3_area_31 ?_
        refine J_iloadn_3 (pc := 32) hc dX3_area_32 ?_
        refine J_icmp_gt (pc := 33) hc 45 dX3_area_33 (by decide) (fun bq33 => ?_) (fun bq33 => ?_)
        · skip
          refine nX3_75 (pc := 45) hc dX3_area_45 ?_
          exact J_lret (pc := 48) hc hI dX3_area_48 ⟨rfl, Or.inl ⟨fun ⟨k2, i2, j2, h⟩ => by obtain ⟨g1, g2, g3, g4, g5, g6, g7⟩ := h; have e1 : k = k2 := (nI_eq (by omega) (by omega)).mp (hxk.symm.trans g2); subst e1; first | (rw [g4, hzk.2.2.1, zi_le, nI_toInt (by omega), nI_toInt (by omega)] at bq42; omega) | (rw [g3, g4, zi_lt, nI_toInt (by omega), nI_toInt (by omega)] at bq33; omega) | (rw [g3, zi_lt, nI_toInt (by omega), z0I] at bq28; omega), rfl⟩⟩
        · skip
          refine J_iloadn_3 (pc := 36) hc dX3_area_36 ?_
          refine J_aload_5 (pc := 37) hc dX3_area_37 ?_
          refine gX3_77 (pc := 39) hc (by omega) dX3_area_39 ?_
          refine J_icmp_le (pc := 42) hc 49 dX3_area_42 (by decide) (fun bq42 => ?_) (fun bq42 => ?_)
          · skip
            rw [hzk.2.2.1] at bq42
            obtain ⟨i, hi, hyi⟩ := zof_nat (x := y) (n := N k + 1) (by rw [zi_lt, z0I] at bq28; omega) (by rw [zi_le, nI_toInt (by omega)] at bq42; rw [zi_lt] at bq33; omega) (by omega)
            obtain ⟨j, hj, hzj⟩ := zof_nat (x := z) (n := N k + 1) (by rw [zi_lt, z0I] at bq28; rw [zi_lt] at bq33; omega) (by rw [zi_le, nI_toInt (by omega)] at bq42; omega) (by omega)
            subst hyi
            subst hzj
            have hij : i ≤ j := by rw [zi_lt, nI_toInt (by omega), nI_toInt (by omega)] at bq33; omega
            refine J_lconst (pc := 49) hc dX3_area_49 (v := 0) (by decide) ?_
            refine J_lstore_6 (pc := 50) hc dX3_area_50 rfl ?_
            refine J_iloadn_2 (pc := 52) hc dX3_area_52 ?_
            refine J_istore_8 (pc := 53) hc dX3_area_53 rfl ?_
            have hL55 : ∀ (μ : Nat) (d : Nat), (j - i) - d = μ → d ≤ j - i → J cx gg (zQl cx gg (fun r u => u = σ ∧ ((¬ (∃ kq eq fq, zaOK N x (nI i) (nI j) w kq eq fq) ∧ r = -9223372036854775808) ∨ (∃ kq eq fq, zaOK N x (nI i) (nI j) w kq eq fq ∧ r = (if w = 0 then zar σ kq eq (fq - eq) else lN 6) / lN (Nat.gcd (zar σ kq eq (fq - eq)).toInt.natAbs 6))))) σ 55 [some (.ref (zo gg)), some (.int x), some (.int (nI i)), some (.int (nI j)), some (.int w), some (.ref (zc gg k)), some (.long (zar σ k i d)), none, some (.int (nI (i + d)))] [] := by
              intro μ
              induction μ using Nat.strongRecOn with
              | ind μ ih55 =>
                intro d hμ hd
                refine J_iload_8 (pc := 55) hc dX3_area_55 ?_
                refine J_iloadn_3 (pc := 57) hc dX3_area_57 ?_
                refine J_icmp_ge (pc := 58) hc 113 dX3_area_58 (by decide) (fun bq58 => ?_) (fun bq58 => ?_)
                · skip
                  have bq58 := (zge rfl rfl (by omega) (by omega)).mp bq58
                  refine J_lload_6 (pc := 113) hc dX3_area_113 ?_
                  refine nX3_117 (pc := 115) hc dX3_area_115 ?_
                  refine J_iload_4 (pc := 118) hc dX3_area_118 ?_
                  refine kX3_86 (pc := 120) hc hR dX3_area_120 (c_X3_partInLowestTerms (D := 6) ((zar_t (by omega) (fun e he => hzk.2.2.2 (i + e) (by omega))).1.le (by omega)) (by decide) (by decide)) (by decide) (Nat.le_of_ble_eq_true rfl) rfl (fun r u hu => ?_)
                  refine J_eq hu.2 (J_topl hu.1 ?_)
                  exact J_lret (pc := 123) hc hI dX3_area_123 ⟨rfl, Or.inr ⟨k, i, j, ⟨hk, hxk, rfl, rfl, hij, by omega, hw⟩, by rw [← show d = j - i by omega]⟩⟩
                · skip
                  have bq58 := mt (zge rfl rfl (by omega) (by omega)).mpr bq58
                  refine J_lload_6 (pc := 61) hc dX3_area_61 ?_
                  refine nX3_117 (pc := 63) hc dX3_area_63 ?_
                  refine J_aload_5 (pc := 66) hc dX3_area_66 ?_
                  refine gX3_63 (pc := 68) hc (by omega) dX3_area_68 ?_
                  refine J_iload_8 (pc := 71) hc dX3_area_71 ?_
                  refine J_iald (pc := 73) hc 16 (by omega) (zlen_c (by omega)) dX3_area_73 (by first | with_reducible exact rfl | with_reducible exact nI_1 _ | with_reducible exact z16 _ _ | with_reducible exact zm1 (by omega) | assumption | exact rfl) (by omega) ?_
                  refine J_i2l (pc := 74) hc dX3_area_74 ?_
                  refine J_lmul (pc := 75) hc dX3_area_75 ?_
                  refine nX3_119 (pc := 76) hc dX3_area_76 ?_
                  refine J_aload_5 (pc := 79) hc dX3_area_79 ?_
                  refine gX3_66 (pc := 81) hc (by omega) dX3_area_81 ?_
                  refine J_iload_8 (pc := 84) hc dX3_area_84 ?_
                  refine J_iald (pc := 86) hc 16 (by omega) (zlen_c (by omega)) dX3_area_86 (by first | with_reducible exact rfl | with_reducible exact nI_1 _ | with_reducible exact z16 _ _ | with_reducible exact zm1 (by omega) | assumption | exact rfl) (by omega) ?_
                  refine J_i2l (pc := 87) hc dX3_area_87 ?_
                  refine J_lmul (pc := 88) hc dX3_area_88 ?_
                  refine J_ladd (pc := 89) hc dX3_area_89 ?_
                  refine nX3_121 (pc := 90) hc dX3_area_90 ?_
                  refine J_aload_5 (pc := 93) hc dX3_area_93 ?_
                  refine gX3_69 (pc := 95) hc (by omega) dX3_area_95 ?_
                  refine J_iload_8 (pc := 98) hc dX3_area_98 ?_
                  refine J_iald (pc := 100) hc 16 (by omega) (zlen_c (by omega)) dX3_area_100 (by first | with_reducible exact rfl | with_reducible exact nI_1 _ | with_reducible exact z16 _ _ | with_reducible exact zm1 (by omega) | assumption | exact rfl) (by omega) ?_
                  refine J_i2l (pc := 101) hc dX3_area_101 ?_
                  refine J_lmul (pc := 102) hc dX3_area_102 ?_
                  refine J_ladd (pc := 103) hc dX3_area_103 ?_
                  refine J_ladd (pc := 104) hc dX3_area_104 ?_
                  refine J_lstore_6 (pc := 105) hc dX3_area_105 rfl ?_
                  refine J_iinc_8 (pc := 107) hc dX3_area_107 (by first | exact nI_1 _ | exact rfl) rfl ?_
                  refine J_goto (pc := 110) hc 55 dX3_area_110 (by decide) ?_
                  exact J_weak (by repeat (first | exact zle_nil | apply zle_s | apply zle_n)) (ih55 _ (by omega) (d + 1) rfl (by omega))
            exact J_weak (by repeat (first | exact zle_nil | apply zle_s | apply zle_n)) (hL55 _ 0 rfl (by omega))
          · skip
            refine nX3_75 (pc := 45) hc dX3_area_45 ?_
            exact J_lret (pc := 48) hc hI dX3_area_48 ⟨rfl, Or.inl ⟨fun ⟨k2, i2, j2, h⟩ => by obtain ⟨g1, g2, g3, g4, g5, g6, g7⟩ := h; have e1 : k = k2 := (nI_eq (by omega) (by omega)).mp (hxk.symm.trans g2); subst e1; first | (rw [g4, hzk.2.2.1, zi_le, nI_toInt (by omega), nI_toInt (by omega)] at bq42; omega) | (rw [g3, g4, zi_lt, nI_toInt (by omega), nI_toInt (by omega)] at bq33; omega) | (rw [g3, zi_lt, nI_toInt (by omega), z0I] at bq28; omega), rfl⟩⟩
    · skip
      have hn2 := hr.t bq12
      refine nX3_75 (pc := 15) hc dX3_area_15 ?_
      exact J_lret (pc := 18) hc hI dX3_area_18 ⟨rfl, Or.inl ⟨fun ⟨k2, i2, j2, h⟩ => by first | exact hn2 h.2.2.2.2.2.2 | exact hn1 (by rw [h.2.1]; exact zpl_k h.1), rfl⟩⟩
