def zfin (S : zS) (n : Nat) : List Nat := zrl (zcm S 0) (zcm S 1) (zcm S 2) n ++ (if zh (4096 * zcm S 0 (n - 1)) (64 * zcm S 1 (n - 1)) (zcm S 2 (n - 1)) 64 = 0 then [64 * n] else [])
def zzm (S : zS) (i : Nat) : Prop := zcm S 0 i = 0 ∧ zcm S 1 i = 0 ∧ zcm S 2 i = 0
theorem zfin_len {S : zS} {n : Nat} (h : ∀ i, i < n → ¬ zzm S i) : (zfin S n).length ≤ 2 * n + 1 := by
  have h1 := zrl_len (A := zcm S 0) (B := zcm S 1) (C := zcm S 2) (i := n) h
  unfold zfin
  rw [List.length_append]
  split <;> simp <;> omega
def zRZ (S : zS) (n : Nat) (r : Int32) (u : zS) : Prop := ((∃ i, i < n ∧ zzm S i) ∧ r = -4 ∧ ∃ L, u = zfz S L) ∨ ((∀ i, i < n → ¬ zzm S i) ∧ r = nI (zfin S n).length ∧ u = zfz S (zfin S n))
theorem zlk_b {σ : zS} {k n : Nat} (h : ∀ i, i < n → zcf (sa σ 24 (16 * k + i)) ∧ zcf (sa σ 25 (16 * k + i)) ∧ zcf (sa σ 26 (16 * k + i))) : ∀ i, i < n → zbd (sm (zlk σ k n) 0 i).toInt 200000 ∧ zbd (sm (zlk σ k n) 1 i).toInt 200000 ∧ zbd (sm (zlk σ k n) 2 i).toInt 200000 := by
  intro i hi
  rw [zlk_0 hi, zlk_1 hi, zlk_2 hi, Int32.toInt_toInt64, Int32.toInt_toInt64, Int32.toInt_toInt64]
  exact ⟨(h i hi).1.b.le (by decide), (h i hi).2.1.b.le (by decide), (h i hi).2.2.b.le (by decide)⟩
theorem zdifL {x y : Int32} (h : zcf x) (h2 : zcf y) : zbd (1 * x.toInt64 + -1 * y.toInt64).toInt 200000 ∧ (1 * x.toInt64 + -1 * y.toInt64).toInt = x.toInt - y.toInt := by
  have b1 : zbd (1 : Int64).toInt 1 := by unfold zbd; decide
  have b2 : zbd (-1 : Int64).toInt 1 := by unfold zbd; decide
  have hx : zbd x.toInt64.toInt 100000 := by rw [Int32.toInt_toInt64]; exact h.b
  have hy : zbd y.toInt64.toInt 100000 := by rw [Int32.toInt_toInt64]; exact h2.b
  have e1 := zLm b1 hx (by decide)
  have e2 := zLm b2 hy (by decide)
  have c1 : zbd (1 * x.toInt64).toInt 100000 := by rw [e1]; exact (b1.mul hx).le (by decide)
  have c2 : zbd (-1 * y.toInt64).toInt 100000 := by rw [e2]; exact (b2.mul hy).le (by decide)
  have e3 := zLa c1 c2 (by decide)
  refine ⟨by rw [e3]; exact (c1.add c2).le (by decide), ?_⟩
  rw [e3, e1, e2, Int32.toInt_toInt64, Int32.toInt_toInt64, show (1 : Int64).toInt = 1 by decide, show (-1 : Int64).toInt = -1 by decide]
  omega
theorem zmk_0 {σ : zS} {f h n i : Nat} {p q : Int64} (hi : i < n) : sm (zmk σ f h p q n) 0 i = p * (sa σ 24 (16 * f + i)).toInt64 + q * (sa σ 24 (16 * h + i)).toInt64 := zfill_in (fun i => p * (sa σ 24 (16 * f + i)).toInt64 + q * (sa σ 24 (16 * h + i)).toInt64) (sm σ 0) hi
theorem zmk_1 {σ : zS} {f h n i : Nat} {p q : Int64} (hi : i < n) : sm (zmk σ f h p q n) 1 i = p * (sa σ 25 (16 * f + i)).toInt64 + q * (sa σ 25 (16 * h + i)).toInt64 := zfill_in (fun i => p * (sa σ 25 (16 * f + i)).toInt64 + q * (sa σ 25 (16 * h + i)).toInt64) (sm σ 1) hi
theorem zmk_2 {σ : zS} {f h n i : Nat} {p q : Int64} (hi : i < n) : sm (zmk σ f h p q n) 2 i = p * (sa σ 26 (16 * f + i)).toInt64 + q * (sa σ 26 (16 * h + i)).toInt64 := zfill_in (fun i => p * (sa σ 26 (16 * f + i)).toInt64 + q * (sa σ 26 (16 * h + i)).toInt64) (sm σ 2) hi
theorem zmk_b {σ : zS} {f h n : Nat} (hf : ∀ i, i < n → zcf (sa σ 24 (16 * f + i)) ∧ zcf (sa σ 25 (16 * f + i)) ∧ zcf (sa σ 26 (16 * f + i))) (hh : ∀ i, i < n → zcf (sa σ 24 (16 * h + i)) ∧ zcf (sa σ 25 (16 * h + i)) ∧ zcf (sa σ 26 (16 * h + i))) : ∀ i, i < n → zbd (sm (zmk σ f h 1 (-1) n) 0 i).toInt 200000 ∧ zbd (sm (zmk σ f h 1 (-1) n) 1 i).toInt 200000 ∧ zbd (sm (zmk σ f h 1 (-1) n) 2 i).toInt 200000 := by
  intro i hi
  rw [zmk_0 hi, zmk_1 hi, zmk_2 hi]
  exact ⟨(zdifL (hf i hi).1 (hh i hi).1).1, (zdifL (hf i hi).2.1 (hh i hi).2.1).1, (zdifL (hf i hi).2.2 (hh i hi).2.2).1⟩
theorem zlm1 {n : Nat} (h : n < 1000) : (nI n - 1).toInt64.toInt = (n : Int) - 1 := by
  rw [Int32.toInt_toInt64, Int32.toInt_sub, nI_toInt (by omega), show (1 : Int32).toInt = 1 by decide, Int.bmod_eq_of_le (by omega) (by omega)]
set_option maxRecDepth 100000 in
set_option maxHeartbeats 4000000 in
theorem c_X4_zeros {l : Launch} {gg : zG} {σ : zS} {x : Int32} {N : Nat → Nat} (hz : zRv σ N) : zMi l gg yX4_zeros cX4_zeros .int 2 3 73 [.ref (zM gg), .int x] σ (fun r u => (¬ zpl x ∧ r = -2 ∧ u = σ) ∨ (∃ k, k < 6 ∧ x = nI k ∧ zRZ (zlk σ k (N k)) (N k) r u)) := by
  refine zM_i (own := RX4) (lv := [some (.ref (zM gg)), some (.int x)]) (by decide +kernel) rfl (Nat.le_of_ble_eq_true rfl) rfl (fun cx hc hR hI => ?_)
  refine J_iloadn_1 (pc := 0) hc dX4_zeros_0 ?_
  refine kX4_51 (pc := 1) hc hR dX4_zeros_1 (c_X4_isPlace) (by decide) (Nat.le_of_ble_eq_true rfl) rfl (fun r u hu => ?_)
  have hr := hu.1
  refine J_eq hu.2 ?_
  refine J_if_ne (pc := 4) hc 10 dX4_zeros_4 (by decide) (fun bq4 => ?_) (fun bq4 => ?_)
  · skip
    obtain ⟨k, hk, hxk⟩ := zpl_nI (hr.t bq4)
    have hzk := hz k hk
    refine J_aloadn_0 (pc := 10) hc dX4_zeros_10 ?_
    refine J_iloadn_1 (pc := 11) hc dX4_zeros_11 ?_
    refine kX4_80 (pc := 12) hc hR dX4_zeros_12 (c_X4_look hk hxk hzk.2.2.1 hzk.2.1) (by decide) (Nat.le_of_ble_eq_true rfl) rfl (fun u hu => ?_)
    refine J_eq hu ?_
    refine J_aloadn_0 (pc := 15) hc dX4_zeros_15 ?_
    refine kX4_119 (pc := 16) hc hR dX4_zeros_16 (c_X4_findZeros (n := N k) rfl hzk.1 hzk.2.1 (zlk_b hzk.2.2.2)) (by decide) (Nat.le_of_ble_eq_true rfl) rfl (fun r u hu => ?_)
    refine J_if_eq (pc := 19) hc 29 dX4_zeros_19 (by decide) (fun bq19 => ?_) (fun bq19 => ?_)
    · skip
      rcases hu with ⟨_, he, L, hu⟩ | ⟨q, _, _⟩
      rotate_left
      · exact absurd (q.symm.trans bq19) (by decide)
      refine J_eq hu ?_
      refine J_bipush (pc := 29) hc dX4_zeros_29 (v := -4) (by decide) ?_
      exact J_iret (pc := 31) hc hI dX4_zeros_31 (Or.inr ⟨k, hk, hxk, by first | exact Or.inl ⟨he, rfl, L, rfl⟩ | exact Or.inr ⟨he, rfl, rfl⟩⟩)
    · skip
      rcases hu with ⟨q, _, _⟩ | ⟨_, he, hu⟩
      · exact absurd q bq19
      refine J_eq hu ?_
      refine J_aloadn_0 (pc := 22) hc dX4_zeros_22 ?_
      refine gX4_112 (pc := 23) hc dX4_zeros_23 ?_
      refine J_goto (pc := 26) hc 31 dX4_zeros_26 (by decide) ?_
      exact J_iret (pc := 31) hc hI dX4_zeros_31 (Or.inr ⟨k, hk, hxk, by first | exact Or.inl ⟨he, rfl, L, rfl⟩ | exact Or.inr ⟨he, rfl, rfl⟩⟩)
  · skip
    have hnp := hr.f bq4
    refine J_bipush (pc := 7) hc dX4_zeros_7 (v := -2) (by decide) ?_
    exact J_iret (pc := 9) hc hI dX4_zeros_9 (Or.inl ⟨hnp, rfl, rfl⟩)
set_option maxRecDepth 100000 in
set_option maxHeartbeats 4000000 in
theorem c_X4_zero {l : Launch} {gg : zG} {σ : zS} {x y : Int32} {N : Nat → Nat} (hz : zRv σ N) : zMi l gg yX4_zero cX4_zero .int 3 3 73 [.ref (zM gg), .int x, .int y] σ (fun r u => (¬ zpl x ∧ r = -2 ∧ u = σ) ∨ (∃ k, k < 6 ∧ x = nI k ∧ (((∃ i, i < N k ∧ zzm (zlk σ k (N k)) i) ∧ r = -4 ∧ ∃ L, u = zfz (zlk σ k (N k)) L) ∨ ((∀ i, i < N k → ¬ zzm (zlk σ k (N k)) i) ∧ u = zfz (zlk σ k (N k)) (zfin (zlk σ k (N k)) (N k)) ∧ ((∃ j, j < (zfin (zlk σ k (N k)) (N k)).length ∧ y = nI j ∧ r = nI ((zfin (zlk σ k (N k)) (N k)).getD j 0)) ∨ (¬ (0 ≤ y.toInt ∧ y.toInt < (zfin (zlk σ k (N k)) (N k)).length) ∧ r = -2)))))) := by
  refine zM_i (own := RX4) (lv := [some (.ref (zM gg)), some (.int x), some (.int y)]) (by decide +kernel) rfl (Nat.le_of_ble_eq_true rfl) rfl (fun cx hc hR hI => ?_)
  refine J_iloadn_1 (pc := 0) hc dX4_zero_0 ?_
  refine kX4_51 (pc := 1) hc hR dX4_zero_1 (c_X4_isPlace) (by decide) (Nat.le_of_ble_eq_true rfl) rfl (fun r u hu => ?_)
  have hr := hu.1
  refine J_eq hu.2 ?_
  refine J_if_ne (pc := 4) hc 10 dX4_zero_4 (by decide) (fun bq4 => ?_) (fun bq4 => ?_)
  · skip
    obtain ⟨k, hk, hxk⟩ := zpl_nI (hr.t bq4)
    have hzk := hz k hk
    refine J_aloadn_0 (pc := 10) hc dX4_zero_10 ?_
    refine J_iloadn_1 (pc := 11) hc dX4_zero_11 ?_
    refine kX4_80 (pc := 12) hc hR dX4_zero_12 (c_X4_look hk hxk hzk.2.2.1 hzk.2.1) (by decide) (Nat.le_of_ble_eq_true rfl) rfl (fun u hu => ?_)
    refine J_eq hu ?_
    refine J_aloadn_0 (pc := 15) hc dX4_zero_15 ?_
    refine kX4_119 (pc := 16) hc hR dX4_zero_16 (c_X4_findZeros (n := N k) rfl hzk.1 hzk.2.1 (zlk_b hzk.2.2.2)) (by decide) (Nat.le_of_ble_eq_true rfl) rfl (fun r u hu => ?_)
    refine J_if_ne (pc := 19) hc 25 dX4_zero_19 (by decide) (fun bq19 => ?_) (fun bq19 => ?_)
    · skip
      rcases hu with ⟨q, _, _⟩ | ⟨_, he, hu⟩
      · exact absurd q bq19
      refine J_eq hu ?_
      have hlen := zfin_len (S := (zlk σ k (N k))) he
      refine J_iloadn_2 (pc := 25) hc dX4_zero_25 ?_
      refine J_i2l (pc := 26) hc dX4_zero_26 ?_
      refine J_lconst (pc := 27) hc dX4_zero_27 (v := 0) (by decide) ?_
      refine J_aloadn_0 (pc := 28) hc dX4_zero_28 ?_
      refine gX4_112 (pc := 29) hc dX4_zero_29 ?_
      refine J_iconst (pc := 32) hc dX4_zero_32 (v := 1) (by decide) ?_
      refine J_isub (pc := 33) hc dX4_zero_33 ?_
      refine J_i2l (pc := 34) hc dX4_zero_34 ?_
      refine kX4_43 (pc := 35) hc hR dX4_zero_35 (c_X4_in) (by decide) (Nat.le_of_ble_eq_true rfl) rfl (fun r u hu => ?_)
      have hr := hu.1
      refine J_eq hu.2 ?_
      refine J_if_eq (pc := 38) hc 50 dX4_zero_38 (by decide) (fun bq38 => ?_) (fun bq38 => ?_)
      · skip
        have hin := (zin1 hr (show (0 : Int64).toInt = 0 from rfl) (zlm1 (n := (zfin (zlk σ k (N k)) (N k)).length) (by omega))).f bq38
        refine J_bipush (pc := 50) hc dX4_zero_50 (v := -2) (by decide) ?_
        exact J_iret (pc := 52) hc hI dX4_zero_52 (Or.inr ⟨k, hk, hxk, Or.inr ⟨he, rfl, by first | exact Or.inr ⟨by omega, rfl⟩ | exact Or.inl ⟨j, hj1, hj2, by show zputs _ 0 (zfin (zlk σ k (N k)) (N k)) j = _; rw [← zputs_in _ 0 (zfin (zlk σ k (N k)) (N k)) hj1, Nat.zero_add]⟩⟩⟩)
      · skip
        have hin := (zin1 hr (show (0 : Int64).toInt = 0 from rfl) (zlm1 (n := (zfin (zlk σ k (N k)) (N k)).length) (by omega))).t bq38
        obtain ⟨j, hj1, hj2⟩ := zof_nat (x := y) (n := (zfin (zlk σ k (N k)) (N k)).length) hin.1 (by omega) (by omega)
        refine J_aloadn_0 (pc := 41) hc dX4_zero_41 ?_
        refine gX4_35 (pc := 42) hc dX4_zero_42 ?_
        refine J_iloadn_2 (pc := 45) hc dX4_zero_45 ?_
        refine J_iald (pc := 46) hc 40 (by omega) rfl dX4_zero_46 hj2 (by omega) ?_
        refine J_goto (pc := 47) hc 52 dX4_zero_47 (by decide) ?_
        exact J_iret (pc := 52) hc hI dX4_zero_52 (Or.inr ⟨k, hk, hxk, Or.inr ⟨he, rfl, by first | exact Or.inr ⟨by omega, rfl⟩ | exact Or.inl ⟨j, hj1, hj2, by show zputs _ 0 (zfin (zlk σ k (N k)) (N k)) j = _; rw [← zputs_in _ 0 (zfin (zlk σ k (N k)) (N k)) hj1, Nat.zero_add]⟩⟩⟩)
    · skip
      rcases hu with ⟨_, he, L, hu⟩ | ⟨q, _, _⟩
      rotate_left
      · exact absurd (q.symm.trans bq19) (by decide)
      refine J_eq hu ?_
      refine J_bipush (pc := 22) hc dX4_zero_22 (v := -4) (by decide) ?_
      exact J_iret (pc := 24) hc hI dX4_zero_24 (Or.inr ⟨k, hk, hxk, Or.inl ⟨he, rfl, L, rfl⟩⟩)
  · skip
    have hnp := hr.f bq4
    refine J_bipush (pc := 7) hc dX4_zero_7 (v := -2) (by decide) ?_
    exact J_iret (pc := 9) hc hI dX4_zero_9 (Or.inl ⟨hnp, rfl, rfl⟩)
set_option maxRecDepth 100000 in
set_option maxHeartbeats 4000000 in
theorem c_X4_meets {l : Launch} {gg : zG} {σ : zS} {x y : Int32} {N : Nat → Nat} (hz : zRv σ N) : zMi l gg yX4_meets cX4_meets .int 3 3 73 [.ref (zM gg), .int x, .int y] σ (fun r u => (¬ (zpl x ∧ zpl y) ∧ r = -2 ∧ u = σ) ∨ (∃ k j, k < 6 ∧ x = nI k ∧ j < 6 ∧ y = nI j ∧ ((¬ N k = N j ∧ r = -4 ∧ u = σ) ∨ (N k = N j ∧ zRZ (zmk σ k j 1 (-1) (N k)) (N k) r u)))) := by
  refine zM_i (own := RX4) (lv := [some (.ref (zM gg)), some (.int x), some (.int y)]) (by decide +kernel) rfl (Nat.le_of_ble_eq_true rfl) rfl (fun cx hc hR hI => ?_)
  refine J_iloadn_1 (pc := 0) hc dX4_meets_0 ?_
  refine kX4_51 (pc := 1) hc hR dX4_meets_1 (c_X4_isPlace) (by decide) (Nat.le_of_ble_eq_true rfl) rfl (fun r u hu => ?_)
  have hr := hu.1
  refine J_eq hu.2 ?_
  refine J_if_eq (pc := 4) hc 14 dX4_meets_4 (by decide) (fun bq4 => ?_) (fun bq4 => ?_)
  · skip
    have hnp := hr.f bq4
    refine J_bipush (pc := 14) hc dX4_meets_14 (v := -2) (by decide) ?_
    exact J_iret (pc := 16) hc hI dX4_meets_16 (Or.inl ⟨by first | exact (fun h => hnq h.2) | exact (fun h => hnp h.1), rfl, rfl⟩)
  · skip
    obtain ⟨k, hk, hxk⟩ := zpl_nI (hr.t bq4)
    have hzk := hz k hk
    refine J_iloadn_2 (pc := 7) hc dX4_meets_7 ?_
    refine kX4_51 (pc := 8) hc hR dX4_meets_8 (c_X4_isPlace) (by decide) (Nat.le_of_ble_eq_true rfl) rfl (fun r u hu => ?_)
    have hr := hu.1
    refine J_eq hu.2 ?_
    refine J_if_ne (pc := 11) hc 17 dX4_meets_11 (by decide) (fun bq11 => ?_) (fun bq11 => ?_)
    · skip
      obtain ⟨j, hj, hxj⟩ := zpl_nI (hr.t bq11)
      have hzj := hz j hj
      refine J_aloadn_0 (pc := 17) hc dX4_meets_17 ?_
      refine gX4_7 (pc := 18) hc dX4_meets_18 ?_
      refine J_iloadn_1 (pc := 21) hc dX4_meets_21 ?_
      refine J_iald (pc := 22) hc 6 (by omega) rfl dX4_meets_22 hxk (by omega) ?_
      refine J_aloadn_0 (pc := 23) hc dX4_meets_23 ?_
      refine gX4_7 (pc := 24) hc dX4_meets_24 ?_
      refine J_iloadn_2 (pc := 27) hc dX4_meets_27 ?_
      refine J_iald (pc := 28) hc 6 (by omega) rfl dX4_meets_28 hxj (by omega) ?_
      refine J_icmp_eq (pc := 29) hc 35 dX4_meets_29 (by decide) (fun bq29 => ?_) (fun bq29 => ?_)
      · skip
        rw [hzk.2.2.1, hzj.2.2.1, nI_eq (by omega) (by omega)] at bq29
        refine J_aloadn_0 (pc := 35) hc dX4_meets_35 ?_
        refine J_iloadn_1 (pc := 36) hc dX4_meets_36 ?_
        refine J_lconst (pc := 37) hc dX4_meets_37 (v := 1) (by decide) ?_
        refine J_iloadn_2 (pc := 38) hc dX4_meets_38 ?_
        refine nX4_88 (pc := 39) hc dX4_meets_39 ?_
        refine kX4_127 (pc := 42) hc hR dX4_meets_42 (c_X4_make (n := N k) hk hj hxk hxj hzk.2.2.1 hzk.2.1) (by decide) (Nat.le_of_ble_eq_true rfl) rfl (fun u hu => ?_)
        refine J_eq hu ?_
        refine J_aloadn_0 (pc := 45) hc dX4_meets_45 ?_
        refine kX4_119 (pc := 46) hc hR dX4_meets_46 (c_X4_findZeros (n := N k) rfl hzk.1 hzk.2.1 (zmk_b hzk.2.2.2 (by rw [bq29]; exact hzj.2.2.2))) (by decide) (Nat.le_of_ble_eq_true rfl) rfl (fun r u hu => ?_)
        refine J_if_eq (pc := 49) hc 59 dX4_meets_49 (by decide) (fun bq49 => ?_) (fun bq49 => ?_)
        · skip
          rcases hu with ⟨_, he, L, hu⟩ | ⟨q, _, _⟩
          rotate_left
          · exact absurd (q.symm.trans bq49) (by decide)
          refine J_eq hu ?_
          refine J_bipush (pc := 59) hc dX4_meets_59 (v := -4) (by decide) ?_
          exact J_iret (pc := 61) hc hI dX4_meets_61 (Or.inr ⟨k, j, hk, hxk, hj, hxj, Or.inr ⟨bq29, by first | exact Or.inl ⟨he, rfl, L, rfl⟩ | exact Or.inr ⟨he, rfl, rfl⟩⟩⟩)
        · skip
          rcases hu with ⟨q, _, _⟩ | ⟨_, he, hu⟩
          · exact absurd q bq49
          refine J_eq hu ?_
          refine J_aloadn_0 (pc := 52) hc dX4_meets_52 ?_
          refine gX4_112 (pc := 53) hc dX4_meets_53 ?_
          refine J_goto (pc := 56) hc 61 dX4_meets_56 (by decide) ?_
          exact J_iret (pc := 61) hc hI dX4_meets_61 (Or.inr ⟨k, j, hk, hxk, hj, hxj, Or.inr ⟨bq29, by first | exact Or.inl ⟨he, rfl, L, rfl⟩ | exact Or.inr ⟨he, rfl, rfl⟩⟩⟩)
      · skip
        rw [hzk.2.2.1, hzj.2.2.1, nI_eq (by omega) (by omega)] at bq29
        refine J_bipush (pc := 32) hc dX4_meets_32 (v := -4) (by decide) ?_
        exact J_iret (pc := 34) hc hI dX4_meets_34 (Or.inr ⟨k, j, hk, hxk, hj, hxj, Or.inl ⟨bq29, rfl, rfl⟩⟩)
    · skip
      have hnq := hr.f bq11
      refine J_bipush (pc := 14) hc dX4_meets_14 (v := -2) (by decide) ?_
      exact J_iret (pc := 16) hc hI dX4_meets_16 (Or.inl ⟨by first | exact (fun h => hnq h.2) | exact (fun h => hnp h.1), rfl, rfl⟩)
