theorem zgcd (P Q : Nat) : Nat.gcd Q (P % Q) = Nat.gcd P Q := by rw [Nat.gcd_comm, ← Nat.gcd_rec, Nat.gcd_comm]
theorem zeuc {P Q s : Nat} (hQ : 0 < Q) (h8 : Q < 8192) (h : s = 0 ∨ (Q ≤ P ∧ P * Q * 2 ^ s < 2 ^ 28)) : P % Q ≤ Q ∧ Q * (P % Q) * 2 ^ (s + 1) < 2 ^ 28 := by
  have hm := Nat.mod_lt P hQ
  refine ⟨by omega, ?_⟩
  rcases h with rfl | ⟨h1, h2⟩
  · have h3 : Q * (P % Q) ≤ 8192 * 8192 := Nat.mul_le_mul (by omega) (by omega)
    have : (2 : Nat) ^ (0 + 1) = 2 := rfl
    rw [this]; omega
  · have h4 : P % Q + P % Q ≤ P := by
      have h5 := Nat.mod_add_div P Q
      have h6 : 1 ≤ P / Q := Nat.div_pos h1 hQ
      have h7 : Q * 1 ≤ Q * (P / Q) := Nat.mul_le_mul_left Q h6
      omega
    have h8 : Q * (P % Q) * 2 ^ (s + 1) = Q * (P % Q + P % Q) * 2 ^ s := by rw [Nat.pow_succ, Nat.mul_add, Nat.add_mul]; rw [Nat.mul_comm (2 ^ s) 2, ← Nat.mul_assoc]; rw [Nat.mul_two, Nat.add_mul]
    rw [h8]
    exact Nat.lt_of_le_of_lt (Nat.mul_le_mul_right _ (Nat.mul_le_mul_left Q h4)) (by rw [Nat.mul_comm Q P]; exact h2)
theorem zeuc0 {P Q : Nat} (h0 : 0 < P) (h : P * Q * 2 ^ 100 < 2 ^ 28) : Q = 0 := by
  rcases Nat.eq_zero_or_pos Q with q | q
  · exact q
  · exfalso
    have h1 : 1 ≤ P * Q := Nat.mul_pos h0 q
    have h2 : 1 * 2 ^ 100 ≤ P * Q * 2 ^ 100 := Nat.mul_le_mul_right _ h1
    have h3 : (2 : Nat) ^ 28 < 1 * 2 ^ 100 := by decide
    omega
theorem zmax1 {G : Nat} (h : 0 < G) (h2 : G < 4611686018427387904) : (if 1 < lN G then lN G else 1) = lN G := by
  split
  · rfl
  · rename_i q
    rw [zl_lt, pk_lT (by omega), show (1 : Int64).toInt = 1 by decide] at q
    rw [show G = 1 by omega]
    rfl
theorem zvI {x : Int32} {n : Nat} (h : 1 ≤ x.toInt ∧ x.toInt ≤ n) (hn : n < 2147483647) : ∃ k : Nat, 1 ≤ k ∧ k ≤ n ∧ x = nI k := by
  obtain ⟨k, h1, h2⟩ := zof_nat (x := x) (n := n + 1) (by omega) (by omega) (by omega)
  refine ⟨k, ?_, by omega, h2⟩
  rw [h2, nI_toInt (by omega)] at h
  omega
theorem zbnd' {r x b : Int32} {B : Int} (h : zb r (¬ ((-b).toInt ≤ x.toInt ∧ x.toInt ≤ b.toInt))) (hb : b.toInt = B) (hb2 : (-b).toInt = -B) : zb r (¬ (-B ≤ x.toInt ∧ x.toInt ≤ B)) := h.iff (by rw [hb, hb2])
theorem zabsL {x : Int64} {X : Nat} (h : zbd x.toInt X) (hX : X < 9223372036854775808) : (if 0 ≤ x then x else -x) = lN x.toInt.natAbs := by
  unfold zbd at h
  rw [zl_eq, pk_lT (by omega)]
  split
  · rename_i q; rw [zl_le, z0L] at q; omega
  · rename_i q; rw [zl_le, z0L] at q; rw [Int64.toInt_neg, Int.bmod_eq_of_le (by omega) (by omega)]; omega
set_option maxRecDepth 100000 in
set_option maxHeartbeats 4000000 in
theorem c_X3_commonDivisor {l : Launch} {gg : zG} {σ : zS} {P Q : Nat} (hP : P < 4611686018427387904) (hQ0 : 0 < Q) (hQ : Q < 8192) : zMl l gg yX3_commonDivisor cX3_commonDivisor 7 1 23 [.long (lN P), .long (lN Q)] σ (fun r u => r = lN (Nat.gcd P Q) ∧ u = σ) := by
  have hG : 0 < Nat.gcd P Q := Nat.gcd_pos_of_pos_right P hQ0
  refine zM_l (own := RX3) (lv := [some (.long (lN P)), none, some (.long (lN Q)), none, none, none, none]) (by decide +kernel) rfl (Nat.le_of_ble_eq_true rfl) rfl (fun cx hc hR hI => ?_)
  refine J_iconst (pc := 0) hc dX3_commonDivisor_0 (v := 0) (by decide) ?_
  refine J_istore_4 (pc := 1) hc dX3_commonDivisor_1 rfl ?_
  have hL3 : ∀ (μ : Nat) (s A B : Nat), 100 - s = μ → s ≤ 100 → Nat.gcd A B = Nat.gcd P Q → A < 4611686018427387904 → B < 8192 → (s = 0 ∨ (B ≤ A ∧ A * B * 2 ^ s < 2 ^ 28)) → (s = 0 ∨ 0 < A) → J cx gg (zQl cx gg (fun r u => r = lN (Nat.gcd P Q) ∧ u = σ)) σ 3 [some (.long (lN A)), none, some (.long (lN B)), none, some (.int (nI s)), none, none] [] := by
    intro μ
    induction μ using Nat.strongRecOn with
    | ind μ ih3 =>
      intro s A B hμ hs hg hA hB hI1 hI2
      refine J_iload_4 (pc := 3) hc dX3_commonDivisor_3 ?_
      refine J_bipush (pc := 5) hc dX3_commonDivisor_5 (v := 100) (by decide) ?_
      refine J_icmp_ge (pc := 7) hc 32 dX3_commonDivisor_7 (by decide) (fun bq7 => ?_) (fun bq7 => ?_)
      · skip
        have hs1 : s = 100 := by have := (zge (n := 100) rfl rfl (by omega) (by omega)).mp bq7; omega
        have hB1 : B = 0 := by rcases hI1 with q | q; omega; rcases hI2 with q2 | q2; omega; exact zeuc0 q2 (by rw [hs1] at q; exact q.2)
        rw [hB1, Nat.gcd_zero_right] at hg
        subst hg
        refine J_lconst (pc := 32) hc dX3_commonDivisor_32 (v := 1) (by decide) ?_
        refine J_lloadn_0 (pc := 33) hc dX3_commonDivisor_33 ?_
        refine kX3_203 (pc := 34) hc hR dX3_commonDivisor_34 (c_J9_max_f86c9) (by decide) (Nat.le_of_ble_eq_true rfl) rfl (fun r u hu => ?_)
        refine J_eq hu.2 (J_topl hu.1 ?_)
        exact J_lret (pc := 37) hc hI dX3_commonDivisor_37 ⟨zmax1 hG (by omega), rfl⟩
      · skip
        have hs2 := mt (zge (n := 100) rfl rfl (by omega) (by omega)).mpr bq7
        refine J_lloadn_2 (pc := 10) hc dX3_commonDivisor_10 ?_
        refine J_lconst (pc := 11) hc dX3_commonDivisor_11 (v := 0) (by decide) ?_
        refine J_lcmp_eq (pc := 12) hc 32 dX3_commonDivisor_12 dX3_commonDivisor_13 (by decide) (fun bq12 => ?_) (fun bq12 => ?_)
        · skip
          have hB1 : B = 0 := (pk_lEQ (by omega) (by omega)).mp (bq12.trans rfl)
          rw [hB1, Nat.gcd_zero_right] at hg
          subst hg
          refine J_lconst (pc := 32) hc dX3_commonDivisor_32 (v := 1) (by decide) ?_
          refine J_lloadn_0 (pc := 33) hc dX3_commonDivisor_33 ?_
          refine kX3_203 (pc := 34) hc hR dX3_commonDivisor_34 (c_J9_max_f86c9) (by decide) (Nat.le_of_ble_eq_true rfl) rfl (fun r u hu => ?_)
          refine J_eq hu.2 (J_topl hu.1 ?_)
          exact J_lret (pc := 37) hc hI dX3_commonDivisor_37 ⟨zmax1 hG (by omega), rfl⟩
        · skip
          have hB0 : 0 < B := Nat.pos_of_ne_zero (fun q => bq12 (by rw [q]; rfl))
          refine J_lloadn_0 (pc := 16) hc dX3_commonDivisor_16 ?_
          refine J_lloadn_2 (pc := 17) hc dX3_commonDivisor_17 ?_
          refine J_lrem (pc := 18) hc dX3_commonDivisor_18 bq12 ?_
          refine J_topl (pk_lRem (by omega) hB0 (by omega)) ?_
          refine J_lstore_5 (pc := 19) hc dX3_commonDivisor_19 rfl ?_
          refine J_lloadn_2 (pc := 21) hc dX3_commonDivisor_21 ?_
          refine J_lstoren_0 (pc := 22) hc dX3_commonDivisor_22 ?_
          refine J_lload_5 (pc := 23) hc dX3_commonDivisor_23 ?_
          refine J_lstoren_2 (pc := 25) hc dX3_commonDivisor_25 rfl ?_
          refine J_iinc_4 (pc := 26) hc dX3_commonDivisor_26 (by first | exact nI_1 _ | exact rfl) rfl ?_
          refine J_goto (pc := 29) hc 3 dX3_commonDivisor_29 (by decide) ?_
          exact J_weak (by repeat (first | exact zle_nil | apply zle_s | apply zle_n)) (ih3 _ (by omega) (s + 1) B (A % B) rfl (by omega) ((zgcd A B).trans hg) (by omega) (by have := Nat.mod_lt A hB0; omega) (Or.inr (zeuc hB0 hB hI1)) (Or.inr hB0))
  exact J_weak (by repeat (first | exact zle_nil | apply zle_s | apply zle_n)) (hL3 _ 0 P Q rfl (by omega) rfl hP hQ (Or.inl rfl) (Or.inl rfl))
set_option maxRecDepth 100000 in
set_option maxHeartbeats 4000000 in
theorem c_X3_partInLowestTerms {l : Launch} {gg : zG} {σ : zS} {x : Int64} {D : Nat} {w : Int32} (hx : zbd x.toInt 4000000000000000000) (hD0 : 0 < D) (hD : D < 8192) : zMl l gg yX3_partInLowestTerms cX3_partInLowestTerms 7 2 49 [.long x, .long (lN D), .int w] σ (fun r u => r = (if w = 0 then x else lN D) / lN (Nat.gcd x.toInt.natAbs D) ∧ u = σ) := by
  refine zM_l (own := RX3) (lv := [some (.long x), none, some (.long (lN D)), none, some (.int w), none, none]) (by decide +kernel) rfl (Nat.le_of_ble_eq_true rfl) rfl (fun cx hc hR hI => ?_)
  refine J_lloadn_0 (pc := 0) hc dX3_partInLowestTerms_0 ?_
  refine kX3_195 (pc := 1) hc hR dX3_partInLowestTerms_1 (c_J9_abs_067f4) (by decide) (Nat.le_of_ble_eq_true rfl) rfl (fun r u hu => ?_)
  refine J_eq hu.2 (J_topl hu.1 ?_)
  refine J_topl (zabsL hx (by decide)) ?_
  refine J_lloadn_2 (pc := 4) hc dX3_partInLowestTerms_4 ?_
  refine kX3_199 (pc := 5) hc hR dX3_partInLowestTerms_5 (c_X3_commonDivisor (by unfold zbd at hx; omega) hD0 hD) (by decide) (Nat.le_of_ble_eq_true rfl) rfl (fun r u hu => ?_)
  refine J_eq hu.2 (J_topl hu.1 ?_)
  refine J_lstore_5 (pc := 8) hc dX3_partInLowestTerms_8 rfl ?_
  refine J_iload_4 (pc := 10) hc dX3_partInLowestTerms_10 ?_
  refine J_if_ne (pc := 12) hc 19 dX3_partInLowestTerms_12 (by decide) (fun bq12 => ?_) (fun bq12 => ?_)
  · skip
    refine J_lloadn_2 (pc := 19) hc dX3_partInLowestTerms_19 ?_
    refine J_lload_5 (pc := 20) hc dX3_partInLowestTerms_20 ?_
    refine J_ldiv (pc := 22) hc dX3_partInLowestTerms_22 (fun h => absurd ((pk_lEQ (by have := Nat.gcd_le_right x.toInt.natAbs hD0; omega) (by omega)).mp (h.trans (show (0 : Int64) = lN 0 from rfl))) (by have := Nat.gcd_pos_of_pos_right x.toInt.natAbs hD0; omega)) ?_
    exact J_lret (pc := 23) hc hI dX3_partInLowestTerms_23 (by first | exact ⟨by rw [if_neg bq12], rfl⟩ | exact ⟨by rw [if_pos bq12], rfl⟩)
  · skip
    refine J_lloadn_0 (pc := 15) hc dX3_partInLowestTerms_15 ?_
    refine J_goto (pc := 16) hc 20 dX3_partInLowestTerms_16 (by decide) ?_
    refine J_lload_5 (pc := 20) hc dX3_partInLowestTerms_20 ?_
    refine J_ldiv (pc := 22) hc dX3_partInLowestTerms_22 (fun h => absurd ((pk_lEQ (by have := Nat.gcd_le_right x.toInt.natAbs hD0; omega) (by omega)).mp (h.trans (show (0 : Int64) = lN 0 from rfl))) (by have := Nat.gcd_pos_of_pos_right x.toInt.natAbs hD0; omega)) ?_
    exact J_lret (pc := 23) hc hI dX3_partInLowestTerms_23 (by first | exact ⟨by rw [if_neg bq12], rfl⟩ | exact ⟨by rw [if_pos bq12], rfl⟩)
set_option maxRecDepth 100000 in
set_option maxHeartbeats 4000000 in
theorem c_X3_pieces {l : Launch} {gg : zG} {σ : zS} {x y : Int32}  : zMi l gg yX3_pieces cX3_pieces .int 3 2 46 [.ref (zo gg), .int x, .int y] σ (fun r u => (¬ zpl x ∧ r = -2 ∧ u = σ) ∨ (zpl x ∧ ¬ (1 ≤ y.toInt ∧ y.toInt ≤ 16) ∧ r = -3 ∧ u = σ) ∨ (∃ k n, k < 6 ∧ x = nI k ∧ 1 ≤ n ∧ n ≤ 16 ∧ y = nI n ∧ r = 1 ∧ u = zc3 (ui σ k (nI n)) k (zfill n (fun _ => 0) (sa σ k)) (zfill n (fun _ => 0) (sa σ (7 + k))) (zfill n (fun _ => 0) (sa σ (14 + k))))) := by
  refine zM_i (own := RX3) (lv := [some (.ref (zo gg)), some (.int x), some (.int y)]) (by decide +kernel) rfl (Nat.le_of_ble_eq_true rfl) rfl (fun cx hc hR hI => ?_)
  refine J_iloadn_1 (pc := 0) hc dX3_pieces_0 ?_
  refine kX3_42 (pc := 1) hc hR dX3_pieces_1 (c_X3_isNoPlace) (by decide) (Nat.le_of_ble_eq_true rfl) rfl (fun r u hu => ?_)
  have hr := hu.1
  refine J_eq hu.2 ?_
  refine J_if_eq (pc := 4) hc 10 dX3_pieces_4 (by decide) (fun bq4 => ?_) (fun bq4 => ?_)
  · skip
    obtain ⟨k, hk, hxk⟩ := zpl_nI (Classical.not_not.mp (hr.f bq4))
    refine J_iloadn_2 (pc := 10) hc dX3_pieces_10 ?_
    refine J_iconst (pc := 11) hc dX3_pieces_11 (v := 1) (by decide) ?_
    refine J_icmp_lt (pc := 12) hc 21 dX3_pieces_12 (by decide) (fun bq12 => ?_) (fun bq12 => ?_)
    · skip
      refine J_bipush (pc := 21) hc dX3_pieces_21 (v := -3) (by decide) ?_
      exact J_iret (pc := 23) hc hI dX3_pieces_23 (Or.inr (Or.inl ⟨by rw [hxk]; exact zpl_k hk, by first | (rw [zi_le] at bq18; have h2 : (16 : Int32).toInt = 16 := rfl; omega) | (rw [zi_lt] at bq12; have h1 : (1 : Int32).toInt = 1 := rfl; omega), rfl, rfl⟩))
    · skip
      refine J_iloadn_2 (pc := 15) hc dX3_pieces_15 ?_
      refine J_bipush (pc := 16) hc dX3_pieces_16 (v := 16) (by decide) ?_
      refine J_icmp_le (pc := 18) hc 24 dX3_pieces_18 (by decide) (fun bq18 => ?_) (fun bq18 => ?_)
      · skip
        obtain ⟨n, hn1, hn2, hyn⟩ := zvI (x := y) (n := 16) (by rw [zi_lt] at bq12; rw [zi_le] at bq18; have h1 : (1 : Int32).toInt = 1 := rfl; have h2 : (16 : Int32).toInt = 16 := rfl; omega) (by omega)
        refine J_aloadn_0 (pc := 24) hc dX3_pieces_24 ?_
        refine gX3_11 (pc := 25) hc dX3_pieces_25 ?_
        refine J_iloadn_1 (pc := 28) hc dX3_pieces_28 ?_
        refine J_aald (pc := 29) hc dX3_pieces_29 hxk (by omega) ?_
        refine J_iloadn_2 (pc := 30) hc dX3_pieces_30 ?_
        refine kX3_46 (pc := 31) hc hR (by omega) dX3_pieces_31 (c_X0_becomeZero (by omega) hyn (by omega)) (by decide) (Nat.le_of_ble_eq_true rfl) rfl (fun u hu => ?_)
        refine J_eq hu ?_
        refine J_iconst (pc := 34) hc dX3_pieces_34 (v := 1) (by decide) ?_
        exact J_iret (pc := 35) hc hI dX3_pieces_35 (Or.inr (Or.inr ⟨k, n, hk, hxk, hn1, hn2, hyn, rfl, rfl⟩))
      · skip
        refine J_bipush (pc := 21) hc dX3_pieces_21 (v := -3) (by decide) ?_
        exact J_iret (pc := 23) hc hI dX3_pieces_23 (Or.inr (Or.inl ⟨by rw [hxk]; exact zpl_k hk, by first | (rw [zi_le] at bq18; have h2 : (16 : Int32).toInt = 16 := rfl; omega) | (rw [zi_lt] at bq12; have h1 : (1 : Int32).toInt = 1 := rfl; omega), rfl, rfl⟩))
  · skip
    refine J_bipush (pc := 7) hc dX3_pieces_7 (v := -2) (by decide) ?_
    exact J_iret (pc := 9) hc hI dX3_pieces_9 (Or.inl ⟨hr.t bq4, rfl, rfl⟩)
set_option maxRecDepth 100000 in
set_option maxHeartbeats 4000000 in
theorem c_X3_piece {l : Launch} {gg : zG} {σ : zS} {x y a b c : Int32} {N : Nat → Nat} (hz : zCv σ N) : zMi l gg yX3_piece cX3_piece .int 6 2 42 [.ref (zo gg), .int x, .int y, .int a, .int b, .int c] σ (fun r u => (¬ zpcs N x y ∧ r = -2 ∧ u = σ) ∨ (zpcs N x y ∧ ¬ (zcf a ∧ zcf b ∧ zcf c) ∧ r = -5 ∧ u = σ) ∨ ((zcf a ∧ zcf b ∧ zcf c) ∧ ∃ k i, k < 6 ∧ x = nI k ∧ i < N k ∧ y = nI i ∧ r = 1 ∧ u = zc3 σ k (upd (sa σ k) i a) (upd (sa σ (7 + k)) i b) (upd (sa σ (14 + k)) i c))) := by
  refine zM_i (own := RX3) (lv := [some (.ref (zo gg)), some (.int x), some (.int y), some (.int a), some (.int b), some (.int c)]) (by decide +kernel) rfl (Nat.le_of_ble_eq_true rfl) rfl (fun cx hc hR hI => ?_)
  refine J_aloadn_0 (pc := 0) hc dX3_piece_0 ?_
  refine J_iloadn_1 (pc := 1) hc dX3_piece_1 ?_
  refine J_iloadn_2 (pc := 2) hc dX3_piece_2 ?_
  refine kX3_50 (pc := 3) hc hR dX3_piece_3 (c_X3_isNoPiece hz) (by decide) (Nat.le_of_ble_eq_true rfl) rfl (fun r u hu => ?_)
  have hr := hu.1
  refine J_eq hu.2 ?_
  refine J_if_eq (pc := 6) hc 12 dX3_piece_6 (by decide) (fun bq6 => ?_) (fun bq6 => ?_)
  · skip
    have hpc := Classical.not_not.mp (hr.f bq6)
    obtain ⟨k, i, hk, hxk, hi, hyi⟩ := hpc
    have hzk := hz k hk
    refine J_iloadn_3 (pc := 12) hc dX3_piece_12 ?_
    refine nX3_54 (pc := 13) hc dX3_piece_13 ?_
    refine kX3_55 (pc := 15) hc hR dX3_piece_15 (c_X3_isBeyond) (by decide) (Nat.le_of_ble_eq_true rfl) rfl (fun r u hu => ?_)
    have hr := hu.1
    refine J_eq hu.2 ?_
    refine J_if_ne (pc := 18) hc 41 dX3_piece_18 (by decide) (fun bq18 => ?_) (fun bq18 => ?_)
    · skip
      refine J_bipush (pc := 41) hc dX3_piece_41 (v := -5) (by decide) ?_
      exact J_iret (pc := 43) hc hI dX3_piece_43 (Or.inr (Or.inl ⟨⟨k, i, hk, hxk, hi, hyi⟩, fun h => by first | exact (zbnd hr).t bq38 h.2.2 | exact (zbnd hr).t bq28 h.2.1 | exact (zbnd hr).t bq18 h.1, rfl, rfl⟩))
    · skip
      have h1 := Classical.not_not.mp ((zbnd hr).f bq18)
      refine J_iload_4 (pc := 21) hc dX3_piece_21 ?_
      refine nX3_54 (pc := 23) hc dX3_piece_23 ?_
      refine kX3_55 (pc := 25) hc hR dX3_piece_25 (c_X3_isBeyond) (by decide) (Nat.le_of_ble_eq_true rfl) rfl (fun r u hu => ?_)
      have hr := hu.1
      refine J_eq hu.2 ?_
      refine J_if_ne (pc := 28) hc 41 dX3_piece_28 (by decide) (fun bq28 => ?_) (fun bq28 => ?_)
      · skip
        refine J_bipush (pc := 41) hc dX3_piece_41 (v := -5) (by decide) ?_
        exact J_iret (pc := 43) hc hI dX3_piece_43 (Or.inr (Or.inl ⟨⟨k, i, hk, hxk, hi, hyi⟩, fun h => by first | exact (zbnd hr).t bq38 h.2.2 | exact (zbnd hr).t bq28 h.2.1 | exact (zbnd hr).t bq18 h.1, rfl, rfl⟩))
      · skip
        have h2 := Classical.not_not.mp ((zbnd hr).f bq28)
        refine J_iload_5 (pc := 31) hc dX3_piece_31 ?_
        refine nX3_54 (pc := 33) hc dX3_piece_33 ?_
        refine kX3_55 (pc := 35) hc hR dX3_piece_35 (c_X3_isBeyond) (by decide) (Nat.le_of_ble_eq_true rfl) rfl (fun r u hu => ?_)
        have hr := hu.1
        refine J_eq hu.2 ?_
        refine J_if_eq (pc := 38) hc 44 dX3_piece_38 (by decide) (fun bq38 => ?_) (fun bq38 => ?_)
        · skip
          have h3 := Classical.not_not.mp ((zbnd hr).f bq38)
          refine J_aloadn_0 (pc := 44) hc dX3_piece_44 ?_
          refine gX3_11 (pc := 45) hc dX3_piece_45 ?_
          refine J_iloadn_1 (pc := 48) hc dX3_piece_48 ?_
          refine J_aald (pc := 49) hc dX3_piece_49 hxk (by omega) ?_
          refine J_iloadn_2 (pc := 50) hc dX3_piece_50 ?_
          refine J_iloadn_3 (pc := 51) hc dX3_piece_51 ?_
          refine J_iload_4 (pc := 52) hc dX3_piece_52 ?_
          refine J_iload_5 (pc := 54) hc dX3_piece_54 ?_
          refine kX3_58 (pc := 56) hc hR (by omega) dX3_piece_56 (c_X0_put (by omega) hyi (by omega)) (by decide) (Nat.le_of_ble_eq_true rfl) rfl (fun u hu => ?_)
          refine J_eq hu ?_
          refine J_iconst (pc := 59) hc dX3_piece_59 (v := 1) (by decide) ?_
          exact J_iret (pc := 60) hc hI dX3_piece_60 (Or.inr (Or.inr ⟨⟨h1, h2, h3⟩, k, i, hk, hxk, hi, hyi, rfl, rfl⟩))
        · skip
          refine J_bipush (pc := 41) hc dX3_piece_41 (v := -5) (by decide) ?_
          exact J_iret (pc := 43) hc hI dX3_piece_43 (Or.inr (Or.inl ⟨⟨k, i, hk, hxk, hi, hyi⟩, fun h => by first | exact (zbnd hr).t bq38 h.2.2 | exact (zbnd hr).t bq28 h.2.1 | exact (zbnd hr).t bq18 h.1, rfl, rfl⟩))
  · skip
    have hpc := hr.t bq6
    refine J_bipush (pc := 9) hc dX3_piece_9 (v := -2) (by decide) ?_
    exact J_iret (pc := 11) hc hI dX3_piece_11 (Or.inl ⟨hpc, rfl, rfl⟩)
set_option maxRecDepth 100000 in
set_option maxHeartbeats 4000000 in
theorem c_X3_of {l : Launch} {gg : zG} {σ : zS} {x y w : Int32} {N : Nat → Nat} (hz : zCv σ N) : zMi l gg yX3_of cX3_of .int 4 2 42 [.ref (zo gg), .int x, .int y, .int w] σ (fun r u => u = σ ∧ ((¬ (zpcs N x y ∧ 0 ≤ w.toInt ∧ w.toInt ≤ 2) ∧ r = -2147483648) ∨ (∃ k i, k < 6 ∧ x = nI k ∧ i < N k ∧ y = nI i ∧ ((w = 0 ∧ r = sa σ k i) ∨ (w = 1 ∧ r = sa σ (7 + k) i) ∨ (w = 2 ∧ r = sa σ (14 + k) i))))) := by
  refine zM_i (own := RX3) (lv := [some (.ref (zo gg)), some (.int x), some (.int y), some (.int w)]) (by decide +kernel) rfl (Nat.le_of_ble_eq_true rfl) rfl (fun cx hc hR hI => ?_)
  refine J_aloadn_0 (pc := 0) hc dX3_of_0 ?_
  refine J_iloadn_1 (pc := 1) hc dX3_of_1 ?_
  refine J_iloadn_2 (pc := 2) hc dX3_of_2 ?_
  refine kX3_50 (pc := 3) hc hR dX3_of_3 (c_X3_isNoPiece hz) (by decide) (Nat.le_of_ble_eq_true rfl) rfl (fun r u hu => ?_)
  have hr := hu.1
  refine J_eq hu.2 ?_
  refine J_if_eq (pc := 6) hc 12 dX3_of_6 (by decide) (fun bq6 => ?_) (fun bq6 => ?_)
  · skip
    have hpc := Classical.not_not.mp (hr.f bq6)
    obtain ⟨k, i, hk, hxk, hi, hyi⟩ := hpc
    have hzk := hz k hk
    refine J_iloadn_3 (pc := 12) hc dX3_of_12 ?_
    refine J_tsw3 (pc := 13) hc 40 52 64 76 dX3_of_13 (by decide) (by decide) (by decide) (by decide) (fun bq13 => ?_) (fun bq13 => ?_) (fun bq13 => ?_) (fun bq13 => ?_)
    · skip
      refine J_aloadn_0 (pc := 40) hc dX3_of_40 ?_
      refine gX3_11 (pc := 41) hc dX3_of_41 ?_
      refine J_iloadn_1 (pc := 44) hc dX3_of_44 ?_
      refine J_aald (pc := 45) hc dX3_of_45 hxk (by omega) ?_
      refine gX3_63 (pc := 46) hc (by omega) dX3_of_46 ?_
      refine J_iloadn_2 (pc := 49) hc dX3_of_49 ?_
      refine J_iald (pc := 50) hc 16 (by omega) (zlen_c (by omega)) dX3_of_50 hyi (by omega) ?_
      exact J_iret (pc := 51) hc hI dX3_of_51 ⟨rfl, Or.inr ⟨k, i, hk, hxk, hi, hyi, Or.inl ⟨bq13, rfl⟩⟩⟩
    · skip
      refine J_aloadn_0 (pc := 52) hc dX3_of_52 ?_
      refine gX3_11 (pc := 53) hc dX3_of_53 ?_
      refine J_iloadn_1 (pc := 56) hc dX3_of_56 ?_
      refine J_aald (pc := 57) hc dX3_of_57 hxk (by omega) ?_
      refine gX3_66 (pc := 58) hc (by omega) dX3_of_58 ?_
      refine J_iloadn_2 (pc := 61) hc dX3_of_61 ?_
      refine J_iald (pc := 62) hc 16 (by omega) (zlen_c (by omega)) dX3_of_62 hyi (by omega) ?_
      exact J_iret (pc := 63) hc hI dX3_of_63 ⟨rfl, Or.inr ⟨k, i, hk, hxk, hi, hyi, Or.inr (Or.inl ⟨bq13, rfl⟩)⟩⟩
    · skip
      refine J_aloadn_0 (pc := 64) hc dX3_of_64 ?_
      refine gX3_11 (pc := 65) hc dX3_of_65 ?_
      refine J_iloadn_1 (pc := 68) hc dX3_of_68 ?_
      refine J_aald (pc := 69) hc dX3_of_69 hxk (by omega) ?_
      refine gX3_69 (pc := 70) hc (by omega) dX3_of_70 ?_
      refine J_iloadn_2 (pc := 73) hc dX3_of_73 ?_
      refine J_iald (pc := 74) hc 16 (by omega) (zlen_c (by omega)) dX3_of_74 hyi (by omega) ?_
      exact J_iret (pc := 75) hc hI dX3_of_75 ⟨rfl, Or.inr ⟨k, i, hk, hxk, hi, hyi, Or.inr (Or.inr ⟨bq13, rfl⟩)⟩⟩
    · skip
      refine nX3_62 (pc := 76) hc dX3_of_76 ?_
      exact J_iret (pc := 78) hc hI dX3_of_78 ⟨rfl, Or.inl ⟨fun h => bq13 h.2, rfl⟩⟩
  · skip
    have hpc := hr.t bq6
    refine nX3_62 (pc := 9) hc dX3_of_9 ?_
    exact J_iret (pc := 11) hc hI dX3_of_11 ⟨rfl, Or.inl ⟨fun h => hpc h.1, rfl⟩⟩
set_option maxRecDepth 100000 in
set_option maxHeartbeats 4000000 in
theorem c_X3_join {l : Launch} {gg : zG} {σ : zS} {x y : Int32} {N : Nat → Nat} (hz : zCv σ N) : zMi l gg yX3_join cX3_join .int 3 2 43 [.ref (zo gg), .int x, .int y] σ (fun r u => u = σ ∧ ((¬ (∃ k i, k < 6 ∧ x = nI k ∧ 1 ≤ i ∧ i < N k ∧ y = nI i) ∧ r = -2) ∨ (∃ k i, k < 6 ∧ x = nI k ∧ 1 ≤ i ∧ i < N k ∧ y = nI i ∧ r = zjn σ k i))) := by
  refine zM_i (own := RX3) (lv := [some (.ref (zo gg)), some (.int x), some (.int y)]) (by decide +kernel) rfl (Nat.le_of_ble_eq_true rfl) rfl (fun cx hc hR hI => ?_)
  refine J_iloadn_1 (pc := 0) hc dX3_join_0 ?_
  refine kX3_42 (pc := 1) hc hR dX3_join_1 (c_X3_isNoPlace) (by decide) (Nat.le_of_ble_eq_true rfl) rfl (fun r u hu => ?_)
  have hr := hu.1
  refine J_eq hu.2 ?_
  refine J_if_ne (pc := 4) hc 25 dX3_join_4 (by decide) (fun bq4 => ?_) (fun bq4 => ?_)
  · skip
    have hnp := hr.t bq4
    refine J_bipush (pc := 25) hc dX3_join_25 (v := -2) (by decide) ?_
    exact J_iret (pc := 27) hc hI dX3_join_27 ⟨rfl, Or.inl ⟨by first | exact (fun ⟨k, i, h1, h2, _⟩ => hnp (by rw [h2]; exact zpl_k h1)) | exact (fun ⟨k2, i, h1, h2, h3, h4, h5⟩ => by have := (hz k2 h1).2.1; rw [h5, zi_lt, nI_toInt (by omega)] at bq9; have h1 : (1 : Int32).toInt = 1 := rfl; omega) | exact (fun ⟨k2, i, h1, h2, h3, h4, h5⟩ => by have e : k = k2 := (nI_eq (by omega) (by omega)).mp (hxk.symm.trans h2); subst e; rw [h5, hzk.2.2.1, nI_ltI (by omega) (by omega)] at bq22; exact bq22 h4), rfl⟩⟩
  · skip
    obtain ⟨k, hk, hxk⟩ := zpl_nI (Classical.not_not.mp (hr.f bq4))
    have hzk := hz k hk
    refine J_iloadn_2 (pc := 7) hc dX3_join_7 ?_
    refine J_iconst (pc := 8) hc dX3_join_8 (v := 1) (by decide) ?_
    refine J_icmp_lt (pc := 9) hc 25 dX3_join_9 (by decide) (fun bq9 => ?_) (fun bq9 => ?_)
    · skip
      refine J_bipush (pc := 25) hc dX3_join_25 (v := -2) (by decide) ?_
      exact J_iret (pc := 27) hc hI dX3_join_27 ⟨rfl, Or.inl ⟨by first | exact (fun ⟨k, i, h1, h2, _⟩ => hnp (by rw [h2]; exact zpl_k h1)) | exact (fun ⟨k2, i, h1, h2, h3, h4, h5⟩ => by have := (hz k2 h1).2.1; rw [h5, zi_lt, nI_toInt (by omega)] at bq9; have h1 : (1 : Int32).toInt = 1 := rfl; omega) | exact (fun ⟨k2, i, h1, h2, h3, h4, h5⟩ => by have e : k = k2 := (nI_eq (by omega) (by omega)).mp (hxk.symm.trans h2); subst e; rw [h5, hzk.2.2.1, nI_ltI (by omega) (by omega)] at bq22; exact bq22 h4), rfl⟩⟩
    · skip
      refine J_iloadn_2 (pc := 12) hc dX3_join_12 ?_
      refine J_aloadn_0 (pc := 13) hc dX3_join_13 ?_
      refine gX3_11 (pc := 14) hc dX3_join_14 ?_
      refine J_iloadn_1 (pc := 17) hc dX3_join_17 ?_
      refine J_aald (pc := 18) hc dX3_join_18 hxk (by omega) ?_
      refine gX3_77 (pc := 19) hc (by omega) dX3_join_19 ?_
      refine J_icmp_lt (pc := 22) hc 28 dX3_join_22 (by decide) (fun bq22 => ?_) (fun bq22 => ?_)
      · skip
        rw [hzk.2.2.1] at bq22
        obtain ⟨i, hi1, hi2, hyi⟩ := zvI (x := y) (n := N k - 1) (by have q2 := zi_lt.mp bq22; rw [nI_toInt (by omega)] at q2; rw [zi_lt] at bq9; have h1 : (1 : Int32).toInt = 1 := rfl; omega) (by omega)
        refine J_aloadn_0 (pc := 28) hc dX3_join_28 ?_
        refine gX3_11 (pc := 29) hc dX3_join_29 ?_
        refine J_iloadn_1 (pc := 32) hc dX3_join_32 ?_
        refine J_aald (pc := 33) hc dX3_join_33 hxk (by omega) ?_
        refine J_iloadn_2 (pc := 34) hc dX3_join_34 ?_
        refine kX3_90 (pc := 35) hc hR (by omega) dX3_join_35 (c_X0_joinAt (by omega) hyi (by omega) (by omega)) (by decide) (Nat.le_of_ble_eq_true rfl) rfl (fun r u hu => ?_)
        refine J_eq hu.2 (J_topi hu.1 ?_)
        exact J_iret (pc := 38) hc hI dX3_join_38 ⟨rfl, Or.inr ⟨k, i, hk, hxk, hi1, by omega, hyi, rfl⟩⟩
      · skip
        refine J_bipush (pc := 25) hc dX3_join_25 (v := -2) (by decide) ?_
        exact J_iret (pc := 27) hc hI dX3_join_27 ⟨rfl, Or.inl ⟨by first | exact (fun ⟨k, i, h1, h2, _⟩ => hnp (by rw [h2]; exact zpl_k h1)) | exact (fun ⟨k2, i, h1, h2, h3, h4, h5⟩ => by have := (hz k2 h1).2.1; rw [h5, zi_lt, nI_toInt (by omega)] at bq9; have h1 : (1 : Int32).toInt = 1 := rfl; omega) | exact (fun ⟨k2, i, h1, h2, h3, h4, h5⟩ => by have e : k = k2 := (nI_eq (by omega) (by omega)).mp (hxk.symm.trans h2); subst e; rw [h5, hzk.2.2.1, nI_ltI (by omega) (by omega)] at bq22; exact bq22 h4), rfl⟩⟩
set_option maxRecDepth 100000 in
set_option maxHeartbeats 4000000 in
theorem c_X3_has {l : Launch} {gg : zG} {σ : zS} {x y : Int32} {N : Nat → Nat} (hz : zCv σ N) : zMi l gg yX3_has cX3_has .int 5 3 65 [.ref (zo gg), .int x, .int y] σ (fun r u => u = σ ∧ ((¬ zpl x ∧ r = -2) ∨ (zpl x ∧ ¬ (1 ≤ y.toInt ∧ y.toInt ≤ 4) ∧ r = -3) ∨ ((1 ≤ y.toInt ∧ y.toInt ≤ 4) ∧ ∃ k, k < 6 ∧ x = nI k ∧ (((y = 3 ∨ y = 4) ∧ zb r (∀ i, i < N k → zbuP σ k (if y = 2 ∨ y = 4 then -1 else 1) i)) ∨ (¬ (y = 3 ∨ y = 4) ∧ zb r (∀ i, i < N k → zriP σ k (if y = 2 ∨ y = 4 then -1 else 1) i)))))) := by
  refine zM_i (own := RX3) (lv := [some (.ref (zo gg)), some (.int x), some (.int y), none, none]) (by decide +kernel) rfl (Nat.le_of_ble_eq_true rfl) rfl (fun cx hc hR hI => ?_)
  refine J_iloadn_1 (pc := 0) hc dX3_has_0 ?_
  refine kX3_42 (pc := 1) hc hR dX3_has_1 (c_X3_isNoPlace) (by decide) (Nat.le_of_ble_eq_true rfl) rfl (fun r u hu => ?_)
  have hr := hu.1
  refine J_eq hu.2 ?_
  refine J_if_eq (pc := 4) hc 10 dX3_has_4 (by decide) (fun bq4 => ?_) (fun bq4 => ?_)
  · skip
    obtain ⟨k, hk, hxk⟩ := zpl_nI (Classical.not_not.mp (hr.f bq4))
    have hzk := hz k hk
    refine J_iloadn_2 (pc := 10) hc dX3_has_10 ?_
    refine J_iconst (pc := 11) hc dX3_has_11 (v := 1) (by decide) ?_
    refine J_icmp_lt (pc := 12) hc 20 dX3_has_12 (by decide) (fun bq12 => ?_) (fun bq12 => ?_)
    · skip
      refine J_bipush (pc := 20) hc dX3_has_20 (v := -3) (by decide) ?_
      exact J_iret (pc := 22) hc hI dX3_has_22 ⟨rfl, Or.inr (Or.inl ⟨by rw [hxk]; exact zpl_k hk, by first | (rw [zi_le] at bq17; have h2 : (4 : Int32).toInt = 4 := rfl; omega) | (rw [zi_lt] at bq12; have h1 : (1 : Int32).toInt = 1 := rfl; omega), rfl⟩)⟩
    · skip
      refine J_iloadn_2 (pc := 15) hc dX3_has_15 ?_
      refine J_iconst (pc := 16) hc dX3_has_16 (v := 4) (by decide) ?_
      refine J_icmp_le (pc := 17) hc 23 dX3_has_17 (by decide) (fun bq17 => ?_) (fun bq17 => ?_)
      · skip
        have hy14 : 1 ≤ y.toInt ∧ y.toInt ≤ 4 := by rw [zi_lt] at bq12; rw [zi_le] at bq17; have h1 : (1 : Int32).toInt = 1 := rfl; have h2 : (4 : Int32).toInt = 4 := rfl; omega
        refine J_iloadn_2 (pc := 23) hc dX3_has_23 ?_
        refine kX3_94 (pc := 24) hc hR dX3_has_24 (c_X3_signOfShape) (by decide) (Nat.le_of_ble_eq_true rfl) rfl (fun r u hu => ?_)
        refine J_eq hu.2 (J_topi hu.1 ?_)
        refine J_istoren_3 (pc := 27) hc dX3_has_27 rfl ?_
        refine J_iloadn_2 (pc := 28) hc dX3_has_28 ?_
        refine kX3_97 (pc := 29) hc hR dX3_has_29 (c_X3_isBent) (by decide) (Nat.le_of_ble_eq_true rfl) rfl (fun r u hu => ?_)
        have hr := hu.1
        refine J_eq hu.2 ?_
        refine J_if_eq (pc := 32) hc 48 dX3_has_32 (by decide) (fun bq32 => ?_) (fun bq32 => ?_)
        · skip
          have hb := hr.f bq32
          refine J_aloadn_0 (pc := 48) hc dX3_has_48 ?_
          refine gX3_11 (pc := 49) hc dX3_has_49 ?_
          refine J_iloadn_1 (pc := 52) hc dX3_has_52 ?_
          refine J_aald (pc := 53) hc dX3_has_53 hxk (by omega) ?_
          refine J_iloadn_3 (pc := 54) hc dX3_has_54 ?_
          refine kX3_103 (pc := 55) hc hR (by omega) dX3_has_55 (c_X0_isRising (by omega) hzk.2.2.1 (by omega)) (by decide) (Nat.le_of_ble_eq_true rfl) rfl (fun r u hu => ?_)
          have hr := hu.1
          refine J_eq hu.2 ?_
          refine J_istore_4 (pc := 58) hc dX3_has_58 rfl ?_
          refine J_iload_4 (pc := 60) hc dX3_has_60 ?_
          refine J_if_eq (pc := 62) hc 69 dX3_has_62 (by decide) (fun bq62 => ?_) (fun bq62 => ?_)
          · skip
            refine J_iconst (pc := 69) hc dX3_has_69 (v := 0) (by decide) ?_
            exact J_iret (pc := 70) hc hI dX3_has_70 ⟨rfl, Or.inr (Or.inr ⟨hy14, k, hk, hxk, by first | exact Or.inl ⟨hb, zb_0 (hr.f bq62)⟩ | exact Or.inl ⟨hb, zb_1 (hr.t bq62)⟩ | exact Or.inr ⟨hb, zb_0 (hr.f bq62)⟩ | exact Or.inr ⟨hb, zb_1 (hr.t bq62)⟩⟩)⟩
          · skip
            refine J_iconst (pc := 65) hc dX3_has_65 (v := 1) (by decide) ?_
            refine J_goto (pc := 66) hc 70 dX3_has_66 (by decide) ?_
            exact J_iret (pc := 70) hc hI dX3_has_70 ⟨rfl, Or.inr (Or.inr ⟨hy14, k, hk, hxk, by first | exact Or.inl ⟨hb, zb_0 (hr.f bq62)⟩ | exact Or.inl ⟨hb, zb_1 (hr.t bq62)⟩ | exact Or.inr ⟨hb, zb_0 (hr.f bq62)⟩ | exact Or.inr ⟨hb, zb_1 (hr.t bq62)⟩⟩)⟩
        · skip
          have hb := hr.t bq32
          refine J_aloadn_0 (pc := 35) hc dX3_has_35 ?_
          refine gX3_11 (pc := 36) hc dX3_has_36 ?_
          refine J_iloadn_1 (pc := 39) hc dX3_has_39 ?_
          refine J_aald (pc := 40) hc dX3_has_40 hxk (by omega) ?_
          refine J_iloadn_3 (pc := 41) hc dX3_has_41 ?_
          refine kX3_100 (pc := 42) hc hR (by omega) dX3_has_42 (c_X0_isBentUp (by omega) hzk.2.2.1 (by omega)) (by decide) (Nat.le_of_ble_eq_true rfl) rfl (fun r u hu => ?_)
          have hr := hu.1
          refine J_eq hu.2 ?_
          refine J_goto (pc := 45) hc 58 dX3_has_45 (by decide) ?_
          refine J_istore_4 (pc := 58) hc dX3_has_58 rfl ?_
          refine J_iload_4 (pc := 60) hc dX3_has_60 ?_
          refine J_if_eq (pc := 62) hc 69 dX3_has_62 (by decide) (fun bq62 => ?_) (fun bq62 => ?_)
          · skip
            refine J_iconst (pc := 69) hc dX3_has_69 (v := 0) (by decide) ?_
            exact J_iret (pc := 70) hc hI dX3_has_70 ⟨rfl, Or.inr (Or.inr ⟨hy14, k, hk, hxk, by first | exact Or.inl ⟨hb, zb_0 (hr.f bq62)⟩ | exact Or.inl ⟨hb, zb_1 (hr.t bq62)⟩ | exact Or.inr ⟨hb, zb_0 (hr.f bq62)⟩ | exact Or.inr ⟨hb, zb_1 (hr.t bq62)⟩⟩)⟩
          · skip
            refine J_iconst (pc := 65) hc dX3_has_65 (v := 1) (by decide) ?_
            refine J_goto (pc := 66) hc 70 dX3_has_66 (by decide) ?_
            exact J_iret (pc := 70) hc hI dX3_has_70 ⟨rfl, Or.inr (Or.inr ⟨hy14, k, hk, hxk, by first | exact Or.inl ⟨hb, zb_0 (hr.f bq62)⟩ | exact Or.inl ⟨hb, zb_1 (hr.t bq62)⟩ | exact Or.inr ⟨hb, zb_0 (hr.f bq62)⟩ | exact Or.inr ⟨hb, zb_1 (hr.t bq62)⟩⟩)⟩
      · skip
        refine J_bipush (pc := 20) hc dX3_has_20 (v := -3) (by decide) ?_
        exact J_iret (pc := 22) hc hI dX3_has_22 ⟨rfl, Or.inr (Or.inl ⟨by rw [hxk]; exact zpl_k hk, by first | (rw [zi_le] at bq17; have h2 : (4 : Int32).toInt = 4 := rfl; omega) | (rw [zi_lt] at bq12; have h1 : (1 : Int32).toInt = 1 := rfl; omega), rfl⟩)⟩
  · skip
    have hnp := hr.t bq4
    refine J_bipush (pc := 7) hc dX3_has_7 (v := -2) (by decide) ?_
    exact J_iret (pc := 9) hc hI dX3_has_9 ⟨rfl, Or.inl ⟨hnp, rfl⟩⟩
