/-- what countZeros and keepDraft say -/
def zCZ (σ : zS) (k n : Nat) (r : Int32) (u : zS) : Prop := ((∃ i, i < n ∧ zzP σ k i) ∧ r = -4 ∧ u = σ) ∨ ((¬ ∃ i, i < n ∧ zzP σ k i) ∧ r = nI (zbl (zcoI σ k) (zcoI σ (7 + k)) (zcoI σ (14 + k)) n n).length ∧ ∃ w, u = zfs σ (zbl (zcoI σ k) (zcoI σ (7 + k)) (zcoI σ (14 + k)) n n) w)
def zKD (σ : zS) (k n : Nat) (r : Int32) (u : zS) : Prop := (¬ (∀ i, i < n → zbdP σ 6 i) ∧ r = -5 ∧ u = σ) ∨ ((∀ i, i < n → zbdP σ 6 i) ∧ r = 1 ∧ u = zc3 (ui σ k (nI n)) k (zfill n (sa σ 6) (sa σ k)) (zfill n (sa σ (7 + 6)) (sa σ (7 + k))) (zfill n (sa σ (14 + 6)) (sa σ (14 + k))))
def zmx (σ : zS) (f h : Nat) (p q : Int32) (n : Nat) : zS := (zc3 (ui σ 6 (nI n)) 6 (zfill n (fun i => p * sa σ f i + q * sa σ h i) (sa σ 6)) (zfill n (fun i => p * sa σ (7 + f) i + q * sa σ (7 + h) i) (sa σ (7 + 6))) (zfill n (fun i => p * sa σ (14 + f) i + q * sa σ (14 + h) i) (sa σ (14 + 6))))
def zsd (σ : zS) (j n : Nat) : zS := (zc3 (ui σ 6 (nI n)) 6 (zfill n (sa σ (7 + j)) (sa σ 6)) (zfill n (fun i => 2 * sa σ (14 + j) i) (sa σ (7 + 6))) (zfill n (fun _ => 0) (sa σ (14 + 6))))
def zpu (σ : zS) (j n : Nat) (v : Int32) : zS := (zc3 (ui σ 6 (nI n)) 6 (zfill n (fun i => sa σ j i + v) (sa σ 6)) (zfill n (sa σ (7 + j)) (sa σ (7 + 6))) (zfill n (sa σ (14 + j)) (sa σ (14 + 6))))
def zrf (σ : zS) (j n : Nat) : zS := (zc3 (ui σ 6 (nI (2 * n))) 6 (zfill (2 * n) (zrA σ j) (sa σ 6)) (zfill (2 * n) (zrB σ j) (sa σ (7 + 6))) (zfill (2 * n) (zrC σ j) (sa σ (14 + 6))))
def zfsl (σ : zS) (x : Int32) (m : Nat) : zS := if x = 0 then zrg (zspl σ 0 (m - 1)) (-1000, 1000) else zrg (zspl σ 0 (m - 1)) (zrgs (zspl σ 0 (m - 1)) x (if x = 2 ∨ x = 4 then -1 else 1) (m - 1))
def zszz (u : zS) : Int32 := if 0 < si u 10 - si u 9 + 1 then si u 10 - si u 9 + 1 else 0
def zslv (u : zS) (w : Int32) : Int32 := if w = 2 then zszz u else if zszz u = 0 then 2000 else if w = 0 then si u 9 else si u 10
def zlb (u : zS) (n : Nat) : Int32 := -zfdI (nI n - 2 * zsum u n) (2 * nI n)
def zbsv (u : zS) (n : Nat) : Int32 := if zszz u = 0 then 2000 else (if si u 9 < (if zlb u n < si u 10 then zlb u n else si u 10) then (if zlb u n < si u 10 then zlb u n else si u 10) else si u 9)
def zbsum (u : zS) : Nat → Int64
  | 0 => 0
  | i + 1 => zbsum u i + (sa u (14 + 6) i).toInt64 * (sa u (14 + 6) i).toInt64
theorem ztb {c s : Int32} (h : zcf c) (hs : s = 1 ∨ s = -1) : -1000000 ≤ (s * c).toInt64.toInt := by
  have hb := h.b
  have h1 : zbd s.toInt 1 := by rcases hs with rfl | rfl <;> (unfold zbd; decide)
  rw [Int32.toInt_toInt64, zIm h1 hb (by decide)]
  have := (h1.mul hb).lo
  omega
theorem zn4 {n : Nat} (h : n < 2 ^ 31) : ¬ nI n = -4 := by
  rw [zi_eq, nI_toInt h, show (-4 : Int32).toInt = -4 by decide]; omega
theorem zb200 {σ : zS} {k n : Nat} (h : ∀ i, i < n → zbdP σ k i) : ∀ i, i < n → zbd (sa σ k i).toInt 200000 ∧ zbd (sa σ (7 + k) i).toInt 200000 ∧ zbd (sa σ (14 + k) i).toInt 200000 :=
  fun i hi => ⟨(h i hi).1.b.le (by decide), (h i hi).2.1.b.le (by decide), (h i hi).2.2.b.le (by decide)⟩
theorem zdif {x y : Int32} (h : zcf x) (h2 : zcf y) : zbd (1 * x + -1 * y).toInt 200000 := by
  have b1 : zbd (1 : Int32).toInt 1 := by unfold zbd; decide
  have b2 : zbd (-1 : Int32).toInt 1 := by unfold zbd; decide
  have e1 := zIm b1 h.b (by decide)
  have e2 := zIm b2 h2.b (by decide)
  have c1 : zbd (1 * x).toInt 100000 := by rw [e1]; exact (b1.mul h.b).le (by decide)
  have c2 : zbd (-1 * y).toInt 100000 := by rw [e2]; exact (b2.mul h2.b).le (by decide)
  rw [zIa c1 c2 (by decide)]
  exact (c1.add c2).le (by decide)
theorem zmx_b {σ : zS} {f h n : Nat} (hf : ∀ i, i < n → zbdP σ f i) (hh : ∀ i, i < n → zbdP σ h i) : ∀ i, i < n → zbd (sa (zmx σ f h 1 (-1) n) 6 i).toInt 200000 ∧ zbd (sa (zmx σ f h 1 (-1) n) (7 + 6) i).toInt 200000 ∧ zbd (sa (zmx σ f h 1 (-1) n) (14 + 6) i).toInt 200000 := by
  intro i hi
  unfold zmx
  rw [sa_zc3_a, sa_zc3_b, sa_zc3_c, zfill_in _ _ hi, zfill_in _ _ hi, zfill_in _ _ hi]
  exact ⟨zdif (hf i hi).1 (hh i hi).1, zdif (hf i hi).2.1 (hh i hi).2.1, zdif (hf i hi).2.2 (hh i hi).2.2⟩
theorem zi16 {x : Int32} : (-(1000 : Int32)).toInt = -1000 ∧ (1000 : Int32).toInt = 1000 ∧ (-(100 : Int32)).toInt = -100 ∧ (100 : Int32).toInt = 100 := by decide
set_option maxRecDepth 100000 in
set_option maxHeartbeats 4000000 in
theorem c_X3_end {l : Launch} {gg : zG} {σ : zS} {x w : Int32} {N : Nat → Nat} (hz : zCv σ N) : zMi l gg yX3_end cX3_end .int 3 3 76 [.ref (zo gg), .int x, .int w] σ (fun r u => u = σ ∧ ((¬ (zpl x ∧ (w = 0 ∨ w = 1)) ∧ r = -2147483648) ∨ (∃ k, k < 6 ∧ x = nI k ∧ ((w = 0 ∧ r = (zTop σ k 1 (N k - 1)).toInt32) ∨ (w = 1 ∧ r = (-(zTop σ k (-1) (N k - 1))).toInt32))))) := by
  refine zM_i (own := RX3) (lv := [some (.ref (zo gg)), some (.int x), some (.int w)]) (by decide +kernel) rfl (Nat.le_of_ble_eq_true rfl) rfl (fun cx hc hR hI => ?_)
  refine J_iloadn_1 (pc := 0) hc dX3_end_0 ?_
  refine kX3_42 (pc := 1) hc hR dX3_end_1 (c_X3_isNoPlace) (by decide) (Nat.le_of_ble_eq_true rfl) rfl (fun r u hu => ?_)
  have hr := hu.1
  refine J_eq hu.2 ?_
  refine J_if_eq (pc := 4) hc 10 dX3_end_4 (by decide) (fun bq4 => ?_) (fun bq4 => ?_)
  · skip
    obtain ⟨k, hk, hxk⟩ := zpl_nI (Classical.not_not.mp (hr.f bq4))
    have hzk := hz k hk
    refine J_iloadn_2 (pc := 10) hc dX3_end_10 ?_
    refine J_lsw2 (pc := 11) hc 36 48 61 dX3_end_11 (by decide) (by decide) (by decide) (fun bq11 => ?_) (fun bq11 => ?_) (fun bq11 cb11 => ?_)
    · skip
      refine J_aloadn_0 (pc := 36) hc dX3_end_36 ?_
      refine gX3_11 (pc := 37) hc dX3_end_37 ?_
      refine J_iloadn_1 (pc := 40) hc dX3_end_40 ?_
      refine J_aald (pc := 41) hc dX3_end_41 hxk (by omega) ?_
      refine J_iconst (pc := 42) hc dX3_end_42 (v := 1) (by decide) ?_
      refine kX3_106 (pc := 43) hc hR (by omega) dX3_end_43 (c_X0_top (by omega) hzk.2.2.1 (by omega) (by omega) (fun i hi => ztb (hzk.2.2.2 i hi).2.2 (Or.inl rfl))) (by decide) (Nat.le_of_ble_eq_true rfl) rfl (fun r u hu => ?_)
      refine J_eq hu.2 (J_topl hu.1 ?_)
      refine J_l2i (pc := 46) hc dX3_end_46 ?_
      exact J_iret (pc := 47) hc hI dX3_end_47 ⟨rfl, Or.inr ⟨k, hk, hxk, Or.inl ⟨bq11, rfl⟩⟩⟩
    · skip
      refine J_aloadn_0 (pc := 48) hc dX3_end_48 ?_
      refine gX3_11 (pc := 49) hc dX3_end_49 ?_
      refine J_iloadn_1 (pc := 52) hc dX3_end_52 ?_
      refine J_aald (pc := 53) hc dX3_end_53 hxk (by omega) ?_
      refine J_iconst (pc := 54) hc dX3_end_54 (v := -1) (by decide) ?_
      refine kX3_106 (pc := 55) hc hR (by omega) dX3_end_55 (c_X0_top (by omega) hzk.2.2.1 (by omega) (by omega) (fun i hi => ztb (hzk.2.2.2 i hi).2.2 (Or.inr rfl))) (by decide) (Nat.le_of_ble_eq_true rfl) rfl (fun r u hu => ?_)
      refine J_eq hu.2 (J_topl hu.1 ?_)
      refine J_lneg (pc := 58) hc dX3_end_58 ?_
      refine J_l2i (pc := 59) hc dX3_end_59 ?_
      exact J_iret (pc := 60) hc hI dX3_end_60 ⟨rfl, Or.inr ⟨k, hk, hxk, Or.inr ⟨bq11, rfl⟩⟩⟩
    · skip
      refine nX3_62 (pc := 61) hc dX3_end_61 ?_
      exact J_iret (pc := 63) hc hI dX3_end_63 ⟨rfl, Or.inl ⟨fun h => h.2.elim bq11 cb11, rfl⟩⟩
  · skip
    have hnp := hr.t bq4
    refine nX3_62 (pc := 7) hc dX3_end_7 ?_
    exact J_iret (pc := 9) hc hI dX3_end_9 ⟨rfl, Or.inl ⟨fun h => hnp h.1, rfl⟩⟩
set_option maxRecDepth 100000 in
set_option maxHeartbeats 4000000 in
theorem c_X3_zeros {l : Launch} {gg : zG} {σ : zS} {x : Int32} {N : Nat → Nat} (hz : zCv σ N) : zMi l gg yX3_zeros cX3_zeros .int 2 6 140 [.ref (zo gg), .int x] σ (fun r u => (¬ zpl x ∧ r = -2 ∧ u = σ) ∨ (∃ k, k < 6 ∧ x = nI k ∧ zCZ σ k (N k) r u)) := by
  refine zM_i (own := RX3) (lv := [some (.ref (zo gg)), some (.int x)]) (by decide +kernel) rfl (Nat.le_of_ble_eq_true rfl) rfl (fun cx hc hR hI => ?_)
  refine J_iloadn_1 (pc := 0) hc dX3_zeros_0 ?_
  refine kX3_42 (pc := 1) hc hR dX3_zeros_1 (c_X3_isNoPlace) (by decide) (Nat.le_of_ble_eq_true rfl) rfl (fun r u hu => ?_)
  have hr := hu.1
  refine J_eq hu.2 ?_
  refine J_if_eq (pc := 4) hc 10 dX3_zeros_4 (by decide) (fun bq4 => ?_) (fun bq4 => ?_)
  · skip
    obtain ⟨k, hk, hxk⟩ := zpl_nI (Classical.not_not.mp (hr.f bq4))
    have hzk := hz k hk
    refine J_aloadn_0 (pc := 10) hc dX3_zeros_10 ?_
    refine J_aloadn_0 (pc := 11) hc dX3_zeros_11 ?_
    refine gX3_11 (pc := 12) hc dX3_zeros_12 ?_
    refine J_iloadn_1 (pc := 15) hc dX3_zeros_15 ?_
    refine J_aald (pc := 16) hc dX3_zeros_16 hxk (by omega) ?_
    refine kX3_110 (pc := 17) hc hR dX3_zeros_17 (c_X3_countZeros (by omega) hzk.2.2.1 (by omega) (zb200 hzk.2.2.2)) (by decide) (Nat.le_of_ble_eq_true rfl) rfl (fun r u hu => ?_)
    exact J_iret (pc := 20) hc hI dX3_zeros_20 (Or.inr ⟨k, hk, hxk, hu⟩)
  · skip
    have hnp := hr.t bq4
    refine J_bipush (pc := 7) hc dX3_zeros_7 (v := -2) (by decide) ?_
    exact J_iret (pc := 9) hc hI dX3_zeros_9 (Or.inl ⟨hnp, rfl, rfl⟩)
set_option maxRecDepth 100000 in
set_option maxHeartbeats 4000000 in
theorem c_X3_zero {l : Launch} {gg : zG} {σ : zS} {x y : Int32} {N : Nat → Nat} (hz : zCv σ N) : zMi l gg yX3_zero cX3_zero .int 4 6 140 [.ref (zo gg), .int x, .int y] σ (fun r u => (¬ zpl x ∧ r = -2 ∧ u = σ) ∨ (∃ k, k < 6 ∧ x = nI k ∧ (((∃ i, i < N k ∧ zzP σ k i) ∧ r = -4 ∧ u = σ) ∨ ((¬ ∃ i, i < N k ∧ zzP σ k i) ∧ (∃ w, u = zfs σ (zbl (zcoI σ k) (zcoI σ (7 + k)) (zcoI σ (14 + k)) (N k) (N k)) w) ∧ ((∃ j, j < (zbl (zcoI σ k) (zcoI σ (7 + k)) (zcoI σ (14 + k)) (N k) (N k)).length ∧ y = nI j ∧ r = nI ((zbl (zcoI σ k) (zcoI σ (7 + k)) (zcoI σ (14 + k)) (N k) (N k)).getD j 0)) ∨ (¬ (0 ≤ y.toInt ∧ y.toInt < (zbl (zcoI σ k) (zcoI σ (7 + k)) (zcoI σ (14 + k)) (N k) (N k)).length) ∧ r = -2)))))) := by
  refine zM_i (own := RX3) (lv := [some (.ref (zo gg)), some (.int x), some (.int y), none]) (by decide +kernel) rfl (Nat.le_of_ble_eq_true rfl) rfl (fun cx hc hR hI => ?_)
  refine J_iloadn_1 (pc := 0) hc dX3_zero_0 ?_
  refine kX3_42 (pc := 1) hc hR dX3_zero_1 (c_X3_isNoPlace) (by decide) (Nat.le_of_ble_eq_true rfl) rfl (fun r u hu => ?_)
  have hr := hu.1
  refine J_eq hu.2 ?_
  refine J_if_eq (pc := 4) hc 10 dX3_zero_4 (by decide) (fun bq4 => ?_) (fun bq4 => ?_)
  · skip
    obtain ⟨k, hk, hxk⟩ := zpl_nI (Classical.not_not.mp (hr.f bq4))
    have hzk := hz k hk
    refine J_aloadn_0 (pc := 10) hc dX3_zero_10 ?_
    refine J_aloadn_0 (pc := 11) hc dX3_zero_11 ?_
    refine gX3_11 (pc := 12) hc dX3_zero_12 ?_
    refine J_iloadn_1 (pc := 15) hc dX3_zero_15 ?_
    refine J_aald (pc := 16) hc dX3_zero_16 hxk (by omega) ?_
    refine kX3_110 (pc := 17) hc hR dX3_zero_17 (c_X3_countZeros (by omega) hzk.2.2.1 (by omega) (zb200 hzk.2.2.2)) (by decide) (Nat.le_of_ble_eq_true rfl) rfl (fun r u hu => ?_)
    refine J_istoren_3 (pc := 20) hc dX3_zero_20 rfl ?_
    refine J_iloadn_3 (pc := 21) hc dX3_zero_21 ?_
    refine J_bipush (pc := 22) hc dX3_zero_22 (v := -4) (by decide) ?_
    refine J_icmp_ne (pc := 24) hc 30 dX3_zero_24 (by decide) (fun bq24 => ?_) (fun bq24 => ?_)
    · skip
      rcases hu with ⟨_, q, _⟩ | ⟨he, hrn, w, hu⟩
      · exact absurd q bq24
      subst hrn
      have hlen := zbl_len (zcoI σ k) (zcoI σ (7 + k)) (zcoI σ (14 + k)) (N k) (N k)
      refine J_eq hu ?_
      refine J_iloadn_2 (pc := 30) hc dX3_zero_30 ?_
      refine J_if_lt (pc := 31) hc 39 dX3_zero_31 (by decide) (fun bq31 => ?_) (fun bq31 => ?_)
      · skip
        refine J_bipush (pc := 39) hc dX3_zero_39 (v := -2) (by decide) ?_
        exact J_iret (pc := 41) hc hI dX3_zero_41 (Or.inr ⟨k, hk, hxk, Or.inr ⟨he, ⟨w, rfl⟩, Or.inr ⟨by first | (rw [zi_lt, nI_toInt (by omega)] at bq36; omega) | (rw [zi_lt, z0I] at bq31; omega), rfl⟩⟩⟩)
      · skip
        refine J_iloadn_2 (pc := 34) hc dX3_zero_34 ?_
        refine J_iloadn_3 (pc := 35) hc dX3_zero_35 ?_
        refine J_icmp_lt (pc := 36) hc 42 dX3_zero_36 (by decide) (fun bq36 => ?_) (fun bq36 => ?_)
        · skip
          obtain ⟨j, hj1, hj2⟩ := zof_nat (x := y) (n := (zbl (zcoI σ k) (zcoI σ (7 + k)) (zcoI σ (14 + k)) (N k) (N k)).length) (by rw [zi_lt, z0I] at bq31; omega) (by rw [zi_lt, nI_toInt (by omega)] at bq36; exact bq36) (by omega)
          refine J_aloadn_0 (pc := 42) hc dX3_zero_42 ?_
          refine gX3_23 (pc := 43) hc dX3_zero_43 ?_
          refine gX3_114 (pc := 46) hc dX3_zero_46 ?_
          refine J_iloadn_2 (pc := 49) hc dX3_zero_49 ?_
          refine J_iald (pc := 50) hc 32 (by omega) rfl dX3_zero_50 hj2 (by omega) ?_
          exact J_iret (pc := 51) hc hI dX3_zero_51 (Or.inr ⟨k, hk, hxk, Or.inr ⟨he, ⟨w, rfl⟩, Or.inl ⟨j, hj1, hj2, by show zputs (sa σ 22) 0 (zbl (zcoI σ k) (zcoI σ (7 + k)) (zcoI σ (14 + k)) (N k) (N k)) j = _; rw [← zputs_in (sa σ 22) 0 (zbl (zcoI σ k) (zcoI σ (7 + k)) (zcoI σ (14 + k)) (N k) (N k)) hj1, Nat.zero_add]⟩⟩⟩)
        · skip
          refine J_bipush (pc := 39) hc dX3_zero_39 (v := -2) (by decide) ?_
          exact J_iret (pc := 41) hc hI dX3_zero_41 (Or.inr ⟨k, hk, hxk, Or.inr ⟨he, ⟨w, rfl⟩, Or.inr ⟨by first | (rw [zi_lt, nI_toInt (by omega)] at bq36; omega) | (rw [zi_lt, z0I] at bq31; omega), rfl⟩⟩⟩)
    · skip
      rcases hu with ⟨he, _, hu⟩ | ⟨_, q, _⟩
      rotate_left
      · have hlen := zbl_len (zcoI σ k) (zcoI σ (7 + k)) (zcoI σ (14 + k)) (N k) (N k)
        exact absurd (q.symm.trans bq24) (zn4 (by omega))
      refine J_eq hu ?_
      refine J_bipush (pc := 27) hc dX3_zero_27 (v := -4) (by decide) ?_
      exact J_iret (pc := 29) hc hI dX3_zero_29 (Or.inr ⟨k, hk, hxk, Or.inl ⟨he, rfl, rfl⟩⟩)
  · skip
    have hnp := hr.t bq4
    refine J_bipush (pc := 7) hc dX3_zero_7 (v := -2) (by decide) ?_
    exact J_iret (pc := 9) hc hI dX3_zero_9 (Or.inl ⟨hnp, rfl, rfl⟩)
set_option maxRecDepth 100000 in
set_option maxHeartbeats 4000000 in
theorem c_X3_same {l : Launch} {gg : zG} {σ : zS} {x y : Int32} {N : Nat → Nat} (hz : zCv σ N) : zMi l gg yX3_same cX3_same .int 3 1 22 [.ref (zo gg), .int x, .int y] σ (fun r u => u = σ ∧ ((¬ (zpl x ∧ zpl y) ∧ r = -2) ∨ (∃ k j, k < 6 ∧ x = nI k ∧ j < 6 ∧ y = nI j ∧ zb r (N k = N j ∧ ∀ i, i < N k → zeqP σ k j i)))) := by
  refine zM_i (own := RX3) (lv := [some (.ref (zo gg)), some (.int x), some (.int y)]) (by decide +kernel) rfl (Nat.le_of_ble_eq_true rfl) rfl (fun cx hc hR hI => ?_)
  refine J_iloadn_1 (pc := 0) hc dX3_same_0 ?_
  refine kX3_42 (pc := 1) hc hR dX3_same_1 (c_X3_isNoPlace) (by decide) (Nat.le_of_ble_eq_true rfl) rfl (fun r u hu => ?_)
  have hr := hu.1
  refine J_eq hu.2 ?_
  refine J_if_ne (pc := 4) hc 14 dX3_same_4 (by decide) (fun bq4 => ?_) (fun bq4 => ?_)
  · skip
    have hnp := hr.t bq4
    refine J_bipush (pc := 14) hc dX3_same_14 (v := -2) (by decide) ?_
    exact J_iret (pc := 16) hc hI dX3_same_16 ⟨rfl, Or.inl ⟨by first | exact (fun h => hnq h.2) | exact (fun h => hnp h.1), rfl⟩⟩
  · skip
    obtain ⟨k, hk, hxk⟩ := zpl_nI (Classical.not_not.mp (hr.f bq4))
    have hzk := hz k hk
    refine J_iloadn_2 (pc := 7) hc dX3_same_7 ?_
    refine kX3_42 (pc := 8) hc hR dX3_same_8 (c_X3_isNoPlace) (by decide) (Nat.le_of_ble_eq_true rfl) rfl (fun r u hu => ?_)
    have hr := hu.1
    refine J_eq hu.2 ?_
    refine J_if_eq (pc := 11) hc 17 dX3_same_11 (by decide) (fun bq11 => ?_) (fun bq11 => ?_)
    · skip
      obtain ⟨j, hj, hxj⟩ := zpl_nI (Classical.not_not.mp (hr.f bq11))
      have hzj := hz j hj
      refine J_aloadn_0 (pc := 17) hc dX3_same_17 ?_
      refine gX3_11 (pc := 18) hc dX3_same_18 ?_
      refine J_iloadn_1 (pc := 21) hc dX3_same_21 ?_
      refine J_aald (pc := 22) hc dX3_same_22 hxk (by omega) ?_
      refine J_aloadn_0 (pc := 23) hc dX3_same_23 ?_
      refine gX3_11 (pc := 24) hc dX3_same_24 ?_
      refine J_iloadn_2 (pc := 27) hc dX3_same_27 ?_
      refine J_aald (pc := 28) hc dX3_same_28 hxj (by omega) ?_
      refine kX3_123 (pc := 29) hc hR (by omega) dX3_same_29 (c_X0_isLike (by omega) (by omega) hzk.2.2.1 hzj.2.2.1 (by omega) (by omega)) (by decide) (Nat.le_of_ble_eq_true rfl) rfl (fun r u hu => ?_)
      have hr := hu.1
      refine J_eq hu.2 ?_
      refine J_if_eq (pc := 32) hc 39 dX3_same_32 (by decide) (fun bq32 => ?_) (fun bq32 => ?_)
      · skip
        refine J_iconst (pc := 39) hc dX3_same_39 (v := 0) (by decide) ?_
        exact J_iret (pc := 40) hc hI dX3_same_40 ⟨rfl, Or.inr ⟨k, j, hk, hxk, hj, hxj, by first | exact zb_0 (hr.f bq32) | exact zb_1 (hr.t bq32)⟩⟩
      · skip
        refine J_iconst (pc := 35) hc dX3_same_35 (v := 1) (by decide) ?_
        refine J_goto (pc := 36) hc 40 dX3_same_36 (by decide) ?_
        exact J_iret (pc := 40) hc hI dX3_same_40 ⟨rfl, Or.inr ⟨k, j, hk, hxk, hj, hxj, by first | exact zb_0 (hr.f bq32) | exact zb_1 (hr.t bq32)⟩⟩
    · skip
      have hnq := hr.t bq11
      refine J_bipush (pc := 14) hc dX3_same_14 (v := -2) (by decide) ?_
      exact J_iret (pc := 16) hc hI dX3_same_16 ⟨rfl, Or.inl ⟨by first | exact (fun h => hnq h.2) | exact (fun h => hnp h.1), rfl⟩⟩
set_option maxRecDepth 100000 in
set_option maxHeartbeats 4000000 in
theorem c_X3_meets {l : Launch} {gg : zG} {σ : zS} {x y : Int32} {N : Nat → Nat} (hz : zCv σ N) : zMi l gg yX3_meets cX3_meets .int 3 6 140 [.ref (zo gg), .int x, .int y] σ (fun r u => (¬ (zpl x ∧ zpl y) ∧ r = -2 ∧ u = σ) ∨ (∃ k j, k < 6 ∧ x = nI k ∧ j < 6 ∧ y = nI j ∧ ((¬ N k = N j ∧ r = -4 ∧ u = σ) ∨ (N k = N j ∧ zCZ (zmx σ k j 1 (-1) (N k)) 6 (N k) r u)))) := by
  refine zM_i (own := RX3) (lv := [some (.ref (zo gg)), some (.int x), some (.int y)]) (by decide +kernel) rfl (Nat.le_of_ble_eq_true rfl) rfl (fun cx hc hR hI => ?_)
  refine J_iloadn_1 (pc := 0) hc dX3_meets_0 ?_
  refine kX3_42 (pc := 1) hc hR dX3_meets_1 (c_X3_isNoPlace) (by decide) (Nat.le_of_ble_eq_true rfl) rfl (fun r u hu => ?_)
  have hr := hu.1
  refine J_eq hu.2 ?_
  refine J_if_ne (pc := 4) hc 14 dX3_meets_4 (by decide) (fun bq4 => ?_) (fun bq4 => ?_)
  · skip
    have hnp := hr.t bq4
    refine J_bipush (pc := 14) hc dX3_meets_14 (v := -2) (by decide) ?_
    exact J_iret (pc := 16) hc hI dX3_meets_16 (Or.inl ⟨by first | exact (fun h => hnq h.2) | exact (fun h => hnp h.1), rfl, rfl⟩)
  · skip
    obtain ⟨k, hk, hxk⟩ := zpl_nI (Classical.not_not.mp (hr.f bq4))
    have hzk := hz k hk
    refine J_iloadn_2 (pc := 7) hc dX3_meets_7 ?_
    refine kX3_42 (pc := 8) hc hR dX3_meets_8 (c_X3_isNoPlace) (by decide) (Nat.le_of_ble_eq_true rfl) rfl (fun r u hu => ?_)
    have hr := hu.1
    refine J_eq hu.2 ?_
    refine J_if_eq (pc := 11) hc 17 dX3_meets_11 (by decide) (fun bq11 => ?_) (fun bq11 => ?_)
    · skip
      obtain ⟨j, hj, hxj⟩ := zpl_nI (Classical.not_not.mp (hr.f bq11))
      have hzj := hz j hj
      refine J_aloadn_0 (pc := 17) hc dX3_meets_17 ?_
      refine gX3_11 (pc := 18) hc dX3_meets_18 ?_
      refine J_iloadn_1 (pc := 21) hc dX3_meets_21 ?_
      refine J_aald (pc := 22) hc dX3_meets_22 hxk (by omega) ?_
      refine gX3_77 (pc := 23) hc (by omega) dX3_meets_23 ?_
      refine J_aloadn_0 (pc := 26) hc dX3_meets_26 ?_
      refine gX3_11 (pc := 27) hc dX3_meets_27 ?_
      refine J_iloadn_2 (pc := 30) hc dX3_meets_30 ?_
      refine J_aald (pc := 31) hc dX3_meets_31 hxj (by omega) ?_
      refine gX3_77 (pc := 32) hc (by omega) dX3_meets_32 ?_
      refine J_icmp_eq (pc := 35) hc 41 dX3_meets_35 (by decide) (fun bq35 => ?_) (fun bq35 => ?_)
      · skip
        rw [hzk.2.2.1, hzj.2.2.1, nI_eq (by omega) (by omega)] at bq35
        refine J_aloadn_0 (pc := 41) hc dX3_meets_41 ?_
        refine gX3_16 (pc := 42) hc dX3_meets_42 ?_
        refine J_aloadn_0 (pc := 45) hc dX3_meets_45 ?_
        refine gX3_11 (pc := 46) hc dX3_meets_46 ?_
        refine J_iloadn_1 (pc := 49) hc dX3_meets_49 ?_
        refine J_aald (pc := 50) hc dX3_meets_50 hxk (by omega) ?_
        refine J_iconst (pc := 51) hc dX3_meets_51 (v := 1) (by decide) ?_
        refine J_aloadn_0 (pc := 52) hc dX3_meets_52 ?_
        refine gX3_11 (pc := 53) hc dX3_meets_53 ?_
        refine J_iloadn_2 (pc := 56) hc dX3_meets_56 ?_
        refine J_aald (pc := 57) hc dX3_meets_57 hxj (by omega) ?_
        refine J_iconst (pc := 58) hc dX3_meets_58 (v := -1) (by decide) ?_
        refine kX3_127 (pc := 59) hc hR (by omega) dX3_meets_59 (c_X0_becomeSum (n := N k) (by omega) (by omega) hzk.2.2.1 (by rw [bq35]; exact hzj.2.2.1) (by omega)) (by decide) (Nat.le_of_ble_eq_true rfl) rfl (fun u hu => ?_)
        refine J_eq hu ?_
        refine J_aloadn_0 (pc := 62) hc dX3_meets_62 ?_
        refine J_aloadn_0 (pc := 63) hc dX3_meets_63 ?_
        refine gX3_16 (pc := 64) hc dX3_meets_64 ?_
        refine kX3_110 (pc := 67) hc hR dX3_meets_67 (c_X3_countZeros (n := N k) (by omega) rfl (by omega) (zmx_b hzk.2.2.2 (by rw [bq35]; exact hzj.2.2.2))) (by decide) (Nat.le_of_ble_eq_true rfl) rfl (fun r u hu => ?_)
        exact J_iret (pc := 70) hc hI dX3_meets_70 (Or.inr ⟨k, j, hk, hxk, hj, hxj, Or.inr ⟨bq35, hu⟩⟩)
      · skip
        rw [hzk.2.2.1, hzj.2.2.1, nI_eq (by omega) (by omega)] at bq35
        refine J_bipush (pc := 38) hc dX3_meets_38 (v := -4) (by decide) ?_
        exact J_iret (pc := 40) hc hI dX3_meets_40 (Or.inr ⟨k, j, hk, hxk, hj, hxj, Or.inl ⟨bq35, rfl, rfl⟩⟩)
    · skip
      have hnq := hr.t bq11
      refine J_bipush (pc := 14) hc dX3_meets_14 (v := -2) (by decide) ?_
      exact J_iret (pc := 16) hc hI dX3_meets_16 (Or.inl ⟨by first | exact (fun h => hnq h.2) | exact (fun h => hnp h.1), rfl, rfl⟩)
set_option maxRecDepth 100000 in
set_option maxHeartbeats 4000000 in
theorem c_X3_mix {l : Launch} {gg : zG} {σ : zS} {x y p z q : Int32} {N : Nat → Nat} (hz : zCv σ N) : zMi l gg yX3_mix cX3_mix .int 6 3 67 [.ref (zo gg), .int x, .int y, .int p, .int z, .int q] σ (fun r u => (¬ (zpl x ∧ zpl y ∧ zpl z) ∧ r = -2 ∧ u = σ) ∨ (∃ k f h, k < 6 ∧ x = nI k ∧ f < 6 ∧ y = nI f ∧ h < 6 ∧ z = nI h ∧ ((¬ ((-100 ≤ p.toInt ∧ p.toInt ≤ 100) ∧ (-100 ≤ q.toInt ∧ q.toInt ≤ 100)) ∧ r = -3 ∧ u = σ) ∨ (((-100 ≤ p.toInt ∧ p.toInt ≤ 100) ∧ (-100 ≤ q.toInt ∧ q.toInt ≤ 100)) ∧ ((¬ N f = N h ∧ r = -4 ∧ u = σ) ∨ (N f = N h ∧ zKD (zmx σ f h p q (N f)) k (N f) r u)))))) := by
  refine zM_i (own := RX3) (lv := [some (.ref (zo gg)), some (.int x), some (.int y), some (.int p), some (.int z), some (.int q)]) (by decide +kernel) rfl (Nat.le_of_ble_eq_true rfl) rfl (fun cx hc hR hI => ?_)
  refine J_iloadn_1 (pc := 0) hc dX3_mix_0 ?_
  refine kX3_42 (pc := 1) hc hR dX3_mix_1 (c_X3_isNoPlace) (by decide) (Nat.le_of_ble_eq_true rfl) rfl (fun r u hu => ?_)
  have hr := hu.1
  refine J_eq hu.2 ?_
  refine J_if_ne (pc := 4) hc 22 dX3_mix_4 (by decide) (fun bq4 => ?_) (fun bq4 => ?_)
  · skip
    have hn1 := hr.t bq4
    refine J_bipush (pc := 22) hc dX3_mix_22 (v := -2) (by decide) ?_
    exact J_iret (pc := 24) hc hI dX3_mix_24 (Or.inl ⟨by first | exact (fun w => hn3 w.2.2) | exact (fun w => hn2 w.2.1) | exact (fun w => hn1 w.1), rfl, rfl⟩)
  · skip
    obtain ⟨k, hk, hxk⟩ := zpl_nI (Classical.not_not.mp (hr.f bq4))
    have hzk := hz k hk
    refine J_iloadn_2 (pc := 7) hc dX3_mix_7 ?_
    refine kX3_42 (pc := 8) hc hR dX3_mix_8 (c_X3_isNoPlace) (by decide) (Nat.le_of_ble_eq_true rfl) rfl (fun r u hu => ?_)
    have hr := hu.1
    refine J_eq hu.2 ?_
    refine J_if_ne (pc := 11) hc 22 dX3_mix_11 (by decide) (fun bq11 => ?_) (fun bq11 => ?_)
    · skip
      have hn2 := hr.t bq11
      refine J_bipush (pc := 22) hc dX3_mix_22 (v := -2) (by decide) ?_
      exact J_iret (pc := 24) hc hI dX3_mix_24 (Or.inl ⟨by first | exact (fun w => hn3 w.2.2) | exact (fun w => hn2 w.2.1) | exact (fun w => hn1 w.1), rfl, rfl⟩)
    · skip
      obtain ⟨f, hf, hxf⟩ := zpl_nI (Classical.not_not.mp (hr.f bq11))
      have hzf := hz f hf
      refine J_iload_4 (pc := 14) hc dX3_mix_14 ?_
      refine kX3_42 (pc := 16) hc hR dX3_mix_16 (c_X3_isNoPlace) (by decide) (Nat.le_of_ble_eq_true rfl) rfl (fun r u hu => ?_)
      have hr := hu.1
      refine J_eq hu.2 ?_
      refine J_if_eq (pc := 19) hc 25 dX3_mix_19 (by decide) (fun bq19 => ?_) (fun bq19 => ?_)
      · skip
        obtain ⟨h, hh, hxh⟩ := zpl_nI (Classical.not_not.mp (hr.f bq19))
        have hzh := hz h hh
        refine J_iloadn_3 (pc := 25) hc dX3_mix_25 ?_
        refine J_bipush (pc := 26) hc dX3_mix_26 (v := 100) (by decide) ?_
        refine kX3_55 (pc := 28) hc hR dX3_mix_28 (c_X3_isBeyond) (by decide) (Nat.le_of_ble_eq_true rfl) rfl (fun r u hu => ?_)
        have hr := hu.1
        refine J_eq hu.2 ?_
        refine J_if_ne (pc := 31) hc 44 dX3_mix_31 (by decide) (fun bq31 => ?_) (fun bq31 => ?_)
        · skip
          have hn4 := (zbnd' (B := 100) hr (by decide) (by decide)).t bq31
          refine J_bipush (pc := 44) hc dX3_mix_44 (v := -3) (by decide) ?_
          exact J_iret (pc := 46) hc hI dX3_mix_46 (Or.inr ⟨k, f, h, hk, hxk, hf, hxf, hh, hxh, Or.inl ⟨by first | exact (fun w => hn5 w.2) | exact (fun w => hn4 w.1), rfl, rfl⟩⟩)
        · skip
          have hp := Classical.not_not.mp ((zbnd' (B := 100) hr (by decide) (by decide)).f bq31)
          refine J_iload_5 (pc := 34) hc dX3_mix_34 ?_
          refine J_bipush (pc := 36) hc dX3_mix_36 (v := 100) (by decide) ?_
          refine kX3_55 (pc := 38) hc hR dX3_mix_38 (c_X3_isBeyond) (by decide) (Nat.le_of_ble_eq_true rfl) rfl (fun r u hu => ?_)
          have hr := hu.1
          refine J_eq hu.2 ?_
          refine J_if_eq (pc := 41) hc 47 dX3_mix_41 (by decide) (fun bq41 => ?_) (fun bq41 => ?_)
          · skip
            have hq := Classical.not_not.mp ((zbnd' (B := 100) hr (by decide) (by decide)).f bq41)
            refine J_aloadn_0 (pc := 47) hc dX3_mix_47 ?_
            refine gX3_11 (pc := 48) hc dX3_mix_48 ?_
            refine J_iloadn_2 (pc := 51) hc dX3_mix_51 ?_
            refine J_aald (pc := 52) hc dX3_mix_52 hxf (by omega) ?_
            refine gX3_77 (pc := 53) hc (by omega) dX3_mix_53 ?_
            refine J_aloadn_0 (pc := 56) hc dX3_mix_56 ?_
            refine gX3_11 (pc := 57) hc dX3_mix_57 ?_
            refine J_iload_4 (pc := 60) hc dX3_mix_60 ?_
            refine J_aald (pc := 62) hc dX3_mix_62 hxh (by omega) ?_
            refine gX3_77 (pc := 63) hc (by omega) dX3_mix_63 ?_
            refine J_icmp_eq (pc := 66) hc 72 dX3_mix_66 (by decide) (fun bq66 => ?_) (fun bq66 => ?_)
            · skip
              rw [hzf.2.2.1, hzh.2.2.1, nI_eq (by omega) (by omega)] at bq66
              refine J_aloadn_0 (pc := 72) hc dX3_mix_72 ?_
              refine gX3_16 (pc := 73) hc dX3_mix_73 ?_
              refine J_aloadn_0 (pc := 76) hc dX3_mix_76 ?_
              refine gX3_11 (pc := 77) hc dX3_mix_77 ?_
              refine J_iloadn_2 (pc := 80) hc dX3_mix_80 ?_
              refine J_aald (pc := 81) hc dX3_mix_81 hxf (by omega) ?_
              refine J_iloadn_3 (pc := 82) hc dX3_mix_82 ?_
              refine J_aloadn_0 (pc := 83) hc dX3_mix_83 ?_
              refine gX3_11 (pc := 84) hc dX3_mix_84 ?_
              refine J_iload_4 (pc := 87) hc dX3_mix_87 ?_
              refine J_aald (pc := 89) hc dX3_mix_89 hxh (by omega) ?_
              refine J_iload_5 (pc := 90) hc dX3_mix_90 ?_
              refine kX3_127 (pc := 92) hc hR (by omega) dX3_mix_92 (c_X0_becomeSum (n := N f) (by omega) (by omega) hzf.2.2.1 (by rw [bq66]; exact hzh.2.2.1) (by omega)) (by decide) (Nat.le_of_ble_eq_true rfl) rfl (fun u hu => ?_)
              refine J_eq hu ?_
              refine J_aloadn_0 (pc := 95) hc dX3_mix_95 ?_
              refine J_aloadn_0 (pc := 96) hc dX3_mix_96 ?_
              refine gX3_11 (pc := 97) hc dX3_mix_97 ?_
              refine J_iloadn_1 (pc := 100) hc dX3_mix_100 ?_
              refine J_aald (pc := 101) hc dX3_mix_101 hxk (by omega) ?_
              refine kX3_131 (pc := 102) hc hR dX3_mix_102 (c_X3_keepDraft (n := N f) (by omega) rfl (by omega)) (by decide) (Nat.le_of_ble_eq_true rfl) rfl (fun r u hu => ?_)
              exact J_iret (pc := 105) hc hI dX3_mix_105 (Or.inr ⟨k, f, h, hk, hxk, hf, hxf, hh, hxh, Or.inr ⟨⟨hp, hq⟩, Or.inr ⟨bq66, hu⟩⟩⟩)
            · skip
              rw [hzf.2.2.1, hzh.2.2.1, nI_eq (by omega) (by omega)] at bq66
              refine J_bipush (pc := 69) hc dX3_mix_69 (v := -4) (by decide) ?_
              exact J_iret (pc := 71) hc hI dX3_mix_71 (Or.inr ⟨k, f, h, hk, hxk, hf, hxf, hh, hxh, Or.inr ⟨⟨hp, hq⟩, Or.inl ⟨bq66, rfl, rfl⟩⟩⟩)
          · skip
            have hn5 := (zbnd' (B := 100) hr (by decide) (by decide)).t bq41
            refine J_bipush (pc := 44) hc dX3_mix_44 (v := -3) (by decide) ?_
            exact J_iret (pc := 46) hc hI dX3_mix_46 (Or.inr ⟨k, f, h, hk, hxk, hf, hxf, hh, hxh, Or.inl ⟨by first | exact (fun w => hn5 w.2) | exact (fun w => hn4 w.1), rfl, rfl⟩⟩)
      · skip
        have hn3 := hr.t bq19
        refine J_bipush (pc := 22) hc dX3_mix_22 (v := -2) (by decide) ?_
        exact J_iret (pc := 24) hc hI dX3_mix_24 (Or.inl ⟨by first | exact (fun w => hn3 w.2.2) | exact (fun w => hn2 w.2.1) | exact (fun w => hn1 w.1), rfl, rfl⟩)
set_option maxRecDepth 100000 in
set_option maxHeartbeats 4000000 in
theorem c_X3_refine {l : Launch} {gg : zG} {σ : zS} {x y : Int32} {N : Nat → Nat} (hz : zCv σ N) : zMi l gg yX3_refine cX3_refine .int 3 3 67 [.ref (zo gg), .int x, .int y] σ (fun r u => (¬ (zpl x ∧ zpl y) ∧ r = -2 ∧ u = σ) ∨ (∃ k j, k < 6 ∧ x = nI k ∧ j < 6 ∧ y = nI j ∧ ((8 < N j ∧ r = -4 ∧ u = σ) ∨ (N j ≤ 8 ∧ zKD (zrf σ j (N j)) k (2 * N j) r u)))) := by
  refine zM_i (own := RX3) (lv := [some (.ref (zo gg)), some (.int x), some (.int y)]) (by decide +kernel) rfl (Nat.le_of_ble_eq_true rfl) rfl (fun cx hc hR hI => ?_)
  refine J_iloadn_1 (pc := 0) hc dX3_refine_0 ?_
  refine kX3_42 (pc := 1) hc hR dX3_refine_1 (c_X3_isNoPlace) (by decide) (Nat.le_of_ble_eq_true rfl) rfl (fun r u hu => ?_)
  have hr := hu.1
  refine J_eq hu.2 ?_
  refine J_if_ne (pc := 4) hc 14 dX3_refine_4 (by decide) (fun bq4 => ?_) (fun bq4 => ?_)
  · skip
    have hnp := hr.t bq4
    refine J_bipush (pc := 14) hc dX3_refine_14 (v := -2) (by decide) ?_
    exact J_iret (pc := 16) hc hI dX3_refine_16 (Or.inl ⟨by first | exact (fun h => hnq h.2) | exact (fun h => hnp h.1), rfl, rfl⟩)
  · skip
    obtain ⟨k, hk, hxk⟩ := zpl_nI (Classical.not_not.mp (hr.f bq4))
    have hzk := hz k hk
    refine J_iloadn_2 (pc := 7) hc dX3_refine_7 ?_
    refine kX3_42 (pc := 8) hc hR dX3_refine_8 (c_X3_isNoPlace) (by decide) (Nat.le_of_ble_eq_true rfl) rfl (fun r u hu => ?_)
    have hr := hu.1
    refine J_eq hu.2 ?_
    refine J_if_eq (pc := 11) hc 17 dX3_refine_11 (by decide) (fun bq11 => ?_) (fun bq11 => ?_)
    · skip
      obtain ⟨j, hj, hxj⟩ := zpl_nI (Classical.not_not.mp (hr.f bq11))
      have hzj := hz j hj
      refine J_aloadn_0 (pc := 17) hc dX3_refine_17 ?_
      refine gX3_11 (pc := 18) hc dX3_refine_18 ?_
      refine J_iloadn_2 (pc := 21) hc dX3_refine_21 ?_
      refine J_aald (pc := 22) hc dX3_refine_22 hxj (by omega) ?_
      refine gX3_77 (pc := 23) hc (by omega) dX3_refine_23 ?_
      refine J_bipush (pc := 26) hc dX3_refine_26 (v := 8) (by decide) ?_
      refine J_icmp_le (pc := 28) hc 34 dX3_refine_28 (by decide) (fun bq28 => ?_) (fun bq28 => ?_)
      · skip
        rw [hzj.2.2.1, show (8 : Int32) = nI 8 from rfl, nI_leI (by omega) (by omega)] at bq28
        refine J_aloadn_0 (pc := 34) hc dX3_refine_34 ?_
        refine gX3_16 (pc := 35) hc dX3_refine_35 ?_
        refine J_aloadn_0 (pc := 38) hc dX3_refine_38 ?_
        refine gX3_11 (pc := 39) hc dX3_refine_39 ?_
        refine J_iloadn_2 (pc := 42) hc dX3_refine_42 ?_
        refine J_aald (pc := 43) hc dX3_refine_43 hxj (by omega) ?_
        refine kX3_134 (pc := 44) hc hR (by omega) dX3_refine_44 (c_X0_becomeRefined (n := N j) (by omega) hzj.2.2.1 (by omega)) (by decide) (Nat.le_of_ble_eq_true rfl) rfl (fun u hu => ?_)
        refine J_eq hu ?_
        refine J_aloadn_0 (pc := 47) hc dX3_refine_47 ?_
        refine J_aloadn_0 (pc := 48) hc dX3_refine_48 ?_
        refine gX3_11 (pc := 49) hc dX3_refine_49 ?_
        refine J_iloadn_1 (pc := 52) hc dX3_refine_52 ?_
        refine J_aald (pc := 53) hc dX3_refine_53 hxk (by omega) ?_
        refine kX3_131 (pc := 54) hc hR dX3_refine_54 (c_X3_keepDraft (n := 2 * N j) (by omega) rfl (by omega)) (by decide) (Nat.le_of_ble_eq_true rfl) rfl (fun r u hu => ?_)
        exact J_iret (pc := 57) hc hI dX3_refine_57 (Or.inr ⟨k, j, hk, hxk, hj, hxj, Or.inr ⟨by omega, hu⟩⟩)
      · skip
        rw [hzj.2.2.1, show (8 : Int32) = nI 8 from rfl, nI_leI (by omega) (by omega)] at bq28
        refine J_bipush (pc := 31) hc dX3_refine_31 (v := -4) (by decide) ?_
        exact J_iret (pc := 33) hc hI dX3_refine_33 (Or.inr ⟨k, j, hk, hxk, hj, hxj, Or.inl ⟨by omega, rfl, rfl⟩⟩)
    · skip
      have hnq := hr.t bq11
      refine J_bipush (pc := 14) hc dX3_refine_14 (v := -2) (by decide) ?_
      exact J_iret (pc := 16) hc hI dX3_refine_16 (Or.inl ⟨by first | exact (fun h => hnq h.2) | exact (fun h => hnp h.1), rfl, rfl⟩)
set_option maxRecDepth 100000 in
set_option maxHeartbeats 4000000 in
theorem c_X3_slope {l : Launch} {gg : zG} {σ : zS} {x y : Int32} {N : Nat → Nat} (hz : zCv σ N) : zMi l gg yX3_slope cX3_slope .int 3 3 67 [.ref (zo gg), .int x, .int y] σ (fun r u => (¬ (zpl x ∧ zpl y) ∧ r = -2 ∧ u = σ) ∨ (∃ k j, k < 6 ∧ x = nI k ∧ j < 6 ∧ y = nI j ∧ zKD (zsd σ j (N j)) k (N j) r u)) := by
  refine zM_i (own := RX3) (lv := [some (.ref (zo gg)), some (.int x), some (.int y)]) (by decide +kernel) rfl (Nat.le_of_ble_eq_true rfl) rfl (fun cx hc hR hI => ?_)
  refine J_iloadn_1 (pc := 0) hc dX3_slope_0 ?_
  refine kX3_42 (pc := 1) hc hR dX3_slope_1 (c_X3_isNoPlace) (by decide) (Nat.le_of_ble_eq_true rfl) rfl (fun r u hu => ?_)
  have hr := hu.1
  refine J_eq hu.2 ?_
  refine J_if_ne (pc := 4) hc 14 dX3_slope_4 (by decide) (fun bq4 => ?_) (fun bq4 => ?_)
  · skip
    have hnp := hr.t bq4
    refine J_bipush (pc := 14) hc dX3_slope_14 (v := -2) (by decide) ?_
    exact J_iret (pc := 16) hc hI dX3_slope_16 (Or.inl ⟨by first | exact (fun h => hnq h.2) | exact (fun h => hnp h.1), rfl, rfl⟩)
  · skip
    obtain ⟨k, hk, hxk⟩ := zpl_nI (Classical.not_not.mp (hr.f bq4))
    have hzk := hz k hk
    refine J_iloadn_2 (pc := 7) hc dX3_slope_7 ?_
    refine kX3_42 (pc := 8) hc hR dX3_slope_8 (c_X3_isNoPlace) (by decide) (Nat.le_of_ble_eq_true rfl) rfl (fun r u hu => ?_)
    have hr := hu.1
    refine J_eq hu.2 ?_
    refine J_if_eq (pc := 11) hc 17 dX3_slope_11 (by decide) (fun bq11 => ?_) (fun bq11 => ?_)
    · skip
      obtain ⟨j, hj, hxj⟩ := zpl_nI (Classical.not_not.mp (hr.f bq11))
      have hzj := hz j hj
      refine J_aloadn_0 (pc := 17) hc dX3_slope_17 ?_
      refine gX3_16 (pc := 18) hc dX3_slope_18 ?_
      refine J_aloadn_0 (pc := 21) hc dX3_slope_21 ?_
      refine gX3_11 (pc := 22) hc dX3_slope_22 ?_
      refine J_iloadn_2 (pc := 25) hc dX3_slope_25 ?_
      refine J_aald (pc := 26) hc dX3_slope_26 hxj (by omega) ?_
      refine kX3_138 (pc := 27) hc hR (by omega) dX3_slope_27 (c_X0_becomeSloped (n := N j) (by omega) hzj.2.2.1 (by omega)) (by decide) (Nat.le_of_ble_eq_true rfl) rfl (fun u hu => ?_)
      refine J_eq hu ?_
      refine J_aloadn_0 (pc := 30) hc dX3_slope_30 ?_
      refine J_aloadn_0 (pc := 31) hc dX3_slope_31 ?_
      refine gX3_11 (pc := 32) hc dX3_slope_32 ?_
      refine J_iloadn_1 (pc := 35) hc dX3_slope_35 ?_
      refine J_aald (pc := 36) hc dX3_slope_36 hxk (by omega) ?_
      refine kX3_131 (pc := 37) hc hR dX3_slope_37 (c_X3_keepDraft (n := N j) (by omega) rfl (by omega)) (by decide) (Nat.le_of_ble_eq_true rfl) rfl (fun r u hu => ?_)
      exact J_iret (pc := 40) hc hI dX3_slope_40 (Or.inr ⟨k, j, hk, hxk, hj, hxj, hu⟩)
    · skip
      have hnq := hr.t bq11
      refine J_bipush (pc := 14) hc dX3_slope_14 (v := -2) (by decide) ?_
      exact J_iret (pc := 16) hc hI dX3_slope_16 (Or.inl ⟨by first | exact (fun h => hnq h.2) | exact (fun h => hnp h.1), rfl, rfl⟩)
set_option maxRecDepth 100000 in
set_option maxHeartbeats 4000000 in
theorem c_X3_push {l : Launch} {gg : zG} {σ : zS} {x v : Int32} {N : Nat → Nat} (hz : zCv σ N) : zMi l gg yX3_push cX3_push .int 3 3 67 [.ref (zo gg), .int x, .int v] σ (fun r u => (¬ zpl x ∧ r = -2 ∧ u = σ) ∨ (∃ k, k < 6 ∧ x = nI k ∧ ((¬ zcf v ∧ r = -3 ∧ u = σ) ∨ (zcf v ∧ zKD (zpu σ k (N k) v) k (N k) r u)))) := by
  refine zM_i (own := RX3) (lv := [some (.ref (zo gg)), some (.int x), some (.int v)]) (by decide +kernel) rfl (Nat.le_of_ble_eq_true rfl) rfl (fun cx hc hR hI => ?_)
  refine J_iloadn_1 (pc := 0) hc dX3_push_0 ?_
  refine kX3_42 (pc := 1) hc hR dX3_push_1 (c_X3_isNoPlace) (by decide) (Nat.le_of_ble_eq_true rfl) rfl (fun r u hu => ?_)
  have hr := hu.1
  refine J_eq hu.2 ?_
  refine J_if_eq (pc := 4) hc 10 dX3_push_4 (by decide) (fun bq4 => ?_) (fun bq4 => ?_)
  · skip
    obtain ⟨k, hk, hxk⟩ := zpl_nI (Classical.not_not.mp (hr.f bq4))
    have hzk := hz k hk
    refine J_iloadn_2 (pc := 10) hc dX3_push_10 ?_
    refine nX3_54 (pc := 11) hc dX3_push_11 ?_
    refine kX3_55 (pc := 13) hc hR dX3_push_13 (c_X3_isBeyond) (by decide) (Nat.le_of_ble_eq_true rfl) rfl (fun r u hu => ?_)
    have hr := hu.1
    refine J_eq hu.2 ?_
    refine J_if_eq (pc := 16) hc 22 dX3_push_16 (by decide) (fun bq16 => ?_) (fun bq16 => ?_)
    · skip
      have hv := Classical.not_not.mp ((zbnd hr).f bq16)
      refine J_aloadn_0 (pc := 22) hc dX3_push_22 ?_
      refine gX3_16 (pc := 23) hc dX3_push_23 ?_
      refine J_aloadn_0 (pc := 26) hc dX3_push_26 ?_
      refine gX3_11 (pc := 27) hc dX3_push_27 ?_
      refine J_iloadn_1 (pc := 30) hc dX3_push_30 ?_
      refine J_aald (pc := 31) hc dX3_push_31 hxk (by omega) ?_
      refine J_iloadn_2 (pc := 32) hc dX3_push_32 ?_
      refine kX3_141 (pc := 33) hc hR (by omega) dX3_push_33 (c_X0_becomePushed (n := N k) (by omega) hzk.2.2.1 (by omega)) (by decide) (Nat.le_of_ble_eq_true rfl) rfl (fun u hu => ?_)
      refine J_eq hu ?_
      refine J_aloadn_0 (pc := 36) hc dX3_push_36 ?_
      refine J_aloadn_0 (pc := 37) hc dX3_push_37 ?_
      refine gX3_11 (pc := 38) hc dX3_push_38 ?_
      refine J_iloadn_1 (pc := 41) hc dX3_push_41 ?_
      refine J_aald (pc := 42) hc dX3_push_42 hxk (by omega) ?_
      refine kX3_131 (pc := 43) hc hR dX3_push_43 (c_X3_keepDraft (n := N k) (by omega) rfl (by omega)) (by decide) (Nat.le_of_ble_eq_true rfl) rfl (fun r u hu => ?_)
      exact J_iret (pc := 46) hc hI dX3_push_46 (Or.inr ⟨k, hk, hxk, Or.inr ⟨hv, hu⟩⟩)
    · skip
      have hv := (zbnd hr).t bq16
      refine J_bipush (pc := 19) hc dX3_push_19 (v := -3) (by decide) ?_
      exact J_iret (pc := 21) hc hI dX3_push_21 (Or.inr ⟨k, hk, hxk, Or.inl ⟨hv, rfl, rfl⟩⟩)
  · skip
    have hnp := hr.t bq4
    refine J_bipush (pc := 7) hc dX3_push_7 (v := -2) (by decide) ?_
    exact J_iret (pc := 9) hc hI dX3_push_9 (Or.inl ⟨hnp, rfl, rfl⟩)
set_option maxRecDepth 100000 in
set_option maxHeartbeats 4000000 in
theorem c_X3_point {l : Launch} {gg : zG} {σ : zS} {y : Int32} {m : Nat} (hm : si σ 7 = nI m) (hm2 : m ≤ 17) : zMi l gg yX3_point cX3_point .int 2 1 21 [.ref (zo gg), .int y] σ (fun r u => (¬ (-1000 ≤ y.toInt ∧ y.toInt ≤ 1000) ∧ r = -3 ∧ u = σ) ∨ ((-1000 ≤ y.toInt ∧ y.toInt ≤ 1000) ∧ m = 17 ∧ r = -6 ∧ u = σ) ∨ ((-1000 ≤ y.toInt ∧ y.toInt ≤ 1000) ∧ m < 17 ∧ r = nI (m + 1) ∧ u = ui (ua σ 21 (upd (sa σ 21) m y)) 7 (nI (m + 1)))) := by
  refine zM_i (own := RX3) (lv := [some (.ref (zo gg)), some (.int y)]) (by decide +kernel) rfl (Nat.le_of_ble_eq_true rfl) rfl (fun cx hc hR hI => ?_)
  refine J_iloadn_1 (pc := 0) hc dX3_point_0 ?_
  refine J_sipush (pc := 1) hc dX3_point_1 (v := 1000) (by decide) ?_
  refine kX3_55 (pc := 4) hc hR dX3_point_4 (c_X3_isBeyond) (by decide) (Nat.le_of_ble_eq_true rfl) rfl (fun r u hu => ?_)
  have hr := hu.1
  refine J_eq hu.2 ?_
  refine J_if_eq (pc := 7) hc 13 dX3_point_7 (by decide) (fun bq7 => ?_) (fun bq7 => ?_)
  · skip
    have hv := Classical.not_not.mp ((zbnd' (B := 1000) hr (by decide) (by decide)).f bq7)
    refine J_aloadn_0 (pc := 13) hc dX3_point_13 ?_
    refine gX3_38 (pc := 14) hc dX3_point_14 ?_
    refine J_bipush (pc := 17) hc dX3_point_17 (v := 17) (by decide) ?_
    refine J_icmp_lt (pc := 19) hc 25 dX3_point_19 (by decide) (fun bq19 => ?_) (fun bq19 => ?_)
    · skip
      rw [hm, show (17 : Int32) = nI 17 from rfl, nI_ltI (by omega) (by omega)] at bq19
      refine J_aloadn_0 (pc := 25) hc dX3_point_25 ?_
      refine gX3_34 (pc := 26) hc dX3_point_26 ?_
      refine J_aloadn_0 (pc := 29) hc dX3_point_29 ?_
      refine gX3_38 (pc := 30) hc dX3_point_30 ?_
      refine J_iloadn_1 (pc := 33) hc dX3_point_33 ?_
      refine J_iast (pc := 34) hc 17 (by omega) rfl dX3_point_34 hm (by omega) ?_
      refine J_aloadn_0 (pc := 35) hc dX3_point_35 ?_
      refine J_dup (pc := 36) hc dX3_point_36 rfl ?_
      refine gX3_38 (pc := 37) hc dX3_point_37 ?_
      refine J_iconst (pc := 40) hc dX3_point_40 (v := 1) (by decide) ?_
      refine J_iadd (pc := 41) hc dX3_point_41 ?_
      refine J_topi (y := nI (m + 1)) (by rw [si_ua, hm, nI_1]) ?_
      refine pX3_38 (pc := 42) hc dX3_point_42 ?_
      refine J_aloadn_0 (pc := 45) hc dX3_point_45 ?_
      refine gX3_38 (pc := 46) hc dX3_point_46 ?_
      exact J_iret (pc := 49) hc hI dX3_point_49 (Or.inr (Or.inr ⟨hv, by omega, rfl, rfl⟩))
    · skip
      rw [hm, show (17 : Int32) = nI 17 from rfl, nI_ltI (by omega) (by omega)] at bq19
      refine J_bipush (pc := 22) hc dX3_point_22 (v := -6) (by decide) ?_
      exact J_iret (pc := 24) hc hI dX3_point_24 (Or.inr (Or.inl ⟨hv, by omega, rfl, rfl⟩))
  · skip
    have hv := (zbnd' (B := 1000) hr (by decide) (by decide)).t bq7
    refine J_bipush (pc := 10) hc dX3_point_10 (v := -3) (by decide) ?_
    exact J_iret (pc := 12) hc hI dX3_point_12 (Or.inl ⟨hv, rfl, rfl⟩)
set_option maxRecDepth 100000 in
set_option maxHeartbeats 4000000 in
theorem c_X3_clear {l : Launch} {gg : zG} {σ : zS}   : zMi l gg yX3_clear cX3_clear .int 2 0 0 [.ref (zo gg)] σ (fun r u => r = si σ 7 ∧ u = ui σ 7 0) := by
  refine zM_i (own := RX3) (lv := [some (.ref (zo gg)), none]) (by decide +kernel) rfl (Nat.le_of_ble_eq_true rfl) rfl (fun cx hc hR hI => ?_)
  refine J_aloadn_0 (pc := 0) hc dX3_clear_0 ?_
  refine gX3_38 (pc := 1) hc dX3_clear_1 ?_
  refine J_istoren_1 (pc := 4) hc dX3_clear_4 rfl ?_
  refine J_aloadn_0 (pc := 5) hc dX3_clear_5 ?_
  refine J_iconst (pc := 6) hc dX3_clear_6 (v := 0) (by decide) ?_
  refine pX3_38 (pc := 7) hc dX3_clear_7 ?_
  refine J_iloadn_1 (pc := 10) hc dX3_clear_10 ?_
  exact J_iret (pc := 11) hc hI dX3_clear_11 ⟨rfl, rfl⟩
set_option maxRecDepth 100000 in
set_option maxHeartbeats 4000000 in
theorem c_X3_slopes {l : Launch} {gg : zG} {σ : zS} {x w : Int32} {m : Nat} (hm : si σ 7 = nI m) (hm2 : m ≤ 17) : zMi l gg yX3_slopes cX3_slopes .int 3 4 94 [.ref (zo gg), .int x, .int w] σ (fun r u => (¬ ((0 ≤ x.toInt ∧ x.toInt ≤ 4) ∧ (0 ≤ w.toInt ∧ w.toInt ≤ 2) ∧ 2 ≤ m) ∧ r = -2147483648 ∧ u = σ) ∨ (((0 ≤ x.toInt ∧ x.toInt ≤ 4) ∧ (0 ≤ w.toInt ∧ w.toInt ≤ 2) ∧ 2 ≤ m) ∧ u = zfsl σ x m ∧ r = zslv (zfsl σ x m) w)) := by
  refine zM_i (own := RX3) (lv := [some (.ref (zo gg)), some (.int x), some (.int w)]) (by decide +kernel) rfl (Nat.le_of_ble_eq_true rfl) rfl (fun cx hc hR hI => ?_)
  refine J_iloadn_1 (pc := 0) hc dX3_slopes_0 ?_
  refine kX3_145 (pc := 1) hc hR dX3_slopes_1 (c_X3_isNoShape) (by decide) (Nat.le_of_ble_eq_true rfl) rfl (fun r u hu => ?_)
  have hr := hu.1
  refine J_eq hu.2 ?_
  refine J_if_ne (pc := 4) hc 23 dX3_slopes_4 (by decide) (fun bq4 => ?_) (fun bq4 => ?_)
  · skip
    have hn1 := hr.t bq4
    refine nX3_62 (pc := 23) hc dX3_slopes_23 ?_
    exact J_iret (pc := 25) hc hI dX3_slopes_25 (Or.inl ⟨by first | exact (fun h => h2m h.2.2) | (rw [zi_lt] at bq13; have h2 : (2 : Int32).toInt = 2 := rfl; omega) | (rw [zi_lt, z0I] at bq8; omega) | exact (fun h => hn1 h.1), rfl, rfl⟩)
  · skip
    have hx := Classical.not_not.mp (hr.f bq4)
    refine J_iloadn_2 (pc := 7) hc dX3_slopes_7 ?_
    refine J_if_lt (pc := 8) hc 23 dX3_slopes_8 (by decide) (fun bq8 => ?_) (fun bq8 => ?_)
    · skip
      refine nX3_62 (pc := 23) hc dX3_slopes_23 ?_
      exact J_iret (pc := 25) hc hI dX3_slopes_25 (Or.inl ⟨by first | exact (fun h => h2m h.2.2) | (rw [zi_lt] at bq13; have h2 : (2 : Int32).toInt = 2 := rfl; omega) | (rw [zi_lt, z0I] at bq8; omega) | exact (fun h => hn1 h.1), rfl, rfl⟩)
    · skip
      refine J_iloadn_2 (pc := 11) hc dX3_slopes_11 ?_
      refine J_iconst (pc := 12) hc dX3_slopes_12 (v := 2) (by decide) ?_
      refine J_icmp_gt (pc := 13) hc 23 dX3_slopes_13 (by decide) (fun bq13 => ?_) (fun bq13 => ?_)
      · skip
        refine nX3_62 (pc := 23) hc dX3_slopes_23 ?_
        exact J_iret (pc := 25) hc hI dX3_slopes_25 (Or.inl ⟨by first | exact (fun h => h2m h.2.2) | (rw [zi_lt] at bq13; have h2 : (2 : Int32).toInt = 2 := rfl; omega) | (rw [zi_lt, z0I] at bq8; omega) | exact (fun h => hn1 h.1), rfl, rfl⟩)
      · skip
        refine J_aloadn_0 (pc := 16) hc dX3_slopes_16 ?_
        refine kX3_148 (pc := 17) hc hR dX3_slopes_17 (c_X3_hasTooFewPoints) (by decide) (Nat.le_of_ble_eq_true rfl) rfl (fun r u hu => ?_)
        have hr := hu.1
        refine J_eq hu.2 ?_
        refine J_if_eq (pc := 20) hc 26 dX3_slopes_20 (by decide) (fun bq20 => ?_) (fun bq20 => ?_)
        · skip
          have h2m : 2 ≤ m := by have q := hr.f bq20; rw [hm, nI_toInt (by omega)] at q; omega
          refine J_aloadn_0 (pc := 26) hc dX3_slopes_26 ?_
          refine J_iloadn_1 (pc := 27) hc dX3_slopes_27 ?_
          refine kX3_152 (pc := 28) hc hR dX3_slopes_28 (c_X3_findSlopes (m := m) hm h2m hm2) (by decide) (Nat.le_of_ble_eq_true rfl) rfl (fun u hu => ?_)
          refine J_eq (σ' := zfsl σ x m) hu ?_
          refine J_iloadn_2 (pc := 31) hc dX3_slopes_31 ?_
          refine J_iconst (pc := 32) hc dX3_slopes_32 (v := 2) (by decide) ?_
          refine J_icmp_ne (pc := 33) hc 44 dX3_slopes_33 (by decide) (fun bq33 => ?_) (fun bq33 => ?_)
          · skip
            refine J_aloadn_0 (pc := 44) hc dX3_slopes_44 ?_
            refine gX3_30 (pc := 45) hc dX3_slopes_45 ?_
            refine kX3_155 (pc := 48) hc hR dX3_slopes_48 (c_X1_size) (by decide) (Nat.le_of_ble_eq_true rfl) rfl (fun r u hu => ?_)
            refine J_eq hu.2 (J_topi hu.1 ?_)
            refine J_if_ne (pc := 51) hc 58 dX3_slopes_51 (by decide) (fun bq51 => ?_) (fun bq51 => ?_)
            · skip
              refine J_iloadn_2 (pc := 58) hc dX3_slopes_58 ?_
              refine J_if_ne (pc := 59) hc 72 dX3_slopes_59 (by decide) (fun bq59 => ?_) (fun bq59 => ?_)
              · skip
                refine J_aloadn_0 (pc := 72) hc dX3_slopes_72 ?_
                refine gX3_30 (pc := 73) hc dX3_slopes_73 ?_
                refine gX3_161 (pc := 76) hc dX3_slopes_76 ?_
                exact J_iret (pc := 79) hc hI dX3_slopes_79 (Or.inr ⟨⟨hx, by (rw [zi_lt] at bq13; rw [zi_lt, z0I] at bq8; have h2 : (2 : Int32).toInt = 2 := rfl; omega), h2m⟩, rfl, by first | exact ((if_neg bq33).trans ((if_neg bq51).trans (if_neg bq59))).symm | exact ((if_neg bq33).trans ((if_neg bq51).trans (if_pos bq59))).symm⟩)
              · skip
                refine J_aloadn_0 (pc := 62) hc dX3_slopes_62 ?_
                refine gX3_30 (pc := 63) hc dX3_slopes_63 ?_
                refine gX3_158 (pc := 66) hc dX3_slopes_66 ?_
                refine J_goto (pc := 69) hc 79 dX3_slopes_69 (by decide) ?_
                exact J_iret (pc := 79) hc hI dX3_slopes_79 (Or.inr ⟨⟨hx, by (rw [zi_lt] at bq13; rw [zi_lt, z0I] at bq8; have h2 : (2 : Int32).toInt = 2 := rfl; omega), h2m⟩, rfl, by first | exact ((if_neg bq33).trans ((if_neg bq51).trans (if_neg bq59))).symm | exact ((if_neg bq33).trans ((if_neg bq51).trans (if_pos bq59))).symm⟩)
            · skip
              refine J_sipush (pc := 54) hc dX3_slopes_54 (v := 2000) (by decide) ?_
              exact J_iret (pc := 57) hc hI dX3_slopes_57 (Or.inr ⟨⟨hx, by (rw [zi_lt] at bq13; rw [zi_lt, z0I] at bq8; have h2 : (2 : Int32).toInt = 2 := rfl; omega), h2m⟩, rfl, ((if_neg bq33).trans (if_pos bq51)).symm⟩)
          · skip
            refine J_aloadn_0 (pc := 36) hc dX3_slopes_36 ?_
            refine gX3_30 (pc := 37) hc dX3_slopes_37 ?_
            refine kX3_155 (pc := 40) hc hR dX3_slopes_40 (c_X1_size) (by decide) (Nat.le_of_ble_eq_true rfl) rfl (fun r u hu => ?_)
            refine J_eq hu.2 (J_topi hu.1 ?_)
            exact J_iret (pc := 43) hc hI dX3_slopes_43 (Or.inr ⟨⟨hx, by (rw [zi_lt] at bq13; rw [zi_lt, z0I] at bq8; have h2 : (2 : Int32).toInt = 2 := rfl; omega), h2m⟩, rfl, (if_pos bq33).symm⟩)
        · skip
          have h2m : ¬ 2 ≤ m := by have q := hr.t bq20; rw [hm, nI_toInt (by omega)] at q; omega
          refine nX3_62 (pc := 23) hc dX3_slopes_23 ?_
          exact J_iret (pc := 25) hc hI dX3_slopes_25 (Or.inl ⟨by first | exact (fun h => h2m h.2.2) | (rw [zi_lt] at bq13; have h2 : (2 : Int32).toInt = 2 := rfl; omega) | (rw [zi_lt, z0I] at bq8; omega) | exact (fun h => hn1 h.1), rfl, rfl⟩)
set_option maxRecDepth 100000 in
set_option maxHeartbeats 4000000 in
theorem c_X3_best {l : Launch} {gg : zG} {σ : zS} {x : Int32} {m : Nat} (hm : si σ 7 = nI m) (hm2 : m ≤ 17) : zMi l gg yX3_best cX3_best .int 2 4 94 [.ref (zo gg), .int x] σ (fun r u => (¬ ((0 ≤ x.toInt ∧ x.toInt ≤ 4) ∧ 2 ≤ m) ∧ r = -2147483648 ∧ u = σ) ∨ (((0 ≤ x.toInt ∧ x.toInt ≤ 4) ∧ 2 ≤ m) ∧ u = zfsl σ x m ∧ r = zbsv (zfsl σ x m) (m - 1))) := by
  refine zM_i (own := RX3) (lv := [some (.ref (zo gg)), some (.int x)]) (by decide +kernel) rfl (Nat.le_of_ble_eq_true rfl) rfl (fun cx hc hR hI => ?_)
  refine J_iloadn_1 (pc := 0) hc dX3_best_0 ?_
  refine kX3_145 (pc := 1) hc hR dX3_best_1 (c_X3_isNoShape) (by decide) (Nat.le_of_ble_eq_true rfl) rfl (fun r u hu => ?_)
  have hr := hu.1
  refine J_eq hu.2 ?_
  refine J_if_ne (pc := 4) hc 14 dX3_best_4 (by decide) (fun bq4 => ?_) (fun bq4 => ?_)
  · skip
    have hn1 := hr.t bq4
    refine nX3_62 (pc := 14) hc dX3_best_14 ?_
    exact J_iret (pc := 16) hc hI dX3_best_16 (Or.inl ⟨by first | exact (fun h => h2m h.2) | exact (fun h => hn1 h.1), rfl, rfl⟩)
  · skip
    have hx := Classical.not_not.mp (hr.f bq4)
    refine J_aloadn_0 (pc := 7) hc dX3_best_7 ?_
    refine kX3_148 (pc := 8) hc hR dX3_best_8 (c_X3_hasTooFewPoints) (by decide) (Nat.le_of_ble_eq_true rfl) rfl (fun r u hu => ?_)
    have hr := hu.1
    refine J_eq hu.2 ?_
    refine J_if_eq (pc := 11) hc 17 dX3_best_11 (by decide) (fun bq11 => ?_) (fun bq11 => ?_)
    · skip
      have h2m : 2 ≤ m := by have q := hr.f bq11; rw [hm, nI_toInt (by omega)] at q; omega
      refine J_aloadn_0 (pc := 17) hc dX3_best_17 ?_
      refine J_iloadn_1 (pc := 18) hc dX3_best_18 ?_
      refine kX3_152 (pc := 19) hc hR dX3_best_19 (c_X3_findSlopes (m := m) hm h2m hm2) (by decide) (Nat.le_of_ble_eq_true rfl) rfl (fun u hu => ?_)
      refine J_eq (σ' := zfsl σ x m) hu ?_
      refine J_aloadn_0 (pc := 22) hc dX3_best_22 ?_
      refine gX3_30 (pc := 23) hc dX3_best_23 ?_
      refine kX3_155 (pc := 26) hc hR dX3_best_26 (c_X1_size) (by decide) (Nat.le_of_ble_eq_true rfl) rfl (fun r u hu => ?_)
      refine J_eq hu.2 (J_topi hu.1 ?_)
      refine J_if_ne (pc := 29) hc 36 dX3_best_29 (by decide) (fun bq29 => ?_) (fun bq29 => ?_)
      · skip
        refine J_aloadn_0 (pc := 36) hc dX3_best_36 ?_
        refine gX3_30 (pc := 37) hc dX3_best_37 ?_
        refine gX3_158 (pc := 40) hc dX3_best_40 ?_
        refine J_aloadn_0 (pc := 43) hc dX3_best_43 ?_
        refine gX3_30 (pc := 44) hc dX3_best_44 ?_
        refine gX3_161 (pc := 47) hc dX3_best_47 ?_
        refine J_aloadn_0 (pc := 50) hc dX3_best_50 ?_
        refine kX3_164 (pc := 51) hc hR dX3_best_51 (c_X3_leastBentOfAll (n := m - 1) (by unfold zfsl; split <;> rfl) (by omega) (by omega)) (by decide) (Nat.le_of_ble_eq_true rfl) rfl (fun r u hu => ?_)
        refine J_eq hu.2 (J_topi hu.1 ?_)
        refine kX3_80 (pc := 54) hc hR dX3_best_54 (c_J9_min_7cf53) (by decide) (Nat.le_of_ble_eq_true rfl) rfl (fun r u hu => ?_)
        refine J_eq hu.2 (J_topi hu.1 ?_)
        refine kX3_167 (pc := 57) hc hR dX3_best_57 (c_J9_max_7cf53) (by decide) (Nat.le_of_ble_eq_true rfl) rfl (fun r u hu => ?_)
        refine J_eq hu.2 (J_topi hu.1 ?_)
        exact J_iret (pc := 60) hc hI dX3_best_60 (Or.inr ⟨⟨hx, h2m⟩, rfl, (if_neg bq29).symm⟩)
      · skip
        refine J_sipush (pc := 32) hc dX3_best_32 (v := 2000) (by decide) ?_
        exact J_iret (pc := 35) hc hI dX3_best_35 (Or.inr ⟨⟨hx, h2m⟩, rfl, (if_pos bq29).symm⟩)
    · skip
      have h2m : ¬ 2 ≤ m := by have q := hr.t bq11; rw [hm, nI_toInt (by omega)] at q; omega
      refine nX3_62 (pc := 14) hc dX3_best_14 ?_
      exact J_iret (pc := 16) hc hI dX3_best_16 (Or.inl ⟨by first | exact (fun h => h2m h.2) | exact (fun h => hn1 h.1), rfl, rfl⟩)
set_option maxRecDepth 100000 in
set_option maxHeartbeats 4000000 in
theorem c_X3_bend {l : Launch} {gg : zG} {σ : zS} {s : Int32} {m : Nat} (hm : si σ 7 = nI m) (hm2 : m ≤ 17) : zMl l gg yX3_bend cX3_bend 5 3 70 [.ref (zo gg), .int s] σ (fun r u => (¬ (-1000 ≤ s.toInt ∧ s.toInt ≤ 1000) ∧ r = -3 ∧ u = σ) ∨ ((-1000 ≤ s.toInt ∧ s.toInt ≤ 1000) ∧ ¬ 2 ≤ m ∧ r = -4 ∧ u = σ) ∨ ((-1000 ≤ s.toInt ∧ s.toInt ≤ 1000) ∧ 2 ≤ m ∧ u = zspl σ s (m - 1) ∧ r = zbsum (zspl σ s (m - 1)) (m - 1))) := by
  refine zM_l (own := RX3) (lv := [some (.ref (zo gg)), some (.int s), none, none, none]) (by decide +kernel) rfl (Nat.le_of_ble_eq_true rfl) rfl (fun cx hc hR hI => ?_)
  refine J_iloadn_1 (pc := 0) hc dX3_bend_0 ?_
  refine J_sipush (pc := 1) hc dX3_bend_1 (v := 1000) (by decide) ?_
  refine kX3_55 (pc := 4) hc hR dX3_bend_4 (c_X3_isBeyond) (by decide) (Nat.le_of_ble_eq_true rfl) rfl (fun r u hu => ?_)
  have hr := hu.1
  refine J_eq hu.2 ?_
  refine J_if_eq (pc := 7) hc 14 dX3_bend_7 (by decide) (fun bq7 => ?_) (fun bq7 => ?_)
  · skip
    have hv := Classical.not_not.mp ((zbnd' (B := 1000) hr (by decide) (by decide)).f bq7)
    refine J_aloadn_0 (pc := 14) hc dX3_bend_14 ?_
    refine kX3_148 (pc := 15) hc hR dX3_bend_15 (c_X3_hasTooFewPoints) (by decide) (Nat.le_of_ble_eq_true rfl) rfl (fun r u hu => ?_)
    have hr := hu.1
    refine J_eq hu.2 ?_
    refine J_if_eq (pc := 18) hc 25 dX3_bend_18 (by decide) (fun bq18 => ?_) (fun bq18 => ?_)
    · skip
      have h2m : 2 ≤ m := by have q := hr.f bq18; rw [hm, nI_toInt (by omega)] at q; omega
      refine J_aloadn_0 (pc := 25) hc dX3_bend_25 ?_
      refine J_iloadn_1 (pc := 26) hc dX3_bend_26 ?_
      refine kX3_174 (pc := 27) hc hR dX3_bend_27 (c_X3_draftSpline (m := m) hm h2m hm2) (by decide) (Nat.le_of_ble_eq_true rfl) rfl (fun u hu => ?_)
      refine J_eq hu ?_
      refine J_lconst (pc := 30) hc dX3_bend_30 (v := 0) (by decide) ?_
      refine J_lstoren_2 (pc := 31) hc dX3_bend_31 rfl ?_
      refine J_iconst (pc := 32) hc dX3_bend_32 (v := 0) (by decide) ?_
      refine J_istore_4 (pc := 33) hc dX3_bend_33 rfl ?_
      have hL35 : ∀ (μ : Nat) (i : Nat), (m - 1) - i = μ → i ≤ m - 1 → J cx gg (zQl cx gg (fun r u => (¬ (-1000 ≤ s.toInt ∧ s.toInt ≤ 1000) ∧ r = -3 ∧ u = σ) ∨ ((-1000 ≤ s.toInt ∧ s.toInt ≤ 1000) ∧ ¬ 2 ≤ m ∧ r = -4 ∧ u = σ) ∨ ((-1000 ≤ s.toInt ∧ s.toInt ≤ 1000) ∧ 2 ≤ m ∧ u = zspl σ s (m - 1) ∧ r = zbsum (zspl σ s (m - 1)) (m - 1)))) (zspl σ s (m - 1)) 35 [some (.ref (zo gg)), some (.int s), some (.long (zbsum (zspl σ s (m - 1)) i)), none, some (.int (nI i))] [] := by
        intro μ
        induction μ using Nat.strongRecOn with
        | ind μ ih35 =>
          intro i hμ hi
          refine J_iload_4 (pc := 35) hc dX3_bend_35 ?_
          refine J_aloadn_0 (pc := 37) hc dX3_bend_37 ?_
          refine gX3_16 (pc := 38) hc dX3_bend_38 ?_
          refine gX3_77 (pc := 41) hc (by omega) dX3_bend_41 ?_
          refine J_icmp_ge (pc := 44) hc 79 dX3_bend_44 (by decide) (fun bq44 => ?_) (fun bq44 => ?_)
          · skip
            have bq44 := (zge rfl rfl (by omega) (by omega)).mp bq44
            refine J_lloadn_2 (pc := 79) hc dX3_bend_79 ?_
            exact J_lret (pc := 80) hc hI dX3_bend_80 (Or.inr (Or.inr ⟨hv, h2m, rfl, by rw [show i = m - 1 by omega]⟩))
          · skip
            have bq44 := mt (zge rfl rfl (by omega) (by omega)).mpr bq44
            refine J_lloadn_2 (pc := 47) hc dX3_bend_47 ?_
            refine J_aloadn_0 (pc := 48) hc dX3_bend_48 ?_
            refine gX3_16 (pc := 49) hc dX3_bend_49 ?_
            refine gX3_69 (pc := 52) hc (by omega) dX3_bend_52 ?_
            refine J_iload_4 (pc := 55) hc dX3_bend_55 ?_
            refine J_iald (pc := 57) hc 16 (by omega) (zlen_c (by omega)) dX3_bend_57 (by first | with_reducible exact rfl | with_reducible exact nI_1 _ | with_reducible exact z16 _ _ | with_reducible exact zm1 (by omega) | assumption | exact rfl) (by omega) ?_
            refine J_i2l (pc := 58) hc dX3_bend_58 ?_
            refine J_aloadn_0 (pc := 59) hc dX3_bend_59 ?_
            refine gX3_16 (pc := 60) hc dX3_bend_60 ?_
            refine gX3_69 (pc := 63) hc (by omega) dX3_bend_63 ?_
            refine J_iload_4 (pc := 66) hc dX3_bend_66 ?_
            refine J_iald (pc := 68) hc 16 (by omega) (zlen_c (by omega)) dX3_bend_68 (by first | with_reducible exact rfl | with_reducible exact nI_1 _ | with_reducible exact z16 _ _ | with_reducible exact zm1 (by omega) | assumption | exact rfl) (by omega) ?_
            refine J_i2l (pc := 69) hc dX3_bend_69 ?_
            refine J_lmul (pc := 70) hc dX3_bend_70 ?_
            refine J_ladd (pc := 71) hc dX3_bend_71 ?_
            refine J_lstoren_2 (pc := 72) hc dX3_bend_72 rfl ?_
            refine J_iinc_4 (pc := 73) hc dX3_bend_73 (by first | exact nI_1 _ | exact rfl) rfl ?_
            refine J_goto (pc := 76) hc 35 dX3_bend_76 (by decide) ?_
            exact J_weak (by repeat (first | exact zle_nil | apply zle_s | apply zle_n)) (ih35 _ (by omega) (i + 1) rfl (by omega))
      exact J_weak (by repeat (first | exact zle_nil | apply zle_s | apply zle_n)) (hL35 _ 0 rfl (by omega))
    · skip
      have h2m : ¬ 2 ≤ m := by have q := hr.t bq18; rw [hm, nI_toInt (by omega)] at q; omega
      refine nX3_172 (pc := 21) hc dX3_bend_21 ?_
      exact J_lret (pc := 24) hc hI dX3_bend_24 (Or.inr (Or.inl ⟨hv, h2m, rfl, rfl⟩))
  · skip
    have hv := (zbnd' (B := 1000) hr (by decide) (by decide)).t bq7
    refine nX3_170 (pc := 10) hc dX3_bend_10 ?_
    exact J_lret (pc := 13) hc hI dX3_bend_13 (Or.inl ⟨hv, rfl, rfl⟩)
set_option maxRecDepth 100000 in
set_option maxHeartbeats 4000000 in
theorem c_X3_spline {l : Launch} {gg : zG} {σ : zS} {x s : Int32} {m : Nat} (hm : si σ 7 = nI m) (hm2 : m ≤ 17) : zMi l gg yX3_spline cX3_spline .int 3 3 70 [.ref (zo gg), .int x, .int s] σ (fun r u => (¬ zpl x ∧ r = -2 ∧ u = σ) ∨ (∃ k, k < 6 ∧ x = nI k ∧ ((¬ (-1000 ≤ s.toInt ∧ s.toInt ≤ 1000) ∧ r = -3 ∧ u = σ) ∨ ((-1000 ≤ s.toInt ∧ s.toInt ≤ 1000) ∧ ¬ 2 ≤ m ∧ r = -4 ∧ u = σ) ∨ ((-1000 ≤ s.toInt ∧ s.toInt ≤ 1000) ∧ 2 ≤ m ∧ zKD (zspl σ s (m - 1)) k (m - 1) r u)))) := by
  refine zM_i (own := RX3) (lv := [some (.ref (zo gg)), some (.int x), some (.int s)]) (by decide +kernel) rfl (Nat.le_of_ble_eq_true rfl) rfl (fun cx hc hR hI => ?_)
  refine J_iloadn_1 (pc := 0) hc dX3_spline_0 ?_
  refine kX3_42 (pc := 1) hc hR dX3_spline_1 (c_X3_isNoPlace) (by decide) (Nat.le_of_ble_eq_true rfl) rfl (fun r u hu => ?_)
  have hr := hu.1
  refine J_eq hu.2 ?_
  refine J_if_eq (pc := 4) hc 10 dX3_spline_4 (by decide) (fun bq4 => ?_) (fun bq4 => ?_)
  · skip
    obtain ⟨k, hk, hxk⟩ := zpl_nI (Classical.not_not.mp (hr.f bq4))
    refine J_iloadn_2 (pc := 10) hc dX3_spline_10 ?_
    refine J_sipush (pc := 11) hc dX3_spline_11 (v := 1000) (by decide) ?_
    refine kX3_55 (pc := 14) hc hR dX3_spline_14 (c_X3_isBeyond) (by decide) (Nat.le_of_ble_eq_true rfl) rfl (fun r u hu => ?_)
    have hr := hu.1
    refine J_eq hu.2 ?_
    refine J_if_eq (pc := 17) hc 23 dX3_spline_17 (by decide) (fun bq17 => ?_) (fun bq17 => ?_)
    · skip
      have hv := Classical.not_not.mp ((zbnd' (B := 1000) hr (by decide) (by decide)).f bq17)
      refine J_aloadn_0 (pc := 23) hc dX3_spline_23 ?_
      refine kX3_148 (pc := 24) hc hR dX3_spline_24 (c_X3_hasTooFewPoints) (by decide) (Nat.le_of_ble_eq_true rfl) rfl (fun r u hu => ?_)
      have hr := hu.1
      refine J_eq hu.2 ?_
      refine J_if_eq (pc := 27) hc 33 dX3_spline_27 (by decide) (fun bq27 => ?_) (fun bq27 => ?_)
      · skip
        have h2m : 2 ≤ m := by have q := hr.f bq27; rw [hm, nI_toInt (by omega)] at q; omega
        refine J_aloadn_0 (pc := 33) hc dX3_spline_33 ?_
        refine J_iloadn_2 (pc := 34) hc dX3_spline_34 ?_
        refine kX3_174 (pc := 35) hc hR dX3_spline_35 (c_X3_draftSpline (m := m) hm h2m hm2) (by decide) (Nat.le_of_ble_eq_true rfl) rfl (fun u hu => ?_)
        refine J_eq hu ?_
        refine J_aloadn_0 (pc := 38) hc dX3_spline_38 ?_
        refine J_aloadn_0 (pc := 39) hc dX3_spline_39 ?_
        refine gX3_11 (pc := 40) hc dX3_spline_40 ?_
        refine J_iloadn_1 (pc := 43) hc dX3_spline_43 ?_
        refine J_aald (pc := 44) hc dX3_spline_44 hxk (by omega) ?_
        refine kX3_131 (pc := 45) hc hR dX3_spline_45 (c_X3_keepDraft (n := m - 1) (by omega) rfl (by omega)) (by decide) (Nat.le_of_ble_eq_true rfl) rfl (fun r u hu => ?_)
        exact J_iret (pc := 48) hc hI dX3_spline_48 (Or.inr ⟨k, hk, hxk, Or.inr (Or.inr ⟨hv, h2m, hu⟩)⟩)
      · skip
        have h2m : ¬ 2 ≤ m := by have q := hr.t bq27; rw [hm, nI_toInt (by omega)] at q; omega
        refine J_bipush (pc := 30) hc dX3_spline_30 (v := -4) (by decide) ?_
        exact J_iret (pc := 32) hc hI dX3_spline_32 (Or.inr ⟨k, hk, hxk, Or.inr (Or.inl ⟨hv, h2m, rfl, rfl⟩)⟩)
    · skip
      have hv := (zbnd' (B := 1000) hr (by decide) (by decide)).t bq17
      refine J_bipush (pc := 20) hc dX3_spline_20 (v := -3) (by decide) ?_
      exact J_iret (pc := 22) hc hI dX3_spline_22 (Or.inr ⟨k, hk, hxk, Or.inl ⟨hv, rfl, rfl⟩⟩)
  · skip
    have hnp := hr.t bq4
    refine J_bipush (pc := 7) hc dX3_spline_7 (v := -2) (by decide) ?_
    exact J_iret (pc := 9) hc hI dX3_spline_9 (Or.inl ⟨hnp, rfl, rfl⟩)
set_option maxRecDepth 100000 in
set_option maxHeartbeats 4000000 in
theorem c_X3_count {l : Launch} {gg : zG} {σ : zS} {x w : Int32} {N : Nat → Nat} (hz : zCv σ N) : zMi l gg yX3_count cX3_count .int 3 3 66 [.ref (zo gg), .int x, .int w] σ (fun r u => u = σ ∧ ((¬ zpl x ∧ r = -2) ∨ (∃ k, k < 6 ∧ x = nI k ∧ ((¬ (0 ≤ w.toInt ∧ w.toInt ≤ 2) ∧ r = -3) ∨ (w = 0 ∧ r = nI (N k)) ∨ (w = 1 ∧ r = nI (zct (fun i => 1 ≤ i ∧ zjn σ k i = -1) (N k))) ∨ (w = 2 ∧ r = nI (zct (fun i => 1 ≤ i ∧ zjn σ k i = 2) (N k))))))) := by
  refine zM_i (own := RX3) (lv := [some (.ref (zo gg)), some (.int x), some (.int w)]) (by decide +kernel) rfl (Nat.le_of_ble_eq_true rfl) rfl (fun cx hc hR hI => ?_)
  refine J_iloadn_1 (pc := 0) hc dX3_count_0 ?_
  refine kX3_42 (pc := 1) hc hR dX3_count_1 (c_X3_isNoPlace) (by decide) (Nat.le_of_ble_eq_true rfl) rfl (fun r u hu => ?_)
  have hr := hu.1
  refine J_eq hu.2 ?_
  refine J_if_eq (pc := 4) hc 10 dX3_count_4 (by decide) (fun bq4 => ?_) (fun bq4 => ?_)
  · skip
    obtain ⟨k, hk, hxk⟩ := zpl_nI (Classical.not_not.mp (hr.f bq4))
    have hzk := hz k hk
    refine J_iloadn_2 (pc := 10) hc dX3_count_10 ?_
    refine J_tsw3 (pc := 11) hc 36 46 57 68 dX3_count_11 (by decide) (by decide) (by decide) (by decide) (fun bq11 => ?_) (fun bq11 => ?_) (fun bq11 => ?_) (fun bq11 => ?_)
    · skip
      refine J_aloadn_0 (pc := 36) hc dX3_count_36 ?_
      refine gX3_11 (pc := 37) hc dX3_count_37 ?_
      refine J_iloadn_1 (pc := 40) hc dX3_count_40 ?_
      refine J_aald (pc := 41) hc dX3_count_41 hxk (by omega) ?_
      refine gX3_77 (pc := 42) hc (by omega) dX3_count_42 ?_
      exact J_iret (pc := 45) hc hI dX3_count_45 ⟨rfl, Or.inr ⟨k, hk, hxk, Or.inr (Or.inl ⟨bq11, hzk.2.2.1⟩)⟩⟩
    · skip
      refine J_aloadn_0 (pc := 46) hc dX3_count_46 ?_
      refine gX3_11 (pc := 47) hc dX3_count_47 ?_
      refine J_iloadn_1 (pc := 50) hc dX3_count_50 ?_
      refine J_aald (pc := 51) hc dX3_count_51 hxk (by omega) ?_
      refine J_iconst (pc := 52) hc dX3_count_52 (v := -1) (by decide) ?_
      refine kX3_177 (pc := 53) hc hR (by omega) dX3_count_53 (c_X0_knotsJoined (n := N k) (by omega) hzk.2.2.1 (by omega) (by omega)) (by decide) (Nat.le_of_ble_eq_true rfl) rfl (fun r u hu => ?_)
      refine J_eq hu.2 (J_topi hu.1 ?_)
      exact J_iret (pc := 56) hc hI dX3_count_56 ⟨rfl, Or.inr ⟨k, hk, hxk, Or.inr (Or.inr (Or.inl ⟨bq11, rfl⟩))⟩⟩
    · skip
      refine J_aloadn_0 (pc := 57) hc dX3_count_57 ?_
      refine gX3_11 (pc := 58) hc dX3_count_58 ?_
      refine J_iloadn_1 (pc := 61) hc dX3_count_61 ?_
      refine J_aald (pc := 62) hc dX3_count_62 hxk (by omega) ?_
      refine J_iconst (pc := 63) hc dX3_count_63 (v := 2) (by decide) ?_
      refine kX3_177 (pc := 64) hc hR (by omega) dX3_count_64 (c_X0_knotsJoined (n := N k) (by omega) hzk.2.2.1 (by omega) (by omega)) (by decide) (Nat.le_of_ble_eq_true rfl) rfl (fun r u hu => ?_)
      refine J_eq hu.2 (J_topi hu.1 ?_)
      exact J_iret (pc := 67) hc hI dX3_count_67 ⟨rfl, Or.inr ⟨k, hk, hxk, Or.inr (Or.inr (Or.inr ⟨bq11, rfl⟩))⟩⟩
    · skip
      refine J_bipush (pc := 68) hc dX3_count_68 (v := -3) (by decide) ?_
      exact J_iret (pc := 70) hc hI dX3_count_70 ⟨rfl, Or.inr ⟨k, hk, hxk, Or.inl ⟨bq11, rfl⟩⟩⟩
  · skip
    have hnp := hr.t bq4
    refine J_bipush (pc := 7) hc dX3_count_7 (v := -2) (by decide) ?_
    exact J_iret (pc := 9) hc hI dX3_count_9 ⟨rfl, Or.inl ⟨hnp, rfl⟩⟩
