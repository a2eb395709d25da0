section ZSW
variable {cx : zX} {gg : zG} {Q : State → Prop} {σ : zS} {pc : Nat} {lv : List (Option Value)} {st : List Value} {cc : ByteArray} {own : String} {nL : Nat}
theorem J_tsw3 (hc : zOK cx gg cc own nL) {x : Int32} {df o0 o1 o2 : Int} {len : Nat} (t0 t1 t2 td : Nat) (hd : decode cc pc = .ok (.tableswitch df 0 2 #[o0, o1, o2], len)) (e0 : (pc : Int) + o0 = t0) (e1 : (pc : Int) + o1 = t1) (e2 : (pc : Int) + o2 = t2) (ed : (pc : Int) + df = td)
    (k0 : x = 0 → J cx gg Q σ t0 lv st) (k1 : x = 1 → J cx gg Q σ t1 lv st) (k2 : x = 2 → J cx gg Q σ t2 lv st) (kd : ¬ (0 ≤ x.toInt ∧ x.toInt ≤ 2) → J cx gg Q σ td lv st) : J cx gg Q σ pc lv (.int x :: st) := by
  intro H locs ls hP hS hl
  by_cases h : 0 ≤ x.toInt ∧ x.toInt ≤ 2
  · rcases (show x.toInt = 0 ∨ x.toInt = 1 ∨ x.toInt = 2 by omega) with q | q | q
    · exact lv_tableIn hc.1 hc.2.1 hd (by omega) (by omega) (by rw [q]; rfl) e0 (k0 (zi_eq.mpr q) H locs ls hP hS hl)
    · exact lv_tableIn hc.1 hc.2.1 hd (by omega) (by omega) (by rw [q]; rfl) e1 (k1 (zi_eq.mpr q) H locs ls hP hS hl)
    · exact lv_tableIn hc.1 hc.2.1 hd (by omega) (by omega) (by rw [q]; rfl) e2 (k2 (zi_eq.mpr q) H locs ls hP hS hl)
  · exact lv_tableOut hc.1 hc.2.1 hd (by omega) ed (kd h H locs ls hP hS hl)
theorem J_lsw2 (hc : zOK cx gg cc own nL) {x : Int32} {df o0 o1 : Int} {len : Nat} (t0 t1 td : Nat) (hd : decode cc pc = .ok (.lookupswitch df #[(0, o0), (1, o1)], len)) (e0 : (pc : Int) + o0 = t0) (e1 : (pc : Int) + o1 = t1) (ed : (pc : Int) + df = td)
    (k0 : x = 0 → J cx gg Q σ t0 lv st) (k1 : x = 1 → J cx gg Q σ t1 lv st) (kd : ¬ x = 0 → ¬ x = 1 → J cx gg Q σ td lv st) : J cx gg Q σ pc lv (.int x :: st) := by
  intro H locs ls hP hS hl
  by_cases h : x = 0
  · exact lv_lookup hc.1 hc.2.1 hd rfl (by rw [h]; rfl) e0 (k0 h H locs ls hP hS hl)
  · by_cases h2 : x = 1
    · exact lv_lookup hc.1 hc.2.1 hd rfl (by rw [h2]; rfl) e1 (k1 h2 H locs ls hP hS hl)
    · exact lv_lookup hc.1 hc.2.1 hd rfl (by show Op.lookupswitch.offset [(0, o0), (1, o1)] df x.toInt = df; rw [lv_osw (a := 0) h rfl, lv_osw (a := 1) h2 rfl]; rfl) ed (kd h h2 H locs ls hP hS hl)
end ZSW
/-- the curves: sizes N, numbers in their bounds -/
def zCv (σ : zS) (N : Nat → Nat) : Prop := ∀ p, p < 6 → 1 ≤ N p ∧ N p ≤ 16 ∧ si σ p = nI (N p) ∧ ∀ i, i < N p → zbdP σ p i
/-- a piece -/
def zpcs (N : Nat → Nat) (x y : Int32) : Prop := ∃ k i, k < 6 ∧ x = nI k ∧ i < N k ∧ y = nI i
theorem zfill_zfill {α : Type} (n : Nat) (f g h : Nat → α) : zfill n f (zfill n g h) = zfill n f h := by
  funext i; unfold zfill; split <;> rfl
/-- the spline: its slopes -/
def zsq (σ : zS) (s : Int32) : Nat → Int32
  | 0 => s
  | i + 1 => 2 * (sa σ 21 (i + 1) - sa σ 21 i) - zsq σ s i
def zspl (σ : zS) (s : Int32) (n : Nat) : zS := zc3 (ui σ 6 (nI n)) 6 (zfill n (sa σ 21) (sa σ 6)) (zfill n (zsq σ s) (sa σ (7 + 6))) (zfill n (fun i => sa σ 21 (i + 1) - sa σ 21 i - zsq σ s i) (sa σ (14 + 6)))
/-- how the slopes are bounded -/
def zreq (p : Int32 × Int32) (x t : Int32) : Int32 × Int32 := if 0 < t then (if p.1 < -x then -x else p.1, p.2) else (p.1, if x < p.2 then x else p.2)
def ztrn (s : Int32) (i : Nat) : Int32 := if i % 2 = 0 then s else -s
def zrgs (σ : zS) (x s : Int32) : Nat → Int32 × Int32
  | 0 => (-1000, 1000)
  | i + 1 => if x = 3 ∨ x = 4 then zreq (zrgs σ x s i) (s * sa σ (14 + 6) i) (-ztrn s i) else zreq (zreq (zrgs σ x s i) (s * sa σ (7 + 6) i) (ztrn s i)) (s * zsl σ 6 i) (-ztrn s i)
theorem ztrn_s (s : Int32) (i : Nat) : -ztrn s i = ztrn s (i + 1) := by
  unfold ztrn
  by_cases h : i % 2 = 0
  · rw [if_pos h, if_neg (by omega)]
  · rw [if_neg h, if_pos (by omega)]; exact Int32.neg_neg
def zrg (σ : zS) (p : Int32 × Int32) : zS := ui (ui σ 9 p.1) 10 p.2
theorem zrg_req (σ : zS) (p : Int32 × Int32) (x t : Int32) : (if 0 < t then ui (zrg σ p) 9 (if si (zrg σ p) 9 < -x then -x else si (zrg σ p) 9) else ui (zrg σ p) 10 (if x < si (zrg σ p) 10 then x else si (zrg σ p) 10)) = zrg σ (zreq p x t) := by
  unfold zreq
  by_cases h : 0 < t
  · rw [if_pos h, if_pos h]
    apply zS_ext <;> intro k <;> try rfl
    show si (ui (ui (ui σ 9 p.1) 10 p.2) 9 (if p.1 < -x then -x else p.1)) k = si (ui (ui σ 9 (if p.1 < -x then -x else p.1)) 10 p.2) k
    simp only [si_ui]
    by_cases h1 : k = 9
    · subst h1; simp
    · by_cases h2 : k = 10
      · subst h2; simp
      · simp [h1, h2]
  · rw [if_neg h, if_neg h]
    apply zS_ext <;> intro k <;> try rfl
    show si (ui (ui (ui σ 9 p.1) 10 p.2) 10 (if x < p.2 then x else p.2)) k = si (ui (ui σ 9 p.1) 10 (if x < p.2 then x else p.2)) k
    simp only [si_ui]
    by_cases h2 : k = 10
    · subst h2; simp
    · simp [h2]
/-- the sum of the turned bends -/
def zsum (σ : zS) : Nat → Int32
  | 0 => 0
  | i + 1 => zsum σ i + ztrn 1 i * sa σ (14 + 6) i
def zfdI (x y : Int32) : Int32 := if 0 ≤ x ^^^ y then x / y else if x / y * y = x then x / y else x / y - 1
set_option maxRecDepth 100000 in
set_option maxHeartbeats 4000000 in
theorem c_X3_isNoPiece {l : Launch} {gg : zG} {σ : zS} {x y : Int32} {N : Nat → Nat} (hz : zCv σ N) : zMi l gg yX3_isNoPiece cX3_isNoPiece .boolean 3 1 20 [.ref (zo gg), .int x, .int y] σ (fun r u => zb r (¬ zpcs N x y) ∧ u = σ) := by
  refine zM_i (own := RX3) (lv := [some (.ref (zo gg)), some (.int x), some (.int y)]) (by decide +kernel) rfl (Nat.le_of_ble_eq_true rfl) rfl (fun cx hc hR hI => ?_)
  refine J_iloadn_1 (pc := 0) hc dX3_isNoPiece_0 ?_
  refine kX3_42 (pc := 1) hc hR dX3_isNoPiece_1 (c_X3_isNoPlace) (by decide) (Nat.le_of_ble_eq_true rfl) rfl (fun r u hu => ?_)
  have hr := hu.1
  refine J_eq hu.2 ?_
  refine J_if_ne (pc := 4) hc 24 dX3_isNoPiece_4 (by decide) (fun bq4 => ?_) (fun bq4 => ?_)
  · skip
    have hnp := hr.t bq4
    refine J_iconst (pc := 24) hc dX3_isNoPiece_24 (v := 1) (by decide) ?_
    refine J_goto (pc := 25) hc 29 dX3_isNoPiece_25 (by decide) ?_
    exact J_zret (pc := 29) hc hI dX3_isNoPiece_29 (by first | exact znb0 | exact znb1 | exact zb.n (by assumption)) ⟨by first | exact zb_1 (fun ⟨k, i, h1, h2, _, _⟩ => hnp (by rw [h2]; exact zpl_k h1)) | exact zb_1 (fun ⟨k2, i, h1, h2, h3, h4⟩ => by rw [h4, zi_lt, nI_toInt (by have := (hz k2 h1).2.1; omega), z0I] at bq8; omega) | (refine zb_1 (fun ⟨k2, i, h1, h2, h3, h4⟩ => ?_); have e : k = k2 := (nI_eq (by omega) (by omega)).mp (hxk.symm.trans h2); subst e; rw [h4, hzk.2.2.1, nI_ltI (by omega) (by omega)] at bq21; exact bq21 h3) | (refine zb_0 (Classical.not_not.mpr ?_); rw [hzk.2.2.1] at bq21; have q1 : 0 ≤ y.toInt := (by rw [zi_lt, z0I] at bq8; omega); have q2 := zi_lt.mp bq21; rw [nI_toInt (by omega)] at q2; obtain ⟨i, h1, h2⟩ := zof_nat q1 q2 (by omega); exact ⟨k, i, hk, hxk, h1, h2⟩), rfl⟩
  · skip
    obtain ⟨k, hk, hxk⟩ := zpl_nI (Classical.not_not.mp (hr.f bq4))
    have hzk := hz k hk
    refine J_iloadn_2 (pc := 7) hc dX3_isNoPiece_7 ?_
    refine J_if_lt (pc := 8) hc 24 dX3_isNoPiece_8 (by decide) (fun bq8 => ?_) (fun bq8 => ?_)
    · skip
      refine J_iconst (pc := 24) hc dX3_isNoPiece_24 (v := 1) (by decide) ?_
      refine J_goto (pc := 25) hc 29 dX3_isNoPiece_25 (by decide) ?_
      exact J_zret (pc := 29) hc hI dX3_isNoPiece_29 (by first | exact znb0 | exact znb1 | exact zb.n (by assumption)) ⟨by first | exact zb_1 (fun ⟨k, i, h1, h2, _, _⟩ => hnp (by rw [h2]; exact zpl_k h1)) | exact zb_1 (fun ⟨k2, i, h1, h2, h3, h4⟩ => by rw [h4, zi_lt, nI_toInt (by have := (hz k2 h1).2.1; omega), z0I] at bq8; omega) | (refine zb_1 (fun ⟨k2, i, h1, h2, h3, h4⟩ => ?_); have e : k = k2 := (nI_eq (by omega) (by omega)).mp (hxk.symm.trans h2); subst e; rw [h4, hzk.2.2.1, nI_ltI (by omega) (by omega)] at bq21; exact bq21 h3) | (refine zb_0 (Classical.not_not.mpr ?_); rw [hzk.2.2.1] at bq21; have q1 : 0 ≤ y.toInt := (by rw [zi_lt, z0I] at bq8; omega); have q2 := zi_lt.mp bq21; rw [nI_toInt (by omega)] at q2; obtain ⟨i, h1, h2⟩ := zof_nat q1 q2 (by omega); exact ⟨k, i, hk, hxk, h1, h2⟩), rfl⟩
    · skip
      refine J_iloadn_2 (pc := 11) hc dX3_isNoPiece_11 ?_
      refine J_aloadn_0 (pc := 12) hc dX3_isNoPiece_12 ?_
      refine gX3_11 (pc := 13) hc dX3_isNoPiece_13 ?_
      refine J_iloadn_1 (pc := 16) hc dX3_isNoPiece_16 ?_
      refine J_aald (pc := 17) hc dX3_isNoPiece_17 hxk (by omega) ?_
      refine gX3_77 (pc := 18) hc (by omega) dX3_isNoPiece_18 ?_
      refine J_icmp_lt (pc := 21) hc 28 dX3_isNoPiece_21 (by decide) (fun bq21 => ?_) (fun bq21 => ?_)
      · skip
        refine J_iconst (pc := 28) hc dX3_isNoPiece_28 (v := 0) (by decide) ?_
        exact J_zret (pc := 29) hc hI dX3_isNoPiece_29 (by first | exact znb0 | exact znb1 | exact zb.n (by assumption)) ⟨by first | exact zb_1 (fun ⟨k, i, h1, h2, _, _⟩ => hnp (by rw [h2]; exact zpl_k h1)) | exact zb_1 (fun ⟨k2, i, h1, h2, h3, h4⟩ => by rw [h4, zi_lt, nI_toInt (by have := (hz k2 h1).2.1; omega), z0I] at bq8; omega) | (refine zb_1 (fun ⟨k2, i, h1, h2, h3, h4⟩ => ?_); have e : k = k2 := (nI_eq (by omega) (by omega)).mp (hxk.symm.trans h2); subst e; rw [h4, hzk.2.2.1, nI_ltI (by omega) (by omega)] at bq21; exact bq21 h3) | (refine zb_0 (Classical.not_not.mpr ?_); rw [hzk.2.2.1] at bq21; have q1 : 0 ≤ y.toInt := (by rw [zi_lt, z0I] at bq8; omega); have q2 := zi_lt.mp bq21; rw [nI_toInt (by omega)] at q2; obtain ⟨i, h1, h2⟩ := zof_nat q1 q2 (by omega); exact ⟨k, i, hk, hxk, h1, h2⟩), rfl⟩
      · skip
        refine J_iconst (pc := 24) hc dX3_isNoPiece_24 (v := 1) (by decide) ?_
        refine J_goto (pc := 25) hc 29 dX3_isNoPiece_25 (by decide) ?_
        exact J_zret (pc := 29) hc hI dX3_isNoPiece_29 (by first | exact znb0 | exact znb1 | exact zb.n (by assumption)) ⟨by first | exact zb_1 (fun ⟨k, i, h1, h2, _, _⟩ => hnp (by rw [h2]; exact zpl_k h1)) | exact zb_1 (fun ⟨k2, i, h1, h2, h3, h4⟩ => by rw [h4, zi_lt, nI_toInt (by have := (hz k2 h1).2.1; omega), z0I] at bq8; omega) | (refine zb_1 (fun ⟨k2, i, h1, h2, h3, h4⟩ => ?_); have e : k = k2 := (nI_eq (by omega) (by omega)).mp (hxk.symm.trans h2); subst e; rw [h4, hzk.2.2.1, nI_ltI (by omega) (by omega)] at bq21; exact bq21 h3) | (refine zb_0 (Classical.not_not.mpr ?_); rw [hzk.2.2.1] at bq21; have q1 : 0 ≤ y.toInt := (by rw [zi_lt, z0I] at bq8; omega); have q2 := zi_lt.mp bq21; rw [nI_toInt (by omega)] at q2; obtain ⟨i, h1, h2⟩ := zof_nat q1 q2 (by omega); exact ⟨k, i, hk, hxk, h1, h2⟩), rfl⟩
set_option maxRecDepth 100000 in
set_option maxHeartbeats 4000000 in
theorem c_X3_keepDraft {l : Launch} {gg : zG} {σ : zS} {k n : Nat} (hk : k < 6) (hs : si σ 6 = nI n) (hn : n ≤ 16) : zMi l gg yX3_keepDraft cX3_keepDraft .int 2 2 46 [.ref (zo gg), .ref (zc gg k)] σ (fun r u => (¬ (∀ i, i < n → zbdP σ 6 i) ∧ r = -5 ∧ u = σ) ∨ ((∀ i, i < n → zbdP σ 6 i) ∧ r = 1 ∧ u = zc3 (ui σ k (nI n)) k (zfill n (sa σ 6) (sa σ k)) (zfill n (sa σ (7 + 6)) (sa σ (7 + k))) (zfill n (sa σ (14 + 6)) (sa σ (14 + k))))) := by
  refine zM_i (own := RX3) (lv := [some (.ref (zo gg)), some (.ref (zc gg k))]) (by decide +kernel) rfl (Nat.le_of_ble_eq_true rfl) rfl (fun cx hc hR hI => ?_)
  refine J_aloadn_0 (pc := 0) hc dX3_keepDraft_0 ?_
  refine gX3_16 (pc := 1) hc dX3_keepDraft_1 ?_
  refine kX3_180 (pc := 4) hc hR (by omega) dX3_keepDraft_4 (c_X0_isInBounds (by omega) (by first | rfl | assumption) (by omega)) (by decide) (Nat.le_of_ble_eq_true rfl) rfl (fun r u hu => ?_)
  have hr := hu.1
  refine J_eq hu.2 ?_
  refine J_if_ne (pc := 7) hc 13 dX3_keepDraft_7 (by decide) (fun bq7 => ?_) (fun bq7 => ?_)
  · skip
    refine J_aloadn_1 (pc := 13) hc dX3_keepDraft_13 ?_
    refine J_aloadn_0 (pc := 14) hc dX3_keepDraft_14 ?_
    refine gX3_16 (pc := 15) hc dX3_keepDraft_15 ?_
    refine kX3_183 (pc := 18) hc hR (by omega) dX3_keepDraft_18 (c_X0_becomeCopy (by omega) (by omega) (by omega) (by first | rfl | assumption) (by omega)) (by decide) (Nat.le_of_ble_eq_true rfl) rfl (fun u hu => ?_)
    refine J_eq hu ?_
    refine J_iconst (pc := 21) hc dX3_keepDraft_21 (v := 1) (by decide) ?_
    exact J_iret (pc := 22) hc hI dX3_keepDraft_22 (Or.inr ⟨hr.t bq7, rfl, rfl⟩)
  · skip
    refine J_bipush (pc := 10) hc dX3_keepDraft_10 (v := -5) (by decide) ?_
    exact J_iret (pc := 12) hc hI dX3_keepDraft_12 (Or.inl ⟨hr.f bq7, rfl, rfl⟩)
set_option maxRecDepth 100000 in
set_option maxHeartbeats 4000000 in
theorem c_X3_countZeros {l : Launch} {gg : zG} {σ : zS} {k n : Nat} (hk : k < 7) (hs : si σ k = nI n) (hn : n ≤ 16) (hbn : ∀ i, i < n → zbd (sa σ k i).toInt 200000 ∧ zbd (sa σ (7 + k) i).toInt 200000 ∧ zbd (sa σ (14 + k) i).toInt 200000) : zMi l gg yX3_countZeros cX3_countZeros .int 2 5 119 [.ref (zo gg), .ref (zc gg k)] σ (fun r u => ((∃ i, i < n ∧ zzP σ k i) ∧ r = -4 ∧ u = σ) ∨ ((¬ ∃ i, i < n ∧ zzP σ k i) ∧ r = nI (zbl (zcoI σ k) (zcoI σ (7 + k)) (zcoI σ (14 + k)) n n).length ∧ ∃ w, u = zfs σ (zbl (zcoI σ k) (zcoI σ (7 + k)) (zcoI σ (14 + k)) n n) w)) := by
  refine zM_i (own := RX3) (lv := [some (.ref (zo gg)), some (.ref (zc gg k))]) (by decide +kernel) rfl (Nat.le_of_ble_eq_true rfl) rfl (fun cx hc hR hI => ?_)
  refine J_aloadn_1 (pc := 0) hc dX3_countZeros_0 ?_
  refine kX3_186 (pc := 1) hc hR (by omega) dX3_countZeros_1 (c_X0_hasZeroPiece (by omega) (by first | rfl | assumption) (by omega)) (by decide) (Nat.le_of_ble_eq_true rfl) rfl (fun r u hu => ?_)
  have hr := hu.1
  refine J_eq hu.2 ?_
  refine J_if_eq (pc := 4) hc 10 dX3_countZeros_4 (by decide) (fun bq4 => ?_) (fun bq4 => ?_)
  · skip
    refine J_aloadn_0 (pc := 10) hc dX3_countZeros_10 ?_
    refine gX3_23 (pc := 11) hc dX3_countZeros_11 ?_
    refine J_aloadn_1 (pc := 14) hc dX3_countZeros_14 ?_
    refine kX3_189 (pc := 15) hc hR dX3_countZeros_15 (c_X2_search (by omega) (by first | rfl | assumption) (by omega) (by assumption)) (by decide) (Nat.le_of_ble_eq_true rfl) rfl (fun u hu => ?_)
    obtain ⟨w, hu⟩ := hu
    refine J_eq hu ?_
    refine J_aloadn_0 (pc := 18) hc dX3_countZeros_18 ?_
    refine gX3_23 (pc := 19) hc dX3_countZeros_19 ?_
    refine gX3_192 (pc := 22) hc dX3_countZeros_22 ?_
    exact J_iret (pc := 25) hc hI dX3_countZeros_25 (Or.inr ⟨hr.f bq4, rfl, w, rfl⟩)
  · skip
    refine J_bipush (pc := 7) hc dX3_countZeros_7 (v := -4) (by decide) ?_
    exact J_iret (pc := 9) hc hI dX3_countZeros_9 (Or.inl ⟨hr.t bq4, rfl, rfl⟩)
set_option maxRecDepth 100000 in
set_option maxHeartbeats 4000000 in
theorem c_X3_draftSpline {l : Launch} {gg : zG} {σ : zS} {s : Int32} {m : Nat} (hm : si σ 7 = nI m) (h2 : 2 ≤ m) (hm2 : m ≤ 17) : zMv l gg yX3_draftSpline cX3_draftSpline 5 2 46 [.ref (zo gg), .int s] σ (fun u => u = zspl σ s (m - 1)) := by
  refine zM_v (own := RX3) (lv := [some (.ref (zo gg)), some (.int s), none, none, none]) (by decide +kernel) rfl (Nat.le_of_ble_eq_true rfl) rfl (fun cx hc hR hI => ?_)
  refine J_iloadn_1 (pc := 0) hc dX3_draftSpline_0 ?_
  refine J_istoren_2 (pc := 1) hc dX3_draftSpline_1 rfl ?_
  refine J_aloadn_0 (pc := 2) hc dX3_draftSpline_2 ?_
  refine gX3_16 (pc := 3) hc dX3_draftSpline_3 ?_
  refine J_aloadn_0 (pc := 6) hc dX3_draftSpline_6 ?_
  refine gX3_38 (pc := 7) hc dX3_draftSpline_7 ?_
  refine J_iconst (pc := 10) hc dX3_draftSpline_10 (v := 1) (by decide) ?_
  refine J_isub (pc := 11) hc dX3_draftSpline_11 ?_
  refine J_topi (y := nI (m - 1)) (by rw [hm]; exact zm1 (by omega)) ?_
  refine kX3_46 (pc := 12) hc hR (by omega) dX3_draftSpline_12 (c_X0_becomeZero (by omega) (by first | rfl | assumption) (by omega)) (by decide) (Nat.le_of_ble_eq_true rfl) rfl (fun u hu => ?_)
  refine J_eq hu ?_
  refine J_iconst (pc := 15) hc dX3_draftSpline_15 (v := 0) (by decide) ?_
  refine J_istoren_3 (pc := 16) hc dX3_draftSpline_16 rfl ?_
  have hL17 : ∀ (μ : Nat) (i : Nat), (m - 1) - i = μ → i ≤ m - 1 → J cx gg (zQv cx gg (fun u => u = zspl σ s (m - 1))) (zc3 (ui σ 6 (nI (m - 1))) 6 (zfill i (sa σ 21) (zfill (m - 1) (fun _ => 0) (sa σ 6))) (zfill i (zsq σ s) (zfill (m - 1) (fun _ => 0) (sa σ (7 + 6)))) (zfill i (fun i => sa σ 21 (i + 1) - sa σ 21 i - zsq σ s i) (zfill (m - 1) (fun _ => 0) (sa σ (14 + 6))))) 17 [some (.ref (zo gg)), some (.int s), some (.int (zsq σ s i)), some (.int (nI i)), none] [] := by
    intro μ
    induction μ using Nat.strongRecOn with
    | ind μ ih17 =>
      intro i hμ hi
      refine J_iloadn_3 (pc := 17) hc dX3_draftSpline_17 ?_
      refine J_aloadn_0 (pc := 18) hc dX3_draftSpline_18 ?_
      refine gX3_16 (pc := 19) hc dX3_draftSpline_19 ?_
      refine gX3_77 (pc := 22) hc (by omega) dX3_draftSpline_22 ?_
      refine J_icmp_ge (pc := 25) hc 77 dX3_draftSpline_25 (by decide) (fun bq25 => ?_) (fun bq25 => ?_)
      · skip
        have bq25 := (zge rfl (by rw [si_zc3, si_ui_s]) (by omega) (by omega)).mp bq25
        exact J_vret (pc := 77) hc hI dX3_draftSpline_77 (by rw [show i = m - 1 by omega, zfill_zfill, zfill_zfill, zfill_zfill]; rfl)
      · skip
        have bq25 := mt (zge rfl (by rw [si_zc3, si_ui_s]) (by omega) (by omega)).mpr bq25
        refine J_aloadn_0 (pc := 28) hc dX3_draftSpline_28 ?_
        refine gX3_34 (pc := 29) hc dX3_draftSpline_29 ?_
        refine J_iloadn_3 (pc := 32) hc dX3_draftSpline_32 ?_
        refine J_iconst (pc := 33) hc dX3_draftSpline_33 (v := 1) (by decide) ?_
        refine J_iadd (pc := 34) hc dX3_draftSpline_34 ?_
        refine J_iald (pc := 35) hc 17 (by omega) rfl dX3_draftSpline_35 (by first | with_reducible exact rfl | with_reducible exact nI_1 _ | with_reducible exact z16 _ _ | with_reducible exact zm1 (by omega) | assumption | exact rfl) (by omega) ?_
        refine J_aloadn_0 (pc := 36) hc dX3_draftSpline_36 ?_
        refine gX3_34 (pc := 37) hc dX3_draftSpline_37 ?_
        refine J_iloadn_3 (pc := 40) hc dX3_draftSpline_40 ?_
        refine J_iald (pc := 41) hc 17 (by omega) rfl dX3_draftSpline_41 (by first | with_reducible exact rfl | with_reducible exact nI_1 _ | with_reducible exact z16 _ _ | with_reducible exact zm1 (by omega) | assumption | exact rfl) (by omega) ?_
        refine J_isub (pc := 42) hc dX3_draftSpline_42 ?_
        refine J_istore_4 (pc := 43) hc dX3_draftSpline_43 rfl ?_
        refine J_aloadn_0 (pc := 45) hc dX3_draftSpline_45 ?_
        refine gX3_16 (pc := 46) hc dX3_draftSpline_46 ?_
        refine J_iloadn_3 (pc := 49) hc dX3_draftSpline_49 ?_
        refine J_aloadn_0 (pc := 50) hc dX3_draftSpline_50 ?_
        refine gX3_34 (pc := 51) hc dX3_draftSpline_51 ?_
        refine J_iloadn_3 (pc := 54) hc dX3_draftSpline_54 ?_
        refine J_iald (pc := 55) hc 17 (by omega) rfl dX3_draftSpline_55 (by first | with_reducible exact rfl | with_reducible exact nI_1 _ | with_reducible exact z16 _ _ | with_reducible exact zm1 (by omega) | assumption | exact rfl) (by omega) ?_
        refine J_iloadn_2 (pc := 56) hc dX3_draftSpline_56 ?_
        refine J_iload_4 (pc := 57) hc dX3_draftSpline_57 ?_
        refine J_iloadn_2 (pc := 59) hc dX3_draftSpline_59 ?_
        refine J_isub (pc := 60) hc dX3_draftSpline_60 ?_
        refine kX3_58 (pc := 61) hc hR (by omega) dX3_draftSpline_61 (c_X0_put (by omega) rfl (by omega)) (by decide) (Nat.le_of_ble_eq_true rfl) rfl (fun u hu => ?_)
        refine J_eq hu ?_
        refine J_iconst (pc := 64) hc dX3_draftSpline_64 (v := 2) (by decide) ?_
        refine J_iload_4 (pc := 65) hc dX3_draftSpline_65 ?_
        refine J_imul (pc := 67) hc dX3_draftSpline_67 ?_
        refine J_iloadn_2 (pc := 68) hc dX3_draftSpline_68 ?_
        refine J_isub (pc := 69) hc dX3_draftSpline_69 ?_
        refine J_istoren_2 (pc := 70) hc dX3_draftSpline_70 rfl ?_
        refine J_iinc_3 (pc := 71) hc dX3_draftSpline_71 (by first | exact nI_1 _ | exact rfl) rfl ?_
        refine J_goto (pc := 74) hc 17 dX3_draftSpline_74 (by decide) ?_
        exact J_weak (by repeat (first | exact zle_nil | apply zle_s | apply zle_n)) (J_eq (by rw [sa_zc3_a, sa_zc3_b, sa_zc3_c, zc3_zc3]; exact zc3_eq (zfill_s rfl) (zfill_s rfl) (zfill_s rfl)) (ih17 _ (by omega) (i + 1) rfl (by omega)))
  exact J_weak (by repeat (first | exact zle_nil | apply zle_s | apply zle_n)) (J_eq (by rw [zfill_0, zfill_0, zfill_0]) (hL17 _ 0 rfl (by omega)))
set_option maxRecDepth 100000 in
set_option maxHeartbeats 4000000 in
theorem c_X3_findSlopes {l : Launch} {gg : zG} {σ : zS} {x : Int32} {m : Nat} (hm : si σ 7 = nI m) (h2 : 2 ≤ m) (hm2 : m ≤ 17) : zMv l gg yX3_findSlopes cX3_findSlopes 5 3 70 [.ref (zo gg), .int x] σ (fun u => u = (if x = 0 then zrg (zspl σ 0 (m - 1)) (-1000, 1000) else zrg (zspl σ 0 (m - 1)) (zrgs (zspl σ 0 (m - 1)) x (if x = 2 ∨ x = 4 then -1 else 1) (m - 1)))) := by
  refine zM_v (own := RX3) (lv := [some (.ref (zo gg)), some (.int x), none, none, none]) (by decide +kernel) rfl (Nat.le_of_ble_eq_true rfl) rfl (fun cx hc hR hI => ?_)
  refine J_aloadn_0 (pc := 0) hc dX3_findSlopes_0 ?_
  refine J_iconst (pc := 1) hc dX3_findSlopes_1 (v := 0) (by decide) ?_
  refine kX3_174 (pc := 2) hc hR dX3_findSlopes_2 (c_X3_draftSpline (m := m) hm h2 hm2) (by decide) (Nat.le_of_ble_eq_true rfl) rfl (fun u hu => ?_)
  refine J_eq hu ?_
  refine J_aloadn_0 (pc := 5) hc dX3_findSlopes_5 ?_
  refine gX3_30 (pc := 6) hc dX3_findSlopes_6 ?_
  refine J_sipush (pc := 9) hc dX3_findSlopes_9 (v := 1000) (by decide) ?_
  refine kX3_205 (pc := 12) hc hR dX3_findSlopes_12 (c_X1_becomeAll) (by decide) (Nat.le_of_ble_eq_true rfl) rfl (fun u hu => ?_)
  refine J_eq hu ?_
  refine J_iloadn_1 (pc := 15) hc dX3_findSlopes_15 ?_
  refine J_if_ne (pc := 16) hc 20 dX3_findSlopes_16 (by decide) (fun bq16 => ?_) (fun bq16 => ?_)
  · skip
    refine J_iloadn_1 (pc := 20) hc dX3_findSlopes_20 ?_
    refine kX3_94 (pc := 21) hc hR dX3_findSlopes_21 (c_X3_signOfShape) (by decide) (Nat.le_of_ble_eq_true rfl) rfl (fun r u hu => ?_)
    refine J_eq hu.2 (J_topi hu.1 ?_)
    refine J_istoren_2 (pc := 24) hc dX3_findSlopes_24 rfl ?_
    refine J_iloadn_2 (pc := 25) hc dX3_findSlopes_25 ?_
    refine J_istoren_3 (pc := 26) hc dX3_findSlopes_26 rfl ?_
    refine J_iconst (pc := 27) hc dX3_findSlopes_27 (v := 0) (by decide) ?_
    refine J_istore_4 (pc := 28) hc dX3_findSlopes_28 rfl ?_
    have hL30 : ∀ (μ : Nat) (i : Nat), (m - 1) - i = μ → i ≤ m - 1 → J cx gg (zQv cx gg (fun u => u = (if x = 0 then zrg (zspl σ 0 (m - 1)) (-1000, 1000) else zrg (zspl σ 0 (m - 1)) (zrgs (zspl σ 0 (m - 1)) x (if x = 2 ∨ x = 4 then -1 else 1) (m - 1))))) (zrg (zspl σ 0 (m - 1)) (zrgs (zspl σ 0 (m - 1)) x (if x = 2 ∨ x = 4 then -1 else 1) i)) 30 [some (.ref (zo gg)), some (.int x), some (.int (if x = 2 ∨ x = 4 then -1 else 1)), some (.int (ztrn (if x = 2 ∨ x = 4 then -1 else 1) i)), some (.int (nI i))] [] := by
      intro μ
      induction μ using Nat.strongRecOn with
      | ind μ ih30 =>
        intro i hμ hi
        refine J_iload_4 (pc := 30) hc dX3_findSlopes_30 ?_
        refine J_aloadn_0 (pc := 32) hc dX3_findSlopes_32 ?_
        refine gX3_16 (pc := 33) hc dX3_findSlopes_33 ?_
        refine gX3_77 (pc := 36) hc (by omega) dX3_findSlopes_36 ?_
        refine J_icmp_ge (pc := 39) hc 122 dX3_findSlopes_39 (by decide) (fun bq39 => ?_) (fun bq39 => ?_)
        · skip
          have bq39 := (zge rfl rfl (by omega) (by omega)).mp bq39
          exact J_vret (pc := 122) hc hI dX3_findSlopes_122 (by rw [show i = m - 1 by omega, if_neg bq16])
        · skip
          have bq39 := mt (zge rfl rfl (by omega) (by omega)).mpr bq39
          refine J_iloadn_1 (pc := 42) hc dX3_findSlopes_42 ?_
          refine kX3_97 (pc := 43) hc hR dX3_findSlopes_43 (c_X3_isBent) (by decide) (Nat.le_of_ble_eq_true rfl) rfl (fun r u hu => ?_)
          have hr := hu.1
          refine J_eq hu.2 ?_
          refine J_if_eq (pc := 46) hc 73 dX3_findSlopes_46 (by decide) (fun bq46 => ?_) (fun bq46 => ?_)
          · skip
            refine J_aloadn_0 (pc := 73) hc dX3_findSlopes_73 ?_
            refine gX3_30 (pc := 74) hc dX3_findSlopes_74 ?_
            refine J_iloadn_2 (pc := 77) hc dX3_findSlopes_77 ?_
            refine J_aloadn_0 (pc := 78) hc dX3_findSlopes_78 ?_
            refine gX3_16 (pc := 79) hc dX3_findSlopes_79 ?_
            refine gX3_66 (pc := 82) hc (by omega) dX3_findSlopes_82 ?_
            refine J_iload_4 (pc := 85) hc dX3_findSlopes_85 ?_
            refine J_iald (pc := 87) hc 16 (by omega) (zlen_c (by omega)) dX3_findSlopes_87 (by first | with_reducible exact rfl | with_reducible exact nI_1 _ | with_reducible exact z16 _ _ | with_reducible exact zm1 (by omega) | assumption | exact rfl) (by omega) ?_
            refine J_imul (pc := 88) hc dX3_findSlopes_88 ?_
            refine J_iloadn_3 (pc := 89) hc dX3_findSlopes_89 ?_
            refine kX3_208 (pc := 90) hc hR dX3_findSlopes_90 (c_X1_require) (by decide) (Nat.le_of_ble_eq_true rfl) rfl (fun u hu => ?_)
            refine J_eq (hu.trans (zrg_req _ _ _ _)) ?_
            refine J_aloadn_0 (pc := 93) hc dX3_findSlopes_93 ?_
            refine gX3_30 (pc := 94) hc dX3_findSlopes_94 ?_
            refine J_iloadn_2 (pc := 97) hc dX3_findSlopes_97 ?_
            refine J_aloadn_0 (pc := 98) hc dX3_findSlopes_98 ?_
            refine gX3_16 (pc := 99) hc dX3_findSlopes_99 ?_
            refine J_iload_4 (pc := 102) hc dX3_findSlopes_102 ?_
            refine kX3_212 (pc := 104) hc hR (by omega) dX3_findSlopes_104 (c_X0_slopeAtEnd (by omega) (by first | rfl | assumption) (by omega)) (by decide) (Nat.le_of_ble_eq_true rfl) rfl (fun r u hu => ?_)
            refine J_eq hu.2 (J_topi hu.1 ?_)
            refine J_imul (pc := 107) hc dX3_findSlopes_107 ?_
            refine J_iloadn_3 (pc := 108) hc dX3_findSlopes_108 ?_
            refine J_ineg (pc := 109) hc dX3_findSlopes_109 ?_
            refine kX3_208 (pc := 110) hc hR dX3_findSlopes_110 (c_X1_require) (by decide) (Nat.le_of_ble_eq_true rfl) rfl (fun u hu => ?_)
            refine J_eq (hu.trans (zrg_req _ _ _ _)) ?_
            refine J_iloadn_3 (pc := 113) hc dX3_findSlopes_113 ?_
            refine J_ineg (pc := 114) hc dX3_findSlopes_114 ?_
            refine J_istoren_3 (pc := 115) hc dX3_findSlopes_115 rfl ?_
            refine J_iinc_4 (pc := 116) hc dX3_findSlopes_116 (by first | exact nI_1 _ | exact rfl) rfl ?_
            refine J_goto (pc := 119) hc 30 dX3_findSlopes_119 (by decide) ?_
            rw [ztrn_s]
            first | exact J_weak (by repeat (first | exact zle_nil | apply zle_s | apply zle_n)) (J_eq (by rw [zrgs, if_pos (hr.t bq46), ztrn_s]; rfl) (ih30 _ (by omega) (i + 1) rfl (by omega))) | exact J_weak (by repeat (first | exact zle_nil | apply zle_s | apply zle_n)) (J_eq (by rw [zrgs, if_neg (hr.f bq46), ztrn_s]; rfl) (ih30 _ (by omega) (i + 1) rfl (by omega)))
          · skip
            refine J_aloadn_0 (pc := 49) hc dX3_findSlopes_49 ?_
            refine gX3_30 (pc := 50) hc dX3_findSlopes_50 ?_
            refine J_iloadn_2 (pc := 53) hc dX3_findSlopes_53 ?_
            refine J_aloadn_0 (pc := 54) hc dX3_findSlopes_54 ?_
            refine gX3_16 (pc := 55) hc dX3_findSlopes_55 ?_
            refine gX3_69 (pc := 58) hc (by omega) dX3_findSlopes_58 ?_
            refine J_iload_4 (pc := 61) hc dX3_findSlopes_61 ?_
            refine J_iald (pc := 63) hc 16 (by omega) (zlen_c (by omega)) dX3_findSlopes_63 (by first | with_reducible exact rfl | with_reducible exact nI_1 _ | with_reducible exact z16 _ _ | with_reducible exact zm1 (by omega) | assumption | exact rfl) (by omega) ?_
            refine J_imul (pc := 64) hc dX3_findSlopes_64 ?_
            refine J_iloadn_3 (pc := 65) hc dX3_findSlopes_65 ?_
            refine J_ineg (pc := 66) hc dX3_findSlopes_66 ?_
            refine kX3_208 (pc := 67) hc hR dX3_findSlopes_67 (c_X1_require) (by decide) (Nat.le_of_ble_eq_true rfl) rfl (fun u hu => ?_)
            refine J_eq (hu.trans (zrg_req _ _ _ _)) ?_
            refine J_goto (pc := 70) hc 113 dX3_findSlopes_70 (by decide) ?_
            refine J_iloadn_3 (pc := 113) hc dX3_findSlopes_113 ?_
            refine J_ineg (pc := 114) hc dX3_findSlopes_114 ?_
            refine J_istoren_3 (pc := 115) hc dX3_findSlopes_115 rfl ?_
            refine J_iinc_4 (pc := 116) hc dX3_findSlopes_116 (by first | exact nI_1 _ | exact rfl) rfl ?_
            refine J_goto (pc := 119) hc 30 dX3_findSlopes_119 (by decide) ?_
            rw [ztrn_s]
            first | exact J_weak (by repeat (first | exact zle_nil | apply zle_s | apply zle_n)) (J_eq (by rw [zrgs, if_pos (hr.t bq46), ztrn_s]; rfl) (ih30 _ (by omega) (i + 1) rfl (by omega))) | exact J_weak (by repeat (first | exact zle_nil | apply zle_s | apply zle_n)) (J_eq (by rw [zrgs, if_neg (hr.f bq46), ztrn_s]; rfl) (ih30 _ (by omega) (i + 1) rfl (by omega)))
    exact J_weak (by repeat (first | exact zle_nil | apply zle_s | apply zle_n)) (hL30 _ 0 rfl (by omega))
  · skip
    exact J_vret (pc := 19) hc hI dX3_findSlopes_19 (if_pos bq16).symm
set_option maxRecDepth 100000 in
set_option maxHeartbeats 4000000 in
theorem c_X3_leastBentOfAll {l : Launch} {gg : zG} {σ : zS} {n : Nat} (hs : si σ 6 = nI n) (h1 : 1 ≤ n) (hn : n ≤ 16) : zMi l gg yX3_leastBentOfAll cX3_leastBentOfAll .int 4 1 22 [.ref (zo gg)] σ (fun r u => r = -zfdI (nI n - 2 * zsum σ n) (2 * nI n) ∧ u = σ) := by
  refine zM_i (own := RX3) (lv := [some (.ref (zo gg)), none, none, none]) (by decide +kernel) rfl (Nat.le_of_ble_eq_true rfl) rfl (fun cx hc hR hI => ?_)
  refine J_iconst (pc := 0) hc dX3_leastBentOfAll_0 (v := 0) (by decide) ?_
  refine J_istoren_1 (pc := 1) hc dX3_leastBentOfAll_1 rfl ?_
  refine J_iconst (pc := 2) hc dX3_leastBentOfAll_2 (v := 1) (by decide) ?_
  refine J_istoren_2 (pc := 3) hc dX3_leastBentOfAll_3 rfl ?_
  refine J_iconst (pc := 4) hc dX3_leastBentOfAll_4 (v := 0) (by decide) ?_
  refine J_istoren_3 (pc := 5) hc dX3_leastBentOfAll_5 rfl ?_
  have hL6 : ∀ (μ : Nat) (i : Nat), n - i = μ → i ≤ n → J cx gg (zQi cx gg (fun r u => r = -zfdI (nI n - 2 * zsum σ n) (2 * nI n) ∧ u = σ)) σ 6 [some (.ref (zo gg)), some (.int (zsum σ i)), some (.int (ztrn 1 i)), some (.int (nI i))] [] := by
    intro μ
    induction μ using Nat.strongRecOn with
    | ind μ ih6 =>
      intro i hμ hi
      refine J_iloadn_3 (pc := 6) hc dX3_leastBentOfAll_6 ?_
      refine J_aloadn_0 (pc := 7) hc dX3_leastBentOfAll_7 ?_
      refine gX3_16 (pc := 8) hc dX3_leastBentOfAll_8 ?_
      refine gX3_77 (pc := 11) hc (by omega) dX3_leastBentOfAll_11 ?_
      refine J_icmp_ge (pc := 14) hc 40 dX3_leastBentOfAll_14 (by decide) (fun bq14 => ?_) (fun bq14 => ?_)
      · skip
        have bq14 := (zge rfl hs (by omega) (by omega)).mp bq14
        refine J_iconst (pc := 40) hc dX3_leastBentOfAll_40 (v := 1) (by decide) ?_
        refine J_aloadn_0 (pc := 41) hc dX3_leastBentOfAll_41 ?_
        refine gX3_16 (pc := 42) hc dX3_leastBentOfAll_42 ?_
        refine gX3_77 (pc := 45) hc (by omega) dX3_leastBentOfAll_45 ?_
        refine kX3_167 (pc := 48) hc hR dX3_leastBentOfAll_48 (c_J9_max_7cf53) (by decide) (Nat.le_of_ble_eq_true rfl) rfl (fun r u hu => ?_)
        refine J_eq hu.2 (J_topi hu.1 ?_)
        refine J_topi (y := nI n) (by rw [hs]; split; rfl; rename_i h; rw [zi_lt, nI_toInt (by omega)] at h; rw [show n = 1 by (have : (1 : Int32).toInt = 1 := by decide); omega]; rfl) ?_
        refine J_istoren_3 (pc := 51) hc dX3_leastBentOfAll_51 rfl ?_
        refine J_iloadn_3 (pc := 52) hc dX3_leastBentOfAll_52 ?_
        refine J_iconst (pc := 53) hc dX3_leastBentOfAll_53 (v := 2) (by decide) ?_
        refine J_iloadn_1 (pc := 54) hc dX3_leastBentOfAll_54 ?_
        refine J_imul (pc := 55) hc dX3_leastBentOfAll_55 ?_
        refine J_isub (pc := 56) hc dX3_leastBentOfAll_56 ?_
        refine J_iconst (pc := 57) hc dX3_leastBentOfAll_57 (v := 2) (by decide) ?_
        refine J_iloadn_3 (pc := 58) hc dX3_leastBentOfAll_58 ?_
        refine J_imul (pc := 59) hc dX3_leastBentOfAll_59 ?_
        refine kX3_215 (pc := 60) hc hR dX3_leastBentOfAll_60 (c_J9_floorDiv_7cf53 (by rw [z2, zi_eq, nI_toInt (by omega)]; simp; omega)) (by decide) (Nat.le_of_ble_eq_true rfl) rfl (fun r u hu => ?_)
        refine J_eq hu.2 (J_topi hu.1 ?_)
        refine J_ineg (pc := 63) hc dX3_leastBentOfAll_63 ?_
        exact J_iret (pc := 64) hc hI dX3_leastBentOfAll_64 ⟨by rw [show i = n by omega]; rfl, rfl⟩
      · skip
        have bq14 := mt (zge rfl hs (by omega) (by omega)).mpr bq14
        refine J_iloadn_1 (pc := 17) hc dX3_leastBentOfAll_17 ?_
        refine J_iloadn_2 (pc := 18) hc dX3_leastBentOfAll_18 ?_
        refine J_aloadn_0 (pc := 19) hc dX3_leastBentOfAll_19 ?_
        refine gX3_16 (pc := 20) hc dX3_leastBentOfAll_20 ?_
        refine gX3_69 (pc := 23) hc (by omega) dX3_leastBentOfAll_23 ?_
        refine J_iloadn_3 (pc := 26) hc dX3_leastBentOfAll_26 ?_
        refine J_iald (pc := 27) hc 16 (by omega) (zlen_c (by omega)) dX3_leastBentOfAll_27 (by first | with_reducible exact rfl | with_reducible exact nI_1 _ | with_reducible exact z16 _ _ | with_reducible exact zm1 (by omega) | assumption | exact rfl) (by omega) ?_
        refine J_imul (pc := 28) hc dX3_leastBentOfAll_28 ?_
        refine J_iadd (pc := 29) hc dX3_leastBentOfAll_29 ?_
        refine J_istoren_1 (pc := 30) hc dX3_leastBentOfAll_30 rfl ?_
        refine J_iloadn_2 (pc := 31) hc dX3_leastBentOfAll_31 ?_
        refine J_ineg (pc := 32) hc dX3_leastBentOfAll_32 ?_
        refine J_istoren_2 (pc := 33) hc dX3_leastBentOfAll_33 rfl ?_
        rw [ztrn_s]
        refine J_iinc_3 (pc := 34) hc dX3_leastBentOfAll_34 (by first | exact nI_1 _ | exact rfl) rfl ?_
        refine J_goto (pc := 37) hc 6 dX3_leastBentOfAll_37 (by decide) ?_
        exact J_weak (by repeat (first | exact zle_nil | apply zle_s | apply zle_n)) (ih6 _ (by omega) (i + 1) rfl (by omega))
  exact J_weak (by repeat (first | exact zle_nil | apply zle_s | apply zle_n)) (hL6 _ 0 rfl (by omega))
