/-! numbers -/
theorem zMF_i {l : Launch} {gg : zG} {y : MethodName} {cc : ByteArray} {ret : FieldType} {maxL fr lo : Nat} {as : List Value} {σ : zS} {post : Int32 → zS → Prop} {own : String} {lv : List (Option Value)} (hy : plainFor y = true) (ho : y.cls = own) (hle : (lg_sl as).length ≤ maxL) (hlv : zargs as ++ List.replicate (maxL - (zargs as).length) none = lv)
    (body : ∀ cx : zX, zOK cx gg cc own maxL → zR cx fr lo → zIn cx gg (some ret) → J cx gg (zQi cx gg post) σ 0 lv []) : zMi l gg y cc ret maxL fr lo as σ post := by
  refine va_MetF (cc := cc) (maxL := maxL) (ret := (some ret)) hy rfl ?_
  intro p e s m args below meth c s₁ B hml hv
  obtain ⟨rfl, hK, hP⟩ := hv
  have hts := atoms_spec (ws := Cond.code y cc maxL (some ret) :: zT) B.pre
  rw [lg_entry_eq]
  subst ho
  exact body ((p, l, e, { frames := fr, cells := 0, slots := 0, locals := lo }), (s, m, as.toArray, below), (meth, c, 0, 0), zA gg) ⟨B.exec, B.bytes, hml, findClass_of_methodNamed B.named, fun w hw => hts w (List.mem_cons_of_mem _ hw), hK, fun i hi => ⟨i, hi, rfl⟩, B.notSynchronized⟩ ⟨Nat.le_refl _, Nat.le_refl _, Nat.zero_le _, Nat.zero_le _⟩ ⟨B.returns, rfl⟩ s.heap [] _ hP va_S.rf (zL_entry as hle hlv)
theorem zMF_l {l : Launch} {gg : zG} {y : MethodName} {cc : ByteArray} {maxL fr lo : Nat} {as : List Value} {σ : zS} {post : Int64 → zS → Prop} {own : String} {lv : List (Option Value)} (hy : plainFor y = true) (ho : y.cls = own) (hle : (lg_sl as).length ≤ maxL) (hlv : zargs as ++ List.replicate (maxL - (zargs as).length) none = lv)
    (body : ∀ cx : zX, zOK cx gg cc own maxL → zR cx fr lo → zIn cx gg (some .long) → J cx gg (zQl cx gg post) σ 0 lv []) : zMl l gg y cc maxL fr lo as σ post := by
  refine va_MetF (cc := cc) (maxL := maxL) (ret := (some .long)) hy rfl ?_
  intro p e s m args below meth c s₁ B hml hv
  obtain ⟨rfl, hK, hP⟩ := hv
  have hts := atoms_spec (ws := Cond.code y cc maxL (some .long) :: zT) B.pre
  rw [lg_entry_eq]
  subst ho
  exact body ((p, l, e, { frames := fr, cells := 0, slots := 0, locals := lo }), (s, m, as.toArray, below), (meth, c, 0, 0), zA gg) ⟨B.exec, B.bytes, hml, findClass_of_methodNamed B.named, fun w hw => hts w (List.mem_cons_of_mem _ hw), hK, fun i hi => ⟨i, hi, rfl⟩, B.notSynchronized⟩ ⟨Nat.le_refl _, Nat.le_refl _, Nat.zero_le _, Nat.zero_le _⟩ ⟨B.returns, rfl⟩ s.heap [] _ hP va_S.rf (zL_entry as hle hlv)
theorem z16 (k i : Nat) : 16 * nI k + nI i = nI (16 * k + i) := by
  rw [show (16 : Int32) = nI 16 from rfl, pk_mul, nI_add]
theorem zm1 {i : Nat} (h : 0 < i) : nI i - 1 = nI (i - 1) := by
  rw [show (1 : Int32) = nI 1 from rfl, pk_sub h]
/-- a truth value: 1 just when P -/
def zb (r : Int32) (P : Prop) : Prop := (r = 1 ∧ P) ∨ (r = 0 ∧ ¬ P)
theorem zb_1 {P : Prop} (h : P) : zb 1 P := Or.inl ⟨rfl, h⟩
theorem zb_0 {P : Prop} (h : ¬ P) : zb 0 P := Or.inr ⟨rfl, h⟩
theorem zb.t {r : Int32} {P : Prop} (h : zb r P) (c : ¬ r = 0) : P := h.elim (fun q => q.2) (fun q => absurd q.1 c)
theorem zb.f {r : Int32} {P : Prop} (h : zb r P) (c : r = 0) : ¬ P := h.elim (fun q => absurd (q.1.symm.trans c) (by decide)) (fun q => q.2)
theorem zb.n {r : Int32} {P : Prop} (h : zb r P) : narrow .boolean (.int r) = .int r := h.elim (fun q => by rw [q.1]; exact znb1) (fun q => by rw [q.1]; exact znb0)
theorem zb.eq {r r' : Int32} {P : Prop} (h : zb r P) (h' : zb r' P) : r = r' := by
  rcases h with ⟨rfl, p⟩ | ⟨rfl, p⟩ <;> rcases h' with ⟨rfl, q⟩ | ⟨rfl, q⟩ <;> first | rfl | exact absurd p q | exact absurd q p
theorem zb.iff {r : Int32} {P P' : Prop} (h : zb r P) (e : P ↔ P') : zb r P' := h.elim (fun q => Or.inl ⟨q.1, e.mp q.2⟩) (fun q => Or.inr ⟨q.1, fun z => q.2 (e.mpr z)⟩)
theorem zi_lt {x y : Int32} : x < y ↔ x.toInt < y.toInt := Int32.lt_iff_toInt_lt
theorem zi_le {x y : Int32} : x ≤ y ↔ x.toInt ≤ y.toInt := Int32.le_iff_toInt_le
theorem zi_eq {x y : Int32} : x = y ↔ x.toInt = y.toInt := Int32.toInt_inj.symm
theorem zl_lt {x y : Int64} : x < y ↔ x.toInt < y.toInt := Int64.lt_iff_toInt_lt
theorem zl_le {x y : Int64} : x ≤ y ↔ x.toInt ≤ y.toInt := Int64.le_iff_toInt_le
theorem zl_eq {x y : Int64} : x = y ↔ x.toInt = y.toInt := Int64.toInt_inj.symm
/-- a place -/
def zpl (x : Int32) : Prop := 0 ≤ x.toInt ∧ x.toInt < 6
theorem zof_nat {x : Int32} {n : Nat} (h : 0 ≤ x.toInt) (h2 : x.toInt < n) (hn : n < 2 ^ 31) : ∃ k : Nat, k < n ∧ x = nI k := by
  refine ⟨x.toInt.toNat, by omega, ?_⟩
  rw [zi_eq, nI_toInt (by omega)]
  omega
theorem zpl_nI {x : Int32} (h : zpl x) : ∃ k : Nat, k < 6 ∧ x = nI k := zof_nat (n := 6) h.1 h.2 (by omega)
theorem zpl_k {k : Nat} (h : k < 6) : zpl (nI k) := by unfold zpl; rw [nI_toInt (by omega)]; omega
def zcf (x : Int32) : Prop := -100000 ≤ x.toInt ∧ x.toInt ≤ 100000
def zcfl (x : Int64) : Prop := -100000 ≤ x.toInt ∧ x.toInt ≤ 100000
set_option maxRecDepth 100000 in
set_option maxHeartbeats 4000000 in
theorem c_J9_max_7cf53 {l : Launch} {gg : zG} {σ : zS} {x y : Int32}  : zMi l gg yJ9_max_7cf53 cJ9_max_7cf53 .int 2 0 0 [.int x, .int y] σ (fun r u => r = (if x < y then y else x) ∧ u = σ) := by
  refine zMF_i (own := RJ9) (lv := [some (.int x), some (.int y)]) (by decide +kernel) rfl (Nat.le_of_ble_eq_true rfl) rfl (fun cx hc hR hI => ?_)
  refine J_iloadn_0 (pc := 0) hc dJ9_max_7cf53_0 ?_
  refine J_iloadn_1 (pc := 1) hc dJ9_max_7cf53_1 ?_
  refine J_icmp_lt (pc := 2) hc 9 dJ9_max_7cf53_2 (by decide) (fun bq2 => ?_) (fun bq2 => ?_)
  · skip
    refine J_iloadn_1 (pc := 9) hc dJ9_max_7cf53_9 ?_
    exact J_iret (pc := 10) hc hI dJ9_max_7cf53_10 (by first | exact ⟨(if_pos (by assumption)).symm, rfl⟩ | exact ⟨(if_neg (by assumption)).symm, rfl⟩)
  · skip
    refine J_iloadn_0 (pc := 5) hc dJ9_max_7cf53_5 ?_
    refine J_goto (pc := 6) hc 10 dJ9_max_7cf53_6 (by decide) ?_
    exact J_iret (pc := 10) hc hI dJ9_max_7cf53_10 (by first | exact ⟨(if_pos (by assumption)).symm, rfl⟩ | exact ⟨(if_neg (by assumption)).symm, rfl⟩)
set_option maxRecDepth 100000 in
set_option maxHeartbeats 4000000 in
theorem c_J9_min_7cf53 {l : Launch} {gg : zG} {σ : zS} {x y : Int32}  : zMi l gg yJ9_min_7cf53 cJ9_min_7cf53 .int 2 0 0 [.int x, .int y] σ (fun r u => r = (if y < x then y else x) ∧ u = σ) := by
  refine zMF_i (own := RJ9) (lv := [some (.int x), some (.int y)]) (by decide +kernel) rfl (Nat.le_of_ble_eq_true rfl) rfl (fun cx hc hR hI => ?_)
  refine J_iloadn_0 (pc := 0) hc dJ9_min_7cf53_0 ?_
  refine J_iloadn_1 (pc := 1) hc dJ9_min_7cf53_1 ?_
  refine J_icmp_gt (pc := 2) hc 9 dJ9_min_7cf53_2 (by decide) (fun bq2 => ?_) (fun bq2 => ?_)
  · skip
    refine J_iloadn_1 (pc := 9) hc dJ9_min_7cf53_9 ?_
    exact J_iret (pc := 10) hc hI dJ9_min_7cf53_10 (by first | exact ⟨(if_pos (by assumption)).symm, rfl⟩ | exact ⟨(if_neg (by assumption)).symm, rfl⟩)
  · skip
    refine J_iloadn_0 (pc := 5) hc dJ9_min_7cf53_5 ?_
    refine J_goto (pc := 6) hc 10 dJ9_min_7cf53_6 (by decide) ?_
    exact J_iret (pc := 10) hc hI dJ9_min_7cf53_10 (by first | exact ⟨(if_pos (by assumption)).symm, rfl⟩ | exact ⟨(if_neg (by assumption)).symm, rfl⟩)
set_option maxRecDepth 100000 in
set_option maxHeartbeats 4000000 in
theorem c_J9_max_f86c9 {l : Launch} {gg : zG} {σ : zS} {x y : Int64}  : zMl l gg yJ9_max_f86c9 cJ9_max_f86c9 4 0 0 [.long x, .long y] σ (fun r u => r = (if x < y then y else x) ∧ u = σ) := by
  refine zMF_l (own := RJ9) (lv := [some (.long x), none, some (.long y), none]) (by decide +kernel) rfl (Nat.le_of_ble_eq_true rfl) rfl (fun cx hc hR hI => ?_)
  refine J_lloadn_0 (pc := 0) hc dJ9_max_f86c9_0 ?_
  refine J_lloadn_2 (pc := 1) hc dJ9_max_f86c9_1 ?_
  refine J_lcmp_lt (pc := 2) hc 10 dJ9_max_f86c9_2 dJ9_max_f86c9_3 (by decide) (fun bq2 => ?_) (fun bq2 => ?_)
  · skip
    refine J_lloadn_2 (pc := 10) hc dJ9_max_f86c9_10 ?_
    exact J_lret (pc := 11) hc hI dJ9_max_f86c9_11 (by first | exact ⟨(if_pos (by assumption)).symm, rfl⟩ | exact ⟨(if_neg (by assumption)).symm, rfl⟩)
  · skip
    refine J_lloadn_0 (pc := 6) hc dJ9_max_f86c9_6 ?_
    refine J_goto (pc := 7) hc 11 dJ9_max_f86c9_7 (by decide) ?_
    exact J_lret (pc := 11) hc hI dJ9_max_f86c9_11 (by first | exact ⟨(if_pos (by assumption)).symm, rfl⟩ | exact ⟨(if_neg (by assumption)).symm, rfl⟩)
set_option maxRecDepth 100000 in
set_option maxHeartbeats 4000000 in
theorem c_J9_abs_067f4 {l : Launch} {gg : zG} {σ : zS} {x : Int64}  : zMl l gg yJ9_abs_067f4 cJ9_abs_067f4 2 0 0 [.long x] σ (fun r u => r = (if 0 ≤ x then x else -x) ∧ u = σ) := by
  refine zMF_l (own := RJ9) (lv := [some (.long x), none]) (by decide +kernel) rfl (Nat.le_of_ble_eq_true rfl) rfl (fun cx hc hR hI => ?_)
  refine J_lloadn_0 (pc := 0) hc dJ9_abs_067f4_0 ?_
  refine J_lconst (pc := 1) hc dJ9_abs_067f4_1 (v := 0) (by decide) ?_
  refine J_lcmp_ge (pc := 2) hc 11 dJ9_abs_067f4_2 dJ9_abs_067f4_3 (by decide) (fun bq2 => ?_) (fun bq2 => ?_)
  · skip
    refine J_lloadn_0 (pc := 11) hc dJ9_abs_067f4_11 ?_
    exact J_lret (pc := 12) hc hI dJ9_abs_067f4_12 (by first | exact ⟨(if_pos (by assumption)).symm, rfl⟩ | exact ⟨(if_neg (by assumption)).symm, rfl⟩)
  · skip
    refine J_lloadn_0 (pc := 6) hc dJ9_abs_067f4_6 ?_
    refine J_lneg (pc := 7) hc dJ9_abs_067f4_7 ?_
    refine J_goto (pc := 8) hc 12 dJ9_abs_067f4_8 (by decide) ?_
    exact J_lret (pc := 12) hc hI dJ9_abs_067f4_12 (by first | exact ⟨(if_pos (by assumption)).symm, rfl⟩ | exact ⟨(if_neg (by assumption)).symm, rfl⟩)
set_option maxRecDepth 100000 in
set_option maxHeartbeats 4000000 in
theorem c_J9_floorDiv_7cf53 {l : Launch} {gg : zG} {σ : zS} {x y : Int32} (hy : ¬ y = 0) : zMi l gg yJ9_floorDiv_7cf53 cJ9_floorDiv_7cf53 .int 3 0 0 [.int x, .int y] σ (fun r u => r = (if 0 ≤ x ^^^ y then x / y else if x / y * y = x then x / y else x / y - 1) ∧ u = σ) := by
  refine zMF_i (own := RJ9) (lv := [some (.int x), some (.int y), none]) (by decide +kernel) rfl (Nat.le_of_ble_eq_true rfl) rfl (fun cx hc hR hI => ?_)
  refine J_iloadn_0 (pc := 0) hc dJ9_floorDiv_7cf53_0 ?_
  refine J_iloadn_1 (pc := 1) hc dJ9_floorDiv_7cf53_1 ?_
  refine J_idiv (pc := 2) hc dJ9_floorDiv_7cf53_2 hy ?_
  refine J_istoren_2 (pc := 3) hc dJ9_floorDiv_7cf53_3 rfl ?_
  refine J_iloadn_0 (pc := 4) hc dJ9_floorDiv_7cf53_4 ?_
  refine J_iloadn_1 (pc := 5) hc dJ9_floorDiv_7cf53_5 ?_
  refine J_ixor (pc := 6) hc dJ9_floorDiv_7cf53_6 ?_
  refine J_if_ge (pc := 7) hc 21 dJ9_floorDiv_7cf53_7 (by decide) (fun bq7 => ?_) (fun bq7 => ?_)
  · skip
    refine J_iloadn_2 (pc := 21) hc dJ9_floorDiv_7cf53_21 ?_
    exact J_iret (pc := 22) hc hI dJ9_floorDiv_7cf53_22 (by first | exact ⟨by rw [if_pos bq7], rfl⟩ | exact ⟨by rw [if_neg bq7, if_pos bq14], rfl⟩ | exact ⟨by rw [if_neg bq7, if_neg bq14], rfl⟩)
  · skip
    refine J_iloadn_2 (pc := 10) hc dJ9_floorDiv_7cf53_10 ?_
    refine J_iloadn_1 (pc := 11) hc dJ9_floorDiv_7cf53_11 ?_
    refine J_imul (pc := 12) hc dJ9_floorDiv_7cf53_12 ?_
    refine J_iloadn_0 (pc := 13) hc dJ9_floorDiv_7cf53_13 ?_
    refine J_icmp_eq (pc := 14) hc 21 dJ9_floorDiv_7cf53_14 (by decide) (fun bq14 => ?_) (fun bq14 => ?_)
    · skip
      refine J_iloadn_2 (pc := 21) hc dJ9_floorDiv_7cf53_21 ?_
      exact J_iret (pc := 22) hc hI dJ9_floorDiv_7cf53_22 (by first | exact ⟨by rw [if_pos bq7], rfl⟩ | exact ⟨by rw [if_neg bq7, if_pos bq14], rfl⟩ | exact ⟨by rw [if_neg bq7, if_neg bq14], rfl⟩)
    · skip
      refine J_iloadn_2 (pc := 17) hc dJ9_floorDiv_7cf53_17 ?_
      refine J_iconst (pc := 18) hc dJ9_floorDiv_7cf53_18 (v := 1) (by decide) ?_
      refine J_isub (pc := 19) hc dJ9_floorDiv_7cf53_19 ?_
      exact J_iret (pc := 20) hc hI dJ9_floorDiv_7cf53_20 (by first | exact ⟨by rw [if_pos bq7], rfl⟩ | exact ⟨by rw [if_neg bq7, if_pos bq14], rfl⟩ | exact ⟨by rw [if_neg bq7, if_neg bq14], rfl⟩)
set_option maxRecDepth 100000 in
set_option maxHeartbeats 4000000 in
theorem c_J9_floorDiv_f86c9 {l : Launch} {gg : zG} {σ : zS} {x y : Int64} (hy : ¬ y = 0) : zMl l gg yJ9_floorDiv_f86c9 cJ9_floorDiv_f86c9 6 0 0 [.long x, .long y] σ (fun r u => r = (if 0 ≤ x ^^^ y then x / y else if x / y * y = x then x / y else x / y - 1) ∧ u = σ) := by
  refine zMF_l (own := RJ9) (lv := [some (.long x), none, some (.long y), none, none, none]) (by decide +kernel) rfl (Nat.le_of_ble_eq_true rfl) rfl (fun cx hc hR hI => ?_)
  refine J_lloadn_0 (pc := 0) hc dJ9_floorDiv_f86c9_0 ?_
  refine J_lloadn_2 (pc := 1) hc dJ9_floorDiv_f86c9_1 ?_
  refine J_ldiv (pc := 2) hc dJ9_floorDiv_f86c9_2 hy ?_
  refine J_lstore_4 (pc := 3) hc dJ9_floorDiv_f86c9_3 rfl ?_
  refine J_lloadn_0 (pc := 5) hc dJ9_floorDiv_f86c9_5 ?_
  refine J_lloadn_2 (pc := 6) hc dJ9_floorDiv_f86c9_6 ?_
  refine J_lxor (pc := 7) hc dJ9_floorDiv_f86c9_7 ?_
  refine J_lconst (pc := 8) hc dJ9_floorDiv_f86c9_8 (v := 0) (by decide) ?_
  refine J_lcmp_ge (pc := 9) hc 27 dJ9_floorDiv_f86c9_9 dJ9_floorDiv_f86c9_10 (by decide) (fun bq9 => ?_) (fun bq9 => ?_)
  · skip
    refine J_lload_4 (pc := 27) hc dJ9_floorDiv_f86c9_27 ?_
    exact J_lret (pc := 29) hc hI dJ9_floorDiv_f86c9_29 (by first | exact ⟨by rw [if_pos bq9], rfl⟩ | exact ⟨by rw [if_neg bq9, if_pos bq18], rfl⟩ | exact ⟨by rw [if_neg bq9, if_neg bq18], rfl⟩)
  · skip
    refine J_lload_4 (pc := 13) hc dJ9_floorDiv_f86c9_13 ?_
    refine J_lloadn_2 (pc := 15) hc dJ9_floorDiv_f86c9_15 ?_
    refine J_lmul (pc := 16) hc dJ9_floorDiv_f86c9_16 ?_
    refine J_lloadn_0 (pc := 17) hc dJ9_floorDiv_f86c9_17 ?_
    refine J_lcmp_eq (pc := 18) hc 27 dJ9_floorDiv_f86c9_18 dJ9_floorDiv_f86c9_19 (by decide) (fun bq18 => ?_) (fun bq18 => ?_)
    · skip
      refine J_lload_4 (pc := 27) hc dJ9_floorDiv_f86c9_27 ?_
      exact J_lret (pc := 29) hc hI dJ9_floorDiv_f86c9_29 (by first | exact ⟨by rw [if_pos bq9], rfl⟩ | exact ⟨by rw [if_neg bq9, if_pos bq18], rfl⟩ | exact ⟨by rw [if_neg bq9, if_neg bq18], rfl⟩)
    · skip
      refine J_lload_4 (pc := 22) hc dJ9_floorDiv_f86c9_22 ?_
      refine J_lconst (pc := 24) hc dJ9_floorDiv_f86c9_24 (v := 1) (by decide) ?_
      refine J_lsub (pc := 25) hc dJ9_floorDiv_f86c9_25 ?_
      exact J_lret (pc := 26) hc hI dJ9_floorDiv_f86c9_26 (by first | exact ⟨by rw [if_pos bq9], rfl⟩ | exact ⟨by rw [if_neg bq9, if_pos bq18], rfl⟩ | exact ⟨by rw [if_neg bq9, if_neg bq18], rfl⟩)
set_option maxRecDepth 100000 in
set_option maxHeartbeats 4000000 in
theorem c_X3_isNoPlace {l : Launch} {gg : zG} {σ : zS} {x : Int32}  : zMi l gg yX3_isNoPlace cX3_isNoPlace .boolean 1 0 0 [.int x] σ (fun r u => zb r (¬ zpl x) ∧ u = σ) := by
  refine zM_i (own := RX3) (lv := [some (.int x)]) (by decide +kernel) rfl (Nat.le_of_ble_eq_true rfl) rfl (fun cx hc hR hI => ?_)
  refine J_iloadn_0 (pc := 0) hc dX3_isNoPlace_0 ?_
  refine J_if_lt (pc := 1) hc 10 dX3_isNoPlace_1 (by decide) (fun bq1 => ?_) (fun bq1 => ?_)
  · skip
    refine J_iconst (pc := 10) hc dX3_isNoPlace_10 (v := 1) (by decide) ?_
    refine J_goto (pc := 11) hc 15 dX3_isNoPlace_11 (by decide) ?_
    exact J_zret (pc := 15) hc hI dX3_isNoPlace_15 (by first | exact znb0 | exact znb1 | exact zb.n (by assumption)) ⟨by first | (refine zb_1 ?_; (unfold zpl; (try unfold zpl); (try unfold zcf); (try unfold zcfl); (try simp [zi_lt, zi_le, zi_eq, zl_lt, zl_le, zl_eq] at bq1); (try simp [zi_lt, zi_le, zi_eq, zl_lt, zl_le, zl_eq] at bq7); (try simp [zi_lt, zi_le, zi_eq, zl_lt, zl_le, zl_eq]); omega)) | (refine zb_0 ?_; (unfold zpl; (try unfold zpl); (try unfold zcf); (try unfold zcfl); (try simp [zi_lt, zi_le, zi_eq, zl_lt, zl_le, zl_eq] at bq1); (try simp [zi_lt, zi_le, zi_eq, zl_lt, zl_le, zl_eq] at bq7); (try simp [zi_lt, zi_le, zi_eq, zl_lt, zl_le, zl_eq]); omega)), rfl⟩
  · skip
    refine J_iloadn_0 (pc := 4) hc dX3_isNoPlace_4 ?_
    refine J_bipush (pc := 5) hc dX3_isNoPlace_5 (v := 6) (by decide) ?_
    refine J_icmp_lt (pc := 7) hc 14 dX3_isNoPlace_7 (by decide) (fun bq7 => ?_) (fun bq7 => ?_)
    · skip
      refine J_iconst (pc := 14) hc dX3_isNoPlace_14 (v := 0) (by decide) ?_
      exact J_zret (pc := 15) hc hI dX3_isNoPlace_15 (by first | exact znb0 | exact znb1 | exact zb.n (by assumption)) ⟨by first | (refine zb_1 ?_; (unfold zpl; (try unfold zpl); (try unfold zcf); (try unfold zcfl); (try simp [zi_lt, zi_le, zi_eq, zl_lt, zl_le, zl_eq] at bq1); (try simp [zi_lt, zi_le, zi_eq, zl_lt, zl_le, zl_eq] at bq7); (try simp [zi_lt, zi_le, zi_eq, zl_lt, zl_le, zl_eq]); omega)) | (refine zb_0 ?_; (unfold zpl; (try unfold zpl); (try unfold zcf); (try unfold zcfl); (try simp [zi_lt, zi_le, zi_eq, zl_lt, zl_le, zl_eq] at bq1); (try simp [zi_lt, zi_le, zi_eq, zl_lt, zl_le, zl_eq] at bq7); (try simp [zi_lt, zi_le, zi_eq, zl_lt, zl_le, zl_eq]); omega)), rfl⟩
    · skip
      refine J_iconst (pc := 10) hc dX3_isNoPlace_10 (v := 1) (by decide) ?_
      refine J_goto (pc := 11) hc 15 dX3_isNoPlace_11 (by decide) ?_
      exact J_zret (pc := 15) hc hI dX3_isNoPlace_15 (by first | exact znb0 | exact znb1 | exact zb.n (by assumption)) ⟨by first | (refine zb_1 ?_; (unfold zpl; (try unfold zpl); (try unfold zcf); (try unfold zcfl); (try simp [zi_lt, zi_le, zi_eq, zl_lt, zl_le, zl_eq] at bq1); (try simp [zi_lt, zi_le, zi_eq, zl_lt, zl_le, zl_eq] at bq7); (try simp [zi_lt, zi_le, zi_eq, zl_lt, zl_le, zl_eq]); omega)) | (refine zb_0 ?_; (unfold zpl; (try unfold zpl); (try unfold zcf); (try unfold zcfl); (try simp [zi_lt, zi_le, zi_eq, zl_lt, zl_le, zl_eq] at bq1); (try simp [zi_lt, zi_le, zi_eq, zl_lt, zl_le, zl_eq] at bq7); (try simp [zi_lt, zi_le, zi_eq, zl_lt, zl_le, zl_eq]); omega)), rfl⟩
set_option maxRecDepth 100000 in
set_option maxHeartbeats 4000000 in
theorem c_X3_isNoPart {l : Launch} {gg : zG} {σ : zS} {x : Int32}  : zMi l gg yX3_isNoPart cX3_isNoPart .boolean 1 0 0 [.int x] σ (fun r u => zb r (¬ (x.toInt = 0 ∨ x.toInt = 1)) ∧ u = σ) := by
  refine zM_i (own := RX3) (lv := [some (.int x)]) (by decide +kernel) rfl (Nat.le_of_ble_eq_true rfl) rfl (fun cx hc hR hI => ?_)
  refine J_iloadn_0 (pc := 0) hc dX3_isNoPart_0 ?_
  refine J_if_eq (pc := 1) hc 13 dX3_isNoPart_1 (by decide) (fun bq1 => ?_) (fun bq1 => ?_)
  · skip
    refine J_iconst (pc := 13) hc dX3_isNoPart_13 (v := 0) (by decide) ?_
    exact J_zret (pc := 14) hc hI dX3_isNoPart_14 (by first | exact znb0 | exact znb1 | exact zb.n (by assumption)) ⟨by first | (refine zb_1 ?_; (try unfold zpl); (try unfold zcf); (try unfold zcfl); (try simp [zi_lt, zi_le, zi_eq, zl_lt, zl_le, zl_eq] at bq1); (try simp [zi_lt, zi_le, zi_eq, zl_lt, zl_le, zl_eq] at bq6); (try simp [zi_lt, zi_le, zi_eq, zl_lt, zl_le, zl_eq]); omega) | (refine zb_0 ?_; (try unfold zpl); (try unfold zcf); (try unfold zcfl); (try simp [zi_lt, zi_le, zi_eq, zl_lt, zl_le, zl_eq] at bq1); (try simp [zi_lt, zi_le, zi_eq, zl_lt, zl_le, zl_eq] at bq6); (try simp [zi_lt, zi_le, zi_eq, zl_lt, zl_le, zl_eq]); omega), rfl⟩
  · skip
    refine J_iloadn_0 (pc := 4) hc dX3_isNoPart_4 ?_
    refine J_iconst (pc := 5) hc dX3_isNoPart_5 (v := 1) (by decide) ?_
    refine J_icmp_eq (pc := 6) hc 13 dX3_isNoPart_6 (by decide) (fun bq6 => ?_) (fun bq6 => ?_)
    · skip
      refine J_iconst (pc := 13) hc dX3_isNoPart_13 (v := 0) (by decide) ?_
      exact J_zret (pc := 14) hc hI dX3_isNoPart_14 (by first | exact znb0 | exact znb1 | exact zb.n (by assumption)) ⟨by first | (refine zb_1 ?_; (try unfold zpl); (try unfold zcf); (try unfold zcfl); (try simp [zi_lt, zi_le, zi_eq, zl_lt, zl_le, zl_eq] at bq1); (try simp [zi_lt, zi_le, zi_eq, zl_lt, zl_le, zl_eq] at bq6); (try simp [zi_lt, zi_le, zi_eq, zl_lt, zl_le, zl_eq]); omega) | (refine zb_0 ?_; (try unfold zpl); (try unfold zcf); (try unfold zcfl); (try simp [zi_lt, zi_le, zi_eq, zl_lt, zl_le, zl_eq] at bq1); (try simp [zi_lt, zi_le, zi_eq, zl_lt, zl_le, zl_eq] at bq6); (try simp [zi_lt, zi_le, zi_eq, zl_lt, zl_le, zl_eq]); omega), rfl⟩
    · skip
      refine J_iconst (pc := 9) hc dX3_isNoPart_9 (v := 1) (by decide) ?_
      refine J_goto (pc := 10) hc 14 dX3_isNoPart_10 (by decide) ?_
      exact J_zret (pc := 14) hc hI dX3_isNoPart_14 (by first | exact znb0 | exact znb1 | exact zb.n (by assumption)) ⟨by first | (refine zb_1 ?_; (try unfold zpl); (try unfold zcf); (try unfold zcfl); (try simp [zi_lt, zi_le, zi_eq, zl_lt, zl_le, zl_eq] at bq1); (try simp [zi_lt, zi_le, zi_eq, zl_lt, zl_le, zl_eq] at bq6); (try simp [zi_lt, zi_le, zi_eq, zl_lt, zl_le, zl_eq]); omega) | (refine zb_0 ?_; (try unfold zpl); (try unfold zcf); (try unfold zcfl); (try simp [zi_lt, zi_le, zi_eq, zl_lt, zl_le, zl_eq] at bq1); (try simp [zi_lt, zi_le, zi_eq, zl_lt, zl_le, zl_eq] at bq6); (try simp [zi_lt, zi_le, zi_eq, zl_lt, zl_le, zl_eq]); omega), rfl⟩
set_option maxRecDepth 100000 in
set_option maxHeartbeats 4000000 in
theorem c_X3_isNoShape {l : Launch} {gg : zG} {σ : zS} {x : Int32}  : zMi l gg yX3_isNoShape cX3_isNoShape .boolean 1 0 0 [.int x] σ (fun r u => zb r (¬ (0 ≤ x.toInt ∧ x.toInt ≤ 4)) ∧ u = σ) := by
  refine zM_i (own := RX3) (lv := [some (.int x)]) (by decide +kernel) rfl (Nat.le_of_ble_eq_true rfl) rfl (fun cx hc hR hI => ?_)
  refine J_iloadn_0 (pc := 0) hc dX3_isNoShape_0 ?_
  refine J_if_lt (pc := 1) hc 9 dX3_isNoShape_1 (by decide) (fun bq1 => ?_) (fun bq1 => ?_)
  · skip
    refine J_iconst (pc := 9) hc dX3_isNoShape_9 (v := 1) (by decide) ?_
    refine J_goto (pc := 10) hc 14 dX3_isNoShape_10 (by decide) ?_
    exact J_zret (pc := 14) hc hI dX3_isNoShape_14 (by first | exact znb0 | exact znb1 | exact zb.n (by assumption)) ⟨by first | (refine zb_1 ?_; (try unfold zpl); (try unfold zcf); (try unfold zcfl); (try simp [zi_lt, zi_le, zi_eq, zl_lt, zl_le, zl_eq] at bq1); (try simp [zi_lt, zi_le, zi_eq, zl_lt, zl_le, zl_eq] at bq6); (try simp [zi_lt, zi_le, zi_eq, zl_lt, zl_le, zl_eq]); omega) | (refine zb_0 ?_; (try unfold zpl); (try unfold zcf); (try unfold zcfl); (try simp [zi_lt, zi_le, zi_eq, zl_lt, zl_le, zl_eq] at bq1); (try simp [zi_lt, zi_le, zi_eq, zl_lt, zl_le, zl_eq] at bq6); (try simp [zi_lt, zi_le, zi_eq, zl_lt, zl_le, zl_eq]); omega), rfl⟩
  · skip
    refine J_iloadn_0 (pc := 4) hc dX3_isNoShape_4 ?_
    refine J_iconst (pc := 5) hc dX3_isNoShape_5 (v := 4) (by decide) ?_
    refine J_icmp_le (pc := 6) hc 13 dX3_isNoShape_6 (by decide) (fun bq6 => ?_) (fun bq6 => ?_)
    · skip
      refine J_iconst (pc := 13) hc dX3_isNoShape_13 (v := 0) (by decide) ?_
      exact J_zret (pc := 14) hc hI dX3_isNoShape_14 (by first | exact znb0 | exact znb1 | exact zb.n (by assumption)) ⟨by first | (refine zb_1 ?_; (try unfold zpl); (try unfold zcf); (try unfold zcfl); (try simp [zi_lt, zi_le, zi_eq, zl_lt, zl_le, zl_eq] at bq1); (try simp [zi_lt, zi_le, zi_eq, zl_lt, zl_le, zl_eq] at bq6); (try simp [zi_lt, zi_le, zi_eq, zl_lt, zl_le, zl_eq]); omega) | (refine zb_0 ?_; (try unfold zpl); (try unfold zcf); (try unfold zcfl); (try simp [zi_lt, zi_le, zi_eq, zl_lt, zl_le, zl_eq] at bq1); (try simp [zi_lt, zi_le, zi_eq, zl_lt, zl_le, zl_eq] at bq6); (try simp [zi_lt, zi_le, zi_eq, zl_lt, zl_le, zl_eq]); omega), rfl⟩
    · skip
      refine J_iconst (pc := 9) hc dX3_isNoShape_9 (v := 1) (by decide) ?_
      refine J_goto (pc := 10) hc 14 dX3_isNoShape_10 (by decide) ?_
      exact J_zret (pc := 14) hc hI dX3_isNoShape_14 (by first | exact znb0 | exact znb1 | exact zb.n (by assumption)) ⟨by first | (refine zb_1 ?_; (try unfold zpl); (try unfold zcf); (try unfold zcfl); (try simp [zi_lt, zi_le, zi_eq, zl_lt, zl_le, zl_eq] at bq1); (try simp [zi_lt, zi_le, zi_eq, zl_lt, zl_le, zl_eq] at bq6); (try simp [zi_lt, zi_le, zi_eq, zl_lt, zl_le, zl_eq]); omega) | (refine zb_0 ?_; (try unfold zpl); (try unfold zcf); (try unfold zcfl); (try simp [zi_lt, zi_le, zi_eq, zl_lt, zl_le, zl_eq] at bq1); (try simp [zi_lt, zi_le, zi_eq, zl_lt, zl_le, zl_eq] at bq6); (try simp [zi_lt, zi_le, zi_eq, zl_lt, zl_le, zl_eq]); omega), rfl⟩
set_option maxRecDepth 100000 in
set_option maxHeartbeats 4000000 in
theorem c_X3_isBeyond {l : Launch} {gg : zG} {σ : zS} {x b : Int32}  : zMi l gg yX3_isBeyond cX3_isBeyond .boolean 2 0 0 [.int x, .int b] σ (fun r u => zb r (¬ ((-b).toInt ≤ x.toInt ∧ x.toInt ≤ b.toInt)) ∧ u = σ) := by
  refine zM_i (own := RX3) (lv := [some (.int x), some (.int b)]) (by decide +kernel) rfl (Nat.le_of_ble_eq_true rfl) rfl (fun cx hc hR hI => ?_)
  refine J_iloadn_0 (pc := 0) hc dX3_isBeyond_0 ?_
  refine J_iloadn_1 (pc := 1) hc dX3_isBeyond_1 ?_
  refine J_ineg (pc := 2) hc dX3_isBeyond_2 ?_
  refine J_icmp_lt (pc := 3) hc 11 dX3_isBeyond_3 (by decide) (fun bq3 => ?_) (fun bq3 => ?_)
  · skip
    refine J_iconst (pc := 11) hc dX3_isBeyond_11 (v := 1) (by decide) ?_
    refine J_goto (pc := 12) hc 16 dX3_isBeyond_12 (by decide) ?_
    exact J_zret (pc := 16) hc hI dX3_isBeyond_16 (by first | exact znb0 | exact znb1 | exact zb.n (by assumption)) ⟨by first | (refine zb_1 ?_; rw [zi_lt] at bq3; omega) | (refine zb_1 ?_; rw [zi_lt] at bq3; rw [zi_le] at bq8; omega) | (refine zb_0 ?_; rw [zi_lt] at bq3; rw [zi_le] at bq8; omega), rfl⟩
  · skip
    refine J_iloadn_0 (pc := 6) hc dX3_isBeyond_6 ?_
    refine J_iloadn_1 (pc := 7) hc dX3_isBeyond_7 ?_
    refine J_icmp_le (pc := 8) hc 15 dX3_isBeyond_8 (by decide) (fun bq8 => ?_) (fun bq8 => ?_)
    · skip
      refine J_iconst (pc := 15) hc dX3_isBeyond_15 (v := 0) (by decide) ?_
      exact J_zret (pc := 16) hc hI dX3_isBeyond_16 (by first | exact znb0 | exact znb1 | exact zb.n (by assumption)) ⟨by first | (refine zb_1 ?_; rw [zi_lt] at bq3; omega) | (refine zb_1 ?_; rw [zi_lt] at bq3; rw [zi_le] at bq8; omega) | (refine zb_0 ?_; rw [zi_lt] at bq3; rw [zi_le] at bq8; omega), rfl⟩
    · skip
      refine J_iconst (pc := 11) hc dX3_isBeyond_11 (v := 1) (by decide) ?_
      refine J_goto (pc := 12) hc 16 dX3_isBeyond_12 (by decide) ?_
      exact J_zret (pc := 16) hc hI dX3_isBeyond_16 (by first | exact znb0 | exact znb1 | exact zb.n (by assumption)) ⟨by first | (refine zb_1 ?_; rw [zi_lt] at bq3; omega) | (refine zb_1 ?_; rw [zi_lt] at bq3; rw [zi_le] at bq8; omega) | (refine zb_0 ?_; rw [zi_lt] at bq3; rw [zi_le] at bq8; omega), rfl⟩
set_option maxRecDepth 100000 in
set_option maxHeartbeats 4000000 in
theorem c_X3_hasTooFewPoints {l : Launch} {gg : zG} {σ : zS}   : zMi l gg yX3_hasTooFewPoints cX3_hasTooFewPoints .boolean 1 0 0 [.ref (zo gg)] σ (fun r u => zb r ((si σ 7).toInt < 2) ∧ u = σ) := by
  refine zM_i (own := RX3) (lv := [some (.ref (zo gg))]) (by decide +kernel) rfl (Nat.le_of_ble_eq_true rfl) rfl (fun cx hc hR hI => ?_)
  refine J_aloadn_0 (pc := 0) hc dX3_hasTooFewPoints_0 ?_
  refine gX3_38 (pc := 1) hc dX3_hasTooFewPoints_1 ?_
  refine J_iconst (pc := 4) hc dX3_hasTooFewPoints_4 (v := 2) (by decide) ?_
  refine J_icmp_ge (pc := 5) hc 12 dX3_hasTooFewPoints_5 (by decide) (fun bq5 => ?_) (fun bq5 => ?_)
  · skip
    refine J_iconst (pc := 12) hc dX3_hasTooFewPoints_12 (v := 0) (by decide) ?_
    exact J_zret (pc := 13) hc hI dX3_hasTooFewPoints_13 (by first | exact znb0 | exact znb1 | exact zb.n (by assumption)) ⟨by first | (refine zb_1 ?_; (try unfold zpl); (try unfold zcf); (try unfold zcfl); (try simp [zi_lt, zi_le, zi_eq, zl_lt, zl_le, zl_eq] at bq5); (try simp [zi_lt, zi_le, zi_eq, zl_lt, zl_le, zl_eq]); omega) | (refine zb_0 ?_; (try unfold zpl); (try unfold zcf); (try unfold zcfl); (try simp [zi_lt, zi_le, zi_eq, zl_lt, zl_le, zl_eq] at bq5); (try simp [zi_lt, zi_le, zi_eq, zl_lt, zl_le, zl_eq]); omega), rfl⟩
  · skip
    refine J_iconst (pc := 8) hc dX3_hasTooFewPoints_8 (v := 1) (by decide) ?_
    refine J_goto (pc := 9) hc 13 dX3_hasTooFewPoints_9 (by decide) ?_
    exact J_zret (pc := 13) hc hI dX3_hasTooFewPoints_13 (by first | exact znb0 | exact znb1 | exact zb.n (by assumption)) ⟨by first | (refine zb_1 ?_; (try unfold zpl); (try unfold zcf); (try unfold zcfl); (try simp [zi_lt, zi_le, zi_eq, zl_lt, zl_le, zl_eq] at bq5); (try simp [zi_lt, zi_le, zi_eq, zl_lt, zl_le, zl_eq]); omega) | (refine zb_0 ?_; (try unfold zpl); (try unfold zcf); (try unfold zcfl); (try simp [zi_lt, zi_le, zi_eq, zl_lt, zl_le, zl_eq] at bq5); (try simp [zi_lt, zi_le, zi_eq, zl_lt, zl_le, zl_eq]); omega), rfl⟩
set_option maxRecDepth 100000 in
set_option maxHeartbeats 4000000 in
theorem c_X3_signOfShape {l : Launch} {gg : zG} {σ : zS} {x : Int32}  : zMi l gg yX3_signOfShape cX3_signOfShape .int 1 0 0 [.int x] σ (fun r u => r = (if x = 2 ∨ x = 4 then -1 else 1) ∧ u = σ) := by
  refine zM_i (own := RX3) (lv := [some (.int x)]) (by decide +kernel) rfl (Nat.le_of_ble_eq_true rfl) rfl (fun cx hc hR hI => ?_)
  refine J_iloadn_0 (pc := 0) hc dX3_signOfShape_0 ?_
  refine J_iconst (pc := 1) hc dX3_signOfShape_1 (v := 2) (by decide) ?_
  refine J_icmp_eq (pc := 2) hc 10 dX3_signOfShape_2 (by decide) (fun bq2 => ?_) (fun bq2 => ?_)
  · skip
    refine J_iconst (pc := 10) hc dX3_signOfShape_10 (v := -1) (by decide) ?_
    refine J_goto (pc := 11) hc 15 dX3_signOfShape_11 (by decide) ?_
    exact J_iret (pc := 15) hc hI dX3_signOfShape_15 (by first | exact ⟨(if_pos (Or.inl bq2)).symm, rfl⟩ | exact ⟨(if_pos (Or.inr bq7)).symm, rfl⟩ | exact ⟨(if_neg (fun h => h.elim bq2 bq7)).symm, rfl⟩)
  · skip
    refine J_iloadn_0 (pc := 5) hc dX3_signOfShape_5 ?_
    refine J_iconst (pc := 6) hc dX3_signOfShape_6 (v := 4) (by decide) ?_
    refine J_icmp_ne (pc := 7) hc 14 dX3_signOfShape_7 (by decide) (fun bq7 => ?_) (fun bq7 => ?_)
    · skip
      refine J_iconst (pc := 14) hc dX3_signOfShape_14 (v := 1) (by decide) ?_
      exact J_iret (pc := 15) hc hI dX3_signOfShape_15 (by first | exact ⟨(if_pos (Or.inl bq2)).symm, rfl⟩ | exact ⟨(if_pos (Or.inr bq7)).symm, rfl⟩ | exact ⟨(if_neg (fun h => h.elim bq2 bq7)).symm, rfl⟩)
    · skip
      refine J_iconst (pc := 10) hc dX3_signOfShape_10 (v := -1) (by decide) ?_
      refine J_goto (pc := 11) hc 15 dX3_signOfShape_11 (by decide) ?_
      exact J_iret (pc := 15) hc hI dX3_signOfShape_15 (by first | exact ⟨(if_pos (Or.inl bq2)).symm, rfl⟩ | exact ⟨(if_pos (Or.inr bq7)).symm, rfl⟩ | exact ⟨(if_neg (fun h => h.elim bq2 bq7)).symm, rfl⟩)
set_option maxRecDepth 100000 in
set_option maxHeartbeats 4000000 in
theorem c_X3_isBent {l : Launch} {gg : zG} {σ : zS} {x : Int32}  : zMi l gg yX3_isBent cX3_isBent .boolean 1 0 0 [.int x] σ (fun r u => zb r (x = 3 ∨ x = 4) ∧ u = σ) := by
  refine zM_i (own := RX3) (lv := [some (.int x)]) (by decide +kernel) rfl (Nat.le_of_ble_eq_true rfl) rfl (fun cx hc hR hI => ?_)
  refine J_iloadn_0 (pc := 0) hc dX3_isBent_0 ?_
  refine J_iconst (pc := 1) hc dX3_isBent_1 (v := 3) (by decide) ?_
  refine J_icmp_eq (pc := 2) hc 10 dX3_isBent_2 (by decide) (fun bq2 => ?_) (fun bq2 => ?_)
  · skip
    refine J_iconst (pc := 10) hc dX3_isBent_10 (v := 1) (by decide) ?_
    refine J_goto (pc := 11) hc 15 dX3_isBent_11 (by decide) ?_
    exact J_zret (pc := 15) hc hI dX3_isBent_15 (by first | exact znb0 | exact znb1 | exact zb.n (by assumption)) ⟨by first | exact zb_1 (Or.inl bq2) | exact zb_1 (Or.inr bq7) | exact zb_0 (fun h => h.elim bq2 bq7), rfl⟩
  · skip
    refine J_iloadn_0 (pc := 5) hc dX3_isBent_5 ?_
    refine J_iconst (pc := 6) hc dX3_isBent_6 (v := 4) (by decide) ?_
    refine J_icmp_ne (pc := 7) hc 14 dX3_isBent_7 (by decide) (fun bq7 => ?_) (fun bq7 => ?_)
    · skip
      refine J_iconst (pc := 14) hc dX3_isBent_14 (v := 0) (by decide) ?_
      exact J_zret (pc := 15) hc hI dX3_isBent_15 (by first | exact znb0 | exact znb1 | exact zb.n (by assumption)) ⟨by first | exact zb_1 (Or.inl bq2) | exact zb_1 (Or.inr bq7) | exact zb_0 (fun h => h.elim bq2 bq7), rfl⟩
    · skip
      refine J_iconst (pc := 10) hc dX3_isBent_10 (v := 1) (by decide) ?_
      refine J_goto (pc := 11) hc 15 dX3_isBent_11 (by decide) ?_
      exact J_zret (pc := 15) hc hI dX3_isBent_15 (by first | exact znb0 | exact znb1 | exact zb.n (by assumption)) ⟨by first | exact zb_1 (Or.inl bq2) | exact zb_1 (Or.inr bq7) | exact zb_0 (fun h => h.elim bq2 bq7), rfl⟩
set_option maxRecDepth 100000 in
set_option maxHeartbeats 4000000 in
theorem c_X4_in {l : Launch} {gg : zG} {σ : zS} {v a b : Int64}  : zMi l gg yX4_in cX4_in .boolean 6 0 0 [.long v, .long a, .long b] σ (fun r u => zb r (a.toInt ≤ v.toInt ∧ v.toInt ≤ b.toInt) ∧ u = σ) := by
  refine zM_i (own := RX4) (lv := [some (.long v), none, some (.long a), none, some (.long b), none]) (by decide +kernel) rfl (Nat.le_of_ble_eq_true rfl) rfl (fun cx hc hR hI => ?_)
  refine J_lloadn_0 (pc := 0) hc dX4_in_0 ?_
  refine J_lloadn_2 (pc := 1) hc dX4_in_1 ?_
  refine J_lcmp_lt (pc := 2) hc 17 dX4_in_2 dX4_in_3 (by decide) (fun bq2 => ?_) (fun bq2 => ?_)
  · skip
    refine J_iconst (pc := 17) hc dX4_in_17 (v := 0) (by decide) ?_
    exact J_zret (pc := 18) hc hI dX4_in_18 (by first | exact znb0 | exact znb1 | exact zb.n (by assumption)) ⟨by first | (refine zb_1 ?_; rw [zl_lt] at bq2 bq9; omega) | (refine zb_0 ?_; rw [zl_lt] at bq2; omega) | (refine zb_0 ?_; rw [zl_lt] at bq2 bq9; omega), rfl⟩
  · skip
    refine J_lloadn_0 (pc := 6) hc dX4_in_6 ?_
    refine J_lload_4 (pc := 7) hc dX4_in_7 ?_
    refine J_lcmp_gt (pc := 9) hc 17 dX4_in_9 dX4_in_10 (by decide) (fun bq9 => ?_) (fun bq9 => ?_)
    · skip
      refine J_iconst (pc := 17) hc dX4_in_17 (v := 0) (by decide) ?_
      exact J_zret (pc := 18) hc hI dX4_in_18 (by first | exact znb0 | exact znb1 | exact zb.n (by assumption)) ⟨by first | (refine zb_1 ?_; rw [zl_lt] at bq2 bq9; omega) | (refine zb_0 ?_; rw [zl_lt] at bq2; omega) | (refine zb_0 ?_; rw [zl_lt] at bq2 bq9; omega), rfl⟩
    · skip
      refine J_iconst (pc := 13) hc dX4_in_13 (v := 1) (by decide) ?_
      refine J_goto (pc := 14) hc 18 dX4_in_14 (by decide) ?_
      exact J_zret (pc := 18) hc hI dX4_in_18 (by first | exact znb0 | exact znb1 | exact zb.n (by assumption)) ⟨by first | (refine zb_1 ?_; rw [zl_lt] at bq2 bq9; omega) | (refine zb_0 ?_; rw [zl_lt] at bq2; omega) | (refine zb_0 ?_; rw [zl_lt] at bq2 bq9; omega), rfl⟩
set_option maxRecDepth 100000 in
set_option maxHeartbeats 4000000 in
theorem c_X4_isPlace {l : Launch} {gg : zG} {σ : zS} {x : Int32}  : zMi l gg yX4_isPlace cX4_isPlace .boolean 1 1 25 [.int x] σ (fun r u => zb r (zpl x) ∧ u = σ) := by
  refine zM_i (own := RX4) (lv := [some (.int x)]) (by decide +kernel) rfl (Nat.le_of_ble_eq_true rfl) rfl (fun cx hc hR hI => ?_)
  refine J_iloadn_0 (pc := 0) hc dX4_isPlace_0 ?_
  refine J_i2l (pc := 1) hc dX4_isPlace_1 ?_
  refine J_lconst (pc := 2) hc dX4_isPlace_2 (v := 0) (by decide) ?_
  refine nX4_41 (pc := 3) hc dX4_isPlace_3 ?_
  refine kX4_43 (pc := 6) hc hR dX4_isPlace_6 (c_X4_in) (by decide) (Nat.le_of_ble_eq_true rfl) rfl (fun r u hu => ?_)
  have hr := hu.1
  refine J_eq hu.2 ?_
  exact J_zret (pc := 9) hc hI dX4_isPlace_9 (by first | exact znb0 | exact znb1 | exact zb.n (by assumption)) ⟨hr.iff (by unfold zpl; simp; omega), rfl⟩
set_option maxRecDepth 100000 in
set_option maxHeartbeats 4000000 in
theorem c_X4_isSmall {l : Launch} {gg : zG} {σ : zS} {v : Int64}  : zMi l gg yX4_isSmall cX4_isSmall .boolean 2 1 25 [.long v] σ (fun r u => zb r (zcfl v) ∧ u = σ) := by
  refine zM_i (own := RX4) (lv := [some (.long v), none]) (by decide +kernel) rfl (Nat.le_of_ble_eq_true rfl) rfl (fun cx hc hR hI => ?_)
  refine J_lloadn_0 (pc := 0) hc dX4_isSmall_0 ?_
  refine nX4_47 (pc := 1) hc dX4_isSmall_1 ?_
  refine nX4_49 (pc := 4) hc dX4_isSmall_4 ?_
  refine kX4_43 (pc := 7) hc hR dX4_isSmall_7 (c_X4_in) (by decide) (Nat.le_of_ble_eq_true rfl) rfl (fun r u hu => ?_)
  have hr := hu.1
  refine J_eq hu.2 ?_
  exact J_zret (pc := 10) hc hI dX4_isSmall_10 (by first | exact znb0 | exact znb1 | exact zb.n (by assumption)) ⟨hr.iff (by unfold zcfl; simp), rfl⟩
set_option maxRecDepth 100000 in
set_option maxHeartbeats 4000000 in
theorem c_X4_sign {l : Launch} {gg : zG} {σ : zS} {v : Int64}  : zMi l gg yX4_sign cX4_sign .int 2 0 0 [.long v] σ (fun r u => r = (if 0 < v.toInt then 1 else if v.toInt < 0 then -1 else 0) ∧ u = σ) := by
  refine zM_i (own := RX4) (lv := [some (.long v), none]) (by decide +kernel) rfl (Nat.le_of_ble_eq_true rfl) rfl (fun cx hc hR hI => ?_)
  refine J_lloadn_0 (pc := 0) hc dX4_sign_0 ?_
  refine J_lconst (pc := 1) hc dX4_sign_1 (v := 0) (by decide) ?_
  refine J_lcmp_le (pc := 2) hc 10 dX4_sign_2 dX4_sign_3 (by decide) (fun bq2 => ?_) (fun bq2 => ?_)
  · skip
    refine J_lloadn_0 (pc := 10) hc dX4_sign_10 ?_
    refine J_lconst (pc := 11) hc dX4_sign_11 (v := 0) (by decide) ?_
    refine J_lcmp_ge (pc := 12) hc 20 dX4_sign_12 dX4_sign_13 (by decide) (fun bq12 => ?_) (fun bq12 => ?_)
    · skip
      refine J_iconst (pc := 20) hc dX4_sign_20 (v := 0) (by decide) ?_
      exact J_iret (pc := 21) hc hI dX4_sign_21 (by first | (refine ⟨?_, rfl⟩; simp [zl_lt, zl_le] at *; omega) | (refine ⟨?_, rfl⟩; simp [zl_lt, zl_le] at *; split <;> first | rfl | omega | (split <;> first | rfl | omega)))
    · skip
      refine J_iconst (pc := 16) hc dX4_sign_16 (v := -1) (by decide) ?_
      refine J_goto (pc := 17) hc 21 dX4_sign_17 (by decide) ?_
      exact J_iret (pc := 21) hc hI dX4_sign_21 (by first | (refine ⟨?_, rfl⟩; simp [zl_lt, zl_le] at *; omega) | (refine ⟨?_, rfl⟩; simp [zl_lt, zl_le] at *; split <;> first | rfl | omega | (split <;> first | rfl | omega)))
  · skip
    refine J_iconst (pc := 6) hc dX4_sign_6 (v := 1) (by decide) ?_
    refine J_goto (pc := 7) hc 21 dX4_sign_7 (by decide) ?_
    exact J_iret (pc := 21) hc hI dX4_sign_21 (by first | (refine ⟨?_, rfl⟩; simp [zl_lt, zl_le] at *; omega) | (refine ⟨?_, rfl⟩; simp [zl_lt, zl_le] at *; split <;> first | rfl | omega | (split <;> first | rfl | omega)))
