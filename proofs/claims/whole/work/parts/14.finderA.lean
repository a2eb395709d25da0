theorem J_alen {cx : zX} {gg : zG} {Q : State → Prop} {σ : zS} {pc : Nat} {lv : List (Option Value)} {st : List Value} {cc : ByteArray} {own : String} {nL : Nat} (hc : zOK cx gg cc own nL) {j : Nat} (L : Nat) (hj : j < 30) (hL : zlen j = L) (hd : decode cc pc = .ok (.arraylength, 1)) (kk : J cx gg Q σ (pc + 1) lv (.int (nI L) :: st)) : J cx gg Q σ pc lv (.ref (zr gg j) :: st) := by
  subst hL
  intro H locs ls hP hS hl
  exact va_alen (D := zD gg) hc.1 hc.2.1 hc.2.2.2.2.2.1.1 hP (9 + j) 0 (x := (zlen j, .inl (sa σ j))) (by rw [zW_get gg σ (by omega), zE_r gg σ hj]; rfl) rfl rfl hd (kk H locs ls hP hS hl)
/-! numbers with bounds -/
def zbd (x : Int) (X : Nat) : Prop := x.natAbs ≤ X
theorem zbd.mul {x y : Int} {X Y : Nat} (h : zbd x X) (h2 : zbd y Y) : zbd (x * y) (X * Y) := by
  unfold zbd at *; rw [Int.natAbs_mul]; exact Nat.mul_le_mul h h2
theorem zbd.add {x y : Int} {X Y : Nat} (h : zbd x X) (h2 : zbd y Y) : zbd (x + y) (X + Y) := by unfold zbd at *; omega
theorem zbd.sub {x y : Int} {X Y : Nat} (h : zbd x X) (h2 : zbd y Y) : zbd (x - y) (X + Y) := by unfold zbd at *; omega
theorem zbd.neg {x : Int} {X : Nat} (h : zbd x X) : zbd (-x) X := by unfold zbd at *; omega
theorem zbd.le {x : Int} {X Y : Nat} (h : zbd x X) (h2 : X ≤ Y) : zbd x Y := Nat.le_trans h h2
theorem zbd.of {x : Int} {X : Nat} (h : -(X : Int) ≤ x) (h2 : x ≤ X) : zbd x X := by unfold zbd; omega
theorem zbd.lo {x : Int} {X : Nat} (h : zbd x X) : -(X : Int) ≤ x ∧ x ≤ X := by unfold zbd at h; omega
theorem zcf.b {x : Int32} (h : zcf x) : zbd x.toInt 100000 := by unfold zcf at h; unfold zbd; omega
theorem zLm {x y : Int64} {X Y : Nat} (h : zbd x.toInt X) (h2 : zbd y.toInt Y) (hb : X * Y < 9223372036854775808) : (x * y).toInt = x.toInt * y.toInt := by
  have := (h.mul h2).lo
  rw [Int64.toInt_mul, Int.bmod_eq_of_le (by omega) (by omega)]
theorem zLa {x y : Int64} {X Y : Nat} (h : zbd x.toInt X) (h2 : zbd y.toInt Y) (hb : X + Y < 9223372036854775808) : (x + y).toInt = x.toInt + y.toInt := by
  have := (h.add h2).lo
  rw [Int64.toInt_add, Int.bmod_eq_of_le (by omega) (by omega)]
theorem zLs {x y : Int64} {X Y : Nat} (h : zbd x.toInt X) (h2 : zbd y.toInt Y) (hb : X + Y < 9223372036854775808) : (x - y).toInt = x.toInt - y.toInt := by
  have := (h.sub h2).lo
  rw [Int64.toInt_sub, Int.bmod_eq_of_le (by omega) (by omega)]
theorem zIm {x y : Int32} {X Y : Nat} (h : zbd x.toInt X) (h2 : zbd y.toInt Y) (hb : X * Y < 2147483648) : (x * y).toInt = x.toInt * y.toInt := by
  have := (h.mul h2).lo
  rw [Int32.toInt_mul, Int.bmod_eq_of_le (by omega) (by omega)]
theorem zIa {x y : Int32} {X Y : Nat} (h : zbd x.toInt X) (h2 : zbd y.toInt Y) (hb : X + Y < 2147483648) : (x + y).toInt = x.toInt + y.toInt := by
  have := (h.add h2).lo
  rw [Int32.toInt_add, Int.bmod_eq_of_le (by omega) (by omega)]
theorem zIs {x y : Int32} {X Y : Nat} (h : zbd x.toInt X) (h2 : zbd y.toInt Y) (hb : X + Y < 2147483648) : (x - y).toInt = x.toInt - y.toInt := by
  have := (h.sub h2).lo
  rw [Int32.toInt_sub, Int.bmod_eq_of_le (by omega) (by omega)]
theorem z0L : (0 : Int64).toInt = 0 := rfl
theorem z0I : (0 : Int32).toInt = 0 := rfl
/-! the search for zeros, over whole numbers -/
def zh (a b c s : Int) : Int := (c * s + b) * s + a
def zrr (b c s : Int) : Int := 2 * c * s + b
def zside (a b c : Int) (l : Bool) (s : Int) : Int := if l = true then (if zh a b c s < 0 ∨ 0 < zrr b c s then 1 else if zh a b c s = 0 then 0 else -1) else (if zh a b c s < 0 ∨ zrr b c s < 0 then -1 else if zh a b c s = 0 then 0 else 1)
theorem zside_t (a b c s : Int) : zside a b c true s = (if zh a b c s < 0 ∨ 0 < zrr b c s then 1 else if zh a b c s = 0 then 0 else -1) := rfl
theorem zside_f (a b c s : Int) : zside a b c false s = (if zh a b c s < 0 ∨ zrr b c s < 0 then -1 else if zh a b c s = 0 then 0 else 1) := rfl
def zds (a b c : Int) : Int := b * b - 4 * a * c
def zbi (l : Bool) : Int32 := if l = true then 1 else 0
def zfb (σ : zS) : Prop := zbd (sl σ 0).toInt 1000000000 ∧ zbd (sl σ 1).toInt 20000000 ∧ zbd (sl σ 2).toInt 1000000
theorem zHH {σ : zS} {s : Int64} {m : Nat} (hb : zfb σ) (hs : s.toInt = m) (hm : m ≤ 64) : ((sl σ 2 * s + sl σ 1) * s + sl σ 0).toInt = zh (sl σ 0).toInt (sl σ 1).toInt (sl σ 2).toInt m := by
  obtain ⟨h0, h1, h2⟩ := hb
  have h3 : zbd s.toInt 64 := by rw [hs]; unfold zbd; omega
  have e1 := zLm h2 h3 (by decide)
  have b1 : zbd (sl σ 2 * s).toInt 64000000 := by rw [e1]; exact h2.mul h3
  have e2 := zLa b1 h1 (by decide)
  have b2 : zbd (sl σ 2 * s + sl σ 1).toInt 84000000 := by rw [e2]; exact b1.add h1
  have e3 := zLm b2 h3 (by decide)
  have b3 : zbd ((sl σ 2 * s + sl σ 1) * s).toInt 5376000000 := by rw [e3]; exact b2.mul h3
  rw [zLa b3 h0 (by decide), e3, e2, e1, hs]
  rfl
theorem zRR {σ : zS} {s : Int64} {m : Nat} (hb : zfb σ) (hs : s.toInt = m) (hm : m ≤ 64) : (2 * sl σ 2 * s + sl σ 1).toInt = zrr (sl σ 1).toInt (sl σ 2).toInt m := by
  obtain ⟨h0, h1, h2⟩ := hb
  have h3 : zbd s.toInt 64 := by rw [hs]; unfold zbd; omega
  have h5 : zbd (2 : Int64).toInt 2 := by unfold zbd; decide
  have e1 := zLm h5 h2 (by decide)
  have b1 : zbd (2 * sl σ 2).toInt 2000000 := by rw [e1]; exact h5.mul h2
  have e2 := zLm b1 h3 (by decide)
  have b2 : zbd (2 * sl σ 2 * s).toInt 128000000 := by rw [e2]; exact b1.mul h3
  rw [zLa b2 h1 (by decide), e2, e1, hs]
  rfl
theorem zDD {σ : zS} (hb : zfb σ) : (sl σ 1 * sl σ 1 - 4 * sl σ 0 * sl σ 2).toInt = zds (sl σ 0).toInt (sl σ 1).toInt (sl σ 2).toInt := by
  obtain ⟨h0, h1, h2⟩ := hb
  have h5 : zbd (4 : Int64).toInt 4 := by unfold zbd; decide
  have e1 := zLm h5 h0 (by decide)
  have b1 : zbd (4 * sl σ 0).toInt 4000000000 := by rw [e1]; exact h5.mul h0
  have e2 := zLm b1 h2 (by decide)
  have b2 : zbd (4 * sl σ 0 * sl σ 2).toInt 4000000000000000 := by rw [e2]; exact b1.mul h2
  have e3 := zLm h1 h1 (by decide)
  have b3 : zbd (sl σ 1 * sl σ 1).toInt 400000000000000 := by rw [e3]; exact h1.mul h1
  rw [zLs b3 b2 (by decide), e3, e2, e1]
  rfl
set_option maxRecDepth 100000 in
set_option maxHeartbeats 4000000 in
theorem c_X1_becomeAll {l : Launch} {gg : zG} {σ : zS} {b : Int32}  : zMv l gg yX1_becomeAll cX1_becomeAll 2 0 0 [.ref (zn gg), .int b] σ (fun u => u = ui (ui σ 9 (-b)) 10 b) := by
  refine zM_v (own := RX1) (lv := [some (.ref (zn gg)), some (.int b)]) (by decide +kernel) rfl (Nat.le_of_ble_eq_true rfl) rfl (fun cx hc hR hI => ?_)
  refine J_aloadn_0 (pc := 0) hc dX1_becomeAll_0 ?_
  refine J_iloadn_1 (pc := 1) hc dX1_becomeAll_1 ?_
  refine J_ineg (pc := 2) hc dX1_becomeAll_2 ?_
  refine pX1_7 (pc := 3) hc dX1_becomeAll_3 ?_
  refine J_aloadn_0 (pc := 6) hc dX1_becomeAll_6 ?_
  refine J_iloadn_1 (pc := 7) hc dX1_becomeAll_7 ?_
  refine pX1_13 (pc := 8) hc dX1_becomeAll_8 ?_
  exact J_vret (pc := 11) hc hI dX1_becomeAll_11 rfl
set_option maxRecDepth 100000 in
set_option maxHeartbeats 4000000 in
theorem c_X1_require {l : Launch} {gg : zG} {σ : zS} {x t : Int32}  : zMv l gg yX1_require cX1_require 3 1 21 [.ref (zn gg), .int x, .int t] σ (fun u => u = (if 0 < t then ui σ 9 (if si σ 9 < -x then -x else si σ 9) else ui σ 10 (if x < si σ 10 then x else si σ 10))) := by
  refine zM_v (own := RX1) (lv := [some (.ref (zn gg)), some (.int x), some (.int t)]) (by decide +kernel) rfl (Nat.le_of_ble_eq_true rfl) rfl (fun cx hc hR hI => ?_)
  refine J_iloadn_2 (pc := 0) hc dX1_require_0 ?_
  refine J_if_le (pc := 1) hc 20 dX1_require_1 (by decide) (fun bq1 => ?_) (fun bq1 => ?_)
  · skip
    refine J_aloadn_0 (pc := 20) hc dX1_require_20 ?_
    refine J_aloadn_0 (pc := 21) hc dX1_require_21 ?_
    refine gX1_13 (pc := 22) hc dX1_require_22 ?_
    refine J_iloadn_1 (pc := 25) hc dX1_require_25 ?_
    refine kX1_22 (pc := 26) hc hR dX1_require_26 (c_J9_min_7cf53) (by decide) (Nat.le_of_ble_eq_true rfl) rfl (fun r u hu => ?_)
    refine J_eq hu.2 (J_topi hu.1 ?_)
    refine pX1_13 (pc := 29) hc dX1_require_29 ?_
    exact J_vret (pc := 32) hc hI dX1_require_32 (by first | exact (if_pos (by rw [zi_le] at bq1; rw [zi_lt]; omega)).symm | exact (if_neg (by rw [zi_le] at bq1; rw [zi_lt]; omega)).symm)
  · skip
    refine J_aloadn_0 (pc := 4) hc dX1_require_4 ?_
    refine J_aloadn_0 (pc := 5) hc dX1_require_5 ?_
    refine gX1_7 (pc := 6) hc dX1_require_6 ?_
    refine J_iloadn_1 (pc := 9) hc dX1_require_9 ?_
    refine J_ineg (pc := 10) hc dX1_require_10 ?_
    refine kX1_16 (pc := 11) hc hR dX1_require_11 (c_J9_max_7cf53) (by decide) (Nat.le_of_ble_eq_true rfl) rfl (fun r u hu => ?_)
    refine J_eq hu.2 (J_topi hu.1 ?_)
    refine pX1_7 (pc := 14) hc dX1_require_14 ?_
    refine J_goto (pc := 17) hc 32 dX1_require_17 (by decide) ?_
    exact J_vret (pc := 32) hc hI dX1_require_32 (by first | exact (if_pos (by rw [zi_le] at bq1; rw [zi_lt]; omega)).symm | exact (if_neg (by rw [zi_le] at bq1; rw [zi_lt]; omega)).symm)
set_option maxRecDepth 100000 in
set_option maxHeartbeats 4000000 in
theorem c_X1_size {l : Launch} {gg : zG} {σ : zS}   : zMi l gg yX1_size cX1_size .int 1 1 21 [.ref (zn gg)] σ (fun r u => r = (if 0 < si σ 10 - si σ 9 + 1 then si σ 10 - si σ 9 + 1 else 0) ∧ u = σ) := by
  refine zM_i (own := RX1) (lv := [some (.ref (zn gg))]) (by decide +kernel) rfl (Nat.le_of_ble_eq_true rfl) rfl (fun cx hc hR hI => ?_)
  refine J_iconst (pc := 0) hc dX1_size_0 (v := 0) (by decide) ?_
  refine J_aloadn_0 (pc := 1) hc dX1_size_1 ?_
  refine gX1_13 (pc := 2) hc dX1_size_2 ?_
  refine J_aloadn_0 (pc := 5) hc dX1_size_5 ?_
  refine gX1_7 (pc := 6) hc dX1_size_6 ?_
  refine J_isub (pc := 9) hc dX1_size_9 ?_
  refine J_iconst (pc := 10) hc dX1_size_10 (v := 1) (by decide) ?_
  refine J_iadd (pc := 11) hc dX1_size_11 ?_
  refine kX1_16 (pc := 12) hc hR dX1_size_12 (c_J9_max_7cf53) (by decide) (Nat.le_of_ble_eq_true rfl) rfl (fun r u hu => ?_)
  refine J_eq hu.2 (J_topi hu.1 ?_)
  exact J_iret (pc := 15) hc hI dX1_size_15 ⟨rfl, rfl⟩
set_option maxRecDepth 100000 in
set_option maxHeartbeats 4000000 in
theorem c_X2_discriminant {l : Launch} {gg : zG} {σ : zS}  (hb : zfb σ) : zMl l gg yX2_discriminant cX2_discriminant 1 0 0 [.ref (zf gg)] σ (fun r u => r.toInt = zds (sl σ 0).toInt (sl σ 1).toInt (sl σ 2).toInt ∧ u = σ) := by
  refine zM_l (own := RX2) (lv := [some (.ref (zf gg))]) (by decide +kernel) rfl (Nat.le_of_ble_eq_true rfl) rfl (fun cx hc hR hI => ?_)
  refine J_aloadn_0 (pc := 0) hc dX2_discriminant_0 ?_
  refine gX2_23 (pc := 1) hc dX2_discriminant_1 ?_
  refine J_aloadn_0 (pc := 4) hc dX2_discriminant_4 ?_
  refine gX2_23 (pc := 5) hc dX2_discriminant_5 ?_
  refine J_lmul (pc := 8) hc dX2_discriminant_8 ?_
  refine nX2_54 (pc := 9) hc dX2_discriminant_9 ?_
  refine J_aloadn_0 (pc := 12) hc dX2_discriminant_12 ?_
  refine gX2_19 (pc := 13) hc dX2_discriminant_13 ?_
  refine J_lmul (pc := 16) hc dX2_discriminant_16 ?_
  refine J_aloadn_0 (pc := 17) hc dX2_discriminant_17 ?_
  refine gX2_26 (pc := 18) hc dX2_discriminant_18 ?_
  refine J_lmul (pc := 21) hc dX2_discriminant_21 ?_
  refine J_lsub (pc := 22) hc dX2_discriminant_22 ?_
  exact J_lret (pc := 23) hc hI dX2_discriminant_23 ⟨zDD hb, rfl⟩
set_option maxRecDepth 100000 in
set_option maxHeartbeats 4000000 in
theorem c_X2_sideOfRoot {l : Launch} {gg : zG} {σ : zS} {s : Int64} {m : Nat} {ll : Bool} {x : Int32} (hb : zfb σ) (hs : s.toInt = m) (hm : m ≤ 64) (hx : x = zbi ll) : zMi l gg yX2_sideOfRoot cX2_sideOfRoot .int 8 0 0 [.ref (zf gg), .long s, .int x] σ (fun r u => r.toInt = zside (sl σ 0).toInt (sl σ 1).toInt (sl σ 2).toInt ll m ∧ u = σ) := by
  refine zM_i (own := RX2) (lv := [some (.ref (zf gg)), some (.long s), none, some (.int x), none, none, none, none]) (by decide +kernel) rfl (Nat.le_of_ble_eq_true rfl) rfl (fun cx hc hR hI => ?_)
  refine J_aloadn_0 (pc := 0) hc dX2_sideOfRoot_0 ?_
  refine gX2_26 (pc := 1) hc dX2_sideOfRoot_1 ?_
  refine J_lloadn_1 (pc := 4) hc dX2_sideOfRoot_4 ?_
  refine J_lmul (pc := 5) hc dX2_sideOfRoot_5 ?_
  refine J_aloadn_0 (pc := 6) hc dX2_sideOfRoot_6 ?_
  refine gX2_23 (pc := 7) hc dX2_sideOfRoot_7 ?_
  refine J_ladd (pc := 10) hc dX2_sideOfRoot_10 ?_
  refine J_lloadn_1 (pc := 11) hc dX2_sideOfRoot_11 ?_
  refine J_lmul (pc := 12) hc dX2_sideOfRoot_12 ?_
  refine J_aloadn_0 (pc := 13) hc dX2_sideOfRoot_13 ?_
  refine gX2_19 (pc := 14) hc dX2_sideOfRoot_14 ?_
  refine J_ladd (pc := 17) hc dX2_sideOfRoot_17 ?_
  refine J_naml (fun hh ehh => ?_)
  have h4 : hh.toInt = zh (sl σ 0).toInt (sl σ 1).toInt (sl σ 2).toInt m := by rw [ehh]; exact zHH hb hs hm
  refine J_lstore_4 (pc := 18) hc dX2_sideOfRoot_18 rfl ?_
  refine nX2_68 (pc := 20) hc dX2_sideOfRoot_20 ?_
  refine J_aloadn_0 (pc := 23) hc dX2_sideOfRoot_23 ?_
  refine gX2_26 (pc := 24) hc dX2_sideOfRoot_24 ?_
  refine J_lmul (pc := 27) hc dX2_sideOfRoot_27 ?_
  refine J_lloadn_1 (pc := 28) hc dX2_sideOfRoot_28 ?_
  refine J_lmul (pc := 29) hc dX2_sideOfRoot_29 ?_
  refine J_aloadn_0 (pc := 30) hc dX2_sideOfRoot_30 ?_
  refine gX2_23 (pc := 31) hc dX2_sideOfRoot_31 ?_
  refine J_ladd (pc := 34) hc dX2_sideOfRoot_34 ?_
  refine J_naml (fun hq ehq => ?_)
  have h6 : hq.toInt = zrr (sl σ 1).toInt (sl σ 2).toInt m := by rw [ehq]; exact zRR hb hs hm
  refine J_lstore_6 (pc := 35) hc dX2_sideOfRoot_35 rfl ?_
  refine J_iloadn_3 (pc := 37) hc dX2_sideOfRoot_37 ?_
  refine J_if_eq (pc := 38) hc 72 dX2_sideOfRoot_38 (by decide) (fun bq38 => ?_) (fun bq38 => ?_)
  · skip
    have hl : ll = false := by cases ll; rfl; rw [hx] at bq38; exact absurd bq38 (by decide)
    refine J_lload_4 (pc := 72) hc dX2_sideOfRoot_72 ?_
    refine J_lconst (pc := 74) hc dX2_sideOfRoot_74 (v := 0) (by decide) ?_
    refine J_lcmp_lt (pc := 75) hc 86 dX2_sideOfRoot_75 dX2_sideOfRoot_76 (by decide) (fun bq75 => ?_) (fun bq75 => ?_)
    · skip
      refine J_iconst (pc := 86) hc dX2_sideOfRoot_86 (v := -1) (by decide) ?_
      refine J_goto (pc := 87) hc 102 dX2_sideOfRoot_87 (by decide) ?_
      exact J_iret (pc := 102) hc hI dX2_sideOfRoot_102 (by refine ⟨?_, rfl⟩; (try rw [zl_lt, h4, z0L] at bq44); (try rw [zl_le, h6, z0L] at bq51); (try rw [zl_eq, h4, z0L] at bq62); (try rw [zl_lt, h4, z0L] at bq75); (try rw [zl_le, h6, z0L] at bq82); (try rw [zl_eq, h4, z0L] at bq93); rw [hl]; (first | rw [zside_t] | rw [zside_f]); (repeat' split) <;> first | rfl | omega | (exfalso; omega) | contradiction)
    · skip
      refine J_lload_6 (pc := 79) hc dX2_sideOfRoot_79 ?_
      refine J_lconst (pc := 81) hc dX2_sideOfRoot_81 (v := 0) (by decide) ?_
      refine J_lcmp_ge (pc := 82) hc 90 dX2_sideOfRoot_82 dX2_sideOfRoot_83 (by decide) (fun bq82 => ?_) (fun bq82 => ?_)
      · skip
        refine J_lload_4 (pc := 90) hc dX2_sideOfRoot_90 ?_
        refine J_lconst (pc := 92) hc dX2_sideOfRoot_92 (v := 0) (by decide) ?_
        refine J_lcmp_ne (pc := 93) hc 101 dX2_sideOfRoot_93 dX2_sideOfRoot_94 (by decide) (fun bq93 => ?_) (fun bq93 => ?_)
        · skip
          refine J_iconst (pc := 101) hc dX2_sideOfRoot_101 (v := 1) (by decide) ?_
          exact J_iret (pc := 102) hc hI dX2_sideOfRoot_102 (by refine ⟨?_, rfl⟩; (try rw [zl_lt, h4, z0L] at bq44); (try rw [zl_le, h6, z0L] at bq51); (try rw [zl_eq, h4, z0L] at bq62); (try rw [zl_lt, h4, z0L] at bq75); (try rw [zl_le, h6, z0L] at bq82); (try rw [zl_eq, h4, z0L] at bq93); rw [hl]; (first | rw [zside_t] | rw [zside_f]); (repeat' split) <;> first | rfl | omega | (exfalso; omega) | contradiction)
        · skip
          refine J_iconst (pc := 97) hc dX2_sideOfRoot_97 (v := 0) (by decide) ?_
          refine J_goto (pc := 98) hc 102 dX2_sideOfRoot_98 (by decide) ?_
          exact J_iret (pc := 102) hc hI dX2_sideOfRoot_102 (by refine ⟨?_, rfl⟩; (try rw [zl_lt, h4, z0L] at bq44); (try rw [zl_le, h6, z0L] at bq51); (try rw [zl_eq, h4, z0L] at bq62); (try rw [zl_lt, h4, z0L] at bq75); (try rw [zl_le, h6, z0L] at bq82); (try rw [zl_eq, h4, z0L] at bq93); rw [hl]; (first | rw [zside_t] | rw [zside_f]); (repeat' split) <;> first | rfl | omega | (exfalso; omega) | contradiction)
      · skip
        refine J_iconst (pc := 86) hc dX2_sideOfRoot_86 (v := -1) (by decide) ?_
        refine J_goto (pc := 87) hc 102 dX2_sideOfRoot_87 (by decide) ?_
        exact J_iret (pc := 102) hc hI dX2_sideOfRoot_102 (by refine ⟨?_, rfl⟩; (try rw [zl_lt, h4, z0L] at bq44); (try rw [zl_le, h6, z0L] at bq51); (try rw [zl_eq, h4, z0L] at bq62); (try rw [zl_lt, h4, z0L] at bq75); (try rw [zl_le, h6, z0L] at bq82); (try rw [zl_eq, h4, z0L] at bq93); rw [hl]; (first | rw [zside_t] | rw [zside_f]); (repeat' split) <;> first | rfl | omega | (exfalso; omega) | contradiction)
  · skip
    have hl : ll = true := by cases ll; rw [hx] at bq38; exact absurd rfl bq38; rfl
    refine J_lload_4 (pc := 41) hc dX2_sideOfRoot_41 ?_
    refine J_lconst (pc := 43) hc dX2_sideOfRoot_43 (v := 0) (by decide) ?_
    refine J_lcmp_lt (pc := 44) hc 55 dX2_sideOfRoot_44 dX2_sideOfRoot_45 (by decide) (fun bq44 => ?_) (fun bq44 => ?_)
    · skip
      refine J_iconst (pc := 55) hc dX2_sideOfRoot_55 (v := 1) (by decide) ?_
      refine J_goto (pc := 56) hc 71 dX2_sideOfRoot_56 (by decide) ?_
      exact J_iret (pc := 71) hc hI dX2_sideOfRoot_71 (by refine ⟨?_, rfl⟩; (try rw [zl_lt, h4, z0L] at bq44); (try rw [zl_le, h6, z0L] at bq51); (try rw [zl_eq, h4, z0L] at bq62); (try rw [zl_lt, h4, z0L] at bq75); (try rw [zl_le, h6, z0L] at bq82); (try rw [zl_eq, h4, z0L] at bq93); rw [hl]; (first | rw [zside_t] | rw [zside_f]); (repeat' split) <;> first | rfl | omega | (exfalso; omega) | contradiction)
    · skip
      refine J_lload_6 (pc := 48) hc dX2_sideOfRoot_48 ?_
      refine J_lconst (pc := 50) hc dX2_sideOfRoot_50 (v := 0) (by decide) ?_
      refine J_lcmp_le (pc := 51) hc 59 dX2_sideOfRoot_51 dX2_sideOfRoot_52 (by decide) (fun bq51 => ?_) (fun bq51 => ?_)
      · skip
        refine J_lload_4 (pc := 59) hc dX2_sideOfRoot_59 ?_
        refine J_lconst (pc := 61) hc dX2_sideOfRoot_61 (v := 0) (by decide) ?_
        refine J_lcmp_ne (pc := 62) hc 70 dX2_sideOfRoot_62 dX2_sideOfRoot_63 (by decide) (fun bq62 => ?_) (fun bq62 => ?_)
        · skip
          refine J_iconst (pc := 70) hc dX2_sideOfRoot_70 (v := -1) (by decide) ?_
          exact J_iret (pc := 71) hc hI dX2_sideOfRoot_71 (by refine ⟨?_, rfl⟩; (try rw [zl_lt, h4, z0L] at bq44); (try rw [zl_le, h6, z0L] at bq51); (try rw [zl_eq, h4, z0L] at bq62); (try rw [zl_lt, h4, z0L] at bq75); (try rw [zl_le, h6, z0L] at bq82); (try rw [zl_eq, h4, z0L] at bq93); rw [hl]; (first | rw [zside_t] | rw [zside_f]); (repeat' split) <;> first | rfl | omega | (exfalso; omega) | contradiction)
        · skip
          refine J_iconst (pc := 66) hc dX2_sideOfRoot_66 (v := 0) (by decide) ?_
          refine J_goto (pc := 67) hc 71 dX2_sideOfRoot_67 (by decide) ?_
          exact J_iret (pc := 71) hc hI dX2_sideOfRoot_71 (by refine ⟨?_, rfl⟩; (try rw [zl_lt, h4, z0L] at bq44); (try rw [zl_le, h6, z0L] at bq51); (try rw [zl_eq, h4, z0L] at bq62); (try rw [zl_lt, h4, z0L] at bq75); (try rw [zl_le, h6, z0L] at bq82); (try rw [zl_eq, h4, z0L] at bq93); rw [hl]; (first | rw [zside_t] | rw [zside_f]); (repeat' split) <;> first | rfl | omega | (exfalso; omega) | contradiction)
      · skip
        refine J_iconst (pc := 55) hc dX2_sideOfRoot_55 (v := 1) (by decide) ?_
        refine J_goto (pc := 56) hc 71 dX2_sideOfRoot_56 (by decide) ?_
        exact J_iret (pc := 71) hc hI dX2_sideOfRoot_71 (by refine ⟨?_, rfl⟩; (try rw [zl_lt, h4, z0L] at bq44); (try rw [zl_le, h6, z0L] at bq51); (try rw [zl_eq, h4, z0L] at bq62); (try rw [zl_lt, h4, z0L] at bq75); (try rw [zl_le, h6, z0L] at bq82); (try rw [zl_eq, h4, z0L] at bq93); rw [hl]; (first | rw [zside_t] | rw [zside_f]); (repeat' split) <;> first | rfl | omega | (exfalso; omega) | contradiction)
