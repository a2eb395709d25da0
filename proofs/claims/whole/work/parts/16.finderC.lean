theorem zsg_b (b c : Int) : zbd (zsg b c) 1 := by unfold zsg zbd; split <;> decide
theorem zTA {sg : Int32} {x : Int64} {b c : Int} (h : sg.toInt = zsg b c) (hx : zbd x.toInt 200000) : (sg.toInt64 * x * 64 * 64).toInt = zsg b c * x.toInt * 4096 := by
  have h1 : zbd sg.toInt64.toInt 1 := by rw [Int32.toInt_toInt64, h]; exact zsg_b b c
  have h5 : zbd (64 : Int64).toInt 64 := by unfold zbd; decide
  have e1 := zLm h1 hx (by decide)
  have b1 : zbd (sg.toInt64 * x).toInt 200000 := by rw [e1]; exact (h1.mul hx).le (by decide)
  have e2 := zLm b1 h5 (by decide)
  have b2 : zbd (sg.toInt64 * x * 64).toInt 12800000 := by rw [e2]; exact (b1.mul h5).le (by decide)
  rw [zLm b2 h5 (by decide), e2, e1, Int32.toInt_toInt64, h, show (64 : Int64).toInt = 64 by decide]
  omega
theorem zTB {sg : Int32} {x : Int64} {b c : Int} (h : sg.toInt = zsg b c) (hx : zbd x.toInt 200000) : (sg.toInt64 * x * 64).toInt = zsg b c * x.toInt * 64 := by
  have h1 : zbd sg.toInt64.toInt 1 := by rw [Int32.toInt_toInt64, h]; exact zsg_b b c
  have h5 : zbd (64 : Int64).toInt 64 := by unfold zbd; decide
  have e1 := zLm h1 hx (by decide)
  have b1 : zbd (sg.toInt64 * x).toInt 200000 := by rw [e1]; exact (h1.mul hx).le (by decide)
  rw [zLm b1 h5 (by decide), e1, Int32.toInt_toInt64, h, show (64 : Int64).toInt = 64 by decide]
theorem zTC {sg : Int32} {x : Int64} {b c : Int} (h : sg.toInt = zsg b c) (hx : zbd x.toInt 200000) : (sg.toInt64 * x).toInt = zsg b c * x.toInt := by
  have h1 : zbd sg.toInt64.toInt 1 := by rw [Int32.toInt_toInt64, h]; exact zsg_b b c
  rw [zLm h1 hx (by decide), Int32.toInt_toInt64, h]
theorem zfb_t {a b c : Int} {AA BB CC : Int64} {σ : zS} (ha : zbd a 200000) (hb : zbd b 200000) (hc : zbd c 200000) (hA : AA.toInt = zsg b c * a * 4096) (hB : BB.toInt = zsg b c * b * 64) (hC : CC.toInt = zsg b c * c) : zfb (ul (ul (ul σ 0 AA) 1 BB) 2 CC) := by
  refine ⟨?_, ?_, ?_⟩
  · show zbd AA.toInt _
    rw [hA]; exact (((zsg_b b c).mul ha).mul (y := 4096) (Y := 4096) (by unfold zbd; decide)).le (by decide)
  · show zbd BB.toInt _
    rw [hB]; exact (((zsg_b b c).mul hb).mul (y := 64) (Y := 64) (by unfold zbd; decide)).le (by decide)
  · show zbd CC.toInt _
    rw [hC]; exact ((zsg_b b c).mul hc).le (by decide)
def zsp (a b c : Int) (la : Bool) : List Nat := (if 0 < c ∧ 0 < zds a b c then zkr a b c true la else []) ++ zkr a b c false la
theorem zsp_len (a b c : Int) (la : Bool) : (zsp a b c la).length ≤ 2 := by
  unfold zsp
  rw [List.length_append]
  have h1 := zkr_len a b c true la
  have h2 := zkr_len a b c false la
  split
  · omega
  · simp; omega
/-- the boxes of a piece's zeros, 64 of them to a piece; the boxes of the first i pieces -/
def zpb (a b c : Int) (la : Bool) : List Nat := if ¬ zld b c = 0 ∧ 0 ≤ zds (zsg b c * a * 4096) (zsg b c * b * 64) (zsg b c * c) then zsp (zsg b c * a * 4096) (zsg b c * b * 64) (zsg b c * c) la else []
theorem zpb_len (a b c : Int) (la : Bool) : (zpb a b c la).length ≤ 2 := by
  unfold zpb
  split
  · exact zsp_len _ _ _ _
  · simp
def zbl (A B C : Nat → Int) (n : Nat) : Nat → List Nat
  | 0 => []
  | i + 1 => zbl A B C n i ++ (zpb (A i) (B i) (C i) (decide (i + 1 = n))).map (fun b => 64 * i + b)
theorem zbl_len (A B C : Nat → Int) (n : Nat) : ∀ i, (zbl A B C n i).length ≤ 2 * i
  | 0 => by simp [zbl]
  | i + 1 => by
    have := zbl_len A B C n i
    have h2 := zpb_len (A i) (B i) (C i) (decide (i + 1 = n))
    rw [zbl, List.length_append, List.length_map]; omega
def zfs (σ : zS) (L : List Nat) (w : Nat → Int64) : zS := (va_up σ.1 8 (nI L.length), w, va_up σ.2.2.1 22 (zputs (sa σ 22) 0 L), σ.2.2.2)
theorem si_zfs {σ : zS} {L : List Nat} {w : Nat → Int64} {j : Nat} (h : ¬ j = 8) : si (zfs σ L w) j = si σ j := if_neg h
theorem sa_zfs {σ : zS} {L : List Nat} {w : Nat → Int64} {j : Nat} (h : ¬ j = 22) : sa (zfs σ L w) j = sa σ j := if_neg h
theorem sm_zfs {σ : zS} {L : List Nat} {w : Nat → Int64} {j : Nat} : sm (zfs σ L w) j = sm σ j := rfl
theorem zfs_kl (σ : zS) (L : List Nat) (w : Nat → Int64) (i : Nat) (M : List Nat) : zkl (zfs σ L w) L.length i M = zfs σ (L ++ M.map (fun b => 64 * i + b)) w := by
  unfold zkl
  apply zS_ext <;> intro q <;> try rfl
  · show (if q = 8 then nI (L.length + M.length) else (if q = 8 then _ else _)) = (if q = 8 then nI (L ++ M.map (fun b => 64 * i + b)).length else _)
    rw [List.length_append, List.length_map]
    by_cases h : q = 8
    · rw [if_pos h, if_pos h]
    · rw [if_neg h, if_neg h, if_neg h]
  · simp only [sa_ui, sa_ua]
    by_cases h : q = 22
    · subst h
      rw [if_pos rfl]
      show zputs (zputs (sa σ 22) 0 L) L.length _ = zputs (sa σ 22) 0 (L ++ _)
      rw [zputs_app, Nat.zero_add]
    · rw [if_neg h, sa_zfs h, sa_zfs h]
theorem zfs_0 (σ : zS) : ui σ 8 0 = zfs σ [] σ.2.1 := by
  apply zS_ext <;> intro q <;> try rfl
  by_cases h : q = 22
  · subst h; rfl
  · rw [sa_zfs h]; rfl
theorem zbl_skip {A B C : Nat → Int} {n i : Nat} (h : ¬ (¬ zld (B i) (C i) = 0 ∧ 0 ≤ zds (zsg (B i) (C i) * A i * 4096) (zsg (B i) (C i) * B i * 64) (zsg (B i) (C i) * C i))) : zbl A B C n (i + 1) = zbl A B C n i := by
  rw [zbl, zpb, if_neg h]; simp
theorem zbl_keep {A B C : Nat → Int} {n i : Nat} (h : ¬ zld (B i) (C i) = 0 ∧ 0 ≤ zds (zsg (B i) (C i) * A i * 4096) (zsg (B i) (C i) * B i * 64) (zsg (B i) (C i) * C i)) : zbl A B C n (i + 1) = zbl A B C n i ++ (zsp (zsg (B i) (C i) * A i * 4096) (zsg (B i) (C i) * B i * 64) (zsg (B i) (C i) * C i) (decide (i + 1 = n))).map (fun b => 64 * i + b) := by
  rw [zbl, zpb, if_pos h]
theorem sl_u0 (X : zS) (a b c : Int64) : sl (ul (ul (ul X 0 a) 1 b) 2 c) 0 = a := rfl
theorem sl_u1 (X : zS) (a b c : Int64) : sl (ul (ul (ul X 0 a) 1 b) 2 c) 1 = b := rfl
theorem sl_u2 (X : zS) (a b c : Int64) : sl (ul (ul (ul X 0 a) 1 b) 2 c) 2 = c := rfl
theorem zsgc {b c : Int} : 0 ≤ zsg b c * c := by
  unfold zsg zld
  by_cases h : c = 0
  · rw [h]; simp
  · rw [if_neg h]; split <;> omega
def zcoI (σ : zS) (k : Nat) : Nat → Int := fun i => (sa σ k i).toInt
set_option maxRecDepth 100000 in
set_option maxHeartbeats 4000000 in
theorem c_X2_take {l : Launch} {gg : zG} {σ : zS} {x y z : Int64} (hx : zbd x.toInt 200000) (hy : zbd y.toInt 200000) (hz : zbd z.toInt 200000) : zMi l gg yX2_take cX2_take .boolean 10 1 20 [.ref (zf gg), .long x, .long y, .long z] σ (fun r u => ∃ AA BB CC : Int64, u = ul (ul (ul σ 0 AA) 1 BB) 2 CC ∧ AA.toInt = zsg y.toInt z.toInt * x.toInt * 4096 ∧ BB.toInt = zsg y.toInt z.toInt * y.toInt * 64 ∧ CC.toInt = zsg y.toInt z.toInt * z.toInt ∧ zb r (¬ zld y.toInt z.toInt = 0 ∧ 0 ≤ zds AA.toInt BB.toInt CC.toInt)) := by
  refine zM_i (own := RX2) (lv := [some (.ref (zf gg)), some (.long x), none, some (.long y), none, some (.long z), none, none, none, none]) (by decide +kernel) rfl (Nat.le_of_ble_eq_true rfl) rfl (fun cx hc hR hI => ?_)
  have hJ15 : ∀ (ld : Int64), ld.toInt = zld y.toInt z.toInt → J cx gg (zQi cx gg (fun r u => ∃ AA BB CC : Int64, u = ul (ul (ul σ 0 AA) 1 BB) 2 CC ∧ AA.toInt = zsg y.toInt z.toInt * x.toInt * 4096 ∧ BB.toInt = zsg y.toInt z.toInt * y.toInt * 64 ∧ CC.toInt = zsg y.toInt z.toInt * z.toInt ∧ zb r (¬ zld y.toInt z.toInt = 0 ∧ 0 ≤ zds AA.toInt BB.toInt CC.toInt))) σ 15 [some (.ref (zf gg)), some (.long x), none, some (.long y), none, some (.long z), none, some (.long ld), none, none] [] := by
    intro ld hld
    have hJ29 : ∀ (sg : Int32), sg.toInt = zsg y.toInt z.toInt → J cx gg (zQi cx gg (fun r u => ∃ AA BB CC : Int64, u = ul (ul (ul σ 0 AA) 1 BB) 2 CC ∧ AA.toInt = zsg y.toInt z.toInt * x.toInt * 4096 ∧ BB.toInt = zsg y.toInt z.toInt * y.toInt * 64 ∧ CC.toInt = zsg y.toInt z.toInt * z.toInt ∧ zb r (¬ zld y.toInt z.toInt = 0 ∧ 0 ≤ zds AA.toInt BB.toInt CC.toInt))) σ 29 [some (.ref (zf gg)), some (.long x), none, some (.long y), none, some (.long z), none, some (.long ld), none, some (.int sg)] [] := by
      intro sg hsg
      refine J_aloadn_0 (pc := 29) hc dX2_take_29 ?_
      refine J_iload_9 (pc := 30) hc dX2_take_30 ?_
      refine J_i2l (pc := 32) hc dX2_take_32 ?_
      refine J_lloadn_1 (pc := 33) hc dX2_take_33 ?_
      refine J_lmul (pc := 34) hc dX2_take_34 ?_
      refine nX2_48 (pc := 35) hc dX2_take_35 ?_
      refine J_lmul (pc := 38) hc dX2_take_38 ?_
      refine nX2_48 (pc := 39) hc dX2_take_39 ?_
      refine J_lmul (pc := 42) hc dX2_take_42 ?_
      refine J_naml (fun AA eA => ?_)
      have hA : AA.toInt = zsg y.toInt z.toInt * x.toInt * 4096 := by rw [eA]; exact zTA hsg hx
      refine pX2_19 (pc := 43) hc dX2_take_43 ?_
      refine J_aloadn_0 (pc := 46) hc dX2_take_46 ?_
      refine J_iload_9 (pc := 47) hc dX2_take_47 ?_
      refine J_i2l (pc := 49) hc dX2_take_49 ?_
      refine J_lloadn_3 (pc := 50) hc dX2_take_50 ?_
      refine J_lmul (pc := 51) hc dX2_take_51 ?_
      refine nX2_48 (pc := 52) hc dX2_take_52 ?_
      refine J_lmul (pc := 55) hc dX2_take_55 ?_
      refine J_naml (fun BB eB => ?_)
      have hB : BB.toInt = zsg y.toInt z.toInt * y.toInt * 64 := by rw [eB]; exact zTB hsg hy
      refine pX2_23 (pc := 56) hc dX2_take_56 ?_
      refine J_aloadn_0 (pc := 59) hc dX2_take_59 ?_
      refine J_iload_9 (pc := 60) hc dX2_take_60 ?_
      refine J_i2l (pc := 62) hc dX2_take_62 ?_
      refine J_lload_5 (pc := 63) hc dX2_take_63 ?_
      refine J_lmul (pc := 65) hc dX2_take_65 ?_
      refine J_naml (fun CC eC => ?_)
      have hC : CC.toInt = zsg y.toInt z.toInt * z.toInt := by rw [eC]; exact zTC hsg hz
      refine pX2_26 (pc := 66) hc dX2_take_66 ?_
      refine J_lload_7 (pc := 69) hc dX2_take_69 ?_
      refine J_lconst (pc := 71) hc dX2_take_71 (v := 0) (by decide) ?_
      refine J_lcmp_eq (pc := 72) hc 89 dX2_take_72 dX2_take_73 (by decide) (fun bq72 => ?_) (fun bq72 => ?_)
      · skip
        refine J_iconst (pc := 89) hc dX2_take_89 (v := 0) (by decide) ?_
        exact J_zret (pc := 90) hc hI dX2_take_90 (by first | exact znb0 | exact znb1 | exact zb.n (by assumption)) (by first | exact ⟨AA, BB, CC, rfl, hA, hB, hC, zb_1 ⟨fun h => bq72 (zl_eq.mpr (by rw [hld, h]; rfl)), by rw [zl_lt, hr, z0L] at bq81; exact Int.not_lt.mp bq81⟩⟩ | exact ⟨AA, BB, CC, rfl, hA, hB, hC, zb_0 (fun h => by rw [zl_lt, hr, z0L] at bq81; exact absurd bq81 (Int.not_lt.mpr h.2))⟩ | exact ⟨AA, BB, CC, rfl, hA, hB, hC, zb_0 (fun h => h.1 (by rw [← hld, bq72]; rfl))⟩)
      · skip
        refine J_aloadn_0 (pc := 76) hc dX2_take_76 ?_
        refine kX2_50 (pc := 77) hc hR dX2_take_77 (c_X2_discriminant (zfb_t hx hy hz hA hB hC)) (by decide) (Nat.le_of_ble_eq_true rfl) rfl (fun r u hu => ?_)
        have hr := hu.1
        refine J_eq hu.2 ?_
        refine J_lconst (pc := 80) hc dX2_take_80 (v := 0) (by decide) ?_
        refine J_lcmp_lt (pc := 81) hc 89 dX2_take_81 dX2_take_82 (by decide) (fun bq81 => ?_) (fun bq81 => ?_)
        · skip
          refine J_iconst (pc := 89) hc dX2_take_89 (v := 0) (by decide) ?_
          exact J_zret (pc := 90) hc hI dX2_take_90 (by first | exact znb0 | exact znb1 | exact zb.n (by assumption)) (by first | exact ⟨AA, BB, CC, rfl, hA, hB, hC, zb_1 ⟨fun h => bq72 (zl_eq.mpr (by rw [hld, h]; rfl)), by rw [zl_lt, hr, z0L] at bq81; exact Int.not_lt.mp bq81⟩⟩ | exact ⟨AA, BB, CC, rfl, hA, hB, hC, zb_0 (fun h => by rw [zl_lt, hr, z0L] at bq81; exact absurd bq81 (Int.not_lt.mpr h.2))⟩ | exact ⟨AA, BB, CC, rfl, hA, hB, hC, zb_0 (fun h => h.1 (by rw [← hld, bq72]; rfl))⟩)
        · skip
          refine J_iconst (pc := 85) hc dX2_take_85 (v := 1) (by decide) ?_
          refine J_goto (pc := 86) hc 90 dX2_take_86 (by decide) ?_
          exact J_zret (pc := 90) hc hI dX2_take_90 (by first | exact znb0 | exact znb1 | exact zb.n (by assumption)) (by first | exact ⟨AA, BB, CC, rfl, hA, hB, hC, zb_1 ⟨fun h => bq72 (zl_eq.mpr (by rw [hld, h]; rfl)), by rw [zl_lt, hr, z0L] at bq81; exact Int.not_lt.mp bq81⟩⟩ | exact ⟨AA, BB, CC, rfl, hA, hB, hC, zb_0 (fun h => by rw [zl_lt, hr, z0L] at bq81; exact absurd bq81 (Int.not_lt.mpr h.2))⟩ | exact ⟨AA, BB, CC, rfl, hA, hB, hC, zb_0 (fun h => h.1 (by rw [← hld, bq72]; rfl))⟩)
    refine J_lload_7 (pc := 15) hc dX2_take_15 ?_
    refine J_lconst (pc := 17) hc dX2_take_17 (v := 0) (by decide) ?_
    refine J_lcmp_ge (pc := 18) hc 26 dX2_take_18 dX2_take_19 (by decide) (fun bq18 => ?_) (fun bq18 => ?_)
    · skip
      refine J_iconst (pc := 26) hc dX2_take_26 (v := 1) (by decide) ?_
      refine J_istore_9 (pc := 27) hc dX2_take_27 rfl ?_
      exact J_weak (by repeat (first | exact zle_nil | apply zle_s | apply zle_n)) (hJ29 _ (by unfold zsg; rw [zl_le, hld, z0L] at bq18; first | rw [if_neg (by omega)]; rfl | rw [if_pos (by omega)]; rfl))
    · skip
      refine J_iconst (pc := 22) hc dX2_take_22 (v := -1) (by decide) ?_
      refine J_goto (pc := 23) hc 27 dX2_take_23 (by decide) ?_
      refine J_istore_9 (pc := 27) hc dX2_take_27 rfl ?_
      exact J_weak (by repeat (first | exact zle_nil | apply zle_s | apply zle_n)) (hJ29 _ (by unfold zsg; rw [zl_le, hld, z0L] at bq18; first | rw [if_neg (by omega)]; rfl | rw [if_pos (by omega)]; rfl))
  refine J_lload_5 (pc := 0) hc dX2_take_0 ?_
  refine J_lconst (pc := 2) hc dX2_take_2 (v := 0) (by decide) ?_
  refine J_lcmp_eq (pc := 3) hc 12 dX2_take_3 dX2_take_4 (by decide) (fun bq3 => ?_) (fun bq3 => ?_)
  · skip
    refine J_lloadn_3 (pc := 12) hc dX2_take_12 ?_
    refine J_lstore_7 (pc := 13) hc dX2_take_13 rfl ?_
    exact J_weak (by repeat (first | exact zle_nil | apply zle_s | apply zle_n)) (hJ15 _ (by unfold zld; first | rw [if_pos (by rw [bq3]; rfl)] | rw [if_neg (fun (h : z.toInt = 0) => bq3 (zl_eq.mpr h))]))
  · skip
    refine J_lload_5 (pc := 7) hc dX2_take_7 ?_
    refine J_goto (pc := 9) hc 13 dX2_take_9 (by decide) ?_
    refine J_lstore_7 (pc := 13) hc dX2_take_13 rfl ?_
    exact J_weak (by repeat (first | exact zle_nil | apply zle_s | apply zle_n)) (hJ15 _ (by unfold zld; first | rw [if_pos (by rw [bq3]; rfl)] | rw [if_neg (fun (h : z.toInt = 0) => bq3 (zl_eq.mpr h))]))
set_option maxRecDepth 100000 in
set_option maxHeartbeats 4000000 in
theorem c_X2_searchPiece {l : Launch} {gg : zG} {σ : zS} {i f : Nat} {la : Bool} {x y : Int32} (hb : zfb σ) (hc0 : 0 ≤ (sl σ 2).toInt) (hf : si σ 8 = nI f) (hf2 : f ≤ 30) (hx : x = nI i) (hi : i < 16) (hy : y = zbi la) : zMv l gg yX2_searchPiece cX2_searchPiece 3 3 75 [.ref (zf gg), .int x, .int y] σ (fun u => u = zkl σ f i (zsp (sl σ 0).toInt (sl σ 1).toInt (sl σ 2).toInt la)) := by
  refine zM_v (own := RX2) (lv := [some (.ref (zf gg)), some (.int x), some (.int y)]) (by decide +kernel) rfl (Nat.le_of_ble_eq_true rfl) rfl (fun cx hc hR hI => ?_)
  have hJ25 : ∀ (L : List Nat), L.length ≤ 1 → L = (if 0 < (sl σ 2).toInt ∧ 0 < zds (sl σ 0).toInt (sl σ 1).toInt (sl σ 2).toInt then zkr (sl σ 0).toInt (sl σ 1).toInt (sl σ 2).toInt true la else []) → J cx gg (zQv cx gg (fun u => u = zkl σ f i (zsp (sl σ 0).toInt (sl σ 1).toInt (sl σ 2).toInt la))) (zkl σ f i L) 25 [some (.ref (zf gg)), some (.int x), some (.int y)] [] := by
    intro L hLl hL
    refine J_aloadn_0 (pc := 25) hc dX2_searchPiece_25 ?_
    refine J_iloadn_1 (pc := 26) hc dX2_searchPiece_26 ?_
    refine J_iloadn_2 (pc := 27) hc dX2_searchPiece_27 ?_
    refine J_iconst (pc := 28) hc dX2_searchPiece_28 (v := 0) (by decide) ?_
    refine kX2_56 (pc := 29) hc hR dX2_searchPiece_29 (c_X2_keepRoot (f := f + L.length) (ll := false) hb hc0 rfl (by omega) hx hi hy rfl) (by decide) (Nat.le_of_ble_eq_true rfl) rfl (fun u hu => ?_)
    refine J_eq hu ?_
    exact J_vret (pc := 32) hc hI dX2_searchPiece_32 (by rw [zkl_app1]; subst hL; rfl)
  refine J_aloadn_0 (pc := 0) hc dX2_searchPiece_0 ?_
  refine gX2_26 (pc := 1) hc dX2_searchPiece_1 ?_
  refine J_lconst (pc := 4) hc dX2_searchPiece_4 (v := 0) (by decide) ?_
  refine J_lcmp_le (pc := 5) hc 25 dX2_searchPiece_5 dX2_searchPiece_6 (by decide) (fun bq5 => ?_) (fun bq5 => ?_)
  · skip
    first | exact J_eq (zkl_nil hf).symm (hJ25 [] (by simp) (if_neg (fun h => by rw [zl_le, z0L] at bq5; omega)).symm) | exact J_eq (zkl_nil hf).symm (hJ25 [] (by simp) (if_neg (fun h => by rw [zl_le, hr, z0L] at bq14; omega)).symm) | exact hJ25 _ (zkr_len _ _ _ _ _) (if_pos ⟨by rw [zl_le, z0L] at bq5; omega, by rw [zl_le, hr, z0L] at bq14; omega⟩).symm
  · skip
    refine J_aloadn_0 (pc := 9) hc dX2_searchPiece_9 ?_
    refine kX2_50 (pc := 10) hc hR dX2_searchPiece_10 (c_X2_discriminant (by assumption)) (by decide) (Nat.le_of_ble_eq_true rfl) rfl (fun r u hu => ?_)
    have hr := hu.1
    refine J_eq hu.2 ?_
    refine J_lconst (pc := 13) hc dX2_searchPiece_13 (v := 0) (by decide) ?_
    refine J_lcmp_le (pc := 14) hc 25 dX2_searchPiece_14 dX2_searchPiece_15 (by decide) (fun bq14 => ?_) (fun bq14 => ?_)
    · skip
      first | exact J_eq (zkl_nil hf).symm (hJ25 [] (by simp) (if_neg (fun h => by rw [zl_le, z0L] at bq5; omega)).symm) | exact J_eq (zkl_nil hf).symm (hJ25 [] (by simp) (if_neg (fun h => by rw [zl_le, hr, z0L] at bq14; omega)).symm) | exact hJ25 _ (zkr_len _ _ _ _ _) (if_pos ⟨by rw [zl_le, z0L] at bq5; omega, by rw [zl_le, hr, z0L] at bq14; omega⟩).symm
    · skip
      refine J_aloadn_0 (pc := 18) hc dX2_searchPiece_18 ?_
      refine J_iloadn_1 (pc := 19) hc dX2_searchPiece_19 ?_
      refine J_iloadn_2 (pc := 20) hc dX2_searchPiece_20 ?_
      refine J_iconst (pc := 21) hc dX2_searchPiece_21 (v := 1) (by decide) ?_
      refine kX2_56 (pc := 22) hc hR dX2_searchPiece_22 (c_X2_keepRoot (ll := true) hb hc0 hf (by omega) hx hi hy rfl) (by decide) (Nat.le_of_ble_eq_true rfl) rfl (fun u hu => ?_)
      refine J_eq hu ?_
      first | exact J_eq (zkl_nil hf).symm (hJ25 [] (by simp) (if_neg (fun h => by rw [zl_le, z0L] at bq5; omega)).symm) | exact J_eq (zkl_nil hf).symm (hJ25 [] (by simp) (if_neg (fun h => by rw [zl_le, hr, z0L] at bq14; omega)).symm) | exact hJ25 _ (zkr_len _ _ _ _ _) (if_pos ⟨by rw [zl_le, z0L] at bq5; omega, by rw [zl_le, hr, z0L] at bq14; omega⟩).symm
set_option maxRecDepth 100000 in
set_option maxHeartbeats 4000000 in
theorem c_X2_search {l : Launch} {gg : zG} {σ : zS} {k n : Nat} (hk : k < 7) (hs : si σ k = nI n) (hn : n ≤ 16) (hbn : ∀ i, i < n → zbd (sa σ k i).toInt 200000 ∧ zbd (sa σ (7 + k) i).toInt 200000 ∧ zbd (sa σ (14 + k) i).toInt 200000) : zMv l gg yX2_search cX2_search 3 4 97 [.ref (zf gg), .ref (zc gg k)] σ (fun u => ∃ w, u = zfs σ (zbl (zcoI σ k) (zcoI σ (7 + k)) (zcoI σ (14 + k)) n n) w) := by
  refine zM_v (own := RX2) (lv := [some (.ref (zf gg)), some (.ref (zc gg k)), none]) (by decide +kernel) rfl (Nat.le_of_ble_eq_true rfl) rfl (fun cx hc hR hI => ?_)
  refine J_aloadn_0 (pc := 0) hc dX2_search_0 ?_
  refine J_iconst (pc := 1) hc dX2_search_1 (v := 0) (by decide) ?_
  refine pX2_15 (pc := 2) hc dX2_search_2 ?_
  refine J_iconst (pc := 5) hc dX2_search_5 (v := 0) (by decide) ?_
  refine J_istoren_2 (pc := 6) hc dX2_search_6 rfl ?_
  have hL7 : ∀ (μ : Nat) (i : Nat) (w : Nat → Int64), n - i = μ → i ≤ n → J cx gg (zQv cx gg (fun u => ∃ w, u = zfs σ (zbl (zcoI σ k) (zcoI σ (7 + k)) (zcoI σ (14 + k)) n n) w)) (zfs σ (zbl (zcoI σ k) (zcoI σ (7 + k)) (zcoI σ (14 + k)) n i) w) 7 [some (.ref (zf gg)), some (.ref (zc gg k)), some (.int (nI i))] [] := by
    intro μ
    induction μ using Nat.strongRecOn with
    | ind μ ih7 =>
      intro i w hμ hi
      refine J_iloadn_2 (pc := 7) hc dX2_search_7 ?_
      refine J_aloadn_1 (pc := 8) hc dX2_search_8 ?_
      refine gX2_29 (pc := 9) hc (by omega) dX2_search_9 ?_
      refine J_icmp_ge (pc := 12) hc 69 dX2_search_12 (by decide) (fun bq12 => ?_) (fun bq12 => ?_)
      · skip
        have bq12 := (zge rfl ((si_zfs (by omega)).trans hs) (by omega) (by omega)).mp bq12
        exact J_vret (pc := 69) hc hI dX2_search_69 ⟨w, by rw [show i = n by omega]⟩
      · skip
        have bq12 := mt (zge rfl ((si_zfs (by omega)).trans hs) (by omega) (by omega)).mpr bq12
        refine J_aloadn_0 (pc := 15) hc dX2_search_15 ?_
        refine J_aloadn_1 (pc := 16) hc dX2_search_16 ?_
        refine gX2_34 (pc := 17) hc (by omega) dX2_search_17 ?_
        refine J_iloadn_2 (pc := 20) hc dX2_search_20 ?_
        refine J_iald (pc := 21) hc 16 (by omega) (zlen_c (by omega)) dX2_search_21 (by first | exact rfl | exact z16 _ _ | exact nI_1 _ | exact zm1 (by omega) | assumption) (by omega) ?_
        rw [sa_zfs (by omega)]
        refine J_i2l (pc := 22) hc dX2_search_22 ?_
        refine J_aloadn_1 (pc := 23) hc dX2_search_23 ?_
        refine gX2_36 (pc := 24) hc (by omega) dX2_search_24 ?_
        refine J_iloadn_2 (pc := 27) hc dX2_search_27 ?_
        refine J_iald (pc := 28) hc 16 (by omega) (zlen_c (by omega)) dX2_search_28 (by first | exact rfl | exact z16 _ _ | exact nI_1 _ | exact zm1 (by omega) | assumption) (by omega) ?_
        rw [sa_zfs (by omega)]
        refine J_i2l (pc := 29) hc dX2_search_29 ?_
        refine J_aloadn_1 (pc := 30) hc dX2_search_30 ?_
        refine gX2_38 (pc := 31) hc (by omega) dX2_search_31 ?_
        refine J_iloadn_2 (pc := 34) hc dX2_search_34 ?_
        refine J_iald (pc := 35) hc 16 (by omega) (zlen_c (by omega)) dX2_search_35 (by first | exact rfl | exact z16 _ _ | exact nI_1 _ | exact zm1 (by omega) | assumption) (by omega) ?_
        rw [sa_zfs (by omega)]
        refine J_i2l (pc := 36) hc dX2_search_36 ?_
        refine kX2_40 (pc := 37) hc hR dX2_search_37 (c_X2_take (by rw [Int32.toInt_toInt64]; exact (hbn i (by omega)).1) (by rw [Int32.toInt_toInt64]; exact (hbn i (by omega)).2.1) (by rw [Int32.toInt_toInt64]; exact (hbn i (by omega)).2.2)) (by decide) (Nat.le_of_ble_eq_true rfl) rfl (fun r u hu => ?_)
        obtain ⟨AA, BB, CC, hu, hA, hB, hC, hr⟩ := hu
        refine J_eq hu ?_
        simp only [Int32.toInt_toInt64] at hA hB hC hr
        refine J_if_eq (pc := 40) hc 63 dX2_search_40 (by decide) (fun bq40 => ?_) (fun bq40 => ?_)
        · skip
          refine J_iinc_2 (pc := 63) hc dX2_search_63 (by first | exact nI_1 _ | exact rfl) rfl ?_
          refine J_goto (pc := 66) hc 7 dX2_search_66 (by decide) ?_
          first | exact J_weak (by repeat (first | exact zle_nil | apply zle_s | apply zle_n)) (J_eq (σ' := zfs σ (zbl (zcoI σ k) (zcoI σ (7 + k)) (zcoI σ (14 + k)) n (i + 1)) _) (by rw [zbl_skip (hA ▸ hB ▸ hC ▸ hr.f bq40)]; rfl) (ih7 _ (by omega) (i + 1) _ rfl (by omega))) | exact J_weak (by repeat (first | exact zle_nil | apply zle_s | apply zle_n)) (J_eq (σ' := zfs σ (zbl (zcoI σ k) (zcoI σ (7 + k)) (zcoI σ (14 + k)) n (i + 1)) _) (by rw [zbl_keep (hA ▸ hB ▸ hC ▸ hr.t bq40)]; exact (zfs_kl σ _ _ i _).trans (by rw [sl_u0, sl_u1, sl_u2, hA, hB, hC]; rfl)) (ih7 _ (by omega) (i + 1) _ rfl (by omega)))
        · skip
          refine J_aloadn_0 (pc := 43) hc dX2_search_43 ?_
          refine J_iloadn_2 (pc := 44) hc dX2_search_44 ?_
          refine J_iloadn_2 (pc := 45) hc dX2_search_45 ?_
          refine J_aloadn_1 (pc := 46) hc dX2_search_46 ?_
          refine gX2_29 (pc := 47) hc (by omega) dX2_search_47 ?_
          refine J_topi (y := nI n) ((si_zfs (by omega)).trans hs) ?_
          refine J_iconst (pc := 50) hc dX2_search_50 (v := 1) (by decide) ?_
          refine J_isub (pc := 51) hc dX2_search_51 ?_
          refine J_topi (zm1 (by omega)) ?_
          refine J_icmp_ne (pc := 52) hc 59 dX2_search_52 (by decide) (fun bq52 => ?_) (fun bq52 => ?_)
          · skip
            rw [nI_eq (by omega) (by omega)] at bq52
            refine J_iconst (pc := 59) hc dX2_search_59 (v := 0) (by decide) ?_
            refine kX2_44 (pc := 60) hc hR dX2_search_60 (c_X2_searchPiece (la := decide (i + 1 = n)) (f := (zbl (zcoI σ k) (zcoI σ (7 + k)) (zcoI σ (14 + k)) n i).length) (zfb_t (hbn i (by omega)).1 (hbn i (by omega)).2.1 (hbn i (by omega)).2.2 hA hB hC) (by show 0 ≤ CC.toInt; rw [hC]; exact zsgc) rfl (by have := zbl_len (zcoI σ k) (zcoI σ (7 + k)) (zcoI σ (14 + k)) n i; omega) rfl (by omega) (by first | (rw [decide_eq_true (show i + 1 = n by omega)]; rfl) | (rw [decide_eq_false (show ¬ i + 1 = n by omega)]; rfl))) (by decide) (Nat.le_of_ble_eq_true rfl) rfl (fun u hu => ?_)
            refine J_eq hu ?_
            refine J_iinc_2 (pc := 63) hc dX2_search_63 (by first | exact nI_1 _ | exact rfl) rfl ?_
            refine J_goto (pc := 66) hc 7 dX2_search_66 (by decide) ?_
            first | exact J_weak (by repeat (first | exact zle_nil | apply zle_s | apply zle_n)) (J_eq (σ' := zfs σ (zbl (zcoI σ k) (zcoI σ (7 + k)) (zcoI σ (14 + k)) n (i + 1)) _) (by rw [zbl_skip (hA ▸ hB ▸ hC ▸ hr.f bq40)]; rfl) (ih7 _ (by omega) (i + 1) _ rfl (by omega))) | exact J_weak (by repeat (first | exact zle_nil | apply zle_s | apply zle_n)) (J_eq (σ' := zfs σ (zbl (zcoI σ k) (zcoI σ (7 + k)) (zcoI σ (14 + k)) n (i + 1)) _) (by rw [zbl_keep (hA ▸ hB ▸ hC ▸ hr.t bq40)]; exact (zfs_kl σ _ _ i _).trans (by rw [sl_u0, sl_u1, sl_u2, hA, hB, hC]; rfl)) (ih7 _ (by omega) (i + 1) _ rfl (by omega)))
          · skip
            rw [nI_eq (by omega) (by omega)] at bq52
            refine J_iconst (pc := 55) hc dX2_search_55 (v := 1) (by decide) ?_
            refine J_goto (pc := 56) hc 60 dX2_search_56 (by decide) ?_
            refine kX2_44 (pc := 60) hc hR dX2_search_60 (c_X2_searchPiece (la := decide (i + 1 = n)) (f := (zbl (zcoI σ k) (zcoI σ (7 + k)) (zcoI σ (14 + k)) n i).length) (zfb_t (hbn i (by omega)).1 (hbn i (by omega)).2.1 (hbn i (by omega)).2.2 hA hB hC) (by show 0 ≤ CC.toInt; rw [hC]; exact zsgc) rfl (by have := zbl_len (zcoI σ k) (zcoI σ (7 + k)) (zcoI σ (14 + k)) n i; omega) rfl (by omega) (by first | (rw [decide_eq_true (show i + 1 = n by omega)]; rfl) | (rw [decide_eq_false (show ¬ i + 1 = n by omega)]; rfl))) (by decide) (Nat.le_of_ble_eq_true rfl) rfl (fun u hu => ?_)
            refine J_eq hu ?_
            refine J_iinc_2 (pc := 63) hc dX2_search_63 (by first | exact nI_1 _ | exact rfl) rfl ?_
            refine J_goto (pc := 66) hc 7 dX2_search_66 (by decide) ?_
            first | exact J_weak (by repeat (first | exact zle_nil | apply zle_s | apply zle_n)) (J_eq (σ' := zfs σ (zbl (zcoI σ k) (zcoI σ (7 + k)) (zcoI σ (14 + k)) n (i + 1)) _) (by rw [zbl_skip (hA ▸ hB ▸ hC ▸ hr.f bq40)]; rfl) (ih7 _ (by omega) (i + 1) _ rfl (by omega))) | exact J_weak (by repeat (first | exact zle_nil | apply zle_s | apply zle_n)) (J_eq (σ' := zfs σ (zbl (zcoI σ k) (zcoI σ (7 + k)) (zcoI σ (14 + k)) n (i + 1)) _) (by rw [zbl_keep (hA ▸ hB ▸ hC ▸ hr.t bq40)]; exact (zfs_kl σ _ _ i _).trans (by rw [sl_u0, sl_u1, sl_u2, hA, hB, hC]; rfl)) (ih7 _ (by omega) (i + 1) _ rfl (by omega)))
  exact J_weak (by repeat (first | exact zle_nil | apply zle_s | apply zle_n)) (J_eq (zfs_0 σ) (hL7 _ 0 _ rfl (by omega)))
