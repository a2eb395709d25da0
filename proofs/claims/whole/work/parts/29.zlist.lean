def zrkn (n : Nat → Nat) : Nat → List Nat
  | 0 => []
  | k + 1 => zrkn n k ++ List.replicate (n k) k
theorem zdown {T : Nat → Prop} (h : ∀ k, ¬ T k → ¬ T (k + 1)) : ∀ k, T k → T 0
  | 0, q => q
  | k + 1, q => zdown h k (Classical.not_not.mp (fun w => h k w q))
theorem zlist {HL HG : Prop} {T F : Nat → Prop} [Decidable HL] [Decidable HG] [DecidablePred T] [DecidablePred F] {bt bf : Nat} {n : Nat → Nat} (hT : ∀ k, ¬ T k → ¬ T (k + 1)) (hF : ∀ k, ¬ F k → ¬ F (k + 1)) (htf : HL → ∀ k, T k → F k) (hbt : ∀ k, k < 64 → T k → ¬ T (k + 1) → bt = k) (hbf : ∀ k, k < 64 → F k → ¬ F (k + 1) → bf = k)
    (hn : ∀ k, n k = (if HL ∧ T k ∧ ¬ T (k + 1) then 1 else 0) + (if HG ∧ F k ∧ ¬ F (k + 1) then 1 else 0)) : ∀ k, k ≤ 64 → zrkn n k = (if HL ∧ T 0 ∧ ¬ T k then [bt] else []) ++ (if HG ∧ F 0 ∧ ¬ F k then [bf] else [])
  | 0, _ => by
    rw [if_neg (fun h => h.2.2 h.2.1), if_neg (fun h => h.2.2 h.2.1)]; rfl
  | k + 1, hk => by
    have ih := zlist hT hF htf hbt hbf hn k (by omega)
    rw [zrkn, ih, hn k]
    by_cases g : HG ∧ F k ∧ ¬ F (k + 1)
    · have ef : bf = k := hbf k (by omega) g.2.1 g.2.2
      have f0 : F 0 := zdown hF k g.2.1
      rw [if_neg (show ¬ (HG ∧ F 0 ∧ ¬ F k) from fun h => h.2.2 g.2.1), if_pos g, if_pos (show HG ∧ F 0 ∧ ¬ F (k + 1) from ⟨g.1, f0, g.2.2⟩), ef]
      by_cases t : HL ∧ T k ∧ ¬ T (k + 1)
      · have et : bt = k := hbt k (by omega) t.2.1 t.2.2
        rw [if_neg (show ¬ (HL ∧ T 0 ∧ ¬ T k) from fun h => h.2.2 t.2.1), if_pos t, if_pos (show HL ∧ T 0 ∧ ¬ T (k + 1) from ⟨t.1, zdown hT k t.2.1, t.2.2⟩), et]
        rfl
      · rw [if_neg t]
        by_cases l : HL ∧ T 0 ∧ ¬ T k
        · rw [if_pos l, if_pos (show HL ∧ T 0 ∧ ¬ T (k + 1) from ⟨l.1, l.2.1, hT k l.2.2⟩)]; rfl
        · rw [if_neg l, if_neg (show ¬ (HL ∧ T 0 ∧ ¬ T (k + 1)) from fun h => l ⟨h.1, h.2.1, fun w => t ⟨h.1, w, h.2.2⟩⟩)]; rfl
    · rw [if_neg g]
      have eg : (HG ∧ F 0 ∧ ¬ F k) ↔ (HG ∧ F 0 ∧ ¬ F (k + 1)) := ⟨fun h => ⟨h.1, h.2.1, hF k h.2.2⟩, fun h => ⟨h.1, h.2.1, fun w => g ⟨h.1, w, h.2.2⟩⟩⟩
      by_cases t : HL ∧ T k ∧ ¬ T (k + 1)
      · have et : bt = k := hbt k (by omega) t.2.1 t.2.2
        have fk : F k := htf t.1 k t.2.1
        rw [if_neg (show ¬ (HL ∧ T 0 ∧ ¬ T k) from fun h => h.2.2 t.2.1), if_pos t, if_pos (show HL ∧ T 0 ∧ ¬ T (k + 1) from ⟨t.1, zdown hT k t.2.1, t.2.2⟩), if_neg (show ¬ (HG ∧ F 0 ∧ ¬ F k) from fun h => h.2.2 fk), if_neg (fun h => (show ¬ (HG ∧ F 0 ∧ ¬ F k) from fun h => h.2.2 fk) (eg.mpr h)), et]
        rfl
      · rw [if_neg t]
        have el : (HL ∧ T 0 ∧ ¬ T k) ↔ (HL ∧ T 0 ∧ ¬ T (k + 1)) := ⟨fun h => ⟨h.1, h.2.1, hT k h.2.2⟩, fun h => ⟨h.1, h.2.1, fun w => t ⟨h.1, w, h.2.2⟩⟩⟩
        simp only [el, eg]
        simp
theorem zkr_e {A B C : Int} (l la : Bool) (h0 : zside A B C l 64 ≤ 0 → zside A B C l 0 ≤ 0) : zkr A B C l la = (if zside A B C l 0 ≤ 0 ∧ ¬ zside A B C l 64 ≤ 0 then [zbx A B C l] else []) ++ (if la = true ∧ zside A B C l 64 = 0 then [64] else []) := by
  unfold zkr
  generalize zside A B C l 0 = p at *
  generalize zside A B C l 64 = q at *
  by_cases h1 : 0 < p
  · rw [if_pos h1, if_neg (by omega), if_neg (fun h => by have := h0 (by omega); omega)]; rfl
  · rw [if_neg h1]
    by_cases h2 : q < 0 ∨ (q = 0 ∧ la = false)
    · rw [if_pos h2, if_neg (by omega), if_neg (fun h => by rcases h2 with w | w; omega; rw [w.2] at h; exact absurd h.1 (by decide))]; rfl
    · rw [if_neg h2]
      by_cases h3 : q = 0
      · rw [if_pos h3, if_neg (by omega), if_pos ⟨by cases la; exact absurd (Or.inr ⟨h3, rfl⟩) h2; rfl, h3⟩]; rfl
      · rw [if_neg h3, if_pos ⟨by omega, by omega⟩, if_neg (fun h => h3 h.2)]; rfl
theorem zmonoN {A B C : Int} (l : Bool) (hC : 0 ≤ C) (k : Nat) (h : ¬ zside A B C l ((k : Nat) : Int) ≤ 0) : ¬ zside A B C l ((k + 1 : Nat) : Int) ≤ 0 := by
  have := zmono l hC h
  rwa [show ((k + 1 : Nat) : Int) = (k : Int) + 1 by omega]
def znk (A B C d : Int) (k : Nat) : Nat := (if zh A B C ((k : Nat) : Int) = 0 then 1 else 0) + zbt (zh A B C ((k : Nat) : Int)) (zh A B C ((k + 1 : Nat) : Int)) (zrr B C ((k : Nat) : Int)) (zrr B C ((k + 1 : Nat) : Int)) C d
theorem znk_e {A B C d : Int} (hC : 0 < C ∨ (C = 0 ∧ 0 < B)) (hd : zds A B C = 4096 * d) (k : Nat) : znk A B C d k = (if (0 < C ∧ 0 < zds A B C) ∧ zside A B C true ((k : Nat) : Int) ≤ 0 ∧ ¬ zside A B C true ((k + 1 : Nat) : Int) ≤ 0 then 1 else 0) + (if 0 ≤ zds A B C ∧ zside A B C false ((k : Nat) : Int) ≤ 0 ∧ ¬ zside A B C false ((k + 1 : Nat) : Int) ≤ 0 then 1 else 0) := by
  unfold znk
  rw [show ((k + 1 : Nat) : Int) = (k : Int) + 1 by omega]
  rcases hC with h | ⟨rfl, h⟩
  · rw [zN0 (k : Int) h hd]
    simp only [h, true_and]
  · rw [zN1 (k : Int) h hd, if_neg (show ¬ ((0 < (0 : Int) ∧ 0 < zds A B 0) ∧ zside A B 0 true (k : Int) ≤ 0 ∧ ¬ zside A B 0 true ((k : Int) + 1) ≤ 0) from fun w => absurd w.1.1 (by decide)), Nat.zero_add]
theorem zT_F {A B C : Int} (hC : 0 < C) (hD : 0 < zds A B C) (s : Int) (h : zside A B C true s ≤ 0) : zside A B C false s ≤ 0 := by
  have d0 := (zdisc hC (zds_s A B C s)).1 hD
  rw [zside_tl] at h
  rw [zside_fl]
  omega
/-- the boxes that the reference lists for a piece, and those that are found -/
theorem zrk_n {A B C d : Int} (la : Bool) (hC : 0 < C ∨ (C = 0 ∧ 0 < B)) (hd : zds A B C = 4096 * d) : (∀ k, k ≤ 64 → (zrkn (znk A B C d) k).length ≤ 2) ∧ zrkn (znk A B C d) 64 ++ (if la = true ∧ zh A B C 64 = 0 then [64] else []) = (if 0 ≤ zds A B C then zsp A B C la else []) := by
  have hC0 : 0 ≤ C := by omega
  have key := zlist (HL := 0 < C ∧ 0 < zds A B C) (HG := 0 ≤ zds A B C) (T := fun k => zside A B C true ((k : Nat) : Int) ≤ 0) (F := fun k => zside A B C false ((k : Nat) : Int) ≤ 0) (bt := zbx A B C true) (bf := zbx A B C false) (n := znk A B C d) (fun k h => zmonoN true hC0 k h) (fun k h => zmonoN false hC0 k h) (fun hl k h => zT_F hl.1 hl.2 _ h)
    (fun k hk h1 h2 => zct_bx (P := fun m => zside A B C true ((m : Nat) : Int) ≤ 0) (fun m h => zmonoN true hC0 m h) h1 h2 hk) (fun k hk h1 h2 => zct_bx (P := fun m => zside A B C false ((m : Nat) : Int) ≤ 0) (fun m h => zmonoN false hC0 m h) h1 h2 hk) (znk_e hC hd)
  refine ⟨fun k hk => ?_, ?_⟩
  · rw [key k hk, List.length_append]
    (repeat' split) <;> simp
  · rw [key 64 (by omega)]
    have ht : zside A B C true 64 ≤ 0 → zside A B C true 0 ≤ 0 := fun h => zdown (T := fun k => zside A B C true ((k : Nat) : Int) ≤ 0) (fun k h => zmonoN true hC0 k h) 64 h
    have hf : zside A B C false 64 ≤ 0 → zside A B C false 0 ≤ 0 := fun h => zdown (T := fun k => zside A B C false ((k : Nat) : Int) ≤ 0) (fun k h => zmonoN false hC0 k h) 64 h
    unfold zsp
    rw [zkr_e true la ht, zkr_e false la hf]
    show (if (0 < C ∧ 0 < zds A B C) ∧ zside A B C true 0 ≤ 0 ∧ ¬ zside A B C true 64 ≤ 0 then [zbx A B C true] else []) ++ (if 0 ≤ zds A B C ∧ zside A B C false 0 ≤ 0 ∧ ¬ zside A B C false 64 ≤ 0 then [zbx A B C false] else []) ++ (if la = true ∧ zh A B C 64 = 0 then [64] else []) = _
    have zt0 : zside A B C true 64 = 0 ↔ zh A B C 64 = 0 ∧ zrr B C 64 ≤ 0 := by rw [zside_t]; (repeat' split) <;> omega
    have zf0 : zside A B C false 64 = 0 ↔ zh A B C 64 = 0 ∧ 0 ≤ zrr B C 64 := by rw [zside_f]; (repeat' split) <;> omega
    have tl := zside_tl A B C 64
    have fl := zside_fl A B C 64
    by_cases hD : 0 ≤ zds A B C
    · rw [if_pos hD]
      by_cases hL : 0 < C ∧ 0 < zds A B C
      · have d0 := (zdisc hL.1 (zds_s A B C 64)).1 hL.2
        rw [if_pos hL]
        by_cases hz : zh A B C 64 = 0
        · by_cases hy : zrr B C 64 < 0
          · rw [if_neg (show ¬ ((0 < C ∧ 0 < zds A B C) ∧ zside A B C true 0 ≤ 0 ∧ ¬ zside A B C true 64 ≤ 0) from fun h => h.2.2 (tl.mpr ⟨by omega, by omega⟩)), if_neg (show ¬ (0 ≤ zds A B C ∧ zside A B C false 0 ≤ 0 ∧ ¬ zside A B C false 64 ≤ 0) from fun h => h.2.2 (fl.mpr (by omega))), if_neg (show ¬ (zside A B C true 0 ≤ 0 ∧ ¬ zside A B C true 64 ≤ 0) from fun h => h.2 (tl.mpr ⟨by omega, by omega⟩)), if_neg (show ¬ (zside A B C false 0 ≤ 0 ∧ ¬ zside A B C false 64 ≤ 0) from fun h => h.2 (fl.mpr (by omega))), if_neg (show ¬ (la = true ∧ zside A B C false 64 = 0) from fun h => by have := zf0.mp h.2; omega)]
            by_cases hla : la = true
            · rw [if_pos ⟨hla, hz⟩, if_pos ⟨hla, zt0.mpr ⟨hz, by omega⟩⟩]; rfl
            · rw [if_neg (fun h => hla h.1), if_neg (fun h => hla h.1)]; rfl
          · have hy2 : 0 < zrr B C 64 := by have := d0.1 hz; omega
            rw [if_neg (show ¬ (0 ≤ zds A B C ∧ zside A B C false 0 ≤ 0 ∧ ¬ zside A B C false 64 ≤ 0) from fun h => h.2.2 (fl.mpr (by omega))), if_neg (show ¬ (zside A B C false 0 ≤ 0 ∧ ¬ zside A B C false 64 ≤ 0) from fun h => h.2 (fl.mpr (by omega))), if_neg (show ¬ (la = true ∧ zside A B C true 64 = 0) from fun h => by have := zt0.mp h.2; omega)]
            simp only [hL, true_and, zf0, hz, show (0 : Int) ≤ zrr B C 64 by omega, and_true, List.append_nil, List.nil_append]
        · rw [if_neg (show ¬ (la = true ∧ zh A B C 64 = 0) from fun h => hz h.2), if_neg (show ¬ (la = true ∧ zside A B C true 64 = 0) from fun h => hz (zt0.mp h.2).1), if_neg (show ¬ (la = true ∧ zside A B C false 64 = 0) from fun h => hz (zf0.mp h.2).1)]
          simp only [hL, hD, true_and, List.append_nil]
      · rw [if_neg hL, if_neg (show ¬ ((0 < C ∧ 0 < zds A B C) ∧ zside A B C true 0 ≤ 0 ∧ ¬ zside A B C true 64 ≤ 0) from fun h => hL h.1)]
        have hz64 : zh A B C 64 = 0 → 0 ≤ zrr B C 64 := fun hz => by
          rcases hC with h | ⟨rfl, h⟩
          · have d1 := (zdisc h (zds_s A B C 64)).2.1 (by omega)
            have := d1.2.1 hz; omega
          · have : zrr B 0 64 = B := by unfold zrr; grind
            omega
        have e9 : (la = true ∧ zh A B C 64 = 0) ↔ (la = true ∧ zside A B C false 64 = 0) := ⟨fun h => ⟨h.1, zf0.mpr ⟨h.2, hz64 h.2⟩⟩, fun h => ⟨h.1, (zf0.mp h.2).1⟩⟩
        simp only [hD, true_and, e9, List.nil_append]
    · rw [if_neg hD, if_neg (show ¬ ((0 < C ∧ 0 < zds A B C) ∧ zside A B C true 0 ≤ 0 ∧ ¬ zside A B C true 64 ≤ 0) from fun h => by omega), if_neg (show ¬ (0 ≤ zds A B C ∧ zside A B C false 0 ≤ 0 ∧ ¬ zside A B C false 64 ≤ 0) from fun h => hD h.1), if_neg (show ¬ (la = true ∧ zh A B C 64 = 0) from fun h => ?_)]; rfl
      rcases hC with w | ⟨rfl, w⟩
      · have d1 := (zdisc w (zds_s A B C 64)).2.2 (by omega); omega
      · have : zds A B 0 = B * B := by unfold zds; grind
        have := Int.mul_pos w w; omega
