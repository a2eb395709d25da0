theorem zh_neg (a b c s : Int) : zh (-a) (-b) (-c) s = -zh a b c s := by unfold zh; grind
theorem zrr_neg (b c s : Int) : zrr (-b) (-c) s = -zrr b c s := by unfold zrr; grind
theorem zds_neg (a b c : Int) : zds (-a) (-b) (-c) = zds a b c := by unfold zds; grind
theorem znk_neg (A B C d : Int) (k : Nat) : znk (-A) (-B) (-C) d k = znk A B C d k := by
  unfold znk
  rw [zh_neg, zh_neg, zrr_neg, zrr_neg, zbt_neg]
  congr 1
  simp only [Int.neg_eq_zero]
theorem zrkn_c {n m : Nat → Nat} (h : ∀ k, n k = m k) : ∀ k, zrkn n k = zrkn m k
  | 0 => rfl
  | k + 1 => by rw [zrkn, zrkn, zrkn_c h k, h k]
theorem zrkn_0 {n : Nat → Nat} (h : ∀ k, n k = 0) : ∀ k, zrkn n k = []
  | 0 => rfl
  | k + 1 => by rw [zrkn, zrkn_0 h k, h k]; rfl
/-- the reference's count in a box, of a piece by its own numbers -/
def znp (a b c : Int) (k : Nat) : Nat := znk (4096 * a) (64 * b) c (b * b - 4 * a * c) k
theorem zpb_r {a b c : Int} (la : Bool) (hne : ¬ (a = 0 ∧ b = 0 ∧ c = 0)) : (∀ k, k ≤ 64 → (zrkn (znp a b c) k).length ≤ 2) ∧ zrkn (znp a b c) 64 ++ (if la = true ∧ zh (4096 * a) (64 * b) c 64 = 0 then [64] else []) = zpb a b c la := by
  have ed : zds (4096 * a) (64 * b) c = 4096 * (b * b - 4 * a * c) := by unfold zds; grind
  by_cases h0 : zld b c = 0
  · have hc : c = 0 := by unfold zld at h0; split at h0 <;> omega
    have hb : b = 0 := by unfold zld at h0; rw [if_pos hc] at h0; exact h0
    have ha : ¬ a = 0 := fun q => hne ⟨q, hb, hc⟩
    subst hc; subst hb
    have hh : ∀ s : Int, zh (4096 * a) (64 * 0) 0 s = 4096 * a := fun s => by unfold zh; grind
    have hr : ∀ s : Int, zrr (64 * 0) 0 s = 0 := fun s => by unfold zrr; grind
    have hk : ∀ k, znp a 0 0 k = 0 := fun k => by
      unfold znp znk
      rw [hh, hh, hr, hr, if_neg (by omega), Nat.zero_add]
      unfold zbt
      have e0 : zsgn 0 = 0 := rfl
      have e1 : ¬ zsgn (4096 * a) = 0 := fun q => ha (by have := (zsgn_z _).mp q; omega)
      rw [if_neg (fun h => e1 h.1), if_neg e1, if_neg e1, if_pos rfl, e0, if_neg (fun h => absurd h.1 (by decide))]
    refine ⟨fun k _ => by rw [zrkn_0 hk]; simp, ?_⟩
    rw [zrkn_0 hk, if_neg (fun h => by rw [hh] at h; omega)]
    unfold zpb
    rw [if_neg (fun h => h.1 h0)]
    rfl
  · by_cases hs : zld b c < 0
    · have es : zsg b c = -1 := if_pos hs
      have e1 : zsg b c * a * 4096 = -(4096 * a) := by rw [es]; omega
      have e2 : zsg b c * b * 64 = -(64 * b) := by rw [es]; omega
      have e3 : zsg b c * c = -c := by rw [es]; omega
      have hC : 0 < -c ∨ (-c = 0 ∧ 0 < -(64 * b)) := by
        unfold zld at hs; split at hs <;> omega
      have main := zrk_n (A := -(4096 * a)) (B := -(64 * b)) (C := -c) (d := b * b - 4 * a * c) la hC (by rw [zds_neg]; exact ed)
      have en : ∀ k, zrkn (znk (-(4096 * a)) (-(64 * b)) (-c) (b * b - 4 * a * c)) k = zrkn (znp a b c) k := zrkn_c (fun k => znk_neg _ _ _ _ k)
      rw [zh_neg, en 64] at main
      refine ⟨fun k hk => by rw [← en k]; exact main.1 k hk, ?_⟩
      have m2 := main.2
      simp only [Int.neg_eq_zero] at m2
      rw [m2]
      unfold zpb
      rw [e1, e2, e3]
      by_cases q : 0 ≤ zds (-(4096 * a)) (-(64 * b)) (-c)
      · rw [if_pos q, if_pos ⟨h0, q⟩]
      · rw [if_neg q, if_neg (fun h => q h.2)]
    · have es : zsg b c = 1 := if_neg hs
      have e1 : zsg b c * a * 4096 = 4096 * a := by rw [es]; omega
      have e2 : zsg b c * b * 64 = 64 * b := by rw [es]; omega
      have e3 : zsg b c * c = c := by rw [es]; omega
      have hC : 0 < c ∨ (c = 0 ∧ 0 < 64 * b) := by
        unfold zld at hs h0; split at hs <;> omega
      have main := zrk_n (A := 4096 * a) (B := 64 * b) (C := c) (d := b * b - 4 * a * c) la hC ed
      refine ⟨main.1, ?_⟩
      have m2 := main.2
      show zrkn (znk (4096 * a) (64 * b) c (b * b - 4 * a * c)) 64 ++ _ = _
      rw [m2]
      unfold zpb
      rw [e1, e2, e3]
      by_cases q : 0 ≤ zds (4096 * a) (64 * b) c
      · rw [if_pos q, if_pos ⟨h0, q⟩]
      · rw [if_neg q, if_neg (fun h => q h.2)]
/-- the boxes that the reference lists for the first i pieces -/
def zrl (A B C : Nat → Int) : Nat → List Nat
  | 0 => []
  | i + 1 => zrl A B C i ++ (zrkn (znp (A i) (B i) (C i)) 64).map (fun b => 64 * i + b)
theorem zrl_len {A B C : Nat → Int} : ∀ {i : Nat}, (∀ j, j < i → ¬ (A j = 0 ∧ B j = 0 ∧ C j = 0)) → (zrl A B C i).length ≤ 2 * i
  | 0, _ => by simp [zrl]
  | i + 1, h => by
    have ih := zrl_len (A := A) (B := B) (C := C) (i := i) (fun j hj => h j (by omega))
    have h2 := (zpb_r true (h i (by omega))).1 64 (by omega)
    rw [zrl, List.length_append, List.length_map]; omega
theorem zbl_rl {A B C : Nat → Int} {n : Nat} : ∀ {i : Nat}, i < n → (∀ j, j < i → ¬ (A j = 0 ∧ B j = 0 ∧ C j = 0)) → zbl A B C n i = zrl A B C i
  | 0, _, _ => rfl
  | i + 1, hi, h => by
    rw [zbl, zrl, zbl_rl (A := A) (B := B) (C := C) (n := n) (i := i) (by omega) (fun j hj => h j (by omega)), decide_eq_false (show ¬ i + 1 = n by omega), ← (zpb_r false (h i (by omega))).2]
    simp
theorem zbl_rln {A B C : Nat → Int} {n : Nat} (hn : 1 ≤ n) (h : ∀ j, j < n → ¬ (A j = 0 ∧ B j = 0 ∧ C j = 0)) : zbl A B C n n = zrl A B C n ++ (if zh (4096 * A (n - 1)) (64 * B (n - 1)) (C (n - 1)) 64 = 0 then [64 * n] else []) := by
  obtain ⟨q, rfl⟩ : ∃ q, n = q + 1 := ⟨n - 1, by omega⟩
  rw [zbl, zrl, zbl_rl (by omega) (fun j hj => h j (by omega)), decide_eq_true (show q + 1 = q + 1 from rfl), ← (zpb_r true (h q (by omega))).2, Nat.add_sub_cancel, List.map_append, List.append_assoc]
  congr 2
  by_cases w : zh (4096 * A q) (64 * B q) (C q) 64 = 0
  · rw [if_pos ⟨rfl, w⟩, if_pos w]; simp; omega
  · rw [if_neg (fun h => w h.2), if_neg w]; rfl
