theorem zsgn_c (z : Int) : (0 < z ∧ zsgn z = 1) ∨ (z < 0 ∧ zsgn z = -1) ∨ (z = 0 ∧ zsgn z = 0) := by
  unfold zsgn
  rcases (show 0 < z ∨ z < 0 ∨ z = 0 by omega) with h | h | h
  · exact Or.inl ⟨h, if_pos h⟩
  · exact Or.inr (Or.inl ⟨h, by rw [if_neg (by omega), if_pos h]⟩)
  · exact Or.inr (Or.inr ⟨h, by rw [if_neg (by omega), if_neg (by omega)]⟩)
theorem zsgn_z (z : Int) : zsgn z = 0 ↔ z = 0 := by
  rcases zsgn_c z with ⟨h, e⟩ | ⟨h, e⟩ | ⟨h, e⟩ <;> rw [e] <;> constructor <;> intro q <;> first | omega | exact absurd q (by decide) | decide
theorem zsgn_m (p q : Int) : zsgn p * zsgn q < 0 ↔ (0 < p ∧ q < 0) ∨ (p < 0 ∧ 0 < q) := by
  rcases zsgn_c p with ⟨h, e⟩ | ⟨h, e⟩ | ⟨h, e⟩ <;> rcases zsgn_c q with ⟨h2, e2⟩ | ⟨h2, e2⟩ | ⟨h2, e2⟩ <;> rw [e, e2] <;> constructor <;> intro w <;> first | omega | exact absurd w (by decide) | decide
theorem zsgn_mp (p q : Int) : 0 < zsgn p * zsgn q ↔ (0 < p ∧ 0 < q) ∨ (p < 0 ∧ q < 0) := by
  rcases zsgn_c p with ⟨h, e⟩ | ⟨h, e⟩ | ⟨h, e⟩ <;> rcases zsgn_c q with ⟨h2, e2⟩ | ⟨h2, e2⟩ | ⟨h2, e2⟩ <;> rw [e, e2] <;> constructor <;> intro w <;> first | omega | exact absurd w (by decide) | decide
theorem zsgn_e (p q : Int) : zsgn p = zsgn q ↔ (0 < p ∧ 0 < q) ∨ (p < 0 ∧ q < 0) ∨ (p = 0 ∧ q = 0) := by
  rcases zsgn_c p with ⟨h, e⟩ | ⟨h, e⟩ | ⟨h, e⟩ <;> rcases zsgn_c q with ⟨h2, e2⟩ | ⟨h2, e2⟩ | ⟨h2, e2⟩ <;> rw [e, e2] <;> constructor <;> intro w <;> first | omega | exact absurd w (by decide) | decide
theorem zside_tl (a b c s : Int) : zside a b c true s ≤ 0 ↔ 0 ≤ zh a b c s ∧ zrr b c s ≤ 0 := by
  rw [zside_t]
  (repeat' split) <;> omega
theorem zside_fl (a b c s : Int) : zside a b c false s ≤ 0 ↔ ¬ (0 < zh a b c s ∧ 0 ≤ zrr b c s) := by
  rw [zside_f]
  (repeat' split) <;> omega
theorem zds_s (a b c s : Int) : zds a b c = zrr b c s * zrr b c s - 4 * c * zh a b c s := by unfold zds zrr zh; grind
/-- what the discriminant says of the sign at a place -/
theorem zdisc {c x y D : Int} (hc : 0 < c) (hD : D = y * y - 4 * c * x) : (0 < D → (x = 0 → ¬ y = 0) ∧ (y = 0 → x < 0)) ∧ (D = 0 → 0 ≤ x ∧ (x = 0 → y = 0) ∧ (y = 0 → x = 0)) ∧ (D < 0 → 0 < x) := by
  have hyy : 0 ≤ y * y := by
    rcases Int.le_total 0 y with h | h
    · exact Int.mul_nonneg h h
    · have := Int.mul_nonneg (show 0 ≤ -y by omega) (show 0 ≤ -y by omega)
      rw [Int.neg_mul_neg] at this; exact this
  have hy0 : y * y = 0 → y = 0 := fun h => by
    rcases Int.mul_eq_zero.mp h with q | q <;> exact q
  have hpos : 0 < x → 0 < 4 * c * x := fun h => Int.mul_pos (by omega) h
  have hneg : x < 0 → 4 * c * x < 0 := fun h => by
    have := Int.mul_pos (show 0 < 4 * c by omega) (show 0 < -x by omega)
    rw [Int.mul_neg] at this; omega
  have hz : x = 0 → 4 * c * x = 0 := fun h => by rw [h, Int.mul_zero]
  have hy2 : y = 0 → y * y = 0 := fun h => by rw [h]; rfl
  rcases (show 0 < x ∨ x < 0 ∨ x = 0 by omega) with h | h | h
  · have := hpos h
    by_cases q : y = 0
    · have := hy2 q; omega
    · omega
  · have := hneg h
    by_cases q : y = 0
    · have := hy2 q; omega
    · omega
  · have := hz h
    by_cases q : y = 0
    · have := hy2 q; omega
    · have : ¬ y * y = 0 := fun w => q (hy0 w)
      omega
/-- the zeros that the reference counts in a box are those that are found -/
theorem zN0 {A B C d : Int} (s : Int) (hC : 0 < C) (hd : zds A B C = 4096 * d) : (if zh A B C s = 0 then 1 else 0) + zbt (zh A B C s) (zh A B C (s + 1)) (zrr B C s) (zrr B C (s + 1)) C d = (if 0 < zds A B C ∧ zside A B C true s ≤ 0 ∧ ¬ zside A B C true (s + 1) ≤ 0 then 1 else 0) + (if 0 ≤ zds A B C ∧ zside A B C false s ≤ 0 ∧ ¬ zside A B C false (s + 1) ≤ 0 then 1 else 0) := by
  have e1 := zh_s A B C s
  have e2 := zrr_s B C s
  have d0 := zdisc hC (zds_s A B C s)
  have d1 := zdisc hC (zds_s A B C (s + 1))
  simp only [zside_tl, zside_fl, zbt, zsgn_z, zsgn_m, zsgn_mp, zsgn_e]
  generalize zh A B C s = x at *
  generalize zrr B C s = y at *
  generalize zh A B C (s + 1) = x' at *
  generalize zrr B C (s + 1) = y' at *
  generalize zds A B C = D at *
  rcases (show 0 < D ∨ D = 0 ∨ D < 0 by omega) with hD | hD | hD
  · have f0 := d0.1 hD
    have f1 := d1.1 hD
    clear d0 d1
    (repeat' split) <;> omega
  · have f0 := d0.2.1 hD
    have f1 := d1.2.1 hD
    clear d0 d1
    (repeat' split) <;> omega
  · have f0 := d0.2.2 hD
    have f1 := d1.2.2 hD
    clear d0 d1
    (repeat' split) <;> omega
theorem zN1 {A B d : Int} (s : Int) (hB : 0 < B) (hd : zds A B 0 = 4096 * d) : (if zh A B 0 s = 0 then 1 else 0) + zbt (zh A B 0 s) (zh A B 0 (s + 1)) (zrr B 0 s) (zrr B 0 (s + 1)) 0 d = (if 0 ≤ zds A B 0 ∧ zside A B 0 false s ≤ 0 ∧ ¬ zside A B 0 false (s + 1) ≤ 0 then 1 else 0) := by
  have e1 := zh_s A B 0 s
  have e2 : zrr B 0 s = B := by unfold zrr; grind
  have e3 : zrr B 0 (s + 1) = B := by unfold zrr; grind
  have e4 : 0 < zds A B 0 := by
    have : zds A B 0 = B * B := by unfold zds; grind
    rw [this]; exact Int.mul_pos hB hB
  simp only [zside_fl, zbt, zsgn_z, zsgn_m, zsgn_mp, zsgn_e]
  generalize zh A B 0 s = x at *
  generalize zrr B 0 s = y at *
  generalize zh A B 0 (s + 1) = x' at *
  generalize zrr B 0 (s + 1) = y' at *
  generalize zds A B 0 = D at *
  (repeat' split) <;> omega
/-- turned signs count the same -/
theorem zbt_neg (x x' y y' c d : Int) : zbt (-x) (-x') (-y) (-y') (-c) d = zbt x x' y y' c d := by
  simp only [zbt, zsgn_z, zsgn_m, zsgn_mp, zsgn_e]
  (repeat' split) <;> omega
