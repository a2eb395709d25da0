/-! has and end -/
theorem ziv_lt {x y : Int32} {z w : Int} {B C : Nat} (h : ziv x z B) (h2 : ziv y w C) : x < y ↔ z < w := by rw [zi_lt, h.1, h2.1]
theorem zlv_lt {x y : Int64} {z w : Int} {B C : Nat} (h : zlv x z B) (h2 : zlv y w C) : x < y ↔ z < w := by rw [zl_lt, h.1, h2.1]
theorem ziv_le {x y : Int32} {z w : Int} {B C : Nat} (h : ziv x z B) (h2 : ziv y w C) : x ≤ y ↔ z ≤ w := by rw [zi_le, h.1, h2.1]
theorem ziv0 : ziv 0 0 0 := ⟨by decide, by unfold zbd; decide⟩
theorem zlv0 : zlv 0 0 0 := ⟨by decide, by unfold zbd; decide⟩
/-- the sign -/
def zsgE (s : Int32) (g : Int64) (e : Int) : Prop := ziv s e 1 ∧ zlv g e 1 ∧ (e = 1 ∨ e = -1)
theorem zsgE_p : zsgE 1 1 1 := ⟨⟨by decide, by unfold zbd; decide⟩, ⟨by decide, by unfold zbd; decide⟩, Or.inl rfl⟩
theorem zsgE_m : zsgE (-1) (-1) (-1) := ⟨⟨by decide, by unfold zbd; decide⟩, ⟨by decide, by unfold zbd; decide⟩, Or.inr rfl⟩
theorem zhr_e {S σ : zS} {k n i : Nat} {s : Int32} {g : Int64} {e : Int} (hg : zsgE s g e) (h : zSc S σ k n) (b : ∀ i, i < n → zbdP σ k i) (hi : i < n) : zriP σ k s i ↔ zhr S g i := by
  obtain ⟨g1, g2, g3⟩ := hg
  obtain ⟨e1, e2, e3⟩ := h i hi
  obtain ⟨b1, b2, b3⟩ := b i hi
  obtain ⟨s1, s2⟩ := zSc_sl h b hi
  have c1 : s * sa σ (7 + k) i < 0 ↔ g * sm S 1 i < 0 := by
    rw [e2, ziv_lt (g1.mul (ziv.of b2) (by decide)) ziv0, zlv_lt (g2.mul (ziv.of b2).l (by decide)) zlv0]
  have c2 : s * zsl σ k i < 0 ↔ g * (sm S 1 i + 2 * sm S 2 i) < 0 := by
    rw [s1, ziv_lt (g1.mul s2 (by decide)) ziv0, zlv_lt (g2.mul s2.l (by decide)) zlv0]
  have c3 : 0 < i → (s * (sa σ k i - zva σ k (i - 1)) < 0 ↔ g * sm S 0 i < g * (sm S 0 (i - 1) + sm S 1 (i - 1) + sm S 2 (i - 1))) := fun h0 => by
    obtain ⟨v1, v2⟩ := zSc_va h b (show i - 1 < n by omega)
    rw [v1, e1, ziv_lt (g1.mul ((ziv.of b1).sub v2 (by decide)) (by decide)) ziv0, zlv_lt (g2.mul (ziv.of b1).l (by decide)) (g2.mul v2.l (by decide)), Int.mul_sub]
    omega
  unfold zriP zhr
  rw [c1, c2]
  exact ⟨fun ⟨a, b, c⟩ => ⟨a, b, fun h0 => by rw [← c3 h0]; exact c h0⟩, fun ⟨a, b, c⟩ => ⟨a, b, fun h0 => by rw [c3 h0]; exact c h0⟩⟩
theorem zhb_e {S σ : zS} {k n i : Nat} {s : Int32} {g : Int64} {e : Int} (hg : zsgE s g e) (h : zSc S σ k n) (b : ∀ i, i < n → zbdP σ k i) (hi : i < n) : zbuP σ k s i ↔ zhb S g i := by
  obtain ⟨g1, g2, g3⟩ := hg
  obtain ⟨e1, e2, e3⟩ := h i hi
  obtain ⟨b1, b2, b3⟩ := b i hi
  obtain ⟨s1, s2⟩ := zSc_sl h b hi
  have c1 : s * sa σ (14 + k) i < 0 ↔ g * (sm S 1 i + 2 * sm S 2 i) < g * sm S 1 i := by
    rw [s1, e2, ziv_lt (g1.mul (ziv.of b3) (by decide)) ziv0, zlv_lt (g2.mul s2.l (by decide)) (g2.mul (ziv.of b2).l (by decide))]
    rcases g3 with rfl | rfl <;> omega
  have c2 : 0 < i → (zjn σ k i < 0 ↔ zjm S i < 0) := fun h0 => by rw [zSc_jn h b h0 hi]
  have c3 : 0 < i → (s * (sa σ (7 + k) i - zsl σ k (i - 1)) < 0 ↔ g * sm S 1 i < g * (sm S 1 (i - 1) + 2 * sm S 2 (i - 1))) := fun h0 => by
    obtain ⟨v1, v2⟩ := zSc_sl h b (show i - 1 < n by omega)
    rw [v1, e2, ziv_lt (g1.mul ((ziv.of b2).sub v2 (by decide)) (by decide)) ziv0, zlv_lt (g2.mul (ziv.of b2).l (by decide)) (g2.mul v2.l (by decide)), Int.mul_sub]
    omega
  unfold zbuP zhb
  rw [c1]
  exact ⟨fun ⟨a, c⟩ => ⟨a, fun h0 => by rw [← c3 h0, ← c2 h0]; exact c h0⟩, fun ⟨a, c⟩ => ⟨a, fun h0 => by rw [c3 h0, c2 h0]; exact c h0⟩⟩
theorem zy14 {y : Int32} (h : 1 ≤ y.toInt ∧ y.toInt ≤ 4) : y = 1 ∨ y = 2 ∨ y = 3 ∨ y = 4 := by
  have e1 : (1 : Int32).toInt = 1 := by decide
  have e2 : (2 : Int32).toInt = 2 := by decide
  have e3 : (3 : Int32).toInt = 3 := by decide
  have e4 : (4 : Int32).toInt = 4 := by decide
  simp only [zi_eq, e1, e2, e3, e4]
  omega
theorem zhs_u {S σ : zS} {k n i : Nat} {y : Int32} (hy : 1 ≤ y.toInt ∧ y.toInt ≤ 4) (h : zSc S σ k n) (b : ∀ i, i < n → zbdP σ k i) (hi : i < n) : ((y = 3 ∨ y = 4) ∧ (zbuP σ k (if y = 2 ∨ y = 4 then -1 else 1) i ↔ zhs S y i)) ∨ (¬ (y = 3 ∨ y = 4) ∧ (zriP σ k (if y = 2 ∨ y = 4 then -1 else 1) i ↔ zhs S y i)) := by
  rcases zy14 hy with rfl | rfl | rfl | rfl
  · refine Or.inr ⟨by decide, ?_⟩
    rw [if_neg (by decide)]
    unfold zhs
    rw [if_pos (by decide), show zgs 1 = 1 by decide]
    exact zhr_e zsgE_p h b hi
  · refine Or.inr ⟨by decide, ?_⟩
    rw [if_pos (by decide)]
    unfold zhs
    rw [if_pos (by decide), show zgs 2 = -1 by decide]
    exact zhr_e zsgE_m h b hi
  · refine Or.inl ⟨by decide, ?_⟩
    rw [if_neg (by decide)]
    unfold zhs
    rw [if_neg (by decide), show zgs 3 = 1 by decide]
    exact zhb_e zsgE_p h b hi
  · refine Or.inl ⟨by decide, ?_⟩
    rw [if_pos (by decide)]
    unfold zhs
    rw [if_neg (by decide), show zgs 4 = -1 by decide]
    exact zhb_e zsgE_m h b hi
theorem zk_has {σ u1 u2 : zS} {x y r1 r2 : Int32} {N : Nat → Nat} {m : Nat} (h : zCP σ N m) (p : zP3_has σ x y N r1 u1) (q : zP4_has u1 x y N r2 u2) : zgo r1 r2 u2 := by
  obtain ⟨rfl, p⟩ := p
  rcases p with ⟨p1, rfl⟩ | ⟨p1, p2, rfl⟩ | ⟨p2, k, hk, hx, p⟩
  · rcases q with ⟨_, rfl, rfl⟩ | ⟨q1, _⟩ | ⟨_, k, hk, hx, _⟩
    · exact ⟨rfl, N, m, h⟩
    · exact absurd q1 p1
    · exact absurd (zplk hk hx) p1
  · rcases q with ⟨q1, _⟩ | ⟨_, _, rfl, rfl⟩ | ⟨q2, _⟩
    · exact absurd p1 q1
    · exact ⟨rfl, N, m, h⟩
    · exact absurd q2 p2
  · rcases q with ⟨q1, _⟩ | ⟨_, q2, _⟩ | ⟨_, k2, hk2, hx2, q, rfl⟩
    · exact absurd (zplk hk hx) q1
    · exact absurd p2 q2
    · have e1 := zku hk hk2 hx hx2
      subst e1
      have hC := h.1 k hk
      have e := zSc_lk h hk zfrC.rf
      refine ⟨?_, N, m, zCP_vs h (zvs_lk _ _ _)⟩
      rcases p with ⟨p3, p⟩ | ⟨p3, p⟩
      · refine zb_u p q ⟨fun a i hi => ?_, fun a i hi => ?_⟩
        · rcases zhs_u p2 e hC.2.2.2 hi with ⟨_, z⟩ | ⟨z, _⟩
          · exact z.mp (a i hi)
          · exact absurd p3 z
        · rcases zhs_u p2 e hC.2.2.2 hi with ⟨_, z⟩ | ⟨z, _⟩
          · exact z.mpr (a i hi)
          · exact absurd p3 z
      · refine zb_u p q ⟨fun a i hi => ?_, fun a i hi => ?_⟩
        · rcases zhs_u p2 e hC.2.2.2 hi with ⟨z, _⟩ | ⟨_, z⟩
          · exact absurd z p3
          · exact z.mp (a i hi)
        · rcases zhs_u p2 e hC.2.2.2 hi with ⟨z, _⟩ | ⟨_, z⟩
          · exact absurd z p3
          · exact z.mpr (a i hi)
/-! division -/
theorem zxl {x y : Int64} : 0 ≤ x ^^^ y ↔ (x.toInt < 0 ↔ y.toInt < 0) := by
  have e : decide ((x ^^^ y).toInt < 0) = (decide (x.toInt < 0) ^^ decide (y.toInt < 0)) := by
    have e : (x ^^^ y).toBitVec.msb = (x.toBitVec.msb ^^ y.toBitVec.msb) := by rw [Int64.toBitVec_xor, BitVec.msb_xor]
    rw [BitVec.msb_eq_toInt, BitVec.msb_eq_toInt, BitVec.msb_eq_toInt] at e
    exact e
  rw [zl_le, z0L]
  generalize (x ^^^ y).toInt = a at *
  generalize x.toInt = b at *
  generalize y.toInt = c at *
  by_cases h1 : b < 0 <;> by_cases h2 : c < 0 <;> simp [h1, h2] at e <;> simp [h1, h2] <;> omega
theorem zxi {x y : Int32} : 0 ≤ x ^^^ y ↔ (x.toInt < 0 ↔ y.toInt < 0) := by
  have e : decide ((x ^^^ y).toInt < 0) = (decide (x.toInt < 0) ^^ decide (y.toInt < 0)) := by
    have e : (x ^^^ y).toBitVec.msb = (x.toBitVec.msb ^^ y.toBitVec.msb) := by rw [Int32.toBitVec_xor, BitVec.msb_xor]
    rw [BitVec.msb_eq_toInt, BitVec.msb_eq_toInt, BitVec.msb_eq_toInt] at e
    exact e
  rw [zi_le, show (0 : Int32).toInt = 0 from rfl]
  generalize (x ^^^ y).toInt = a at *
  generalize x.toInt = b at *
  generalize y.toInt = c at *
  by_cases h1 : b < 0 <;> by_cases h2 : c < 0 <;> simp [h1, h2] at e <;> simp [h1, h2] <;> omega
theorem ziv_div {x y : Int32} {z w : Int} {B C : Nat} (h : ziv x z B) (h2 : ziv y w C) (hb : B < 2147483648) : ziv (x / y) (z.tdiv w) B := by
  have hd : (z.tdiv w).natAbs ≤ B := Nat.le_trans (Int.natAbs_tdiv_le_natAbs z w) h.2
  refine ⟨?_, hd⟩
  rw [Int32.toInt_div, h.1, h2.1, Int.bmod_eq_of_le (by omega) (by omega)]
theorem zlv_div {x y : Int64} {z w : Int} {B C : Nat} (h : zlv x z B) (h2 : zlv y w C) (hb : B < 9223372036854775808) : zlv (x / y) (z.tdiv w) B := by
  have hd : (z.tdiv w).natAbs ≤ B := Nat.le_trans (Int.natAbs_tdiv_le_natAbs z w) h.2
  refine ⟨?_, hd⟩
  rw [Int64.toInt_div, h.1, h2.1, Int.bmod_eq_of_le (by omega) (by omega)]
theorem zqu {X D q : Int} (hD : 0 < D) (h1 : q * D ≤ X) (h2 : X < q * D + D) : X / D = q := by
  apply Int.le_antisymm
  · exact Int.lt_add_one_iff.mp (Int.ediv_lt_of_lt_mul hD (by rw [Int.add_mul, Int.one_mul]; exact h2))
  · exact Int.le_ediv_of_mul_le hD h1
theorem zqv {X D : Int} (hD : 0 < D) : X / D * D ≤ X ∧ X < X / D * D + D := by
  have h1 := Int.ediv_mul_le X (show D ≠ 0 by omega)
  have h2 := Int.lt_ediv_add_one_mul_self X hD
  rw [Int.add_mul, Int.one_mul] at h2
  exact ⟨h1, h2⟩
theorem zfd_neg {x y : Int64} {X D : Int} {B C : Nat} (hx : zlv x X B) (hy : zlv y (-D) C) (hX : 0 < X) (hD : 0 < D) (hb : B * C < 9223372036854775808) (hB : B + 1 < 9223372036854775808) : zlv (zfd x y) (-((X + D - 1) / D)) (B + 1) := by
  have d := zlv_div hx hy (by omega)
  have tq : X.tdiv (-D) = -(X / D) := by rw [Int.tdiv_neg, Int.tdiv_eq_ediv_of_nonneg (by omega)]
  rw [tq] at d
  have dm := d.mul hy hb
  obtain ⟨v1, v2⟩ := zqv (X := X) hD
  unfold zfd
  rw [if_neg (by rw [zxl, hx.1, hy.1]; omega)]
  by_cases hz : x / y * y = x
  · rw [if_pos hz]
    rw [zl_eq, dm.1, hx.1, Int.neg_mul_neg] at hz
    refine (d.le (by omega)).to ?_
    rw [zqu (X := X + D - 1) (q := X / D) hD (by omega) (by omega)]
  · rw [if_neg hz]
    rw [zl_eq, dm.1, hx.1, Int.neg_mul_neg] at hz
    refine (d.sub zlv1 hB).to ?_
    rw [zqu (X := X + D - 1) (q := X / D + 1) hD (by rw [Int.add_mul, Int.one_mul]; omega) (by rw [Int.add_mul, Int.one_mul]; omega)]
    omega
theorem ziv1 : ziv 1 1 1 := ⟨by decide, by unfold zbd; decide⟩
theorem zfI_pos {x y : Int32} {X D : Int} {B C : Nat} (hx : ziv x X B) (hy : ziv y D C) (hD : 0 < D) (hb : B * C < 2147483648) (hB : B + 1 < 2147483648) : ziv (zfdI x y) (X / D) (B + 1) := by
  have d := ziv_div hx hy (by omega)
  unfold zfdI
  by_cases hX : X < 0
  · rw [if_neg (by rw [zxi, hx.1, hy.1]; omega)]
    have tq : X.tdiv D = -((-X) / D) := by
      have := Int.neg_tdiv (-X) D
      rw [Int.neg_neg, Int.tdiv_eq_ediv_of_nonneg (a := -X) (by omega)] at this
      exact this
    rw [tq] at d
    have dm := d.mul hy hb
    obtain ⟨v1, v2⟩ := zqv (X := -X) hD
    by_cases hz : x / y * y = x
    · rw [if_pos hz]
      rw [zi_eq, dm.1, hx.1, Int.neg_mul] at hz
      refine (d.le (by omega)).to ?_
      rw [zqu (X := X) (q := -(-X / D)) hD (by rw [Int.neg_mul]; omega) (by rw [Int.neg_mul]; omega)]
    · rw [if_neg hz]
      rw [zi_eq, dm.1, hx.1, Int.neg_mul] at hz
      refine (d.sub ziv1 hB).to ?_
      rw [zqu (X := X) (q := -(-X / D) - 1) hD (by rw [Int.sub_mul, Int.one_mul, Int.neg_mul]; omega) (by rw [Int.sub_mul, Int.one_mul, Int.neg_mul]; omega)]
  · rw [if_pos (by rw [zxi, hx.1, hy.1]; omega)]
    rw [Int.tdiv_eq_ediv_of_nonneg (by omega)] at d
    exact d.le (by omega)
/-! the top -/
theorem zn1_v (t x : Int64) : (zn1 t x).toInt = max t.toInt x.toInt := by
  unfold zn1
  split <;> rename_i h <;> rw [zl_lt] at h <;> omega
theorem zlvm4 : zlv (-4) (-4) 4 := ⟨by decide, by unfold zbd; decide⟩
theorem zlvm2 : zlv (-2) (-2) 2 := ⟨by decide, by unfold zbd; decide⟩
theorem zsqn (a : Int) : 0 ≤ a * a := by
  rcases Int.le_total 0 a with h | h
  · exact Int.mul_nonneg h h
  · exact Int.mul_nonneg_of_nonpos_of_nonpos h h
theorem zpeak {x y z : Int64} {X Y Z : Int} (hx : zlv x X 100000) (hy : zlv y Y 100000) (hz : zlv z Z 100000) (c1 : Z < 0) (c2 : 0 < Y) : x + (y * y + -4 * z - 1) / (-4 * z) = x - zfd (y * y) (4 * z) ∧ ∃ Q, (x - zfd (y * y) (4 * z)).toInt = X + Q ∧ 0 ≤ Q ∧ Y + Z ≤ Q := by
  have hd : zlv (4 * z) (-(-4 * Z)) 400000 := (zlv4.mul hz (by decide)).to (by omega)
  have hm : zlv (-4 * z) (-4 * Z) 400000 := zlvm4.mul hz (by decide)
  have hyy := hy.mul hy (by decide)
  have hY : 0 < Y * Y := Int.mul_pos c2 c2
  have num := (hyy.add hm (by decide)).sub zlv1 (by decide)
  have qv := zlv_div num hm (by decide)
  rw [Int.tdiv_eq_ediv_of_nonneg (by omega)] at qv
  have f := zfd_neg hyy hd hY (by omega) (by decide) (by decide)
  have hs := hx.sub f (by decide)
  refine ⟨(hx.add qv (by decide)).eq hs (by omega), (Y * Y + -4 * Z - 1) / (-4 * Z), ?_, ?_, ?_⟩
  · rw [hs.1]; omega
  · exact Int.le_ediv_of_mul_le (by omega) (by omega)
  · refine Int.le_ediv_of_mul_le (by omega) ?_
    have := zsqn (Y + 2 * Z)
    have e1 : (Y + 2 * Z) * (Y + 2 * Z) = Y * Y + 4 * (Y * Z) + 4 * (Z * Z) := by grind
    have e2 : (Y + Z) * (-4 * Z) = -4 * (Y * Z) - 4 * (Z * Z) := by grind
    rw [e2]
    omega
theorem zpk_c {y z : Int64} {Y Z : Int} (hy : zlv y Y 100000) (hz : zlv z Z 100000) : (y < -2 * z ↔ y + 2 * z < 0) ∧ (z < 0 ↔ Z < 0) ∧ (0 < y ↔ 0 < Y) := by
  refine ⟨?_, zlv_lt hz zlv0, zlv_lt zlv0 hy⟩
  rw [zlv_lt hy (zlvm2.mul hz (by decide)), zlv_lt (hy.add (zlv2.mul hz (by decide)) (by decide)) zlv0]
  omega
theorem zen_tp {t x y z : Int64} {X Y Z : Int} (hx : zlv x X 100000) (hy : zlv y Y 100000) (hz : zlv z Z 100000) : zen t x y z = zn1 t (ztp x y z) ∧ x.toInt ≤ (ztp x y z).toInt := by
  obtain ⟨k1, k2, k3⟩ := zpk_c hy hz
  have hxyz := (hx.add hy (by decide)).add hz (by decide)
  by_cases c : z < 0 ∧ 0 < y ∧ y < -2 * z
  · have c2 : z < 0 ∧ 0 < y ∧ y + 2 * z < 0 := ⟨c.1, c.2.1, k1.mp c.2.2⟩
    obtain ⟨et, Q, hQ, q0, q1⟩ := zpeak hx hy hz (k2.mp c.1) (k3.mp c.2.1)
    rw [zen_t c, ztp_t c2, et]
    refine ⟨?_, by rw [hQ, hx.1]; omega⟩
    rw [zl_eq, zn1_v, zn1_v, zn1_v, zn1_v, hQ, hxyz.1, hx.1]
    omega
  · have c2 : ¬ (z < 0 ∧ 0 < y ∧ y + 2 * z < 0) := fun w => c ⟨w.1, w.2.1, k1.mpr w.2.2⟩
    rw [zen_f c, ztp_f c2]
    have e : (if x < x + y + z then x + y + z else x) = zn1 x (x + y + z) := rfl
    rw [e]
    refine ⟨?_, by rw [zn1_v]; omega⟩
    rw [zl_eq, zn1_v, zn1_v, zn1_v, zn1_v]
    omega
theorem zTop_e {S σ : zS} {k n : Nat} {s : Int32} {g : Int64} {e : Int} (hg : zsgE s g e) (h : zSc S σ k n) (b : ∀ i, i < n → zbdP σ k i) : ∀ i, i < n → zTop σ k s i = zeb S g (i + 1) := by
  obtain ⟨g1, g2, g3⟩ := hg
  have sc : ∀ i, i < n → (s * sa σ k i).toInt64 = g * sm S 0 i ∧ (s * sa σ (7 + k) i).toInt64 = g * sm S 1 i ∧ (s * sa σ (14 + k) i).toInt64 = g * sm S 2 i := fun i hi => by
    obtain ⟨e1, e2, e3⟩ := h i hi
    obtain ⟨b1, b2, b3⟩ := b i hi
    rw [e1, e2, e3]
    exact ⟨((g2.mul (ziv.of b1).l (by decide)).eqI (g1.mul (ziv.of b1) (by decide)) rfl).symm, ((g2.mul (ziv.of b2).l (by decide)).eqI (g1.mul (ziv.of b2) (by decide)) rfl).symm, ((g2.mul (ziv.of b3).l (by decide)).eqI (g1.mul (ziv.of b3) (by decide)) rfl).symm⟩
  have tp : ∀ i, i < n → ∀ t, zen t (g * sm S 0 i) (g * sm S 1 i) (g * sm S 2 i) = zn1 t (ztp (g * sm S 0 i) (g * sm S 1 i) (g * sm S 2 i)) ∧ (g * sm S 0 i).toInt ≤ (ztp (g * sm S 0 i) (g * sm S 1 i) (g * sm S 2 i)).toInt := fun i hi t => by
    obtain ⟨e1, e2, e3⟩ := h i hi
    obtain ⟨b1, b2, b3⟩ := b i hi
    rw [e1, e2, e3]
    exact zen_tp (g2.mul (ziv.of b1).l (by decide)) (g2.mul (ziv.of b2).l (by decide)) (g2.mul (ziv.of b3).l (by decide))
  intro i
  induction i with
  | zero =>
    intro hi
    obtain ⟨x1, x2, x3⟩ := sc 0 hi
    rw [zTop, zeb, zeb, (tp 0 hi _).1, x1, x2, x3, zl_eq, zn1_v]
    have := (tp 0 hi 0).2
    omega
  | succ i ih =>
    intro hi
    obtain ⟨x1, x2, x3⟩ := sc (i + 1) hi
    rw [zTop, zeb, (tp (i + 1) hi _).1, ← ih (by omega), x1, x2, x3]
    rfl
theorem zk_end {σ u1 u2 : zS} {x w r1 r2 : Int32} {N : Nat → Nat} {m : Nat} (h : zCP σ N m) (p : zP3_end σ x w N r1 u1) (q : zP4_end u1 x w N r2 u2) : zgo r1 r2 u2 := by
  obtain ⟨rfl, p⟩ := p
  have w01 : (w = 0 ∨ w = 1) ↔ (0 ≤ w.toInt ∧ w.toInt ≤ 1) := by
    have e0 : (0 : Int32).toInt = 0 := by decide
    have e1 : (1 : Int32).toInt = 1 := by decide
    simp only [zi_eq, e0, e1]
    omega
  rcases p with ⟨p1, rfl⟩ | ⟨k, hk, hx, p⟩
  · rcases q with ⟨_, rfl, rfl⟩ | ⟨k, hk, hx, hw, _⟩
    · exact ⟨rfl, N, m, h⟩
    · exact absurd ⟨zplk hk hx, w01.mpr hw⟩ p1
  · have hw : w = 0 ∨ w = 1 := by
      rcases p with ⟨z, _⟩ | ⟨z, _⟩
      · exact Or.inl z
      · exact Or.inr z
    rcases q with ⟨q1, _⟩ | ⟨k2, hk2, hx2, _, rfl, rfl⟩
    · exact absurd ⟨zplk hk hx, w01.mp hw⟩ q1
    · have e1 := zku hk hk2 hx hx2
      subst e1
      have hC := h.1 k hk
      have e := zSc_lk h hk zfrC.rf
      refine ⟨?_, N, m, zCP_vs h (zvs_lk _ _ _)⟩
      have hn : N k - 1 + 1 = N k := by omega
      rcases p with ⟨rfl, rfl⟩ | ⟨rfl, rfl⟩
      · rw [show zgg 0 = 1 by decide, zTop_e zsgE_p e hC.2.2.2 (N k - 1) (by omega), hn, Int64.one_mul]
      · rw [show zgg 1 = -1 by decide, zTop_e zsgE_m e hC.2.2.2 (N k - 1) (by omega), hn, Int64.neg_mul, Int64.one_mul]
