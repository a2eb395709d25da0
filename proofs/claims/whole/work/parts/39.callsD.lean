/-! slopes and best -/
def zal (i : Nat) : Int := if i % 2 = 0 then 1 else -1
theorem zal_0 : zal 0 = 1 := rfl
theorem zal_s (i : Nat) : zal (i + 1) = - zal i := by
  unfold zal
  rcases Nat.mod_two_eq_zero_or_one i with h | h
  · rw [if_pos h, if_neg (by omega)]
  · rw [if_pos (show (i + 1) % 2 = 0 by omega), if_neg (show ¬ i % 2 = 0 by omega)]; decide
theorem zal_or (i : Nat) : zal i = 1 ∨ zal i = -1 := by unfold zal; split <;> simp
def zsqI (Y : Nat → Int) (S : Int) : Nat → Int
  | 0 => S
  | i + 1 => 2 * (Y (i + 1) - Y i) - zsqI Y S i
theorem zsqI_S (Y : Nat → Int) (S : Int) : ∀ i, zsqI Y S i = zsqI Y 0 i + zal i * S
  | 0 => by rw [zsqI, zsqI, zal_0]; omega
  | i + 1 => by
    rw [zsqI, zsqI, zsqI_S Y S i, zal_s, Int.neg_mul]
    omega
def zYs (σ : zS) (i : Nat) : Int := (sa σ 21 i).toInt
theorem zsq_v {σ : zS} {s : Int32} {S : Int} {n : Nat} (hn : n ≤ 16) (p : ∀ j, j ≤ n → ziv (sa σ 21 j) (zYs σ j) 1000) (hs : ziv s S 1000) : ∀ i, i ≤ n → ziv (zsq σ s i) (zsqI (zYs σ) S i) (1000 + 4000 * i)
  | 0, _ => hs
  | i + 1, hi => by
    rw [zsq, zsqI]
    exact ((ziv2.mul ((p (i + 1) hi).sub (p i (by omega)) (by decide)) (by decide)).sub (zsq_v hn p hs i (by omega)) (by omega)).le (by omega)
theorem zcf_of {x : Int32} {z : Int} {B : Nat} (h : ziv x z B) (hB : B ≤ 100000) : zcf x := by
  unfold zcf
  have := h.2.lo
  rw [h.1]
  omega
theorem zcv {σ : zS} {s : Int32} {S : Int} {n : Nat} (hn : n ≤ 16) (p : ∀ j, j ≤ n → ziv (sa σ 21 j) (zYs σ j) 1000) (hs : ziv s S 1000) {i : Nat} (hi : i < n) : ziv (sa (zspl σ s n) 6 i) (zYs σ i) 100000 ∧ ziv (sa (zspl σ s n) (7 + 6) i) (zsqI (zYs σ) S i) 100000 ∧ ziv (sa (zspl σ s n) (14 + 6) i) (zYs σ (i + 1) - zYs σ i - zsqI (zYs σ) S i) 100000 := by
  have v := zsq_v hn p hs i (by omega)
  rw [zspl_0 hi, zspl_1 hi, zspl_2 hi]
  exact ⟨(p i (by omega)).le (by decide), v.le (by omega), (((p (i + 1) hi).sub (p i (by omega)) (by decide)).sub v (by omega)).le (by omega)⟩
theorem zbd_spl {σ : zS} {s : Int32} {S : Int} {n : Nat} (hn : n ≤ 16) (p : ∀ j, j ≤ n → ziv (sa σ 21 j) (zYs σ j) 1000) (hs : ziv s S 1000) : ∀ i, i < n → zbdP (zspl σ s n) 6 i := fun i hi => by
  obtain ⟨a, b, c⟩ := zcv hn p hs hi
  exact ⟨zcf_of a (by decide), zcf_of b (by decide), zcf_of c (by decide)⟩
theorem zvav {σ : zS} {s : Int32} {S : Int} {n : Nat} (hn : n ≤ 16) (p : ∀ j, j ≤ n → ziv (sa σ 21 j) (zYs σ j) 1000) (hs : ziv s S 1000) {i : Nat} (hi : i < n) : ziv (zva (zspl σ s n) 6 i) (zYs σ (i + 1)) 300000 ∧ ziv (zsl (zspl σ s n) 6 i) (zsqI (zYs σ) S (i + 1)) 300000 := by
  obtain ⟨a, b, c⟩ := zcv hn p hs hi
  unfold zva zsl
  refine ⟨((a.add b (by decide)).add c (by decide)).to (by omega), (b.add (ziv2.mul c (by decide)) (by decide)).to ?_⟩
  rw [zsqI]
  omega
theorem zri_spl {σ : zS} {s s' : Int32} {S e : Int} {n : Nat} (hn : n ≤ 16) (p : ∀ j, j ≤ n → ziv (sa σ 21 j) (zYs σ j) 1000) (hs : ziv s S 1000) (he : ziv s' e 1) {i : Nat} (hi : i < n) : zriP (zspl σ s n) 6 s' i ↔ 0 ≤ e * zsqI (zYs σ) S i ∧ 0 ≤ e * zsqI (zYs σ) S (i + 1) := by
  obtain ⟨a, b, c⟩ := zcv hn p hs hi
  obtain ⟨v, w⟩ := zvav hn p hs hi
  unfold zriP
  rw [ziv_lt (he.mul b (by decide)) ziv0, ziv_lt (he.mul w (by decide)) ziv0]
  constructor
  · rintro ⟨x, y, _⟩
    omega
  · rintro ⟨x, y⟩
    refine ⟨by omega, by omega, fun h0 => ?_⟩
    have v := (zvav hn p hs (show i - 1 < n by omega)).1
    rw [show i - 1 + 1 = i by omega] at v
    rw [ziv_lt (he.mul (a.sub v (by decide)) (by decide)) ziv0, Int.sub_self, Int.mul_zero]
    omega
theorem zbu_spl {σ : zS} {s s' : Int32} {S e : Int} {n : Nat} (hn : n ≤ 16) (p : ∀ j, j ≤ n → ziv (sa σ 21 j) (zYs σ j) 1000) (hs : ziv s S 1000) (he : ziv s' e 1) {i : Nat} (hi : i < n) : zbuP (zspl σ s n) 6 s' i ↔ 0 ≤ e * (zYs σ (i + 1) - zYs σ i - zsqI (zYs σ) S i) := by
  obtain ⟨a, b, c⟩ := zcv hn p hs hi
  unfold zbuP
  rw [ziv_lt (he.mul c (by decide)) ziv0]
  constructor
  · rintro ⟨x, _⟩
    omega
  · intro x
    refine ⟨by omega, fun h0 => ?_⟩
    obtain ⟨v, w⟩ := zvav hn p hs (show i - 1 < n by omega)
    rw [show i - 1 + 1 = i by omega] at v w
    refine ⟨?_, ?_⟩
    · unfold zjn
      rw [if_pos (v.eq a rfl), if_pos (w.eq b rfl)]
      split <;> decide
    · rw [ziv_lt (he.mul (b.sub w (by decide)) (by decide)) ziv0, Int.sub_self, Int.mul_zero]
      omega
/-! the bounds -/
theorem zm1000 : ziv (-1000) (-1000) 1000000 := ⟨by decide, by unfold zbd; decide⟩
theorem zp1000 : ziv 1000 1000 1000000 := ⟨by decide, by unfold zbd; decide⟩
theorem zreq_v {p : Int32 × Int32} {x t : Int32} {L H X T : Int} (p1 : ziv p.1 L 1000000) (p2 : ziv p.2 H 1000000) (hx : ziv x X 1000000) (ht : ziv t T 1) (hT : T = 1 ∨ T = -1) : ∃ L' H', ziv (zreq p x t).1 L' 1000000 ∧ ziv (zreq p x t).2 H' 1000000 ∧ L ≤ L' ∧ H' ≤ H ∧ ∀ S, (L' ≤ S ∧ S ≤ H') ↔ (L ≤ S ∧ S ≤ H) ∧ 0 ≤ X + T * S := by
  unfold zreq
  rcases hT with rfl | rfl
  · rw [if_pos ((ziv_lt ziv0 ht).mpr (by decide))]
    by_cases h : p.1 < -x
    · rw [if_pos h]
      rw [ziv_lt p1 (hx.neg (by decide))] at h
      exact ⟨-X, H, hx.neg (by decide), p2, by omega, by omega, fun S => by omega⟩
    · rw [if_neg h]
      rw [ziv_lt p1 (hx.neg (by decide))] at h
      exact ⟨L, H, p1, p2, by omega, by omega, fun S => by omega⟩
  · rw [if_neg (fun w => absurd ((ziv_lt ziv0 ht).mp w) (by decide))]
    by_cases h : x < p.2
    · rw [if_pos h]
      rw [ziv_lt hx p2] at h
      exact ⟨L, X, p1, hx, by omega, by omega, fun S => by omega⟩
    · rw [if_neg h]
      rw [ziv_lt hx p2] at h
      exact ⟨L, H, p1, p2, by omega, by omega, fun S => by omega⟩
def zRj (Y : Nat → Int) (x : Int32) (e S : Int) (j : Nat) : Prop := if x = 3 ∨ x = 4 then 0 ≤ e * (Y (j + 1) - Y j - zsqI Y 0 j) + e * zal (j + 1) * S else 0 ≤ e * zsqI Y 0 j + e * zal j * S ∧ 0 ≤ e * zsqI Y 0 (j + 1) + e * zal (j + 1) * S
theorem ztrn_v {s : Int32} {e : Int} (he : ziv s e 1) (i : Nat) : ziv (ztrn s i) (e * zal i) 1 := by
  unfold ztrn zal
  split
  · exact he.to (by omega)
  · exact (he.neg (by decide)).to (by omega)
theorem zea {e : Int} (he : e = 1 ∨ e = -1) (i : Nat) : e * zal i = 1 ∨ e * zal i = -1 := by
  rcases he with rfl | rfl <;> rcases zal_or i with h | h <;> rw [h] <;> decide
theorem zrgs_v {σ : zS} {x s : Int32} {e : Int} {n : Nat} (hn : n ≤ 16) (p : ∀ j, j ≤ n → ziv (sa σ 21 j) (zYs σ j) 1000) (he : ziv s e 1) (hE : e = 1 ∨ e = -1) : ∀ i, i ≤ n → ∃ L H, ziv (zrgs (zspl σ 0 n) x s i).1 L 1000000 ∧ ziv (zrgs (zspl σ 0 n) x s i).2 H 1000000 ∧ -1000 ≤ L ∧ H ≤ 1000 ∧ ∀ S, (L ≤ S ∧ S ≤ H) ↔ (-1000 ≤ S ∧ S ≤ 1000) ∧ ∀ j, j < i → zRj (zYs σ) x e S j
  | 0, _ => ⟨-1000, 1000, zm1000, zp1000, by omega, by omega, fun S => ⟨fun h => ⟨h, fun j hj => absurd hj (Nat.not_lt_zero j)⟩, fun h => h.1⟩⟩
  | i + 1, hi => by
    obtain ⟨L, H, l1, h1, lb, hb, hS⟩ := zrgs_v (x := x) hn p he hE i (by omega)
    have z0 : ziv (0 : Int32) 0 1000 := ziv0.le (by decide)
    obtain ⟨a, b, c⟩ := zcv hn p z0 (show i < n by omega)
    obtain ⟨v, w⟩ := zvav hn p z0 (show i < n by omega)
    have t1 := ztrn_v he i
    have t2 := ztrn_v he (i + 1)
    rw [← ztrn_s] at t2
    have split_ : ∀ S, ((∀ j, j < i + 1 → zRj (zYs σ) x e S j) ↔ (∀ j, j < i → zRj (zYs σ) x e S j) ∧ zRj (zYs σ) x e S i) := fun S => ⟨fun h => ⟨fun j hj => h j (by omega), h i (by omega)⟩, fun h j hj => by
      rcases Nat.lt_or_ge j i with q | q
      · exact h.1 j q
      · rw [show j = i by omega]; exact h.2⟩
    rw [zrgs]
    by_cases hx : x = 3 ∨ x = 4
    · rw [if_pos hx]
      obtain ⟨L', H', l2, h2, lb2, hb2, hS2⟩ := zreq_v l1 h1 ((he.mul c (by decide)).le (by decide)) t2 (zea hE (i + 1))
      refine ⟨L', H', l2, h2, by omega, by omega, fun S => ?_⟩
      rw [hS2, hS, split_]
      have er : zRj (zYs σ) x e S i ↔ 0 ≤ e * (zYs σ (i + 1) - zYs σ i - zsqI (zYs σ) 0 i) + e * zal (i + 1) * S := by unfold zRj; rw [if_pos hx]
      rw [er, and_assoc]
    · rw [if_neg hx]
      obtain ⟨L', H', l2, h2, lb2, hb2, hS2⟩ := zreq_v l1 h1 ((he.mul b (by decide)).le (by decide)) t1 (zea hE i)
      obtain ⟨L3, H3, l3, h3, lb3, hb3, hS3⟩ := zreq_v l2 h2 ((he.mul w (by decide)).le (by decide)) t2 (zea hE (i + 1))
      refine ⟨L3, H3, l3, h3, by omega, by omega, fun S => ?_⟩
      rw [hS3, hS2, hS, split_]
      have er : zRj (zYs σ) x e S i ↔ 0 ≤ e * zsqI (zYs σ) 0 i + e * zal i * S ∧ 0 ≤ e * zsqI (zYs σ) 0 (i + 1) + e * zal (i + 1) * S := by unfold zRj; rw [if_neg hx]
      rw [er, and_assoc, and_assoc]
theorem zpts {σ : zS} {N : Nat → Nat} {m : Nat} (h : zCP σ N m) (h2 : 2 ≤ m) : ∀ j, j ≤ m - 1 → ziv (sa σ 21 j) (zYs σ j) 1000 := fun j hj => by
  obtain ⟨_, a, b⟩ := h.2.2.2.2.2.2 j (by omega)
  exact ⟨rfl, by unfold zbd zYs; omega⟩
theorem zsvv {t : Nat} (h : t < 2001) : ziv (zsv t) ((t : Int) - 1000) 1000 := ⟨zsv_t (by omega), by unfold zbd; omega⟩
theorem zPs_v {σ u : zS} {N : Nat → Nat} {m : Nat} {x : Int32} (h : zCP σ N m) (f : zfrC σ u) (h2 : 2 ≤ m) (hx : 1 ≤ x.toInt ∧ x.toInt ≤ 4) {s : Int32} {e : Int} (es : s = if x = 2 ∨ x = 4 then -1 else 1) (he : ziv s e 1) {t : Nat} (ht : t < 2001) : zPs u x (m - 1) t ↔ ∀ j, j < m - 1 → zRj (zYs σ) x e ((t : Int) - 1000) j := by
  have hm := h.2.2.2.1
  have p := zpts h h2
  have hs := zsvv ht
  have hb := zbd_spl (by omega) p hs
  have hx0 : ¬ x = 0 := fun w => by rw [w] at hx; exact absurd hx (by decide)
  have key : ∀ j, j < m - 1 → (zhs (zms u (zsv t) (m - 1)) x j ↔ zRj (zYs σ) x e ((t : Int) - 1000) j) := fun j hj => by
    have q := zhs_u hx (zSc_ms (s := zsv t) h f h2) hb hj
    rw [← es] at q
    unfold zRj
    rcases q with ⟨q1, q2⟩ | ⟨q1, q2⟩
    · rw [if_pos q1, ← q2, zbu_spl (by omega) p hs he hj, zsqI_S, zal_s, Int.mul_neg, Int.neg_mul, Int.mul_assoc, ← Int.sub_sub, Int.mul_sub]
      omega
    · rw [if_neg q1, ← q2, zri_spl (by omega) p hs he hj, zsqI_S (i := j), zsqI_S (i := j + 1), Int.mul_add, Int.mul_add, Int.mul_assoc, Int.mul_assoc]
  unfold zPs
  constructor
  · rintro (w | w)
    · exact absurd w hx0
    · exact fun j hj => (key j hj).mp (w j hj)
  · exact fun w => Or.inr fun j hj => (key j hj).mpr (w j hj)
theorem zfsl_v {σ u : zS} {N : Nat → Nat} {m : Nat} {x : Int32} (h : zCP σ N m) (f : zfrC σ u) (h2 : 2 ≤ m) (hx : 0 ≤ x.toInt ∧ x.toInt ≤ 4) : ∃ L H, ziv (si (zfsl σ x m) 9) L 1000000 ∧ ziv (si (zfsl σ x m) 10) H 1000000 ∧ -1000 ≤ L ∧ H ≤ 1000 ∧ ∀ t, t < 2001 → (zPs u x (m - 1) t ↔ L ≤ (t : Int) - 1000 ∧ (t : Int) - 1000 ≤ H) := by
  have hm := h.2.2.2.1
  by_cases h0 : x = 0
  · unfold zfsl
    rw [if_pos h0]
    refine ⟨-1000, 1000, zm1000, zp1000, by omega, by omega, fun t ht => ⟨fun _ => by omega, fun _ => Or.inl h0⟩⟩
  · have hx1 : 1 ≤ x.toInt ∧ x.toInt ≤ 4 := by
      rw [zi0] at h0
      omega
    unfold zfsl
    rw [if_neg h0]
    have es : ∃ e : Int, ziv (if x = 2 ∨ x = 4 then -1 else 1 : Int32) e 1 ∧ (e = 1 ∨ e = -1) := by
      split
      · exact ⟨-1, zsgE_m.1, Or.inr rfl⟩
      · exact ⟨1, zsgE_p.1, Or.inl rfl⟩
    obtain ⟨e, he, hE⟩ := es
    obtain ⟨L, H, l1, h1, lb, hb, hS⟩ := zrgs_v (x := x) (by omega) (zpts h h2) he hE (m - 1) (by omega)
    refine ⟨L, H, l1, h1, lb, hb, fun t ht => ?_⟩
    rw [zPs_v h f h2 hx1 rfl he ht, hS]
    exact ⟨fun w => ⟨by omega, w⟩, fun w => w.2⟩
/-! the scan -/
theorem zscan {P : Nat → Prop} {L H : Int} (hL : -1000 ≤ L) (hH : H ≤ 1000) (hP : ∀ t, t < 2001 → (P t ↔ L ≤ (t : Int) - 1000 ∧ (t : Int) - 1000 ≤ H)) : ∀ t, t ≤ 2001 → (zcC P t : Int) = max 0 (min ((t : Int) - 1001) H - L + 1) ∧ (zfst P t).toInt = (if L ≤ min ((t : Int) - 1001) H then L else 2000) ∧ (zlst P t).toInt = (if L ≤ min ((t : Int) - 1001) H then min ((t : Int) - 1001) H else 2000)
  | 0, _ => by
    have c0 : zcC P 0 = 0 := Nat.le_zero.mp (zcC_le P 0)
    rw [c0, zfst, zlst, if_neg (by omega), if_neg (by omega)]
    exact ⟨by omega, by decide, by decide⟩
  | t + 1, ht => by
    obtain ⟨a, b, c⟩ := zscan hL hH hP t (by omega)
    have hv := zsv_t (t := t) (by omega)
    have hp := hP t (by omega)
    rw [zfst, zlst]
    by_cases q : P t
    · have q2 := hp.mp q
      rw [zcC_t q, zif_t q, hv]
      refine ⟨by omega, ?_, by rw [if_pos (by omega)]; omega⟩
      by_cases z : zcC P t = 0
      · rw [zif_t ⟨q, z⟩, hv, if_pos (by omega)]
        omega
      · rw [zif_f (fun w => z w.2), b, if_pos (by omega), if_pos (by omega)]
    · have q2 : ¬ (L ≤ (t : Int) - 1000 ∧ (t : Int) - 1000 ≤ H) := fun w => q (hp.mpr w)
      rw [zcC_f q, zif_f q, zif_f (fun w => q w.1), a, b, c]
      refine ⟨by omega, ?_, ?_⟩
      · by_cases z : L ≤ min ((t : Int) - 1001) H
        · rw [if_pos z, if_pos (by omega)]
        · rw [if_neg z, if_neg (by omega)]
      · by_cases z : L ≤ min ((t : Int) - 1001) H
        · rw [if_pos z, if_pos (by omega)]
          omega
        · rw [if_neg z, if_neg (by omega)]
theorem zszz_v {u : zS} {L H : Int} (l1 : ziv (si u 9) L 1000000) (h1 : ziv (si u 10) H 1000000) : (zszz u).toInt = max 0 (H - L + 1) := by
  have d := (h1.sub l1 (by decide)).add ziv1 (by decide)
  unfold zszz
  split
  · rename_i z
    rw [ziv_lt ziv0 d] at z
    rw [d.1]
    omega
  · rename_i z
    rw [ziv_lt ziv0 d] at z
    rw [show (0 : Int32).toInt = 0 from rfl]
    omega
theorem zf_slopes {σ u : zS} {x w r : Int32} {m : Nat} (a : zP3_slopes σ x w m r u) : zfrC σ u := by
  rcases a with ⟨_, _, rfl⟩ | ⟨_, rfl, _⟩
  · exact zfrC.rf
  · exact zfrC_fsl _ _ _
theorem zk_slopes {σ u1 u2 : zS} {x w r1 r2 : Int32} {N : Nat → Nat} {m : Nat} (h : zCP σ N m) (a : zP3_slopes σ x w m r1 u1) (b : zP4_slopes u1 x w m r2 u2) : zgo r1 r2 u2 := by
  rcases a with ⟨a1, rfl, rfl⟩ | ⟨a1, rfl, rfl⟩
  · rcases b with ⟨_, rfl, rfl⟩ | ⟨b1, _⟩
    · exact ⟨rfl, N, m, h⟩
    · exact absurd b1 a1
  · rcases b with ⟨b1, _⟩ | ⟨_, fr, rfl⟩
    · exact absurd a1 b1
    · refine ⟨?_, N, m, zCP_vs h ((zvs_fsl _ _ _).tr (zvs_fr fr))⟩
      obtain ⟨hx, hw, h2⟩ := a1
      obtain ⟨L, H, l1, h1, lb, hb, hP⟩ := zfsl_v h (zfrC_fsl σ x m) h2 hx
      obtain ⟨s1, s2, s3⟩ := zscan lb hb hP 2001 (by omega)
      have cle := zcC_le (zPs (zfsl σ x m) x (m - 1)) 2001
      have sz := zszz_v l1 h1
      have e0 : (0 : Int32).toInt = 0 := by decide
      have e1 : (1 : Int32).toInt = 1 := by decide
      have e2 : (2 : Int32).toInt = 2 := by decide
      have e20 : (2000 : Int32).toInt = 2000 := by decide
      have hw3 : w = 0 ∨ w = 1 ∨ w = 2 := by
        simp only [zi_eq, e0, e1, e2]
        omega
      unfold zslv
      rw [zi_eq]
      rcases hw3 with rfl | rfl | rfl
      · rw [if_neg (by decide), if_pos rfl, if_pos rfl, s2]
        by_cases z : zszz (zfsl σ x m) = 0
        · rw [if_pos z, e20]
          rw [zi0, sz] at z
          rw [if_neg (by omega)]
        · rw [if_neg z, l1.1]
          rw [zi0, sz] at z
          rw [if_pos (by omega)]
      · rw [if_neg (show ¬ (1 : Int32) = 2 by decide), if_neg (show ¬ (1 : Int32) = 0 by decide), if_neg (show ¬ (1 : Int32) = 0 by decide), if_pos (show (1 : Int32) = 1 from rfl), s3]
        by_cases z : zszz (zfsl σ x m) = 0
        · rw [if_pos z, e20]
          rw [zi0, sz] at z
          rw [if_neg (by omega)]
        · rw [if_neg z, h1.1]
          rw [zi0, sz] at z
          rw [if_pos (by omega)]
          omega
      · rw [if_pos rfl, if_neg (by decide), if_neg (by decide), sz, nI_toInt (by omega), s1]
        omega
/-! the least bent -/
def zTs (Y : Nat → Int) : Nat → Int
  | 0 => 0
  | i + 1 => zTs Y i + zal i * (Y (i + 1) - Y i - zsqI Y 0 i)
def zKs (Y : Nat → Int) : Nat → Int
  | 0 => 0
  | i + 1 => zKs Y i + (Y (i + 1) - Y i - zsqI Y 0 i) * (Y (i + 1) - Y i - zsqI Y 0 i)
def zFq (n : Nat) (T K S : Int) : Int := n * (S * S) - 2 * (T * S) + K
theorem zFq_s {Y : Nat → Int} {i : Nat} {S : Int} : zFq i (zTs Y i) (zKs Y i) S + (Y (i + 1) - Y i - zsqI Y S i) * (Y (i + 1) - Y i - zsqI Y S i) = zFq (i + 1) (zTs Y (i + 1)) (zKs Y (i + 1)) S := by
  unfold zFq
  rw [zTs, zKs, zsqI_S Y S i]
  generalize Y (i + 1) - Y i = d
  generalize zsqI Y 0 i = b
  generalize zTs Y i = T
  generalize zKs Y i = K
  rw [show ((i + 1 : Nat) : Int) = (i : Int) + 1 by omega]
  generalize (i : Int) = k
  rcases zal_or i with h | h <;> rw [h] <;> grind
theorem zbo_v {S' σ : zS} {s : Int32} {S : Int} {n : Nat} (hn : n ≤ 16) (p : ∀ j, j ≤ n → ziv (sa σ 21 j) (zYs σ j) 1000) (hs : ziv s S 1000) (e : zSc S' (zspl σ s n) 6 n) : ∀ i, i ≤ n → zlv (zbo S' i) (zFq i (zTs (zYs σ) i) (zKs (zYs σ) i) S) (i * 10000000000)
  | 0, _ => ⟨by
      show (0 : Int) = zFq 0 0 0 S
      unfold zFq
      omega, by
      show zbd (zFq 0 0 0 S) _
      unfold zbd zFq
      omega⟩
  | i + 1, hi => by
    obtain ⟨a, b, c⟩ := zcv hn p hs (show i < n by omega)
    have ih := zbo_v hn p hs e i (by omega)
    rw [zbo, (e i (by omega)).2.2]
    exact ((ih.add (c.l.mul c.l (by decide)) (by omega)).to zFq_s).le (by omega)
theorem zsum_v {σ : zS} {n : Nat} (hn : n ≤ 16) (p : ∀ j, j ≤ n → ziv (sa σ 21 j) (zYs σ j) 1000) {u : zS} (hu : sa u (14 + 6) = sa (zspl σ 0 n) (14 + 6)) : ∀ i, i ≤ n → ziv (zsum u i) (zTs (zYs σ) i) (i * 100000)
  | 0, _ => ziv0
  | i + 1, hi => by
    have z0 : ziv (0 : Int32) 0 1000 := ziv0.le (by decide)
    obtain ⟨a, b, c⟩ := zcv hn p z0 (show i < n by omega)
    rw [zsum, zTs, hu]
    have t := (ztrn_v ziv1 i).to (show 1 * zal i = zal i by omega)
    exact ((zsum_v hn p hu i (by omega)).add (t.mul c (by decide)) (by omega)).le (by omega)
theorem zFq_d (n : Nat) (T K S c : Int) : zFq n T K S - zFq n T K c = (S - c) * (n * (S + c) - 2 * T) := by
  unfold zFq
  generalize (n : Int) = k
  grind
theorem zbq_v {P : Nat → Prop} {B : Nat → Int64} {L H T K lb : Int} {n : Nat} (hL : -1000 ≤ L) (hH : H ≤ 1000) (hP : ∀ t, t < 2001 → (P t ↔ L ≤ (t : Int) - 1000 ∧ (t : Int) - 1000 ≤ H)) (hB : ∀ t, t < 2001 → (B t).toInt = zFq n T K ((t : Int) - 1000)) (g1 : 2 * T ≤ n * (2 * lb + 1)) (g2 : n * (2 * lb - 1) < 2 * T) : ∀ t : Nat, t ≤ 2001 → (min ((t : Int) - 1001) H < L → (zbq P B t).1 = 2000) ∧ (L ≤ min ((t : Int) - 1001) H → (zbq P B t).1.toInt = max L (min lb (min ((t : Int) - 1001) H)) ∧ (zbq P B t).2.toInt = zFq n T K (max L (min lb (min ((t : Int) - 1001) H))))
  | 0, _ => ⟨fun _ => rfl, fun w => by omega⟩
  | t + 1, ht => by
    obtain ⟨a, b⟩ := zbq_v hL hH hP hB g1 g2 t (by omega)
    have hv := zsv_t (t := t) (by omega)
    have hp := hP t (by omega)
    have hbt := hB t (by omega)
    rw [zbq]
    by_cases q : P t
    · have q2 := hp.mp q
      refine ⟨fun w => by omega, fun _ => ?_⟩
      have eM : min (((t + 1 : Nat) : Int) - 1001) H = (t : Int) - 1000 := by omega
      rw [eM]
      by_cases z : L = (t : Int) - 1000
      · rw [zif_t ⟨q, Or.inl (a (by omega))⟩, show max L (min lb ((t : Int) - 1000)) = (t : Int) - 1000 by omega]
        exact ⟨hv, hbt⟩
      · obtain ⟨b1, b2⟩ := b (by omega)
        by_cases y : (t : Int) - 1000 ≤ lb
        · rw [show max L (min lb (min ((t : Int) - 1001) H)) = (t : Int) - 1001 by omega] at b1 b2
          have hlt : B t < (zbq P B t).2 := by
            rw [zl_lt, hbt, b2]
            have d := zFq_d n T K ((t : Int) - 1000) ((t : Int) - 1001)
            rw [show (t : Int) - 1000 - ((t : Int) - 1001) = 1 by omega, Int.one_mul] at d
            have hm : (n : Int) * ((t : Int) - 1000 + ((t : Int) - 1001)) ≤ n * (2 * lb - 1) := Int.mul_le_mul_of_nonneg_left (by omega) (by omega)
            omega
          rw [zif_t ⟨q, Or.inr hlt⟩, show max L (min lb ((t : Int) - 1000)) = (t : Int) - 1000 by omega]
          exact ⟨hv, hbt⟩
        · rw [show max L (min lb (min ((t : Int) - 1001) H)) = max L lb by omega] at b1 b2
          have hn : ¬ (P t ∧ ((zbq P B t).1 = 2000 ∨ B t < (zbq P B t).2)) := by
            rintro ⟨_, w | w⟩
            · rw [zi_eq, b1, show (2000 : Int32).toInt = 2000 by decide] at w
              omega
            · rw [zl_lt, hbt, b2] at w
              generalize hc : max L lb = c at *
              have d := zFq_d n T K ((t : Int) - 1000) c
              have hm : (n : Int) * (2 * lb + 1) ≤ n * ((t : Int) - 1000 + c) := Int.mul_le_mul_of_nonneg_left (by omega) (by omega)
              have hp := Int.mul_nonneg (show 0 ≤ (t : Int) - 1000 - c by omega) (show 0 ≤ (n : Int) * ((t : Int) - 1000 + c) - 2 * T by omega)
              omega
          rw [zif_f hn, show max L (min lb ((t : Int) - 1000)) = max L lb by omega]
          exact ⟨b1, b2⟩
    · have q2 : ¬ (L ≤ (t : Int) - 1000 ∧ (t : Int) - 1000 ≤ H) := fun w => q (hp.mpr w)
      rw [zif_f (fun w => q w.1)]
      refine ⟨fun w => a (by omega), fun w => ?_⟩
      rw [show min (((t + 1 : Nat) : Int) - 1001) H = min ((t : Int) - 1001) H by omega]
      exact b (by omega)
theorem zf_best {σ u : zS} {x r : Int32} {m : Nat} (a : zP3_best σ x m r u) : zfrC σ u := by
  rcases a with ⟨_, _, rfl⟩ | ⟨_, rfl, _⟩
  · exact zfrC.rf
  · exact zfrC_fsl _ _ _
theorem zfsl_20 (σ : zS) (x : Int32) (m : Nat) : sa (zfsl σ x m) (14 + 6) = sa (zspl σ 0 (m - 1)) (14 + 6) := by
  unfold zfsl
  split <;> rfl
theorem zk_best {σ u1 u2 : zS} {x r1 r2 : Int32} {N : Nat → Nat} {m : Nat} (h : zCP σ N m) (a : zP3_best σ x m r1 u1) (b : zP4_best u1 x m r2 u2) : zgo r1 r2 u2 := by
  have hm := h.2.2.2.1
  rcases a with ⟨a1, rfl, rfl⟩ | ⟨a1, rfl, rfl⟩
  · rcases b with ⟨_, rfl, rfl⟩ | ⟨b1, _⟩
    · exact ⟨rfl, N, m, h⟩
    · exact absurd b1 a1
  · rcases b with ⟨b1, _⟩ | ⟨_, fr, rfl⟩
    · exact absurd a1 b1
    · refine ⟨?_, N, m, zCP_vs h ((zvs_fsl _ _ _).tr (zvs_fr fr))⟩
      obtain ⟨hx, h2⟩ := a1
      have p := zpts h h2
      obtain ⟨L, H, l1, h1, lb, hb, hP⟩ := zfsl_v h (zfrC_fsl σ x m) h2 hx
      have sz := zszz_v l1 h1
      have sv := zsum_v (by omega) p (zfsl_20 σ x m) (m - 1) (by omega)
      have nv : ziv (nI (m - 1)) ((m - 1 : Nat) : Int) 16 := ziv.n (by omega) (by decide)
      have sv2 : ziv (zsum (zfsl σ x m) (m - 1)) (zTs (zYs σ) (m - 1)) 1600000 := sv.le (by omega)
      have xv := nv.sub (ziv2.mul sv2 (by decide)) (by decide)
      have yv := ziv2.mul nv (by decide)
      have lv := (zfI_pos xv yv (by omega) (by decide) (by decide)).neg (by decide)
      have lv2 : ziv (zlb (zfsl σ x m) (m - 1)) _ _ := lv
      obtain ⟨v1, v2⟩ := zqv (X := ((m - 1 : Nat) : Int) - 2 * zTs (zYs σ) (m - 1)) (D := 2 * ((m - 1 : Nat) : Int)) (by omega)
      generalize hq : (((m - 1 : Nat) : Int) - 2 * zTs (zYs σ) (m - 1)) / (2 * ((m - 1 : Nat) : Int)) = q at *
      have hB : ∀ t, t < 2001 → (zBs (zfsl σ x m) (m - 1) t).toInt = zFq (m - 1) (zTs (zYs σ) (m - 1)) (zKs (zYs σ) (m - 1)) ((t : Int) - 1000) := fun t ht =>
        (zbo_v (by omega) p (zsvv ht) (zSc_ms (s := zsv t) h (zfrC_fsl σ x m) h2) (m - 1) (by omega)).1
      have g1 : 2 * zTs (zYs σ) (m - 1) ≤ ((m - 1 : Nat) : Int) * (2 * -q + 1) := by
        have e : ((m - 1 : Nat) : Int) * (2 * -q + 1) = ((m - 1 : Nat) : Int) - q * (2 * ((m - 1 : Nat) : Int)) := by
          generalize ((m - 1 : Nat) : Int) = k
          grind
        rw [e]
        omega
      have g2 : ((m - 1 : Nat) : Int) * (2 * -q - 1) < 2 * zTs (zYs σ) (m - 1) := by
        have e : ((m - 1 : Nat) : Int) * (2 * -q - 1) = - ((m - 1 : Nat) : Int) - q * (2 * ((m - 1 : Nat) : Int)) := by
          generalize ((m - 1 : Nat) : Int) = k
          grind
        rw [e]
        omega
      obtain ⟨s1, s2⟩ := zbq_v lb hb hP hB g1 g2 2001 (by omega)
      unfold zbsv
      by_cases z : zszz (zfsl σ x m) = 0
      · rw [if_pos z]
        rw [zi0, sz] at z
        exact (s1 (by omega)).symm
      · rw [if_neg z]
        rw [zi0, sz] at z
        rw [zi_eq, (s2 (by omega)).1]
        by_cases y : zlb (zfsl σ x m) (m - 1) < si (zfsl σ x m) 10
        · simp only [if_pos y]
          rw [ziv_lt lv2 h1] at y
          by_cases w : si (zfsl σ x m) 9 < zlb (zfsl σ x m) (m - 1)
          · rw [if_pos w, lv2.1]
            rw [ziv_lt l1 lv2] at w
            omega
          · rw [if_neg w, l1.1]
            rw [ziv_lt l1 lv2] at w
            omega
        · simp only [if_neg y]
          rw [ziv_lt lv2 h1] at y
          by_cases w : si (zfsl σ x m) 9 < si (zfsl σ x m) 10
          · rw [if_pos w, h1.1]
            rw [ziv_lt l1 h1] at w
            omega
          · rw [if_neg w, l1.1]
            rw [ziv_lt l1 h1] at w
            omega
