/-! numbers of both widths, with their bounds -/
def ziv (x : Int32) (z : Int) (B : Nat) : Prop := x.toInt = z ∧ zbd z B
def zlv (x : Int64) (z : Int) (B : Nat) : Prop := x.toInt = z ∧ zbd z B
theorem ziv.add {x y : Int32} {z w : Int} {B C : Nat} (h : ziv x z B) (h2 : ziv y w C) (hb : B + C < 2147483648) : ziv (x + y) (z + w) (B + C) := by
  refine ⟨?_, h.2.add h2.2⟩
  rw [zIa (X := B) (Y := C) (by rw [h.1]; exact h.2) (by rw [h2.1]; exact h2.2) hb, h.1, h2.1]
theorem ziv.sub {x y : Int32} {z w : Int} {B C : Nat} (h : ziv x z B) (h2 : ziv y w C) (hb : B + C < 2147483648) : ziv (x - y) (z - w) (B + C) := by
  refine ⟨?_, h.2.sub h2.2⟩
  rw [zIs (X := B) (Y := C) (by rw [h.1]; exact h.2) (by rw [h2.1]; exact h2.2) hb, h.1, h2.1]
theorem ziv.mul {x y : Int32} {z w : Int} {B C : Nat} (h : ziv x z B) (h2 : ziv y w C) (hb : B * C < 2147483648) : ziv (x * y) (z * w) (B * C) := by
  refine ⟨?_, h.2.mul h2.2⟩
  rw [zIm (X := B) (Y := C) (by rw [h.1]; exact h.2) (by rw [h2.1]; exact h2.2) hb, h.1, h2.1]
theorem zlv.add {x y : Int64} {z w : Int} {B C : Nat} (h : zlv x z B) (h2 : zlv y w C) (hb : B + C < 9223372036854775808) : zlv (x + y) (z + w) (B + C) := by
  refine ⟨?_, h.2.add h2.2⟩
  rw [zLa (X := B) (Y := C) (by rw [h.1]; exact h.2) (by rw [h2.1]; exact h2.2) hb, h.1, h2.1]
theorem zlv.sub {x y : Int64} {z w : Int} {B C : Nat} (h : zlv x z B) (h2 : zlv y w C) (hb : B + C < 9223372036854775808) : zlv (x - y) (z - w) (B + C) := by
  refine ⟨?_, h.2.sub h2.2⟩
  rw [zLs (X := B) (Y := C) (by rw [h.1]; exact h.2) (by rw [h2.1]; exact h2.2) hb, h.1, h2.1]
theorem zlv.mul {x y : Int64} {z w : Int} {B C : Nat} (h : zlv x z B) (h2 : zlv y w C) (hb : B * C < 9223372036854775808) : zlv (x * y) (z * w) (B * C) := by
  refine ⟨?_, h.2.mul h2.2⟩
  rw [zLm (X := B) (Y := C) (by rw [h.1]; exact h.2) (by rw [h2.1]; exact h2.2) hb, h.1, h2.1]
theorem ziv.neg {x : Int32} {z : Int} {B : Nat} (h : ziv x z B) (hb : B < 2147483648) : ziv (-x) (-z) B := by
  have h0 : ziv (0 : Int32) 0 0 := ⟨by decide, by unfold zbd; decide⟩
  have := h0.sub h (by omega)
  rw [Int32.zero_sub, Int.zero_sub] at this
  exact ⟨this.1, h.2.neg⟩
theorem zlv.neg {x : Int64} {z : Int} {B : Nat} (h : zlv x z B) (hb : B < 9223372036854775808) : zlv (-x) (-z) B := by
  have h0 : zlv (0 : Int64) 0 0 := ⟨by decide, by unfold zbd; decide⟩
  have := h0.sub h (by omega)
  rw [Int64.zero_sub, Int.zero_sub] at this
  exact ⟨this.1, h.2.neg⟩
theorem ziv.le {x : Int32} {z : Int} {B C : Nat} (h : ziv x z B) (hb : B ≤ C) : ziv x z C := ⟨h.1, h.2.le hb⟩
theorem zlv.le {x : Int64} {z : Int} {B C : Nat} (h : zlv x z B) (hb : B ≤ C) : zlv x z C := ⟨h.1, h.2.le hb⟩
theorem ziv.to {x : Int32} {z w : Int} {B : Nat} (h : ziv x z B) (e : z = w) : ziv x w B := e ▸ h
theorem zlv.to {x : Int64} {z w : Int} {B : Nat} (h : zlv x z B) (e : z = w) : zlv x w B := e ▸ h
theorem ziv.l {x : Int32} {z : Int} {B : Nat} (h : ziv x z B) : zlv x.toInt64 z B := ⟨by rw [Int32.toInt_toInt64]; exact h.1, h.2⟩
theorem ziv.of {x : Int32} (h : zcf x) : ziv x x.toInt 100000 := ⟨rfl, h.b⟩
theorem ziv.n {n B : Nat} (h : n ≤ B) (hB : B < 2147483648) : ziv (nI n) n B := ⟨nI_toInt (by omega), by unfold zbd; omega⟩
theorem ziv.eq {x y : Int32} {z w : Int} {B C : Nat} (h : ziv x z B) (h2 : ziv y w C) (e : z = w) : x = y := Int32.toInt_inj.mp (by rw [h.1, h2.1, e])
theorem zlv.eq {x y : Int64} {z w : Int} {B C : Nat} (h : zlv x z B) (h2 : zlv y w C) (e : z = w) : x = y := Int64.toInt_inj.mp (by rw [h.1, h2.1, e])
theorem zlv.eqI {x : Int64} {y : Int32} {z w : Int} {B C : Nat} (h : zlv x z B) (h2 : ziv y w C) (e : z = w) : x = y.toInt64 := h.eq h2.l e
theorem zcfl_i (x : Int32) : zcfl x.toInt64 ↔ zcf x := by unfold zcfl zcf; rw [Int32.toInt_toInt64]
/-! what calls show of the state -/
def zvs (σ u : zS) : Prop := (∀ k, k < 6 ∨ k = 7 ∨ k = 11 → si u k = si σ k) ∧ (∀ j, j < 28 → ¬ j = 6 → ¬ j = 13 → ¬ j = 20 → ¬ j = 22 → sa u j = sa σ j)
theorem zvs.rf {σ : zS} : zvs σ σ := ⟨fun _ _ => rfl, fun _ _ _ _ _ _ => rfl⟩
theorem zvs.tr {σ τ u : zS} (h : zvs σ τ) (h2 : zvs τ u) : zvs σ u := ⟨fun k hk => (h2.1 k hk).trans (h.1 k hk), fun j a b c d e => (h2.2 j a b c d e).trans (h.2 j a b c d e)⟩
theorem zvs_ui (σ : zS) {k : Nat} (v : Int32) (hk : k = 6 ∨ k = 8 ∨ k = 9 ∨ k = 10 ∨ 12 ≤ k) : zvs σ (ui σ k v) := ⟨fun j hj => si_ui_n σ k j v (by omega), fun _ _ _ _ _ _ => rfl⟩
theorem zvs_ua (σ : zS) {k : Nat} (f : Nat → Int32) (hk : k = 22 ∨ 28 ≤ k) : zvs σ (ua σ k f) := ⟨fun _ _ => rfl, fun j _ _ _ _ _ => sa_ua_n σ k j f (by omega)⟩
theorem zvs_um (σ : zS) {k : Nat} (f : Nat → Int64) : zvs σ (um σ k f) := ⟨fun _ _ => rfl, fun _ _ _ _ _ _ => rfl⟩
theorem zvs_z3 (σ : zS) (A B C : Nat → Int64) : zvs σ (z3 σ A B C) := ⟨fun _ _ => rfl, fun _ _ _ _ _ _ => rfl⟩
theorem zvs_c6 (σ : zS) (A B C : Nat → Int32) : zvs σ (zc3 σ 6 A B C) := ⟨fun _ _ => rfl, fun j _ _ _ _ _ => sa_zc3_n σ 6 A B C (by omega) (by omega) (by omega)⟩
theorem zvs_fs (σ : zS) (L : List Nat) (w : Nat → Int64) : zvs σ (zfs σ L w) := ⟨fun j hj => si_zfs (by omega), fun j _ _ _ _ _ => sa_zfs (by omega)⟩
theorem zvs_lk (σ : zS) (p n : Nat) : zvs σ (zlk σ p n) := (zvs_ui σ _ (by omega)).tr (zvs_z3 _ _ _ _)
theorem zvs_mk (σ : zS) (f h : Nat) (p q : Int64) (n : Nat) : zvs σ (zmk σ f h p q n) := (zvs_ui σ _ (by omega)).tr (zvs_z3 _ _ _ _)
theorem zvs_rm (σ : zS) (j n : Nat) : zvs σ (zrm σ j n) := (zvs_ui σ _ (by omega)).tr (zvs_z3 _ _ _ _)
theorem zvs_sm (σ : zS) (j n : Nat) : zvs σ (zsm σ j n) := (zvs_ui σ _ (by omega)).tr (zvs_z3 _ _ _ _)
theorem zvs_pm (σ : zS) (k n : Nat) (v : Int32) : zvs σ (zpm σ k n v) := (zvs_lk σ k n).tr (zvs_um _ _)
theorem zvs_ms (σ : zS) (s : Int32) (n : Nat) : zvs σ (zms σ s n) := ((zvs_ui σ _ (by omega)).tr (zvs_ua _ _ (by omega))).tr (zvs_z3 _ _ _ _)
theorem zvs_fz (σ : zS) (L : List Nat) : zvs σ (zfz σ L) := (zvs_ua σ _ (by omega)).tr (zvs_ui _ _ (by omega))
theorem zvs_fr {σ u : zS} (h : zfr σ u) : zvs σ u := ⟨fun k hk => h.1 k (by omega), fun j _ _ _ _ _ => h.2.2 j (by omega)⟩
theorem zvs_mx (σ : zS) (f h : Nat) (p q : Int32) (n : Nat) : zvs σ (zmx σ f h p q n) := (zvs_ui σ _ (by omega)).tr (zvs_c6 _ _ _ _)
theorem zvs_sd (σ : zS) (j n : Nat) : zvs σ (zsd σ j n) := (zvs_ui σ _ (by omega)).tr (zvs_c6 _ _ _ _)
theorem zvs_pu (σ : zS) (j n : Nat) (v : Int32) : zvs σ (zpu σ j n v) := (zvs_ui σ _ (by omega)).tr (zvs_c6 _ _ _ _)
theorem zvs_rf (σ : zS) (j n : Nat) : zvs σ (zrf σ j n) := (zvs_ui σ _ (by omega)).tr (zvs_c6 _ _ _ _)
theorem zvs_spl (σ : zS) (s : Int32) (n : Nat) : zvs σ (zspl σ s n) := (zvs_ui σ _ (by omega)).tr (zvs_c6 _ _ _ _)
theorem zvs_rg (σ : zS) (p : Int32 × Int32) : zvs σ (zrg σ p) := (zvs_ui σ _ (by omega)).tr (zvs_ui _ _ (by omega))
theorem zvs_fsl (σ : zS) (x : Int32) (m : Nat) : zvs σ (zfsl σ x m) := by
  unfold zfsl
  split
  · exact (zvs_spl σ _ _).tr (zvs_rg _ _)
  · exact (zvs_spl σ _ _).tr (zvs_rg _ _)
theorem zvs_CZ {σ u : zS} {k n : Nat} {r : Int32} (h : zCZ σ k n r u) : zvs σ u := by
  rcases h with ⟨_, _, rfl⟩ | ⟨_, _, w, rfl⟩
  · exact zvs.rf
  · exact zvs_fs _ _ _
theorem zvs_RZ {S u : zS} {n : Nat} {r : Int32} (h : zRZ S n r u) : zvs S u := by
  rcases h with ⟨_, _, L, rfl⟩ | ⟨_, _, rfl⟩
  · exact zvs_fz _ _
  · exact zvs_fz _ _
theorem zCP_vs {σ u : zS} {N : Nat → Nat} {m : Nat} (h : zCP σ N m) (f : zvs σ u) : zCP u N m := by
  obtain ⟨h1, h2, h3, h4, h5, h6, h7⟩ := h
  have e : ∀ p, p < 6 → sa u p = sa σ p ∧ sa u (7 + p) = sa σ (7 + p) ∧ sa u (14 + p) = sa σ (14 + p) := fun p hp => ⟨f.2 p (by omega) (by omega) (by omega) (by omega) (by omega), f.2 (7 + p) (by omega) (by omega) (by omega) (by omega) (by omega), f.2 (14 + p) (by omega) (by omega) (by omega) (by omega) (by omega)⟩
  have e23 := f.2 23 (by omega) (by omega) (by omega) (by omega) (by omega)
  have e24 := f.2 24 (by omega) (by omega) (by omega) (by omega) (by omega)
  have e25 := f.2 25 (by omega) (by omega) (by omega) (by omega) (by omega)
  have e26 := f.2 26 (by omega) (by omega) (by omega) (by omega) (by omega)
  refine ⟨fun p hp => ?_, fun p hp => ?_, fun p hp i hi => ?_, h4, ?_, ?_, fun i hi => ?_⟩
  · obtain ⟨a, b, c, d⟩ := h1 p hp
    refine ⟨a, b, ?_, fun i hi => ?_⟩
    · rw [f.1 p (by omega)]; exact c
    · have := d i hi
      unfold zbdP at this ⊢
      rw [(e p hp).1, (e p hp).2.1, (e p hp).2.2]; exact this
  · rw [e23, e24, e25, e26]; exact h2 p hp
  · rw [e24, e25, e26, (e p hp).1, (e p hp).2.1, (e p hp).2.2]; exact h3 p hp i hi
  · rw [f.1 7 (by omega)]; exact h5
  · rw [f.1 11 (by omega)]; exact h6
  · rw [f.2 21 (by omega) (by omega) (by omega) (by omega) (by omega), f.2 27 (by omega) (by omega) (by omega) (by omega) (by omega)]; exact h7 i hi
/-- all but curve k stands -/
def zvx (k : Nat) (σ u : zS) : Prop := (∀ j, j < 6 ∨ j = 7 ∨ j = 11 → ¬ j = k → si u j = si σ j) ∧ (∀ p, p < 6 → ¬ p = k → sa u p = sa σ p ∧ sa u (7 + p) = sa σ (7 + p) ∧ sa u (14 + p) = sa σ (14 + p)) ∧ sa u 21 = sa σ 21 ∧ sa u 27 = sa σ 27 ∧ (∀ p, p < 6 → ¬ p = k → sa u 23 p = sa σ 23 p ∧ ∀ i, i < 16 → sa u 24 (16 * p + i) = sa σ 24 (16 * p + i) ∧ sa u 25 (16 * p + i) = sa σ 25 (16 * p + i) ∧ sa u 26 (16 * p + i) = sa σ 26 (16 * p + i))
theorem zvx.tr {k : Nat} {σ τ u : zS} (h : zvx k σ τ) (h2 : zvx k τ u) : zvx k σ u := by
  obtain ⟨a1, a2, a3, a4, a5⟩ := h
  obtain ⟨b1, b2, b3, b4, b5⟩ := h2
  refine ⟨fun j hj hn => (b1 j hj hn).trans (a1 j hj hn), fun p hp hn => ?_, b3.trans a3, b4.trans a4, fun p hp hn => ⟨(b5 p hp hn).1.trans (a5 p hp hn).1, fun i hi => ?_⟩⟩
  · obtain ⟨x1, x2, x3⟩ := a2 p hp hn
    obtain ⟨y1, y2, y3⟩ := b2 p hp hn
    exact ⟨y1.trans x1, y2.trans x2, y3.trans x3⟩
  · obtain ⟨x1, x2, x3⟩ := (a5 p hp hn).2 i hi
    obtain ⟨y1, y2, y3⟩ := (b5 p hp hn).2 i hi
    exact ⟨y1.trans x1, y2.trans x2, y3.trans x3⟩
theorem zvx_vs {σ u : zS} (k : Nat) (f : zvs σ u) : zvx k σ u := by
  refine ⟨fun j hj _ => f.1 j hj, fun p hp _ => ⟨f.2 p (by omega) (by omega) (by omega) (by omega) (by omega), f.2 (7 + p) (by omega) (by omega) (by omega) (by omega) (by omega), f.2 (14 + p) (by omega) (by omega) (by omega) (by omega) (by omega)⟩, f.2 21 (by omega) (by omega) (by omega) (by omega) (by omega), f.2 27 (by omega) (by omega) (by omega) (by omega) (by omega), fun p hp _ => ⟨by rw [f.2 23 (by omega) (by omega) (by omega) (by omega) (by omega)], fun i hi => ?_⟩⟩
  rw [f.2 24 (by omega) (by omega) (by omega) (by omega) (by omega), f.2 25 (by omega) (by omega) (by omega) (by omega) (by omega), f.2 26 (by omega) (by omega) (by omega) (by omega) (by omega)]
  exact ⟨rfl, rfl, rfl⟩
theorem zvx_c3 (σ : zS) {k : Nat} (hk : k < 6) (A B C : Nat → Int32) : zvx k σ (zc3 σ k A B C) :=
  ⟨fun _ _ _ => rfl, fun p hp hn => ⟨sa_zc3_n σ k A B C (by omega) (by omega) (by omega), sa_zc3_n σ k A B C (by omega) (by omega) (by omega), sa_zc3_n σ k A B C (by omega) (by omega) (by omega)⟩, sa_zc3_n σ k A B C (by omega) (by omega) (by omega), sa_zc3_n σ k A B C (by omega) (by omega) (by omega), fun p hp hn => by
    rw [sa_zc3_n σ k A B C (j := 23) (by omega) (by omega) (by omega), sa_zc3_n σ k A B C (j := 24) (by omega) (by omega) (by omega), sa_zc3_n σ k A B C (j := 25) (by omega) (by omega) (by omega), sa_zc3_n σ k A B C (j := 26) (by omega) (by omega) (by omega)]
    exact ⟨rfl, fun _ _ => ⟨rfl, rfl, rfl⟩⟩⟩
theorem zvx_ui (σ : zS) {k : Nat} (v : Int32) : zvx k σ (ui σ k v) := ⟨fun j _ hn => si_ui_n σ k j v hn, fun _ _ _ => ⟨rfl, rfl, rfl⟩, rfl, rfl, fun _ _ _ => ⟨rfl, fun _ _ => ⟨rfl, rfl, rfl⟩⟩⟩
theorem sa_y4_n (σ : zS) (S A B C : Nat → Int32) {j : Nat} (h : j < 23 ∨ 26 < j) : sa (zy4 σ S A B C) j = sa σ j := by
  show (if j = 23 then S else if j = 24 then A else if j = 25 then B else if j = 26 then C else σ.2.2.1 j) = _
  rw [if_neg (by omega), if_neg (by omega), if_neg (by omega), if_neg (by omega)]; rfl
theorem zvx_y4 (σ : zS) {k : Nat} (S A B C : Nat → Int32) (hS : ∀ p, ¬ p = k → S p = sa σ 23 p) (hA : ∀ j, j < 16 * k ∨ 16 * k + 16 ≤ j → A j = sa σ 24 j) (hB : ∀ j, j < 16 * k ∨ 16 * k + 16 ≤ j → B j = sa σ 25 j) (hC : ∀ j, j < 16 * k ∨ 16 * k + 16 ≤ j → C j = sa σ 26 j) : zvx k σ (zy4 σ S A B C) :=
  ⟨fun _ _ _ => rfl, fun p hp hn => ⟨sa_y4_n σ S A B C (by omega), sa_y4_n σ S A B C (by omega), sa_y4_n σ S A B C (by omega)⟩, sa_y4_n σ S A B C (by omega), sa_y4_n σ S A B C (by omega), fun p hp hn => ⟨hS p hn, fun i hi => ⟨hA _ (by omega), hB _ (by omega), hC _ (by omega)⟩⟩⟩
def zNk (N : Nat → Nat) (k n : Nat) : Nat → Nat := fun p => if p = k then n else N p
theorem zCP_set {σ u : zS} {N : Nat → Nat} {m k n : Nat} (h : zCP σ N m) (hk : k < 6) (hn1 : 1 ≤ n) (hn : n ≤ 16) (f : zvx k σ u) (hsk : si u k = nI n) (h23 : sa u 23 k = nI n) (hv : ∀ i, i < n → zbdP u k i ∧ sa u k i = sa u 24 (16 * k + i) ∧ sa u (7 + k) i = sa u 25 (16 * k + i) ∧ sa u (14 + k) i = sa u 26 (16 * k + i)) : zCP u (zNk N k n) m := by
  obtain ⟨h1, h2, h3, h4, h5, h6, h7⟩ := h
  obtain ⟨f1, f2, f3, f4, f5⟩ := f
  have hNk : zNk N k n k = n := if_pos rfl
  have hNp : ∀ p, ¬ p = k → zNk N k n p = N p := fun p hp => if_neg hp
  refine ⟨fun p hp => ?_, fun p hp => ?_, fun p hp i hi => ?_, h4, ?_, ?_, fun i hi => ?_⟩
  · by_cases q : p = k
    · subst q
      rw [hNk]
      exact ⟨hn1, hn, hsk, fun i hi => (hv i hi).1⟩
    · rw [hNp p q]
      obtain ⟨a, b, c, d⟩ := h1 p hp
      refine ⟨a, b, ?_, fun i hi => ?_⟩
      · rw [f1 p (by omega) q]; exact c
      · have := d i hi
        unfold zbdP at this ⊢
        rw [(f2 p hp q).1, (f2 p hp q).2.1, (f2 p hp q).2.2]; exact this
  · by_cases q : p = k
    · subst q
      rw [hNk]
      refine ⟨hn1, hn, h23, fun i hi => ?_⟩
      obtain ⟨a, b, c, d⟩ := hv i hi
      rw [← b, ← c, ← d]
      exact a
    · rw [hNp p q]
      obtain ⟨a, b, c, d⟩ := h2 p hp
      refine ⟨a, b, ?_, fun i hi => ?_⟩
      · rw [(f5 p hp q).1]; exact c
      · obtain ⟨x1, x2, x3⟩ := (f5 p hp q).2 i (by omega)
        rw [x1, x2, x3]; exact d i hi
  · by_cases q : p = k
    · subst q
      rw [hNk] at hi
      exact (hv i hi).2
    · rw [hNp p q] at hi
      obtain ⟨x1, x2, x3⟩ := (f5 p hp q).2 i (by have := (h1 p hp).2.1; omega)
      rw [x1, x2, x3, (f2 p hp q).1, (f2 p hp q).2.1, (f2 p hp q).2.2]
      exact h3 p hp i hi
  · rw [f1 7 (by omega) (by omega)]; exact h5
  · rw [f1 11 (by omega) (by omega)]; exact h6
  · rw [f3, f4]; exact h7 i hi
