/-! the coupling of both -/
def zfrC (σ u : zS) : Prop := (∀ k, 11 ≤ k → si u k = si σ k) ∧ (∀ j, 23 ≤ j → sa u j = sa σ j) ∧ (∀ j, sm u j = sm σ j)
def zfrR (σ u : zS) : Prop := (∀ k, k < 11 → si u k = si σ k) ∧ (∀ j, j < 23 → sa u j = sa σ j) ∧ (∀ j, sl u j = sl σ j)
theorem zfrC.rf {σ : zS} : zfrC σ σ := ⟨fun _ _ => rfl, fun _ _ => rfl, fun _ => rfl⟩
theorem zfrR.rf {σ : zS} : zfrR σ σ := ⟨fun _ _ => rfl, fun _ _ => rfl, fun _ => rfl⟩
theorem zfrC.tr {σ τ u : zS} (h : zfrC σ τ) (h2 : zfrC τ u) : zfrC σ u := ⟨fun k hk => (h2.1 k hk).trans (h.1 k hk), fun j hj => (h2.2.1 j hj).trans (h.2.1 j hj), fun j => (h2.2.2 j).trans (h.2.2 j)⟩
theorem zfrR.tr {σ τ u : zS} (h : zfrR σ τ) (h2 : zfrR τ u) : zfrR σ u := ⟨fun k hk => (h2.1 k hk).trans (h.1 k hk), fun j hj => (h2.2.1 j hj).trans (h.2.1 j hj), fun j => (h2.2.2 j).trans (h.2.2 j)⟩
theorem zfrC.ui (σ : zS) {k : Nat} (v : Int32) (hk : k < 11) : zfrC σ (ui σ k v) := ⟨fun j hj => si_ui_n σ k j v (by omega), fun _ _ => rfl, fun _ => rfl⟩
theorem zfrC.ul (σ : zS) {k : Nat} (v : Int64) : zfrC σ (ul σ k v) := ⟨fun _ _ => rfl, fun _ _ => rfl, fun _ => rfl⟩
theorem zfrC.ua (σ : zS) {k : Nat} (f : Nat → Int32) (hk : k < 23) : zfrC σ (ua σ k f) := ⟨fun _ _ => rfl, fun j hj => sa_ua_n σ k j f (by omega), fun _ => rfl⟩
theorem zfrC.zc3 (σ : zS) {k : Nat} (A B C : Nat → Int32) (hk : k < 7) : zfrC σ (zc3 σ k A B C) := ⟨fun _ _ => rfl, fun j hj => sa_zc3_n σ k A B C (by omega) (by omega) (by omega), fun _ => rfl⟩
theorem zfrC.zfs (σ : zS) (L : List Nat) (w : Nat → Int64) : zfrC σ (zfs σ L w) := ⟨fun j hj => si_zfs (by omega), fun j hj => sa_zfs (by omega), fun _ => rfl⟩
theorem zfrR.ui (σ : zS) {k : Nat} (v : Int32) (hk : 11 ≤ k) : zfrR σ (ui σ k v) := ⟨fun j hj => si_ui_n σ k j v (by omega), fun _ _ => rfl, fun _ => rfl⟩
theorem zfrR.ua (σ : zS) {k : Nat} (f : Nat → Int32) (hk : 23 ≤ k) : zfrR σ (ua σ k f) := ⟨fun _ _ => rfl, fun j hj => sa_ua_n σ k j f (by omega), fun _ => rfl⟩
theorem zfrR.um (σ : zS) {k : Nat} (f : Nat → Int64) : zfrR σ (um σ k f) := ⟨fun _ _ => rfl, fun _ _ => rfl, fun _ => rfl⟩
theorem zfrR.z3 (σ : zS) (A B C : Nat → Int64) : zfrR σ (z3 σ A B C) := ⟨fun _ _ => rfl, fun _ _ => rfl, fun _ => rfl⟩
theorem zfrR.zy4 (σ : zS) (S A B C : Nat → Int32) : zfrR σ (zy4 σ S A B C) := ⟨fun _ _ => rfl, fun j hj => by
  show (if j = 23 then S else if j = 24 then A else if j = 25 then B else if j = 26 then C else σ.2.2.1 j) = _
  rw [if_neg (by omega), if_neg (by omega), if_neg (by omega), if_neg (by omega)]; rfl, fun _ => rfl⟩
theorem zfrR.zfz (σ : zS) (L : List Nat) : zfrR σ (zfz σ L) := (zfrR.ua σ _ (by omega)).tr (zfrR.ui _ _ (by omega))
theorem zfrR.of {σ u : zS} (h : zfr σ u) : zfrR σ u := ⟨fun k hk => h.1 k (by omega), fun j hj => h.2.2 j (by omega), h.2.1⟩
theorem zfrR.zlk (σ : zS) (p n : Nat) : zfrR σ (zlk σ p n) := (zfrR.ui σ _ (by omega)).tr (zfrR.z3 _ _ _ _)
theorem zfrR.zmk (σ : zS) (f h : Nat) (p q : Int64) (n : Nat) : zfrR σ (zmk σ f h p q n) := (zfrR.ui σ _ (by omega)).tr (zfrR.z3 _ _ _ _)
theorem zfrR.zrm (σ : zS) (j n : Nat) : zfrR σ (zrm σ j n) := (zfrR.ui σ _ (by omega)).tr (zfrR.z3 _ _ _ _)
theorem zfrR.zsm (σ : zS) (j n : Nat) : zfrR σ (zsm σ j n) := (zfrR.ui σ _ (by omega)).tr (zfrR.z3 _ _ _ _)
theorem zfrR.zpm (σ : zS) (k n : Nat) (v : Int32) : zfrR σ (zpm σ k n v) := (zfrR.zlk σ k n).tr (zfrR.um _ _)
theorem zfrR.zms (σ : zS) (s : Int32) (n : Nat) : zfrR σ (zms σ s n) := ((zfrR.ui σ _ (by omega)).tr (zfrR.ua _ _ (by omega))).tr (zfrR.z3 _ _ _ _)
theorem zfrR.zly (σ : zS) (p n : Nat) : zfrR σ (zly σ p n) := zfrR.zy4 σ _ _ _ _
theorem zfrC.zmx (σ : zS) (f h : Nat) (p q : Int32) (n : Nat) : zfrC σ (zmx σ f h p q n) := (zfrC.ui σ _ (by omega)).tr (zfrC.zc3 _ _ _ _ (by omega))
theorem zfrC.zsd (σ : zS) (j n : Nat) : zfrC σ (zsd σ j n) := (zfrC.ui σ _ (by omega)).tr (zfrC.zc3 _ _ _ _ (by omega))
theorem zfrC.zpu (σ : zS) (j n : Nat) (v : Int32) : zfrC σ (zpu σ j n v) := (zfrC.ui σ _ (by omega)).tr (zfrC.zc3 _ _ _ _ (by omega))
theorem zfrC.zrf (σ : zS) (j n : Nat) : zfrC σ (zrf σ j n) := (zfrC.ui σ _ (by omega)).tr (zfrC.zc3 _ _ _ _ (by omega))
theorem zfrC.zspl (σ : zS) (s : Int32) (n : Nat) : zfrC σ (zspl σ s n) := (zfrC.ui σ _ (by omega)).tr (zfrC.zc3 _ _ _ _ (by omega))
theorem zfrC.zrg (σ : zS) (p : Int32 × Int32) : zfrC σ (zrg σ p) := (zfrC.ui σ _ (by omega)).tr (zfrC.ui _ _ (by omega))
theorem zfrC_fsl (σ : zS) (x : Int32) (m : Nat) : zfrC σ (zfsl σ x m) := by
  unfold zfsl
  split
  · exact (zfrC.zspl σ _ _).tr (zfrC.zrg _ _)
  · exact (zfrC.zspl σ _ _).tr (zfrC.zrg _ _)
theorem zfrC.zKD {σ u : zS} {k n : Nat} {r : Int32} (hk : k < 6) (h : zKD σ k n r u) : zfrC σ u := by
  rcases h with ⟨_, _, rfl⟩ | ⟨_, _, rfl⟩
  · exact zfrC.rf
  · exact (zfrC.ui σ _ (by omega)).tr (zfrC.zc3 _ _ _ _ (by omega))
theorem zfrC.zCZ {σ u : zS} {k n : Nat} {r : Int32} (h : zCZ σ k n r u) : zfrC σ u := by
  rcases h with ⟨_, _, rfl⟩ | ⟨_, _, w, rfl⟩
  · exact zfrC.rf
  · exact zfrC.zfs _ _ _
theorem zfrR.zLA {σ u : zS} {p n : Nat} {r : Int32} (h : zLA σ p n r u) : zfrR σ u := by
  rcases h with ⟨_, _, rfl⟩ | ⟨_, _, rfl⟩
  · exact zfrR.rf
  · exact zfrR.zly _ _ _
theorem zfrR.zRZ {S u : zS} {n : Nat} {r : Int32} (h : zRZ S n r u) : zfrR S u := by
  rcases h with ⟨_, _, L, rfl⟩ | ⟨_, _, rfl⟩
  · exact zfrR.zfz _ _
  · exact zfrR.zfz _ _
theorem zRv.fr {σ u : zS} {N : Nat → Nat} (h : zRv σ N) (f : zfrC σ u) : zRv u N := fun p hp => by
  have := h p hp
  rw [f.2.1 23 (by omega), f.2.1 24 (by omega), f.2.1 25 (by omega), f.2.1 26 (by omega)]
  exact this
/-- both hold the same: N the sizes, m the number of points -/
def zCP (σ : zS) (N : Nat → Nat) (m : Nat) : Prop := zCv σ N ∧ zRv σ N ∧ (∀ p, p < 6 → ∀ i, i < N p → sa σ p i = sa σ 24 (16 * p + i) ∧ sa σ (7 + p) i = sa σ 25 (16 * p + i) ∧ sa σ (14 + p) i = sa σ 26 (16 * p + i)) ∧ (m ≤ 17 ∧ si σ 7 = nI m ∧ si σ 11 = nI m ∧ ∀ i, i < m → sa σ 21 i = sa σ 27 i ∧ -1000 ≤ (sa σ 21 i).toInt ∧ (sa σ 21 i).toInt ≤ 1000)
