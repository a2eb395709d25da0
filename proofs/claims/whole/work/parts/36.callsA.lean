/-! calls, first lot -/
def zgo {α : Type} (r1 r2 : α) (u : zS) : Prop := r1 = r2 ∧ ∃ N m, zCP u N m
theorem zku {x : Int32} {k j : Nat} (hk : k < 6) (hj : j < 6) (e : x = nI k) (f : x = nI j) : k = j := (nI_eq (by omega) (by omega)).mp (e.symm.trans f)
theorem zkn {x : Int32} {k j : Nat} (hk : k < 2000000000) (hj : j < 2000000000) (e : x = nI k) (f : x = nI j) : k = j := (nI_eq (by omega) (by omega)).mp (e.symm.trans f)
theorem zplk {x : Int32} {k : Nat} (hk : k < 6) (e : x = nI k) : zpl x := e ▸ zpl_k hk
theorem zCP_af {σ u : zS} {N : Nat → Nat} {m : Nat} (h : zCP σ N m) (f : zfrC σ u) : zRv u N ∧ si u 11 = nI m := ⟨h.2.1.fr f, by rw [f.1 11 (by omega)]; exact h.2.2.2.2.2.1⟩
theorem sa_y4_23 (σ : zS) (S A B C : Nat → Int32) : sa (zy4 σ S A B C) 23 = S := rfl
theorem sa_y4_24 (σ : zS) (S A B C : Nat → Int32) : sa (zy4 σ S A B C) 24 = A := rfl
theorem sa_y4_25 (σ : zS) (S A B C : Nat → Int32) : sa (zy4 σ S A B C) 25 = B := rfl
theorem sa_y4_26 (σ : zS) (S A B C : Nat → Int32) : sa (zy4 σ S A B C) 26 = C := rfl
theorem zupd_s (f : Nat → Int32) (k : Nat) (v : Int32) : upd f k v k = v := if_pos rfl
theorem zupd_n (f : Nat → Int32) {k j : Nat} (v : Int32) (h : ¬ j = k) : upd f k v j = f j := if_neg h
theorem zcf0 : zcf 0 := by unfold zcf; decide
theorem zf_pieces {σ u : zS} {x y r : Int32} (a : zP3_pieces σ x y r u) : zfrC σ u := by
  rcases a with ⟨_, _, rfl⟩ | ⟨_, _, _, rfl⟩ | ⟨k, n, hk, _, _, _, _, _, rfl⟩
  · exact zfrC.rf
  · exact zfrC.rf
  · exact (zfrC.ui σ _ (by omega)).tr (zfrC.zc3 _ _ _ _ (by omega))
theorem zk_pieces {σ u1 u2 : zS} {x y r1 r2 : Int32} {N : Nat → Nat} {m : Nat} (h : zCP σ N m) (a : zP3_pieces σ x y r1 u1) (b : zP4_pieces u1 x y r2 u2) : zgo r1 r2 u2 := by
  rcases a with ⟨q, rfl, rfl⟩ | ⟨q, q2, rfl, rfl⟩ | ⟨k, n, hk, hx, hn1, hn, hy, rfl, rfl⟩
  · rcases b with ⟨_, rfl, rfl⟩ | ⟨w, _⟩ | ⟨k, n, hk, hx, _⟩
    · exact ⟨rfl, N, m, h⟩
    · exact absurd w q
    · exact absurd (zplk hk hx) q
  · rcases b with ⟨w, _⟩ | ⟨_, _, rfl, rfl⟩ | ⟨k, n, hk, hx, hn1, hn, hy, _⟩
    · exact absurd q w
    · exact ⟨rfl, N, m, h⟩
    · refine absurd ?_ q2
      rw [hy, nI_toInt (by omega)]; omega
  · rcases b with ⟨w, _⟩ | ⟨_, w, _⟩ | ⟨k2, n2, hk2, hx2, hn12, hn22, hy2, rfl, rfl⟩
    · exact absurd (zplk hk hx) w
    · refine absurd ?_ w
      rw [hy, nI_toInt (by omega)]; omega
    · have e1 := zku hk hk2 hx hx2
      subst e1
      have e2 := zkn (by omega) (by omega) hy hy2
      subst e2
      refine ⟨rfl, zNk N k n, m, zCP_set h hk hn1 hn (((zvx_ui σ _).tr (zvx_c3 _ hk _ _ _)).tr (zvx_y4 _ _ _ _ _ (fun p hp => zupd_n _ _ hp) (fun j hj => zfl_out hj) (fun j hj => zfl_out hj) (fun j hj => zfl_out hj))) (si_ui_s σ k _) (zupd_s _ _ _) (fun i hi => ?_)⟩
      unfold zbdP
      rw [sa_y4_n _ _ _ _ _ (j := k) (by omega), sa_y4_n _ _ _ _ _ (j := 7 + k) (by omega), sa_y4_n _ _ _ _ _ (j := 14 + k) (by omega), sa_y4_24, sa_y4_25, sa_y4_26, zfl_in (by omega), zfl_in (by omega), zfl_in (by omega), sa_zc3_a, sa_zc3_b, sa_zc3_c, zfill_in _ _ hi, zfill_in _ _ hi, zfill_in _ _ hi]
      exact ⟨⟨zcf0, zcf0, zcf0⟩, rfl, rfl, rfl⟩
theorem zf_piece {σ u : zS} {x y a b c r : Int32} {N : Nat → Nat} (hp : zP3_piece σ x y a b c N r u) : zfrC σ u := by
  rcases hp with ⟨_, _, rfl⟩ | ⟨_, _, _, rfl⟩ | ⟨_, k, i, hk, _, _, _, _, rfl⟩
  · exact zfrC.rf
  · exact zfrC.rf
  · exact zfrC.zc3 _ _ _ _ (by omega)
theorem zk_piece {σ u1 u2 : zS} {x y a b c r1 r2 : Int32} {N : Nat → Nat} {m : Nat} (h : zCP σ N m) (p : zP3_piece σ x y a b c N r1 u1) (q : zP4_piece u1 x y a b c N r2 u2) : zgo r1 r2 u2 := by
  rcases p with ⟨p1, rfl, rfl⟩ | ⟨p1, p2, rfl, rfl⟩ | ⟨p1, k, i, hk, hx, hi, hy, rfl, rfl⟩
  · rcases q with ⟨_, rfl, rfl⟩ | ⟨w, _⟩ | ⟨_, k, i, hk, hx, hi, hy, _⟩
    · exact ⟨rfl, N, m, h⟩
    · exact absurd w p1
    · exact absurd ⟨k, i, hk, hx, hi, hy⟩ p1
  · rcases q with ⟨w, _⟩ | ⟨_, _, rfl, rfl⟩ | ⟨w, _⟩
    · exact absurd p1 w
    · exact ⟨rfl, N, m, h⟩
    · exact absurd w p2
  · rcases q with ⟨w, _⟩ | ⟨_, w, _⟩ | ⟨_, k2, i2, hk2, hx2, hi2, hy2, rfl, rfl⟩
    · exact absurd ⟨k, i, hk, hx, hi, hy⟩ w
    · exact absurd p1 w
    · have e1 := zku hk hk2 hx hx2
      subst e1
      have hC := h.1 k hk
      have e2 := zkn (by omega) (by omega) hy hy2
      subst e2
      have hR := h.2.1 k hk
      have f23 : sa (zc3 σ k (upd (sa σ k) i a) (upd (sa σ (7 + k)) i b) (upd (sa σ (14 + k)) i c)) 23 = sa σ 23 := sa_zc3_n σ k _ _ _ (by omega) (by omega) (by omega)
      have f24 : sa (zc3 σ k (upd (sa σ k) i a) (upd (sa σ (7 + k)) i b) (upd (sa σ (14 + k)) i c)) 24 = sa σ 24 := sa_zc3_n σ k _ _ _ (by omega) (by omega) (by omega)
      have f25 : sa (zc3 σ k (upd (sa σ k) i a) (upd (sa σ (7 + k)) i b) (upd (sa σ (14 + k)) i c)) 25 = sa σ 25 := sa_zc3_n σ k _ _ _ (by omega) (by omega) (by omega)
      have f26 : sa (zc3 σ k (upd (sa σ k) i a) (upd (sa σ (7 + k)) i b) (upd (sa σ (14 + k)) i c)) 26 = sa σ 26 := sa_zc3_n σ k _ _ _ (by omega) (by omega) (by omega)
      refine ⟨rfl, zNk N k (N k), m, zCP_set h hk hC.1 hC.2.1 ((zvx_c3 _ hk _ _ _).tr (zvx_y4 _ _ _ _ _ (fun p hp => rfl) (fun j hj => zupd_n _ _ (by omega)) (fun j hj => zupd_n _ _ (by omega)) (fun j hj => zupd_n _ _ (by omega)))) hC.2.2.1 (by rw [sa_y4_23, f23]; exact hR.2.2.1) (fun j hj => ?_)⟩
      unfold zbdP
      rw [sa_y4_n _ _ _ _ _ (j := k) (by omega), sa_y4_n _ _ _ _ _ (j := 7 + k) (by omega), sa_y4_n _ _ _ _ _ (j := 14 + k) (by omega), sa_y4_24, sa_y4_25, sa_y4_26, f24, f25, f26, sa_zc3_a, sa_zc3_b, sa_zc3_c]
      by_cases z : j = i
      · subst z
        rw [zupd_s, zupd_s, zupd_s, zupd_s, zupd_s, zupd_s]
        exact ⟨p1, rfl, rfl, rfl⟩
      · rw [zupd_n _ _ z, zupd_n _ _ z, zupd_n _ _ z, zupd_n _ _ (show ¬ 16 * k + j = 16 * k + i by omega), zupd_n _ _ (show ¬ 16 * k + j = 16 * k + i by omega), zupd_n _ _ (show ¬ 16 * k + j = 16 * k + i by omega)]
        exact ⟨hC.2.2.2 j hj, h.2.2.1 k hk j hj⟩
theorem zk_of {σ u1 u2 : zS} {x y w r1 r2 : Int32} {N : Nat → Nat} {m : Nat} (h : zCP σ N m) (p : zP3_of σ x y w N r1 u1) (q : zP4_of u1 x y w N r2 u2) : zgo r1 r2 u2 := by
  obtain ⟨rfl, p⟩ := p
  obtain ⟨rfl, q⟩ := q
  refine ⟨?_, N, m, h⟩
  have w012 : ∀ {r : Int32} {a b c : Int32}, ((w = 0 ∧ r = a) ∨ (w = 1 ∧ r = b) ∨ (w = 2 ∧ r = c)) → 0 ≤ w.toInt ∧ w.toInt ≤ 2 := by
    intro r a b c z
    rcases z with ⟨rfl, _⟩ | ⟨rfl, _⟩ | ⟨rfl, _⟩ <;> decide
  rcases p with ⟨p1, rfl⟩ | ⟨k, i, hk, hx, hi, hy, p⟩
  · rcases q with ⟨_, rfl⟩ | ⟨k, i, hk, hx, hi, hy, q⟩
    · rfl
    · exact absurd ⟨⟨k, i, hk, hx, hi, hy⟩, w012 q⟩ p1
  · rcases q with ⟨q1, rfl⟩ | ⟨k2, i2, hk2, hx2, hi2, hy2, q⟩
    · exact absurd ⟨⟨k, i, hk, hx, hi, hy⟩, w012 p⟩ q1
    · have e1 := zku hk hk2 hx hx2
      subst e1
      have hC := h.1 k hk
      have e2 := zkn (by omega) (by omega) hy hy2
      subst e2
      obtain ⟨e1, e2, e3⟩ := h.2.2.1 k hk i hi
      rcases p with ⟨rfl, rfl⟩ | ⟨rfl, rfl⟩ | ⟨rfl, rfl⟩ <;> rcases q with ⟨w, rfl⟩ | ⟨w, rfl⟩ | ⟨w, rfl⟩ <;> first | assumption | exact absurd w (by decide)
theorem zi64 {x y : Int32} : x.toInt64 = y.toInt64 ↔ x = y := ⟨fun h => Int32.toInt_inj.mp (by rw [← Int32.toInt_toInt64, h, Int32.toInt_toInt64]), fun h => h ▸ rfl⟩
/-- the scratch row holds the curve -/
def zSc (S σ : zS) (k n : Nat) : Prop := ∀ i, i < n → sm S 0 i = (sa σ k i).toInt64 ∧ sm S 1 i = (sa σ (7 + k) i).toInt64 ∧ sm S 2 i = (sa σ (14 + k) i).toInt64
theorem zSc_lk {σ u : zS} {N : Nat → Nat} {m k : Nat} (h : zCP σ N m) (hk : k < 6) (f : zfrC σ u) : zSc (zlk u k (N k)) σ k (N k) := by
  intro i hi
  obtain ⟨e1, e2, e3⟩ := h.2.2.1 k hk i hi
  rw [zlk_0 hi, zlk_1 hi, zlk_2 hi, f.2.1 24 (by omega), f.2.1 25 (by omega), f.2.1 26 (by omega), e1, e2, e3]
  exact ⟨rfl, rfl, rfl⟩
theorem ziv2 : ziv 2 2 2 := ⟨by decide, by unfold zbd; decide⟩
theorem zlv2 : zlv 2 2 2 := ⟨by decide, by unfold zbd; decide⟩
theorem zSc_va {S σ : zS} {k n i : Nat} (h : zSc S σ k n) (b : ∀ i, i < n → zbdP σ k i) (hi : i < n) : sm S 0 i + sm S 1 i + sm S 2 i = (zva σ k i).toInt64 ∧ ziv (zva σ k i) ((sa σ k i).toInt + (sa σ (7 + k) i).toInt + (sa σ (14 + k) i).toInt) 300000 := by
  obtain ⟨e1, e2, e3⟩ := h i hi
  obtain ⟨b1, b2, b3⟩ := b i hi
  have v := ((ziv.of b1).add (ziv.of b2) (by decide)).add (ziv.of b3) (by decide)
  rw [e1, e2, e3]
  exact ⟨((((ziv.of b1).l.add (ziv.of b2).l (by decide)).add (ziv.of b3).l (by decide))).eqI v rfl, v⟩
theorem zSc_sl {S σ : zS} {k n i : Nat} (h : zSc S σ k n) (b : ∀ i, i < n → zbdP σ k i) (hi : i < n) : sm S 1 i + 2 * sm S 2 i = (zsl σ k i).toInt64 ∧ ziv (zsl σ k i) ((sa σ (7 + k) i).toInt + 2 * (sa σ (14 + k) i).toInt) 300000 := by
  obtain ⟨e1, e2, e3⟩ := h i hi
  obtain ⟨b1, b2, b3⟩ := b i hi
  have v := (ziv.of b2).add (ziv2.mul (ziv.of b3) (by decide)) (by decide)
  rw [e2, e3]
  exact ⟨((ziv.of b2).l.add (zlv2.mul (ziv.of b3).l (by decide)) (by decide)).eqI v rfl, v⟩
theorem zSc_jn {S σ : zS} {k n i : Nat} (h : zSc S σ k n) (b : ∀ i, i < n → zbdP σ k i) (hi0 : 1 ≤ i) (hi : i < n) : zjn σ k i = zjm S i := by
  unfold zjn zjm
  rw [(zSc_va h b (show i - 1 < n by omega)).1, (zSc_sl h b (show i - 1 < n by omega)).1, (h i hi).1, (h i hi).2.1, (h i hi).2.2, (h (i - 1) (by omega)).2.2]
  simp only [zi64]
theorem zk_join {σ u1 u2 : zS} {x y r1 r2 : Int32} {N : Nat → Nat} {m : Nat} (h : zCP σ N m) (p : zP3_join σ x y N r1 u1) (q : zP4_join u1 x y N r2 u2) : zgo r1 r2 u2 := by
  obtain ⟨rfl, p⟩ := p
  rcases p with ⟨p1, rfl⟩ | ⟨k, i, hk, hx, hi1, hi, hy, rfl⟩
  · rcases q with ⟨_, rfl, rfl⟩ | ⟨k, i, hk, hx, hi1, hi, hy, _⟩
    · exact ⟨rfl, N, m, h⟩
    · exact absurd ⟨k, i, hk, hx, hi1, hi, hy⟩ p1
  · rcases q with ⟨q1, _⟩ | ⟨k2, i2, hk2, hx2, hi12, hi2, hy2, rfl, rfl⟩
    · exact absurd ⟨k, i, hk, hx, hi1, hi, hy⟩ q1
    · have e1 := zku hk hk2 hx hx2
      subst e1
      have hC := h.1 k hk
      have e2 := zkn (by omega) (by omega) hy hy2
      subst e2
      exact ⟨zSc_jn (zSc_lk h hk zfrC.rf) hC.2.2.2 hi1 hi, N, m, zCP_vs h (zvs_lk _ _ _)⟩
theorem zct_c {p q : Nat → Prop} [DecidablePred p] [DecidablePred q] : ∀ {n : Nat}, (∀ i, i < n → (p i ↔ q i)) → zct p n = zct q n
  | 0, _ => rfl
  | n + 1, h => by
    have ih := zct_c (p := p) (q := q) (n := n) (fun i hi => h i (by omega))
    by_cases z : p n
    · rw [zct_t z, zct_t ((h n (by omega)).mp z), ih]
    · rw [zct_f z, zct_f (fun w => z ((h n (by omega)).mpr w)), ih]
theorem zk_count {σ u1 u2 : zS} {x w r1 r2 : Int32} {N : Nat → Nat} {m : Nat} (h : zCP σ N m) (p : zP3_count σ x w N r1 u1) (q : zP4_count u1 x w N r2 u2) : zgo r1 r2 u2 := by
  obtain ⟨rfl, p⟩ := p
  rcases p with ⟨p1, rfl⟩ | ⟨k, hk, hx, p⟩
  · rcases q with ⟨_, rfl, rfl⟩ | ⟨k, hk, hx, _⟩
    · exact ⟨rfl, N, m, h⟩
    · exact absurd (zplk hk hx) p1
  · rcases q with ⟨q1, _⟩ | ⟨k2, hk2, hx2, q⟩
    · exact absurd (zplk hk hx) q1
    · have e1 := zku hk hk2 hx hx2
      subst e1
      have hC := h.1 k hk
      have hj : ∀ v : Int32, zct (fun i => 1 ≤ i ∧ zjn u1 k i = v) (N k) = zct (fun i => 1 ≤ i ∧ zjm (zlk u1 k (N k)) i = v) (N k) := fun v => zct_c (fun i hi => by
        constructor
        · rintro ⟨a, b⟩
          exact ⟨a, by rw [← zSc_jn (zSc_lk h hk zfrC.rf) hC.2.2.2 a hi]; exact b⟩
        · rintro ⟨a, b⟩
          exact ⟨a, by rw [zSc_jn (zSc_lk h hk zfrC.rf) hC.2.2.2 a hi]; exact b⟩)
      rcases q with ⟨q1, rfl, rfl⟩ | ⟨q1, rfl, rfl⟩
      · refine ⟨?_, N, m, h⟩
        rcases p with ⟨_, rfl⟩ | ⟨rfl, _⟩ | ⟨rfl, _⟩ | ⟨rfl, _⟩
        · rfl
        · exact absurd (by decide) q1
        · exact absurd (by decide) q1
        · exact absurd (by decide) q1
      · refine ⟨?_, N, m, zCP_vs h (zvs_lk _ _ _)⟩
        rcases p with ⟨p1, _⟩ | ⟨rfl, rfl⟩ | ⟨rfl, rfl⟩ | ⟨rfl, rfl⟩
        · exact absurd q1 p1
        · rfl
        · rw [if_neg (by decide), if_pos rfl, hj]
        · rw [if_neg (by decide), if_neg (by decide), hj]
theorem zb_u {r1 r2 : Int32} {P Q : Prop} (a : zb r1 P) (b : zb r2 Q) (e : P ↔ Q) : r1 = r2 := by
  rcases a with ⟨rfl, p⟩ | ⟨rfl, p⟩ <;> rcases b with ⟨rfl, q⟩ | ⟨rfl, q⟩
  · rfl
  · exact absurd (e.mp p) q
  · exact absurd (e.mpr q) p
  · rfl
theorem zk_same {σ u1 u2 : zS} {x y r1 r2 : Int32} {N : Nat → Nat} {m : Nat} (h : zCP σ N m) (p : zP3_same σ x y N r1 u1) (q : zP4_same u1 x y N r2 u2) : zgo r1 r2 u2 := by
  obtain ⟨rfl, p⟩ := p
  obtain ⟨rfl, q⟩ := q
  refine ⟨?_, N, m, h⟩
  rcases p with ⟨p1, rfl⟩ | ⟨k, j, hk, hx, hj, hy, p⟩
  · rcases q with ⟨_, rfl⟩ | ⟨k, j, hk, hx, hj, hy, _⟩
    · rfl
    · exact absurd ⟨zplk hk hx, zplk hj hy⟩ p1
  · rcases q with ⟨q1, _⟩ | ⟨k2, j2, hk2, hx2, hj2, hy2, q⟩
    · exact absurd ⟨zplk hk hx, zplk hj hy⟩ q1
    · have e1 := zku hk hk2 hx hx2
      subst e1
      have e2 := zku hj hj2 hy hy2
      subst e2
      refine zb_u p q ?_
      constructor
      · rintro ⟨a, b⟩
        refine ⟨a, fun i hi => ?_⟩
        obtain ⟨x1, x2, x3⟩ := h.2.2.1 k hk i hi
        obtain ⟨y1, y2, y3⟩ := h.2.2.1 j hj i (a ▸ hi)
        obtain ⟨z1, z2, z3⟩ := b i hi
        exact ⟨by rw [← x1, ← y1, z1], by rw [← x2, ← y2, z2], by rw [← x3, ← y3, z3]⟩
      · rintro ⟨a, b⟩
        refine ⟨a, fun i hi => ?_⟩
        obtain ⟨x1, x2, x3⟩ := h.2.2.1 k hk i hi
        obtain ⟨y1, y2, y3⟩ := h.2.2.1 j hj i (a ▸ hi)
        obtain ⟨z1, z2, z3⟩ := b i hi
        exact ⟨by rw [x1, y1, z1], by rw [x2, y2, z2], by rw [x3, y3, z3]⟩
theorem zf_point {σ u : zS} {y r : Int32} {m : Nat} (a : zP3_point σ y m r u) : zfrC σ u := by
  rcases a with ⟨_, _, rfl⟩ | ⟨_, _, _, rfl⟩ | ⟨_, _, _, rfl⟩
  · exact zfrC.rf
  · exact zfrC.rf
  · exact (zfrC.ua σ _ (by omega)).tr (zfrC.ui _ _ (by omega))
theorem zCP_pt {σ u : zS} {N : Nat → Nat} {m n : Nat} (h : zCP σ N m) (h1 : ∀ k, k < 6 → si u k = si σ k) (h2 : ∀ j, j < 27 → ¬ j = 21 → sa u j = sa σ j) (hm : n ≤ 17) (h7 : si u 7 = nI n) (h11 : si u 11 = nI n) (h3 : ∀ i, i < n → sa u 21 i = sa u 27 i ∧ -1000 ≤ (sa u 21 i).toInt ∧ (sa u 21 i).toInt ≤ 1000) : zCP u N n := by
  obtain ⟨g1, g2, g3, _⟩ := h
  refine ⟨fun p hp => ?_, fun p hp => ?_, fun p hp i hi => ?_, hm, h7, h11, h3⟩
  · obtain ⟨a, b, c, d⟩ := g1 p hp
    refine ⟨a, b, ?_, fun i hi => ?_⟩
    · rw [h1 p hp]; exact c
    · have := d i hi
      unfold zbdP at this ⊢
      rw [h2 p (by omega) (by omega), h2 (7 + p) (by omega) (by omega), h2 (14 + p) (by omega) (by omega)]; exact this
  · rw [h2 23 (by omega) (by omega), h2 24 (by omega) (by omega), h2 25 (by omega) (by omega), h2 26 (by omega) (by omega)]; exact g2 p hp
  · rw [h2 24 (by omega) (by omega), h2 25 (by omega) (by omega), h2 26 (by omega) (by omega), h2 p (by omega) (by omega), h2 (7 + p) (by omega) (by omega), h2 (14 + p) (by omega) (by omega)]; exact g3 p hp i hi
theorem zk_point {σ u1 u2 : zS} {y r1 r2 : Int32} {N : Nat → Nat} {m : Nat} (h : zCP σ N m) (p : zP3_point σ y m r1 u1) (q : zP4_point u1 y m r2 u2) : zgo r1 r2 u2 := by
  rcases p with ⟨p1, rfl, rfl⟩ | ⟨p1, p2, rfl, rfl⟩ | ⟨p1, p2, rfl, rfl⟩
  · rcases q with ⟨_, rfl, rfl⟩ | ⟨w, _⟩ | ⟨w, _⟩
    · exact ⟨rfl, N, m, h⟩
    · exact absurd w p1
    · exact absurd w p1
  · rcases q with ⟨w, _⟩ | ⟨_, _, rfl, rfl⟩ | ⟨_, w, _⟩
    · exact absurd p1 w
    · exact ⟨rfl, N, m, h⟩
    · omega
  · rcases q with ⟨w, _⟩ | ⟨_, w, _⟩ | ⟨_, _, rfl, rfl⟩
    · exact absurd p1 w
    · omega
    · refine ⟨rfl, N, m + 1, zCP_pt h (fun k hk => ?_) (fun j hj hn => ?_) (by omega) rfl rfl (fun i hi => ?_)⟩
      · rw [si_ui_n _ _ _ _ (by omega), si_ua, si_ui_n _ _ _ _ (by omega), si_ua]
      · rw [sa_ui, sa_ua_n _ _ _ _ (by omega), sa_ui, sa_ua_n _ _ _ _ (by omega)]
      · obtain ⟨_, _, _, _, _, _, h7⟩ := h
        show upd (sa σ 21) m y i = upd (sa σ 27) m y i ∧ -1000 ≤ (upd (sa σ 21) m y i).toInt ∧ (upd (sa σ 21) m y i).toInt ≤ 1000
        by_cases z : i = m
        · subst z
          rw [zupd_s, zupd_s]
          exact ⟨rfl, p1⟩
        · rw [zupd_n _ _ z, zupd_n _ _ z]
          exact h7 i (by omega)
theorem zf_clear {σ u : zS} {r : Int32} (a : zP3_clear σ r u) : zfrC σ u := by
  obtain ⟨_, rfl⟩ := a
  exact zfrC.ui σ _ (by omega)
theorem zk_clear {σ u1 u2 : zS} {r1 r2 : Int32} {N : Nat → Nat} {m : Nat} (h : zCP σ N m) (p : zP3_clear σ r1 u1) (q : zP4_clear u1 r2 u2) : zgo r1 r2 u2 := by
  obtain ⟨rfl, rfl⟩ := p
  obtain ⟨rfl, rfl⟩ := q
  refine ⟨?_, N, 0, zCP_pt h (fun k hk => ?_) (fun j hj hn => rfl) (by omega) rfl rfl (fun i hi => absurd hi (Nat.not_lt_zero i))⟩
  · rw [si_ui_n _ _ _ _ (by omega), h.2.2.2.2.1, h.2.2.2.2.2.1]
  · rw [si_ui_n _ _ _ _ (by omega), si_ui_n _ _ _ _ (by omega)]
theorem zvOK_u {N : Nat → Nat} {x y v w : Int32} {k V U k2 V2 U2 : Nat} (hN : ∀ p, p < 6 → N p ≤ 16) (a : zvOK N x y v w k V U) (b : zvOK N x y v w k2 V2 U2) : k = k2 ∧ V = V2 ∧ U = U2 := by
  obtain ⟨a1, a2, a3, a4, a5, a6, a7, _⟩ := a
  obtain ⟨b1, b2, b3, b4, b5, b6, b7, _⟩ := b
  have e1 := zku a1 b1 a2 b2
  subst e1
  have e2 := zkn (by omega) (by omega) a5 b5
  subst e2
  have hb : N k * V ≤ 16 * 64 := Nat.mul_le_mul (hN k a1) a4
  exact ⟨rfl, rfl, zkn (by omega) (by omega) a7 b7⟩
theorem zwn_v {σ : zS} {N : Nat → Nat} {m k i : Nat} (h : zCP σ N m) (hk : k < 6) (hi : i < N k) (V R : Nat) : zvn σ k i V R = zwn σ k i V R := by
  obtain ⟨e1, e2, e3⟩ := h.2.2.1 k hk i hi
  rw [zwn_e]
  have z1 : sa (zt1 σ k i) 0 0 = sa σ 24 (16 * k + i) := rfl
  have z2 : sa (zt1 σ k i) (7 + 0) 0 = sa σ 25 (16 * k + i) := rfl
  have z3 : sa (zt1 σ k i) (14 + 0) 0 = sa σ 26 (16 * k + i) := rfl
  unfold zvn
  rw [z1, z2, z3, e1, e2, e3]
theorem zk_value {σ u1 u2 : zS} {x y v w : Int32} {r1 r2 : Int64} {N : Nat → Nat} {m : Nat} (h : zCP σ N m) (p : zP3_value σ x y v w N r1 u1) (q : zP4_value u1 x y v w N r2 u2) : zgo r1 r2 u2 := by
  obtain ⟨rfl, p⟩ := p
  obtain ⟨rfl, q⟩ := q
  refine ⟨?_, N, m, h⟩
  rcases p with ⟨p1, rfl⟩ | ⟨k, V, U, p, rfl⟩
  · rcases q with ⟨_, rfl⟩ | ⟨k, V, U, q, _⟩
    · rfl
    · exact absurd ⟨k, V, U, q⟩ p1
  · rcases q with ⟨q1, _⟩ | ⟨k2, V2, U2, q, rfl⟩
    · exact absurd ⟨k, V, U, p⟩ q1
    · obtain ⟨e1, e2, e3⟩ := zvOK_u (fun p hp => (h.1 p hp).2.1) p q
      subst e1; subst e2; subst e3
      have hC := h.1 k p.1
      rw [zwn_v h p.1 (zix p.2.2.1 hC.1 p.2.2.2.2.2.1).1]
theorem zas_v {σ : zS} {N : Nat → Nat} {m k i : Nat} (h : zCP σ N m) (hk : k < 6) : ∀ d, i + d ≤ N k → zar σ k i d = zas σ k i d
  | 0, _ => rfl
  | d + 1, hd => by
    obtain ⟨e1, e2, e3⟩ := h.2.2.1 k hk (i + d) (by omega)
    rw [zar, zas, zas_v h hk d (by omega), e1, e2, e3]
theorem zk_area {σ u1 u2 : zS} {x y z w : Int32} {r1 r2 : Int64} {N : Nat → Nat} {m : Nat} (h : zCP σ N m) (p : zP3_area σ x y z w N r1 u1) (q : zP4_area u1 x y z w N r2 u2) : zgo r1 r2 u2 := by
  obtain ⟨rfl, p⟩ := p
  obtain ⟨rfl, q⟩ := q
  refine ⟨?_, N, m, h⟩
  rcases p with ⟨p1, rfl⟩ | ⟨k, i, j, p, rfl⟩
  · rcases q with ⟨_, rfl⟩ | ⟨k, i, j, q, _⟩
    · rfl
    · exact absurd ⟨k, i, j, q⟩ p1
  · rcases q with ⟨q1, _⟩ | ⟨k2, i2, j2, q, rfl⟩
    · exact absurd ⟨k, i, j, p⟩ q1
    · obtain ⟨a1, a2, a3, a4, a5, a6, _⟩ := p
      obtain ⟨b1, b2, b3, b4, b5, b6, _⟩ := q
      have e1 := zku a1 b1 a2 b2
      subst e1
      have hC := h.1 k a1
      have e2 := zkn (by omega) (by omega) a3 b3
      subst e2
      have e3 := zkn (by omega) (by omega) a4 b4
      subst e3
      rw [zas_v h a1 (j - i) (by omega)]
