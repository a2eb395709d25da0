/-! calls, second lot: drafts and zeros -/
theorem zdraft {σ S1 u1 S2 u2 : zS} {N : Nat → Nat} {m k n : Nat} {r1 r2 : Int32} (h : zCP σ N m) (hk : k < 6) (hn1 : 1 ≤ n) (hn : n ≤ 16) (v1 : zvs σ S1) (K : zKD S1 k n r1 u1) (v2 : zvs u1 S2) (L : zLA S2 k n r2 u2) (e : zSc S2 S1 6 n) : zgo r1 r2 u2 := by
  have hiff : (∀ i, i < n → zbdP S1 6 i) ↔ (∀ i, i < n → zsmP S2 i) := by
    constructor
    · intro a i hi
      obtain ⟨e1, e2, e3⟩ := e i hi
      obtain ⟨a1, a2, a3⟩ := a i hi
      unfold zsmP
      rw [e1, e2, e3]
      exact ⟨(zcfl_i _).mpr a1, (zcfl_i _).mpr a2, (zcfl_i _).mpr a3⟩
    · intro a i hi
      obtain ⟨e1, e2, e3⟩ := e i hi
      have a0 := a i hi
      unfold zsmP at a0
      rw [e1, e2, e3] at a0
      exact ⟨(zcfl_i _).mp a0.1, (zcfl_i _).mp a0.2.1, (zcfl_i _).mp a0.2.2⟩
  rcases K with ⟨K1, rfl, rfl⟩ | ⟨K1, rfl, rfl⟩
  · rcases L with ⟨_, rfl, rfl⟩ | ⟨L1, _⟩
    · exact ⟨rfl, N, m, zCP_vs h (v1.tr v2)⟩
    · exact absurd (hiff.mpr L1) K1
  · rcases L with ⟨L1, _⟩ | ⟨_, rfl, rfl⟩
    · exact absurd (hiff.mp K1) L1
    · refine ⟨rfl, zNk N k n, m, zCP_set h hk hn1 hn ((((zvx_vs k v1).tr (zvx_ui S1 _)).tr (zvx_c3 _ hk _ _ _)).tr ((zvx_vs k v2).tr (zvx_y4 _ _ _ _ _ (fun p hp => zupd_n _ _ hp) (fun j hj => zfl_out (by omega)) (fun j hj => zfl_out (by omega)) (fun j hj => zfl_out (by omega))))) ?_ (zupd_s _ _ _) (fun i hi => ?_)⟩
      · exact (v2.1 k (by omega)).trans (si_ui_s S1 k _)
      · obtain ⟨e1, e2, e3⟩ := e i hi
        have a1 := v2.2 k (by omega) (by omega) (by omega) (by omega) (by omega)
        have a2 := v2.2 (7 + k) (by omega) (by omega) (by omega) (by omega) (by omega)
        have a3 := v2.2 (14 + k) (by omega) (by omega) (by omega) (by omega) (by omega)
        unfold zbdP zly
        rw [sa_y4_n _ _ _ _ _ (j := k) (by omega), sa_y4_n _ _ _ _ _ (j := 7 + k) (by omega), sa_y4_n _ _ _ _ _ (j := 14 + k) (by omega), sa_y4_24, sa_y4_25, sa_y4_26, zfl_in hi, zfl_in hi, zfl_in hi, a1, a2, a3, sa_zc3_a, sa_zc3_b, sa_zc3_c, zfill_in _ _ hi, zfill_in _ _ hi, zfill_in _ _ hi, e1, e2, e3, Int32.toInt32_toInt64, Int32.toInt32_toInt64, Int32.toInt32_toInt64]
        exact ⟨K1 i hi, rfl, rfl, rfl⟩
theorem ziv_h {p : Int32} (h : -100 ≤ p.toInt ∧ p.toInt ≤ 100) : ziv p p.toInt 100 := ⟨rfl, by unfold zbd; omega⟩
theorem zmixe {p q a b : Int32} (hp : -100 ≤ p.toInt ∧ p.toInt ≤ 100) (hq : -100 ≤ q.toInt ∧ q.toInt ≤ 100) (ha : zcf a) (hb : zcf b) : p.toInt64 * a.toInt64 + q.toInt64 * b.toInt64 = (p * a + q * b).toInt64 :=
  (((ziv_h hp).l.mul (ziv.of ha).l (by decide)).add ((ziv_h hq).l.mul (ziv.of hb).l (by decide)) (by decide)).eqI (((ziv_h hp).mul (ziv.of ha) (by decide)).add ((ziv_h hq).mul (ziv.of hb) (by decide)) (by decide)) rfl
theorem zSc_mk {σ u : zS} {N : Nat → Nat} {m f h : Nat} {p q : Int32} (c : zCP σ N m) (hf : f < 6) (hh : h < 6) (hN : N f = N h) (fr : zfrC σ u) (hp : -100 ≤ p.toInt ∧ p.toInt ≤ 100) (hq : -100 ≤ q.toInt ∧ q.toInt ≤ 100) : zSc (zmk u f h p.toInt64 q.toInt64 (N f)) (zmx σ f h p q (N f)) 6 (N f) := by
  intro i hi
  obtain ⟨e1, e2, e3⟩ := c.2.2.1 f hf i hi
  obtain ⟨g1, g2, g3⟩ := c.2.2.1 h hh i (hN ▸ hi)
  obtain ⟨a1, a2, a3⟩ := (c.1 f hf).2.2.2 i hi
  obtain ⟨b1, b2, b3⟩ := (c.1 h hh).2.2.2 i (hN ▸ hi)
  rw [zmk_0 hi, zmk_1 hi, zmk_2 hi, fr.2.1 24 (by omega), fr.2.1 25 (by omega), fr.2.1 26 (by omega), ← e1, ← e2, ← e3, ← g1, ← g2, ← g3]
  unfold zmx
  rw [sa_zc3_a, sa_zc3_b, sa_zc3_c, zfill_in _ _ hi, zfill_in _ _ hi, zfill_in _ _ hi]
  exact ⟨zmixe hp hq a1 b1, zmixe hp hq a2 b2, zmixe hp hq a3 b3⟩
theorem zf_mix {σ u : zS} {x y p z q r : Int32} {N : Nat → Nat} (a : zP3_mix σ x y p z q N r u) : zfrC σ u := by
  rcases a with ⟨_, _, rfl⟩ | ⟨k, f, h, hk, _, hf, _, hh, _, ⟨_, _, rfl⟩ | ⟨_, ⟨_, _, rfl⟩ | ⟨_, K⟩⟩⟩
  · exact zfrC.rf
  · exact zfrC.rf
  · exact zfrC.rf
  · exact (zfrC.zmx _ _ _ _ _ _).tr (zfrC.zKD hk K)
theorem zk_mix {σ u1 u2 : zS} {x y p z q r1 r2 : Int32} {N : Nat → Nat} {m : Nat} (h : zCP σ N m) (a : zP3_mix σ x y p z q N r1 u1) (b : zP4_mix u1 x y p z q N r2 u2) : zgo r1 r2 u2 := by
  rcases a with ⟨a1, rfl, rfl⟩ | ⟨k, f, g, hk, hx, hf, hy, hg, hz, a⟩
  · rcases b with ⟨_, rfl, rfl⟩ | ⟨k, f, g, hk, hx, hf, hy, hg, hz, _⟩
    · exact ⟨rfl, N, m, h⟩
    · exact absurd ⟨zplk hk hx, zplk hf hy, zplk hg hz⟩ a1
  · rcases b with ⟨b1, _⟩ | ⟨k2, f2, g2, hk2, hx2, hf2, hy2, hg2, hz2, b⟩
    · exact absurd ⟨zplk hk hx, zplk hf hy, zplk hg hz⟩ b1
    · have e1 := zku hk hk2 hx hx2
      have e2 := zku hf hf2 hy hy2
      have e3 := zku hg hg2 hz hz2
      subst e1; subst e2; subst e3
      rcases a with ⟨a1, rfl, rfl⟩ | ⟨a1, ⟨a2, rfl, rfl⟩ | ⟨a2, K⟩⟩
      · rcases b with ⟨_, rfl, rfl⟩ | ⟨b1, _⟩
        · exact ⟨rfl, N, m, h⟩
        · exact absurd b1 a1
      · rcases b with ⟨b1, _⟩ | ⟨_, ⟨_, rfl, rfl⟩ | ⟨b1, _⟩⟩
        · exact absurd a1 b1
        · exact ⟨rfl, N, m, h⟩
        · exact absurd b1 a2
      · rcases b with ⟨b1, _⟩ | ⟨_, ⟨b1, _⟩ | ⟨_, L⟩⟩
        · exact absurd a1 b1
        · exact absurd a2 b1
        · have hC := h.1 f hf
          exact zdraft h hk hC.1 hC.2.1 (zvs_mx _ _ _ _ _ _) K (zvs_mk _ _ _ _ _ _) L (zSc_mk h hf hg a2 ((zfrC.zmx _ _ _ _ _ _).tr (zfrC.zKD hk K)) a1.1 a1.2)
theorem zf_slope {σ u : zS} {x y r : Int32} {N : Nat → Nat} (a : zP3_slope σ x y N r u) : zfrC σ u := by
  rcases a with ⟨_, _, rfl⟩ | ⟨k, j, hk, _, hj, _, K⟩
  · exact zfrC.rf
  · exact (zfrC.zsd _ _ _).tr (zfrC.zKD hk K)
theorem z2e {c : Int32} (h : zcf c) : 2 * c.toInt64 = (2 * c).toInt64 := (zlv2.mul (ziv.of h).l (by decide)).eqI (ziv2.mul (ziv.of h) (by decide)) rfl
theorem zsm_0 {σ : zS} {j n i : Nat} (hi : i < n) : sm (zsm σ j n) 0 i = (sa σ 25 (16 * j + i)).toInt64 := zfill_in (fun i => (sa σ 25 (16 * j + i)).toInt64) (sm σ 0) hi
theorem zsm_1 {σ : zS} {j n i : Nat} (hi : i < n) : sm (zsm σ j n) 1 i = 2 * (sa σ 26 (16 * j + i)).toInt64 := zfill_in (fun i => 2 * (sa σ 26 (16 * j + i)).toInt64) (sm σ 1) hi
theorem zsm_2 {σ : zS} {j n i : Nat} (hi : i < n) : sm (zsm σ j n) 2 i = 0 := zfill_in (fun _ => (0 : Int64)) (sm σ 2) hi
theorem zk_slope {σ u1 u2 : zS} {x y r1 r2 : Int32} {N : Nat → Nat} {m : Nat} (h : zCP σ N m) (a : zP3_slope σ x y N r1 u1) (b : zP4_slope u1 x y N r2 u2) : zgo r1 r2 u2 := by
  rcases a with ⟨a1, rfl, rfl⟩ | ⟨k, j, hk, hx, hj, hy, K⟩
  · rcases b with ⟨_, rfl, rfl⟩ | ⟨k, j, hk, hx, hj, hy, _⟩
    · exact ⟨rfl, N, m, h⟩
    · exact absurd ⟨zplk hk hx, zplk hj hy⟩ a1
  · rcases b with ⟨b1, _⟩ | ⟨k2, j2, hk2, hx2, hj2, hy2, L⟩
    · exact absurd ⟨zplk hk hx, zplk hj hy⟩ b1
    · have e1 := zku hk hk2 hx hx2
      have e2 := zku hj hj2 hy hy2
      subst e1; subst e2
      have hC := h.1 j hj
      have fr := (zfrC.zsd σ j (N j)).tr (zfrC.zKD hk K)
      refine zdraft h hk hC.1 hC.2.1 (zvs_sd _ _ _) K (zvs_sm _ _ _) L (fun i hi => ?_)
      obtain ⟨e1, e2, e3⟩ := h.2.2.1 j hj i hi
      rw [zsm_0 hi, zsm_1 hi, zsm_2 hi, fr.2.1 25 (by omega), fr.2.1 26 (by omega), ← e2, ← e3]
      unfold zsd
      rw [sa_zc3_a, sa_zc3_b, sa_zc3_c, zfill_in _ _ hi, zfill_in _ _ hi, zfill_in _ _ hi]
      exact ⟨rfl, z2e (hC.2.2.2 i hi).2.2, rfl⟩
theorem zf_push {σ u : zS} {x v r : Int32} {N : Nat → Nat} (a : zP3_push σ x v N r u) : zfrC σ u := by
  rcases a with ⟨_, _, rfl⟩ | ⟨k, hk, _, ⟨_, _, rfl⟩ | ⟨_, K⟩⟩
  · exact zfrC.rf
  · exact zfrC.rf
  · exact (zfrC.zpu _ _ _ _).tr (zfrC.zKD hk K)
theorem zpm_0 {σ : zS} {k n i : Nat} {v : Int32} (hi : i < n) : sm (zpm σ k n v) 0 i = sm (zlk σ k n) 0 i + v.toInt64 := zfill_in (fun i => sm (zlk σ k n) 0 i + v.toInt64) (sm (zlk σ k n) 0) hi
theorem zk_push {σ u1 u2 : zS} {x v r1 r2 : Int32} {N : Nat → Nat} {m : Nat} (h : zCP σ N m) (a : zP3_push σ x v N r1 u1) (b : zP4_push u1 x v N r2 u2) : zgo r1 r2 u2 := by
  rcases a with ⟨a1, rfl, rfl⟩ | ⟨k, hk, hx, a⟩
  · rcases b with ⟨_, rfl, rfl⟩ | ⟨k, hk, hx, _⟩
    · exact ⟨rfl, N, m, h⟩
    · exact absurd (zplk hk hx) a1
  · rcases b with ⟨b1, _⟩ | ⟨k2, hk2, hx2, b⟩
    · exact absurd (zplk hk hx) b1
    · have e1 := zku hk hk2 hx hx2
      subst e1
      rcases a with ⟨a1, rfl, rfl⟩ | ⟨a1, K⟩
      · rcases b with ⟨_, rfl, rfl⟩ | ⟨b1, _⟩
        · exact ⟨rfl, N, m, h⟩
        · exact absurd b1 a1
      · rcases b with ⟨b1, _⟩ | ⟨_, L⟩
        · exact absurd a1 b1
        · have hC := h.1 k hk
          have fr := (zfrC.zpu σ k (N k) v).tr (zfrC.zKD hk K)
          refine zdraft h hk hC.1 hC.2.1 (zvs_pu _ _ _ _) K (zvs_pm _ _ _ _) L (fun i hi => ?_)
          obtain ⟨e1, e2, e3⟩ := h.2.2.1 k hk i hi
          have s1 : sm (zpm u1 k (N k) v) 1 i = sm (zlk u1 k (N k)) 1 i := rfl
          have s2 : sm (zpm u1 k (N k) v) 2 i = sm (zlk u1 k (N k)) 2 i := rfl
          rw [zpm_0 hi, s1, s2, zlk_0 hi, zlk_1 hi, zlk_2 hi, fr.2.1 24 (by omega), fr.2.1 25 (by omega), fr.2.1 26 (by omega), ← e1, ← e2, ← e3]
          unfold zpu
          rw [sa_zc3_a, sa_zc3_b, sa_zc3_c, zfill_in _ _ hi, zfill_in _ _ hi, zfill_in _ _ hi]
          exact ⟨((ziv.of (hC.2.2.2 i hi).1).l.add (ziv.of a1).l (by decide)).eqI ((ziv.of (hC.2.2.2 i hi).1).add (ziv.of a1) (by decide)) rfl, rfl, rfl⟩
theorem zf_refine {σ u : zS} {x y r : Int32} {N : Nat → Nat} (a : zP3_refine σ x y N r u) : zfrC σ u := by
  rcases a with ⟨_, _, rfl⟩ | ⟨k, j, hk, _, hj, _, ⟨_, _, rfl⟩ | ⟨_, K⟩⟩
  · exact zfrC.rf
  · exact zfrC.rf
  · exact (zfrC.zrf _ _ _).tr (zfrC.zKD hk K)
theorem ziv4 : ziv 4 4 4 := ⟨by decide, by unfold zbd; decide⟩
theorem zlv4 : zlv 4 4 4 := ⟨by decide, by unfold zbd; decide⟩
theorem zlv1 : zlv 1 1 1 := ⟨by decide, by unfold zbd; decide⟩
theorem zrfe {a b c : Int32} (ha : zcf a) (hb : zcf b) (hc : zcf c) : (4 * a.toInt64 + 2 * (nI 0).toInt64 * b.toInt64 + (nI 0).toInt64 * c.toInt64 = (4 * a).toInt64 ∧ 2 * b.toInt64 + 2 * (nI 0).toInt64 * c.toInt64 = (2 * b).toInt64) ∧ (4 * a.toInt64 + 2 * (nI 1).toInt64 * b.toInt64 + (nI 1).toInt64 * c.toInt64 = (4 * a + 2 * b + c).toInt64 ∧ 2 * b.toInt64 + 2 * (nI 1).toInt64 * c.toInt64 = (2 * b + 2 * c).toInt64) := by
  have a1 := ziv.of ha
  have b1 := ziv.of hb
  have c1 := ziv.of hc
  have z0 : (nI 0).toInt64 = 0 := by decide
  have z1 : (nI 1).toInt64 = 1 := by decide
  have q0 : zlv (2 * 0 : Int64) 0 0 := ⟨by decide, by unfold zbd; decide⟩
  have q00 : zlv (0 : Int64) 0 0 := ⟨by decide, by unfold zbd; decide⟩
  have q1 : zlv (2 * 1 : Int64) 2 2 := ⟨by decide, by unfold zbd; decide⟩
  rw [z0, z1]
  refine ⟨⟨?_, ?_⟩, ?_, ?_⟩
  · exact (((zlv4.mul a1.l (by decide)).add (q0.mul b1.l (by decide)) (by decide)).add (q00.mul c1.l (by decide)) (by decide)).eqI (ziv4.mul a1 (by decide)) (by omega)
  · exact ((zlv2.mul b1.l (by decide)).add (q0.mul c1.l (by decide)) (by decide)).eqI (ziv2.mul b1 (by decide)) (by omega)
  · exact (((zlv4.mul a1.l (by decide)).add (q1.mul b1.l (by decide)) (by decide)).add (zlv1.mul c1.l (by decide)) (by decide)).eqI (((ziv4.mul a1 (by decide)).add (ziv2.mul b1 (by decide)) (by decide)).add c1 (by decide)) (by omega)
  · exact ((zlv2.mul b1.l (by decide)).add (q1.mul c1.l (by decide)) (by decide)).eqI ((ziv2.mul b1 (by decide)).add (ziv2.mul c1 (by decide)) (by decide)) rfl
theorem zrm_0 {σ : zS} {j n i : Nat} (hi : i < 2 * n) : sm (zrm σ j n) 0 i = zqA σ j i := zfill_in (zqA σ j) (sm σ 0) hi
theorem zrm_1 {σ : zS} {j n i : Nat} (hi : i < 2 * n) : sm (zrm σ j n) 1 i = zqB σ j i := zfill_in (zqB σ j) (sm σ 1) hi
theorem zrm_2 {σ : zS} {j n i : Nat} (hi : i < 2 * n) : sm (zrm σ j n) 2 i = zqC σ j i := zfill_in (zqC σ j) (sm σ 2) hi
theorem zk_refine {σ u1 u2 : zS} {x y r1 r2 : Int32} {N : Nat → Nat} {m : Nat} (h : zCP σ N m) (a : zP3_refine σ x y N r1 u1) (b : zP4_refine u1 x y N r2 u2) : zgo r1 r2 u2 := by
  rcases a with ⟨a1, rfl, rfl⟩ | ⟨k, j, hk, hx, hj, hy, a⟩
  · rcases b with ⟨_, rfl, rfl⟩ | ⟨k, j, hk, hx, hj, hy, _⟩
    · exact ⟨rfl, N, m, h⟩
    · exact absurd ⟨zplk hk hx, zplk hj hy⟩ a1
  · rcases b with ⟨b1, _⟩ | ⟨k2, j2, hk2, hx2, hj2, hy2, b⟩
    · exact absurd ⟨zplk hk hx, zplk hj hy⟩ b1
    · have e1 := zku hk hk2 hx hx2
      have e2 := zku hj hj2 hy hy2
      subst e1; subst e2
      rcases a with ⟨a1, rfl, rfl⟩ | ⟨a1, K⟩
      · rcases b with ⟨_, rfl, rfl⟩ | ⟨b1, _⟩
        · exact ⟨rfl, N, m, h⟩
        · omega
      · rcases b with ⟨b1, _⟩ | ⟨_, L⟩
        · omega
        · have hC := h.1 j hj
          have fr := (zfrC.zrf σ j (N j)).tr (zfrC.zKD hk K)
          refine zdraft h hk (by omega) (by omega) (zvs_rf _ _ _) K (zvs_rm _ _ _) L (fun i hi => ?_)
          obtain ⟨e1, e2, e3⟩ := h.2.2.1 j hj (i / 2) (by omega)
          obtain ⟨c1, c2, c3⟩ := hC.2.2.2 (i / 2) (by omega)
          have hr := zrfe c1 c2 c3
          rw [zrm_0 hi, zrm_1 hi, zrm_2 hi]
          unfold zqA zqB zqC
          rw [fr.2.1 24 (by omega), fr.2.1 25 (by omega), fr.2.1 26 (by omega), ← e1, ← e2, ← e3]
          unfold zrf
          rw [sa_zc3_a, sa_zc3_b, sa_zc3_c, zfill_in _ _ hi, zfill_in _ _ hi, zfill_in _ _ hi]
          unfold zrA zrB zrC
          rcases Nat.mod_two_eq_zero_or_one i with z | z
          · simp only [z, if_pos]
            exact ⟨hr.1.1, hr.1.2, trivial⟩
          · simp only [z, if_neg (show ¬ 1 = 0 by decide)]
            exact ⟨hr.2.1, hr.2.2, trivial⟩
/-! splines -/
theorem zsq_r {σ u : zS} {s : Int32} {n : Nat} (h : ∀ i, i ≤ n → sa σ 21 i = sa u 27 i) : ∀ i, i ≤ n → zsq σ s i = zsr u s i
  | 0, _ => rfl
  | i + 1, hi => by rw [zsq, zsr, zsq_r h i (by omega), h (i + 1) hi, h i (by omega)]
theorem zms_0 {σ : zS} {s : Int32} {n i : Nat} (hi : i < n) : sm (zms σ s n) 0 i = (sa σ 27 i).toInt64 := zfill_in (fun i => (sa σ 27 i).toInt64) (sm σ 0) hi
theorem zms_1 {σ : zS} {s : Int32} {n i : Nat} (hi : i < n) : sm (zms σ s n) 1 i = (zsr σ s i).toInt64 := zfill_in (fun i => (zsr σ s i).toInt64) (sm σ 1) hi
theorem zms_2 {σ : zS} {s : Int32} {n i : Nat} (hi : i < n) : sm (zms σ s n) 2 i = (sa σ 27 (i + 1) - sa σ 27 i - zsr σ s i).toInt64 := zfill_in (fun i => (sa σ 27 (i + 1) - sa σ 27 i - zsr σ s i).toInt64) (sm σ 2) hi
theorem zspl_0 {σ : zS} {s : Int32} {n i : Nat} (hi : i < n) : sa (zspl σ s n) 6 i = sa σ 21 i := by
  unfold zspl; rw [sa_zc3_a, zfill_in _ _ hi]
theorem zspl_1 {σ : zS} {s : Int32} {n i : Nat} (hi : i < n) : sa (zspl σ s n) (7 + 6) i = zsq σ s i := by
  unfold zspl; rw [sa_zc3_b, zfill_in _ _ hi]
theorem zspl_2 {σ : zS} {s : Int32} {n i : Nat} (hi : i < n) : sa (zspl σ s n) (14 + 6) i = sa σ 21 (i + 1) - sa σ 21 i - zsq σ s i := by
  unfold zspl; rw [sa_zc3_c, zfill_in _ _ hi]
theorem zpt_e {σ u : zS} {N : Nat → Nat} {m : Nat} (h : zCP σ N m) (f : zfrC σ u) (h2 : 2 ≤ m) : ∀ i, i ≤ m - 1 → sa σ 21 i = sa u 27 i := fun i hi => by
  rw [f.2.1 27 (by omega)]; exact (h.2.2.2.2.2.2 i (by omega)).1
theorem zSc_ms {σ u : zS} {N : Nat → Nat} {m : Nat} {s : Int32} (h : zCP σ N m) (f : zfrC σ u) (h2 : 2 ≤ m) : zSc (zms u s (m - 1)) (zspl σ s (m - 1)) 6 (m - 1) := by
  intro i hi
  have hp := zpt_e h f h2
  rw [zms_0 hi, zms_1 hi, zms_2 hi, zspl_0 hi, zspl_1 hi, zspl_2 hi, ← hp i (by omega), ← hp (i + 1) (by omega), ← zsq_r hp i (by omega)]
  exact ⟨rfl, rfl, rfl⟩
theorem zf_spline {σ u : zS} {x s r : Int32} {m : Nat} (a : zP3_spline σ x s m r u) : zfrC σ u := by
  rcases a with ⟨_, _, rfl⟩ | ⟨k, hk, _, ⟨_, _, rfl⟩ | ⟨_, _, _, rfl⟩ | ⟨_, _, K⟩⟩
  · exact zfrC.rf
  · exact zfrC.rf
  · exact zfrC.rf
  · exact (zfrC.zspl _ _ _).tr (zfrC.zKD hk K)
theorem zk_spline {σ u1 u2 : zS} {x s r1 r2 : Int32} {N : Nat → Nat} {m : Nat} (h : zCP σ N m) (a : zP3_spline σ x s m r1 u1) (b : zP4_spline u1 x s m r2 u2) : zgo r1 r2 u2 := by
  have hm := h.2.2.2.1
  rcases a with ⟨a1, rfl, rfl⟩ | ⟨k, hk, hx, a⟩
  · rcases b with ⟨_, rfl, rfl⟩ | ⟨k, hk, hx, _⟩
    · exact ⟨rfl, N, m, h⟩
    · exact absurd (zplk hk hx) a1
  · rcases b with ⟨b1, _⟩ | ⟨k2, hk2, hx2, b⟩
    · exact absurd (zplk hk hx) b1
    · have e1 := zku hk hk2 hx hx2
      subst e1
      rcases a with ⟨a1, rfl, rfl⟩ | ⟨a1, a2, rfl, rfl⟩ | ⟨a1, a2, K⟩
      · rcases b with ⟨_, rfl, rfl⟩ | ⟨b1, _⟩ | ⟨b1, _⟩
        · exact ⟨rfl, N, m, h⟩
        · exact absurd b1 a1
        · exact absurd b1 a1
      · rcases b with ⟨b1, _⟩ | ⟨_, _, rfl, rfl⟩ | ⟨_, b1, _⟩
        · exact absurd a1 b1
        · exact ⟨rfl, N, m, h⟩
        · exact absurd b1 a2
      · rcases b with ⟨b1, _⟩ | ⟨_, b1, _⟩ | ⟨_, _, L⟩
        · exact absurd a1 b1
        · exact absurd a2 b1
        · exact zdraft h hk (by omega) (by omega) (zvs_spl _ _ _) K (zvs_ms _ _ _) L (zSc_ms h ((zfrC.zspl σ s (m - 1)).tr (zfrC.zKD hk K)) a2)
theorem zf_bend {σ u : zS} {s : Int32} {r : Int64} {m : Nat} (a : zP3_bend σ s m r u) : zfrC σ u := by
  rcases a with ⟨_, _, rfl⟩ | ⟨_, _, _, rfl⟩ | ⟨_, _, rfl, _⟩
  · exact zfrC.rf
  · exact zfrC.rf
  · exact zfrC.zspl _ _ _
theorem zbs_e {S T : zS} : ∀ {n : Nat}, zSc S T 6 n → ∀ i, i ≤ n → zbsum T i = zbo S i
  | _, _, 0, _ => rfl
  | n, h, i + 1, hi => by
    rw [zbsum, zbo, zbs_e h i (by omega), (h i (by omega)).2.2]
theorem zk_bend {σ u1 u2 : zS} {s : Int32} {r1 r2 : Int64} {N : Nat → Nat} {m : Nat} (h : zCP σ N m) (a : zP3_bend σ s m r1 u1) (b : zP4_bend u1 s m r2 u2) : zgo r1 r2 u2 := by
  rcases a with ⟨a1, rfl, rfl⟩ | ⟨a1, a2, rfl, rfl⟩ | ⟨a1, a2, rfl, rfl⟩
  · rcases b with ⟨_, rfl, rfl⟩ | ⟨b1, _⟩ | ⟨b1, _⟩
    · exact ⟨rfl, N, m, h⟩
    · exact absurd b1 a1
    · exact absurd b1 a1
  · rcases b with ⟨b1, _⟩ | ⟨_, _, rfl, rfl⟩ | ⟨_, b1, _⟩
    · exact absurd a1 b1
    · exact ⟨rfl, N, m, h⟩
    · exact absurd b1 a2
  · rcases b with ⟨b1, _⟩ | ⟨_, b1, _⟩ | ⟨_, _, rfl, rfl⟩
    · exact absurd a1 b1
    · exact absurd a2 b1
    · exact ⟨zbs_e (zSc_ms h (zfrC.zspl σ s (m - 1)) a2) (m - 1) (by omega), N, m, zCP_vs h ((zvs_spl _ _ _).tr (zvs_ms _ _ _))⟩
/-! zeros -/
theorem zbl_c {A B C A2 B2 C2 : Nat → Int} {n : Nat} : ∀ {i : Nat}, (∀ j, j < i → A j = A2 j ∧ B j = B2 j ∧ C j = C2 j) → zbl A B C n i = zbl A2 B2 C2 n i
  | 0, _ => rfl
  | i + 1, h => by
    obtain ⟨e1, e2, e3⟩ := h i (by omega)
    rw [zbl, zbl, zbl_c (A := A) (B := B) (C := C) (A2 := A2) (B2 := B2) (C2 := C2) (i := i) (fun j hj => h j (by omega)), e1, e2, e3]
theorem zSc_i {S σ : zS} {k n i : Nat} (h : zSc S σ k n) (hi : i < n) : zcoI σ k i = zcm S 0 i ∧ zcoI σ (7 + k) i = zcm S 1 i ∧ zcoI σ (14 + k) i = zcm S 2 i := by
  obtain ⟨e1, e2, e3⟩ := h i hi
  unfold zcoI zcm
  rw [e1, e2, e3, Int32.toInt_toInt64, Int32.toInt_toInt64, Int32.toInt_toInt64]
  exact ⟨rfl, rfl, rfl⟩
theorem zi0 {x : Int32} : x = 0 ↔ x.toInt = 0 := by rw [zi_eq]; rfl
theorem zSc_zz {S σ : zS} {k n i : Nat} (h : zSc S σ k n) (hi : i < n) : zzP σ k i ↔ zzm S i := by
  obtain ⟨e1, e2, e3⟩ := zSc_i h hi
  unfold zzP zzm
  rw [← e1, ← e2, ← e3, zi0, zi0, zi0]
  rfl
theorem zSc_ex {S σ : zS} {k n : Nat} (h : zSc S σ k n) : (∃ i, i < n ∧ zzP σ k i) ↔ (∃ i, i < n ∧ zzm S i) := ⟨fun ⟨i, hi, z⟩ => ⟨i, hi, (zSc_zz h hi).mp z⟩, fun ⟨i, hi, z⟩ => ⟨i, hi, (zSc_zz h hi).mpr z⟩⟩
theorem zSc_bl {S σ : zS} {k n : Nat} (h : zSc S σ k n) (hn : 1 ≤ n) (hz : ∀ i, i < n → ¬ zzm S i) : zbl (zcoI σ k) (zcoI σ (7 + k)) (zcoI σ (14 + k)) n n = zfin S n := by
  rw [zbl_c (fun j hj => zSc_i h hj), zbl_rln hn hz]
  rfl
theorem zgoZ {σ S1 u1 S2 u2 : zS} {N : Nat → Nat} {m k n : Nat} {r1 r2 : Int32} (h : zCP σ N m) (hn : 1 ≤ n) (v1 : zvs σ S1) (K : zCZ S1 k n r1 u1) (v2 : zvs u1 S2) (L : zRZ S2 n r2 u2) (e : zSc S2 S1 k n) : zgo r1 r2 u2 := by
  refine ⟨?_, N, m, zCP_vs h (((v1.tr (zvs_CZ K)).tr v2).tr (zvs_RZ L))⟩
  rcases K with ⟨K1, rfl, _⟩ | ⟨K1, rfl, _⟩
  · rcases L with ⟨_, rfl, _⟩ | ⟨L1, _⟩
    · rfl
    · obtain ⟨i, hi, z⟩ := (zSc_ex e).mp K1
      exact absurd z (L1 i hi)
  · rcases L with ⟨L1, _⟩ | ⟨L1, rfl, _⟩
    · exact absurd ((zSc_ex e).mpr L1) K1
    · rw [zSc_bl e hn L1]
theorem zf_zeros {σ u : zS} {x r : Int32} {N : Nat → Nat} (a : zP3_zeros σ x N r u) : zfrC σ u := by
  rcases a with ⟨_, _, rfl⟩ | ⟨k, hk, _, K⟩
  · exact zfrC.rf
  · exact zfrC.zCZ K
theorem zk_zeros {σ u1 u2 : zS} {x r1 r2 : Int32} {N : Nat → Nat} {m : Nat} (h : zCP σ N m) (a : zP3_zeros σ x N r1 u1) (b : zP4_zeros u1 x N r2 u2) : zgo r1 r2 u2 := by
  rcases a with ⟨a1, rfl, rfl⟩ | ⟨k, hk, hx, K⟩
  · rcases b with ⟨_, rfl, rfl⟩ | ⟨k, hk, hx, _⟩
    · exact ⟨rfl, N, m, h⟩
    · exact absurd (zplk hk hx) a1
  · rcases b with ⟨b1, _⟩ | ⟨k2, hk2, hx2, L⟩
    · exact absurd (zplk hk hx) b1
    · have e1 := zku hk hk2 hx hx2
      subst e1
      exact zgoZ h (h.1 k hk).1 zvs.rf K (zvs_lk _ _ _) L (zSc_lk h hk (zfrC.zCZ K))
theorem zf_meets {σ u : zS} {x y r : Int32} {N : Nat → Nat} (a : zP3_meets σ x y N r u) : zfrC σ u := by
  rcases a with ⟨_, _, rfl⟩ | ⟨k, j, hk, _, hj, _, ⟨_, _, rfl⟩ | ⟨_, K⟩⟩
  · exact zfrC.rf
  · exact zfrC.rf
  · exact (zfrC.zmx _ _ _ _ _ _).tr (zfrC.zCZ K)
theorem zk_meets {σ u1 u2 : zS} {x y r1 r2 : Int32} {N : Nat → Nat} {m : Nat} (h : zCP σ N m) (a : zP3_meets σ x y N r1 u1) (b : zP4_meets u1 x y N r2 u2) : zgo r1 r2 u2 := by
  rcases a with ⟨a1, rfl, rfl⟩ | ⟨k, j, hk, hx, hj, hy, a⟩
  · rcases b with ⟨_, rfl, rfl⟩ | ⟨k, j, hk, hx, hj, hy, _⟩
    · exact ⟨rfl, N, m, h⟩
    · exact absurd ⟨zplk hk hx, zplk hj hy⟩ a1
  · rcases b with ⟨b1, _⟩ | ⟨k2, j2, hk2, hx2, hj2, hy2, b⟩
    · exact absurd ⟨zplk hk hx, zplk hj hy⟩ b1
    · have e1 := zku hk hk2 hx hx2
      have e2 := zku hj hj2 hy hy2
      subst e1; subst e2
      rcases a with ⟨a1, rfl, rfl⟩ | ⟨a1, K⟩
      · rcases b with ⟨_, rfl, rfl⟩ | ⟨b1, _⟩
        · exact ⟨rfl, N, m, h⟩
        · exact absurd b1 a1
      · rcases b with ⟨b1, _⟩ | ⟨_, L⟩
        · exact absurd a1 b1
        · exact zgoZ h (h.1 k hk).1 (zvs_mx _ _ _ _ _ _) K (zvs_mk _ _ _ _ _ _) L (zSc_mk (p := 1) (q := -1) h hk hj a1 ((zfrC.zmx _ _ _ _ _ _).tr (zfrC.zCZ K)) (by decide) (by decide))
theorem zf_zero {σ u : zS} {x y r : Int32} {N : Nat → Nat} (a : zP3_zero σ x y N r u) : zfrC σ u := by
  rcases a with ⟨_, _, rfl⟩ | ⟨k, hk, _, ⟨_, _, rfl⟩ | ⟨_, ⟨w, rfl⟩, _⟩⟩
  · exact zfrC.rf
  · exact zfrC.rf
  · exact zfrC.zfs _ _ _
theorem zk_zero {σ u1 u2 : zS} {x y r1 r2 : Int32} {N : Nat → Nat} {m : Nat} (h : zCP σ N m) (a : zP3_zero σ x y N r1 u1) (b : zP4_zero u1 x y N r2 u2) : zgo r1 r2 u2 := by
  have fr := zf_zero a
  rcases a with ⟨a1, rfl, rfl⟩ | ⟨k, hk, hx, a⟩
  · rcases b with ⟨_, rfl, rfl⟩ | ⟨k, hk, hx, _⟩
    · exact ⟨rfl, N, m, h⟩
    · exact absurd (zplk hk hx) a1
  · rcases b with ⟨b1, _⟩ | ⟨k2, hk2, hx2, b⟩
    · exact absurd (zplk hk hx) b1
    · have e1 := zku hk hk2 hx hx2
      subst e1
      have e := zSc_lk h hk fr
      have hC := h.1 k hk
      rcases a with ⟨a1, rfl, rfl⟩ | ⟨a1, ⟨w, rfl⟩, a2⟩
      · rcases b with ⟨_, rfl, L, rfl⟩ | ⟨b1, _⟩
        · exact ⟨rfl, N, m, zCP_vs h ((zvs_lk _ _ _).tr (zvs_fz _ _))⟩
        · obtain ⟨i, hi, z⟩ := (zSc_ex e).mp a1
          exact absurd z (b1 i hi)
      · rcases b with ⟨b1, _⟩ | ⟨b1, rfl, b2⟩
        · exact absurd ((zSc_ex e).mpr b1) a1
        · refine ⟨?_, N, m, zCP_vs h (((zvs_fs _ _ _).tr (zvs_lk _ _ _)).tr (zvs_fz _ _))⟩
          have hl := zSc_bl e hC.1 b1
          have hlen := zfin_len b1
          rw [hl] at a2
          rcases a2 with ⟨j, hj, hy, rfl⟩ | ⟨a2, rfl⟩
          · rcases b2 with ⟨j2, hj2, hy2, rfl⟩ | ⟨b2, _⟩
            · have e2 := zkn (by omega) (by omega) hy hy2
              subst e2
              rw [hl]
            · refine absurd ?_ b2
              rw [hy, nI_toInt (by omega)]
              omega
          · rcases b2 with ⟨j2, hj2, hy2, rfl⟩ | ⟨b2, rfl⟩
            · refine absurd ?_ a2
              rw [hy2, nI_toInt (by omega)]
              omega
            · rfl
