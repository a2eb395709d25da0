theorem zsr_c {σ τ : zS} (h : sa τ 27 = sa σ 27) (s : Int32) : ∀ i, zsr τ s i = zsr σ s i
  | 0 => rfl
  | i + 1 => by rw [zsr, zsr, zsr_c h s i, h]
/-- nothing changed but the reference's scratch -/
def zfr (σ τ : zS) : Prop := (∀ k, ¬ k = 12 → si τ k = si σ k) ∧ (∀ k, sl τ k = sl σ k) ∧ (∀ j, ¬ j = 29 → sa τ j = sa σ j)
theorem zfr_ms {σ τ : zS} {s : Int32} {n : Nat} (h : zfr σ τ) : zfr σ (zms τ s n) := by
  refine ⟨fun k hk => ?_, h.2.1, fun j hj => ?_⟩
  · show (if k = 12 then _ else si τ k) = _
    rw [if_neg hk]; exact h.1 k hk
  · show (if j = 29 then _ else sa τ j) = _
    rw [if_neg hj]; exact h.2.2 j hj
theorem zms_zms {σ τ : zS} {n : Nat} (h : zfr σ τ) (hs : ∀ s, zms τ s n = zms σ s n) (s s' : Int32) : zms (zms τ s' n) s n = zms σ s n := by
  rw [hs s']
  have h27 : sa (zms σ s' n) 27 = sa σ 27 := rfl
  have er : zsr (zms σ s' n) s = zsr σ s := funext (zsr_c h27 s)
  have e29 : sa (zms σ s' n) 29 = zfill (n + 1) (zsr σ s') (sa σ 29) := rfl
  have e0 : sm (zms σ s' n) 0 = zfill n (fun i => (sa σ 27 i).toInt64) (sm σ 0) := rfl
  have e1 : sm (zms σ s' n) 1 = zfill n (fun i => (zsr σ s' i).toInt64) (sm σ 1) := rfl
  have e2 : sm (zms σ s' n) 2 = zfill n (fun i => (sa σ 27 (i + 1) - sa σ 27 i - zsr σ s' i).toInt64) (sm σ 2) := rfl
  have key : zms (zms σ s' n) s n = z3 (ua (ui (zms σ s' n) 12 (nI n)) 29 (zfill (n + 1) (zsr σ s) (sa σ 29))) (zfill n (fun i => (sa σ 27 i).toInt64) (sm σ 0)) (zfill n (fun i => (zsr σ s i).toInt64) (sm σ 1)) (zfill n (fun i => (sa σ 27 (i + 1) - sa σ 27 i - zsr σ s i).toInt64) (sm σ 2)) := by
    rw [zms, er, e29, e0, e1, e2, zfill_zfill, zfill_zfill, zfill_zfill, zfill_zfill, h27]
  rw [key]
  apply zS_ext <;> intro j <;> try rfl
  · show (if j = 12 then nI n else (if j = 12 then nI n else si σ j)) = (if j = 12 then nI n else si σ j)
    split <;> rfl
  · show (if j = 29 then _ else (if j = 29 then _ else sa σ j)) = (if j = 29 then _ else sa σ j)
    split <;> rfl
  · show (if j = 0 then _ else if j = 1 then _ else if j = 2 then _ else (if j = 0 then _ else if j = 1 then _ else if j = 2 then _ else sm σ j)) = (if j = 0 then _ else if j = 1 then _ else if j = 2 then _ else sm σ j)
    (repeat' split) <;> rfl
def zsv (t : Nat) : Int32 := nI t - 1000
theorem zsv_t {t : Nat} (h : t ≤ 2001) : (zsv t).toInt = (t : Int) - 1000 := by
  unfold zsv
  rw [Int32.toInt_sub, nI_toInt (by omega), show (1000 : Int32).toInt = 1000 by decide, Int.bmod_eq_of_le (by omega) (by omega)]
theorem zsv_s (t : Nat) : zsv t + 1 = zsv (t + 1) := by
  unfold zsv
  rw [← nI_1]
  generalize nI t = x
  grind
theorem zsv_0 : zsv 0 = -1000 := by decide
theorem zsv_g {t : Nat} (h : t ≤ 2001) : 1000 < zsv t ↔ 2000 < t := by
  rw [zi_lt, zsv_t h, show (1000 : Int32).toInt = 1000 by decide]; omega
def zPs (σ : zS) (x : Int32) (n : Nat) (t : Nat) : Prop := x = 0 ∨ ∀ i, i < n → zhs (zms σ (zsv t) n) x i
noncomputable def zcC (P : Nat → Prop) (n : Nat) : Nat := @zct P (fun _ => Classical.propDecidable _) n
theorem zcC_t {P : Nat → Prop} {n : Nat} (h : P n) : zcC P (n + 1) = zcC P n + 1 := @zct_t P (fun _ => Classical.propDecidable _) n h
theorem zcC_f {P : Nat → Prop} {n : Nat} (h : ¬ P n) : zcC P (n + 1) = zcC P n := @zct_f P (fun _ => Classical.propDecidable _) n h
theorem zcC_le (P : Nat → Prop) (n : Nat) : zcC P n ≤ n := @zct_le P (fun _ => Classical.propDecidable _) n
noncomputable def zif {α : Type} (P : Prop) (a b : α) : α := @ite α P (Classical.propDecidable P) a b
theorem zif_t {α : Type} {P : Prop} {a b : α} (h : P) : zif P a b = a := if_pos h
theorem zif_f {α : Type} {P : Prop} {a b : α} (h : ¬ P) : zif P a b = b := if_neg h
noncomputable def zfst (P : Nat → Prop) : Nat → Int32
  | 0 => 2000
  | t + 1 => zif (P t ∧ zcC P t = 0) (zsv t) (zfst P t)
noncomputable def zlst (P : Nat → Prop) : Nat → Int32
  | 0 => 2000
  | t + 1 => zif (P t) (zsv t) (zlst P t)
noncomputable def zbq (P : Nat → Prop) (B : Nat → Int64) : Nat → Int32 × Int64
  | 0 => (2000, 0)
  | t + 1 => zif (P t ∧ ((zbq P B t).1 = 2000 ∨ B t < (zbq P B t).2)) (zsv t, B t) (zbq P B t)
def zBs (σ : zS) (n : Nat) (t : Nat) : Int64 := zbo (zms σ (zsv t) n) n
set_option maxRecDepth 100000 in
set_option maxHeartbeats 4000000 in
theorem c_X4_slopes {l : Launch} {gg : zG} {σ : zS} {x w : Int32} {m : Nat} (hm : si σ 11 = nI m) (hm2 : m ≤ 17) : zMi l gg yX4_slopes cX4_slopes .int 7 3 72 [.ref (zM gg), .int x, .int w] σ (fun r u => (¬ ((0 ≤ x.toInt ∧ x.toInt ≤ 4) ∧ (0 ≤ w.toInt ∧ w.toInt ≤ 2) ∧ 2 ≤ m) ∧ r = -2147483648 ∧ u = σ) ∨ (((0 ≤ x.toInt ∧ x.toInt ≤ 4) ∧ (0 ≤ w.toInt ∧ w.toInt ≤ 2) ∧ 2 ≤ m) ∧ zfr σ u ∧ r = (if w = 0 then zfst (zPs σ x (m - 1)) 2001 else if w = 1 then zlst (zPs σ x (m - 1)) 2001 else nI (zcC (zPs σ x (m - 1)) 2001)))) := by
  refine zM_i (own := RX4) (lv := [some (.ref (zM gg)), some (.int x), some (.int w), none, none, none, none]) (by decide +kernel) rfl (Nat.le_of_ble_eq_true rfl) rfl (fun cx hc hR hI => ?_)
  refine J_iloadn_1 (pc := 0) hc dX4_slopes_0 ?_
  refine J_i2l (pc := 1) hc dX4_slopes_1 ?_
  refine J_lconst (pc := 2) hc dX4_slopes_2 (v := 0) (by decide) ?_
  refine nX4_90 (pc := 3) hc dX4_slopes_3 ?_
  refine kX4_43 (pc := 6) hc hR dX4_slopes_6 (c_X4_in) (by decide) (Nat.le_of_ble_eq_true rfl) rfl (fun r u hu => ?_)
  have hr := hu.1
  refine J_eq hu.2 ?_
  refine J_if_eq (pc := 9) hc 32 dX4_slopes_9 (by decide) (fun bq9 => ?_) (fun bq9 => ?_)
  · skip
    have hn1 := (zin1 hr (show (0 : Int64).toInt = 0 from rfl) (show (4 : Int64).toInt = 4 from rfl)).f bq9
    refine nX4_63 (pc := 32) hc dX4_slopes_32 ?_
    exact J_iret (pc := 34) hc hI dX4_slopes_34 (Or.inl ⟨by first | exact (fun h => bq29 h.2.2) | exact (fun h => hn2 h.2.1) | exact (fun h => hn1 h.1), rfl, rfl⟩)
  · skip
    have hx := (zin1 hr (show (0 : Int64).toInt = 0 from rfl) (show (4 : Int64).toInt = 4 from rfl)).t bq9
    refine J_iloadn_2 (pc := 12) hc dX4_slopes_12 ?_
    refine J_i2l (pc := 13) hc dX4_slopes_13 ?_
    refine J_lconst (pc := 14) hc dX4_slopes_14 (v := 0) (by decide) ?_
    refine nX4_61 (pc := 15) hc dX4_slopes_15 ?_
    refine kX4_43 (pc := 18) hc hR dX4_slopes_18 (c_X4_in) (by decide) (Nat.le_of_ble_eq_true rfl) rfl (fun r u hu => ?_)
    have hr := hu.1
    refine J_eq hu.2 ?_
    refine J_if_eq (pc := 21) hc 32 dX4_slopes_21 (by decide) (fun bq21 => ?_) (fun bq21 => ?_)
    · skip
      have hn2 := (zin1 hr (show (0 : Int64).toInt = 0 from rfl) (show (2 : Int64).toInt = 2 from rfl)).f bq21
      refine nX4_63 (pc := 32) hc dX4_slopes_32 ?_
      exact J_iret (pc := 34) hc hI dX4_slopes_34 (Or.inl ⟨by first | exact (fun h => bq29 h.2.2) | exact (fun h => hn2 h.2.1) | exact (fun h => hn1 h.1), rfl, rfl⟩)
    · skip
      have hw := (zin1 hr (show (0 : Int64).toInt = 0 from rfl) (show (2 : Int64).toInt = 2 from rfl)).t bq21
      refine J_aloadn_0 (pc := 24) hc dX4_slopes_24 ?_
      refine gX4_142 (pc := 25) hc dX4_slopes_25 ?_
      refine J_iconst (pc := 28) hc dX4_slopes_28 (v := 2) (by decide) ?_
      refine J_icmp_ge (pc := 29) hc 35 dX4_slopes_29 (by decide) (fun bq29 => ?_) (fun bq29 => ?_)
      · skip
        rw [hm, show (2 : Int32) = nI 2 from rfl, nI_leI (by omega) (by omega)] at bq29
        refine J_sipush (pc := 35) hc dX4_slopes_35 (v := 2000) (by decide) ?_
        refine J_istoren_3 (pc := 38) hc dX4_slopes_38 rfl ?_
        refine J_sipush (pc := 39) hc dX4_slopes_39 (v := 2000) (by decide) ?_
        refine J_istore_4 (pc := 42) hc dX4_slopes_42 rfl ?_
        refine J_iconst (pc := 44) hc dX4_slopes_44 (v := 0) (by decide) ?_
        refine J_istore_5 (pc := 45) hc dX4_slopes_45 rfl ?_
        refine J_sipush (pc := 47) hc dX4_slopes_47 (v := -1000) (by decide) ?_
        refine J_istore_6 (pc := 50) hc dX4_slopes_50 rfl ?_
        have hL52 : ∀ (μ : Nat) (t : Nat) (τ : zS), 2001 - t = μ → t ≤ 2001 → zfr σ τ → (∀ s, zms τ s (m - 1) = zms σ s (m - 1)) → J cx gg (zQi cx gg (fun r u => (¬ ((0 ≤ x.toInt ∧ x.toInt ≤ 4) ∧ (0 ≤ w.toInt ∧ w.toInt ≤ 2) ∧ 2 ≤ m) ∧ r = -2147483648 ∧ u = σ) ∨ (((0 ≤ x.toInt ∧ x.toInt ≤ 4) ∧ (0 ≤ w.toInt ∧ w.toInt ≤ 2) ∧ 2 ≤ m) ∧ zfr σ u ∧ r = (if w = 0 then zfst (zPs σ x (m - 1)) 2001 else if w = 1 then zlst (zPs σ x (m - 1)) 2001 else nI (zcC (zPs σ x (m - 1)) 2001))))) τ 52 [some (.ref (zM gg)), some (.int x), some (.int w), some (.int (zfst (zPs σ x (m - 1)) t)), some (.int (zlst (zPs σ x (m - 1)) t)), some (.int (nI (zcC (zPs σ x (m - 1)) t))), some (.int (zsv t))] [] := by
          intro μ
          induction μ using Nat.strongRecOn with
          | ind μ ih52 =>
            intro t τ hμ ht hfr hms
            refine J_iload_6 (pc := 52) hc dX4_slopes_52 ?_
            refine J_sipush (pc := 54) hc dX4_slopes_54 (v := 1000) (by decide) ?_
            refine J_icmp_gt (pc := 57) hc 95 dX4_slopes_57 (by decide) (fun bq57 => ?_) (fun bq57 => ?_)
            · skip
              have hend : t = 2001 := by have := (zsv_g ht).mp bq57; omega
              subst hend
              refine J_iloadn_2 (pc := 95) hc dX4_slopes_95 ?_
              refine J_if_ne (pc := 96) hc 103 dX4_slopes_96 (by decide) (fun bq96 => ?_) (fun bq96 => ?_)
              · skip
                refine J_iloadn_2 (pc := 103) hc dX4_slopes_103 ?_
                refine J_iconst (pc := 104) hc dX4_slopes_104 (v := 1) (by decide) ?_
                refine J_icmp_ne (pc := 105) hc 113 dX4_slopes_105 (by decide) (fun bq105 => ?_) (fun bq105 => ?_)
                · skip
                  refine J_iload_5 (pc := 113) hc dX4_slopes_113 ?_
                  exact J_iret (pc := 115) hc hI dX4_slopes_115 (Or.inr ⟨⟨hx, hw, bq29⟩, hfr, by first | (rw [if_neg bq96, if_neg bq105]) | (rw [if_neg bq96, if_pos bq105]) | (rw [if_pos bq96])⟩)
                · skip
                  refine J_iload_4 (pc := 108) hc dX4_slopes_108 ?_
                  refine J_goto (pc := 110) hc 115 dX4_slopes_110 (by decide) ?_
                  exact J_iret (pc := 115) hc hI dX4_slopes_115 (Or.inr ⟨⟨hx, hw, bq29⟩, hfr, by first | (rw [if_neg bq96, if_neg bq105]) | (rw [if_neg bq96, if_pos bq105]) | (rw [if_pos bq96])⟩)
              · skip
                refine J_iloadn_3 (pc := 99) hc dX4_slopes_99 ?_
                refine J_goto (pc := 100) hc 115 dX4_slopes_100 (by decide) ?_
                exact J_iret (pc := 115) hc hI dX4_slopes_115 (Or.inr ⟨⟨hx, hw, bq29⟩, hfr, by first | (rw [if_neg bq96, if_neg bq105]) | (rw [if_neg bq96, if_pos bq105]) | (rw [if_pos bq96])⟩)
            · skip
              have hlt : t ≤ 2000 := by have := mt (zsv_g ht).mpr bq57; omega
              refine J_aloadn_0 (pc := 60) hc dX4_slopes_60 ?_
              refine J_iloadn_1 (pc := 61) hc dX4_slopes_61 ?_
              refine J_iload_6 (pc := 62) hc dX4_slopes_62 ?_
              refine kX4_148 (pc := 64) hc hR dX4_slopes_64 (c_X4_isSlope (m := m) hx ((hfr.1 11 (by decide)).trans hm) bq29 hm2) (by decide) (Nat.le_of_ble_eq_true rfl) rfl (fun r u hu => ?_)
              have hr := hu.1
              have hst := hfr
              refine J_eq (hu.2.trans (hms _)) ?_
              rw [hms] at hr
              have hr : zb r (zPs σ x (m - 1) t) := hr
              have hfr2 : zfr σ (zms σ (zsv t) (m - 1)) := by rw [← hms]; exact zfr_ms hfr
              have hms2 : ∀ s, zms (zms σ (zsv t) (m - 1)) s (m - 1) = zms σ s (m - 1) := fun s => by rw [← hms (zsv t)]; exact zms_zms hfr hms s _
              refine J_if_eq (pc := 67) hc 89 dX4_slopes_67 (by decide) (fun bq67 => ?_) (fun bq67 => ?_)
              · skip
                have hP := hr.f bq67
                refine J_iinc_6 (pc := 89) hc dX4_slopes_89 (zsv_s t) rfl ?_
                refine J_goto (pc := 92) hc 52 dX4_slopes_92 (by decide) ?_
                have hgo := ih52 _ (by omega) (t + 1) _ rfl (by omega) hfr2 hms2
                first | (rw [show zfst (zPs σ x (m - 1)) (t + 1) = zfst (zPs σ x (m - 1)) t from zif_f (fun h => hP h.1), show zlst (zPs σ x (m - 1)) (t + 1) = zlst (zPs σ x (m - 1)) t from zif_f hP, zcC_f hP] at hgo; exact J_weak (by repeat (first | exact zle_nil | apply zle_s | apply zle_n)) hgo) | (rw [show zfst (zPs σ x (m - 1)) (t + 1) = zfst (zPs σ x (m - 1)) t from zif_f (fun h => hc0 h.2), show zlst (zPs σ x (m - 1)) (t + 1) = zsv t from zif_t hP, zcC_t hP] at hgo; exact J_weak (by repeat (first | exact zle_nil | apply zle_s | apply zle_n)) hgo) | (rw [show zfst (zPs σ x (m - 1)) (t + 1) = zsv t from zif_t ⟨hP, hc0⟩, show zlst (zPs σ x (m - 1)) (t + 1) = zsv t from zif_t hP, zcC_t hP] at hgo; exact J_weak (by repeat (first | exact zle_nil | apply zle_s | apply zle_n)) hgo)
              · skip
                have hP := hr.t bq67
                refine J_iload_5 (pc := 70) hc dX4_slopes_70 ?_
                refine J_if_ne (pc := 72) hc 80 dX4_slopes_72 (by decide) (fun bq72 => ?_) (fun bq72 => ?_)
                · skip
                  have hc0 : ¬ zcC (zPs σ x (m - 1)) t = 0 := fun q => bq72 (by rw [q]; rfl)
                  refine J_iloadn_3 (pc := 80) hc dX4_slopes_80 ?_
                  refine J_istoren_3 (pc := 81) hc dX4_slopes_81 rfl ?_
                  refine J_iload_6 (pc := 82) hc dX4_slopes_82 ?_
                  refine J_istore_4 (pc := 84) hc dX4_slopes_84 rfl ?_
                  refine J_iinc_5 (pc := 86) hc dX4_slopes_86 (by first | exact nI_1 _ | exact rfl) rfl ?_
                  refine J_iinc_6 (pc := 89) hc dX4_slopes_89 (zsv_s t) rfl ?_
                  refine J_goto (pc := 92) hc 52 dX4_slopes_92 (by decide) ?_
                  have hgo := ih52 _ (by omega) (t + 1) _ rfl (by omega) hfr2 hms2
                  first | (rw [show zfst (zPs σ x (m - 1)) (t + 1) = zfst (zPs σ x (m - 1)) t from zif_f (fun h => hP h.1), show zlst (zPs σ x (m - 1)) (t + 1) = zlst (zPs σ x (m - 1)) t from zif_f hP, zcC_f hP] at hgo; exact J_weak (by repeat (first | exact zle_nil | apply zle_s | apply zle_n)) hgo) | (rw [show zfst (zPs σ x (m - 1)) (t + 1) = zfst (zPs σ x (m - 1)) t from zif_f (fun h => hc0 h.2), show zlst (zPs σ x (m - 1)) (t + 1) = zsv t from zif_t hP, zcC_t hP] at hgo; exact J_weak (by repeat (first | exact zle_nil | apply zle_s | apply zle_n)) hgo) | (rw [show zfst (zPs σ x (m - 1)) (t + 1) = zsv t from zif_t ⟨hP, hc0⟩, show zlst (zPs σ x (m - 1)) (t + 1) = zsv t from zif_t hP, zcC_t hP] at hgo; exact J_weak (by repeat (first | exact zle_nil | apply zle_s | apply zle_n)) hgo)
                · skip
                  have hc0 : zcC (zPs σ x (m - 1)) t = 0 := (nI_eq (by have := zcC_le (zPs σ x (m - 1)) t; omega) (by omega)).mp (bq72.trans nI_0.symm)
                  refine J_iload_6 (pc := 75) hc dX4_slopes_75 ?_
                  refine J_goto (pc := 77) hc 81 dX4_slopes_77 (by decide) ?_
                  refine J_istoren_3 (pc := 81) hc dX4_slopes_81 rfl ?_
                  refine J_iload_6 (pc := 82) hc dX4_slopes_82 ?_
                  refine J_istore_4 (pc := 84) hc dX4_slopes_84 rfl ?_
                  refine J_iinc_5 (pc := 86) hc dX4_slopes_86 (by first | exact nI_1 _ | exact rfl) rfl ?_
                  refine J_iinc_6 (pc := 89) hc dX4_slopes_89 (zsv_s t) rfl ?_
                  refine J_goto (pc := 92) hc 52 dX4_slopes_92 (by decide) ?_
                  have hgo := ih52 _ (by omega) (t + 1) _ rfl (by omega) hfr2 hms2
                  first | (rw [show zfst (zPs σ x (m - 1)) (t + 1) = zfst (zPs σ x (m - 1)) t from zif_f (fun h => hP h.1), show zlst (zPs σ x (m - 1)) (t + 1) = zlst (zPs σ x (m - 1)) t from zif_f hP, zcC_f hP] at hgo; exact J_weak (by repeat (first | exact zle_nil | apply zle_s | apply zle_n)) hgo) | (rw [show zfst (zPs σ x (m - 1)) (t + 1) = zfst (zPs σ x (m - 1)) t from zif_f (fun h => hc0 h.2), show zlst (zPs σ x (m - 1)) (t + 1) = zsv t from zif_t hP, zcC_t hP] at hgo; exact J_weak (by repeat (first | exact zle_nil | apply zle_s | apply zle_n)) hgo) | (rw [show zfst (zPs σ x (m - 1)) (t + 1) = zsv t from zif_t ⟨hP, hc0⟩, show zlst (zPs σ x (m - 1)) (t + 1) = zsv t from zif_t hP, zcC_t hP] at hgo; exact J_weak (by repeat (first | exact zle_nil | apply zle_s | apply zle_n)) hgo)
        exact J_weak (by repeat (first | exact zle_nil | apply zle_s | apply zle_n)) (hL52 _ 0 σ rfl (by omega) ⟨fun _ _ => rfl, fun _ => rfl, fun _ _ => rfl⟩ (fun _ => rfl))
      · skip
        rw [hm, show (2 : Int32) = nI 2 from rfl, nI_leI (by omega) (by omega)] at bq29
        refine nX4_63 (pc := 32) hc dX4_slopes_32 ?_
        exact J_iret (pc := 34) hc hI dX4_slopes_34 (Or.inl ⟨by first | exact (fun h => bq29 h.2.2) | exact (fun h => hn2 h.2.1) | exact (fun h => hn1 h.1), rfl, rfl⟩)
set_option maxRecDepth 100000 in
set_option maxHeartbeats 4000000 in
theorem c_X4_best {l : Launch} {gg : zG} {σ : zS} {x : Int32} {m : Nat} (hm : si σ 11 = nI m) (hm2 : m ≤ 17) : zMi l gg yX4_best cX4_best .int 6 3 72 [.ref (zM gg), .int x] σ (fun r u => (¬ ((0 ≤ x.toInt ∧ x.toInt ≤ 4) ∧ 2 ≤ m) ∧ r = -2147483648 ∧ u = σ) ∨ (((0 ≤ x.toInt ∧ x.toInt ≤ 4) ∧ 2 ≤ m) ∧ zfr σ u ∧ r = (zbq (zPs σ x (m - 1)) (zBs σ (m - 1)) 2001).1)) := by
  refine zM_i (own := RX4) (lv := [some (.ref (zM gg)), some (.int x), none, none, none, none]) (by decide +kernel) rfl (Nat.le_of_ble_eq_true rfl) rfl (fun cx hc hR hI => ?_)
  refine J_iloadn_1 (pc := 0) hc dX4_best_0 ?_
  refine J_i2l (pc := 1) hc dX4_best_1 ?_
  refine J_lconst (pc := 2) hc dX4_best_2 (v := 0) (by decide) ?_
  refine nX4_90 (pc := 3) hc dX4_best_3 ?_
  refine kX4_43 (pc := 6) hc hR dX4_best_6 (c_X4_in) (by decide) (Nat.le_of_ble_eq_true rfl) rfl (fun r u hu => ?_)
  have hr := hu.1
  refine J_eq hu.2 ?_
  refine J_if_eq (pc := 9) hc 20 dX4_best_9 (by decide) (fun bq9 => ?_) (fun bq9 => ?_)
  · skip
    have hn1 := (zin1 hr (show (0 : Int64).toInt = 0 from rfl) (show (4 : Int64).toInt = 4 from rfl)).f bq9
    refine nX4_63 (pc := 20) hc dX4_best_20 ?_
    exact J_iret (pc := 22) hc hI dX4_best_22 (Or.inl ⟨by first | exact (fun h => bq17 h.2) | exact (fun h => hn1 h.1), rfl, rfl⟩)
  · skip
    have hx := (zin1 hr (show (0 : Int64).toInt = 0 from rfl) (show (4 : Int64).toInt = 4 from rfl)).t bq9
    refine J_aloadn_0 (pc := 12) hc dX4_best_12 ?_
    refine gX4_142 (pc := 13) hc dX4_best_13 ?_
    refine J_iconst (pc := 16) hc dX4_best_16 (v := 2) (by decide) ?_
    refine J_icmp_ge (pc := 17) hc 23 dX4_best_17 (by decide) (fun bq17 => ?_) (fun bq17 => ?_)
    · skip
      rw [hm, show (2 : Int32) = nI 2 from rfl, nI_leI (by omega) (by omega)] at bq17
      refine J_sipush (pc := 23) hc dX4_best_23 (v := 2000) (by decide) ?_
      refine J_istoren_2 (pc := 26) hc dX4_best_26 rfl ?_
      refine J_lconst (pc := 27) hc dX4_best_27 (v := 0) (by decide) ?_
      refine J_lstoren_3 (pc := 28) hc dX4_best_28 rfl ?_
      refine J_sipush (pc := 29) hc dX4_best_29 (v := -1000) (by decide) ?_
      refine J_istore_5 (pc := 32) hc dX4_best_32 rfl ?_
      have hL34 : ∀ (μ : Nat) (t : Nat) (τ : zS), 2001 - t = μ → t ≤ 2001 → zfr σ τ → (∀ s, zms τ s (m - 1) = zms σ s (m - 1)) → J cx gg (zQi cx gg (fun r u => (¬ ((0 ≤ x.toInt ∧ x.toInt ≤ 4) ∧ 2 ≤ m) ∧ r = -2147483648 ∧ u = σ) ∨ (((0 ≤ x.toInt ∧ x.toInt ≤ 4) ∧ 2 ≤ m) ∧ zfr σ u ∧ r = (zbq (zPs σ x (m - 1)) (zBs σ (m - 1)) 2001).1))) τ 34 [some (.ref (zM gg)), some (.int x), some (.int (zbq (zPs σ x (m - 1)) (zBs σ (m - 1)) t).1), some (.long (zbq (zPs σ x (m - 1)) (zBs σ (m - 1)) t).2), none, some (.int (zsv t))] [] := by
        intro μ
        induction μ using Nat.strongRecOn with
        | ind μ ih34 =>
          intro t τ hμ ht hfr hms
          refine J_iload_5 (pc := 34) hc dX4_best_34 ?_
          refine J_sipush (pc := 36) hc dX4_best_36 (v := 1000) (by decide) ?_
          refine J_icmp_gt (pc := 39) hc 82 dX4_best_39 (by decide) (fun bq39 => ?_) (fun bq39 => ?_)
          · skip
            have hend : t = 2001 := by have := (zsv_g ht).mp bq39; omega
            subst hend
            refine J_iloadn_2 (pc := 82) hc dX4_best_82 ?_
            exact J_iret (pc := 83) hc hI dX4_best_83 (Or.inr ⟨⟨hx, bq17⟩, hfr, rfl⟩)
          · skip
            have hlt : t ≤ 2000 := by have := mt (zsv_g ht).mpr bq39; omega
            refine J_aloadn_0 (pc := 42) hc dX4_best_42 ?_
            refine J_iloadn_1 (pc := 43) hc dX4_best_43 ?_
            refine J_iload_5 (pc := 44) hc dX4_best_44 ?_
            refine kX4_148 (pc := 46) hc hR dX4_best_46 (c_X4_isSlope (m := m) hx ((hfr.1 11 (by decide)).trans hm) bq17 hm2) (by decide) (Nat.le_of_ble_eq_true rfl) rfl (fun r u hu => ?_)
            have hr := hu.1
            have hst := hfr
            refine J_eq (hu.2.trans (hms _)) ?_
            rw [hms] at hr
            have hr : zb r (zPs σ x (m - 1) t) := hr
            have hfr2 : zfr σ (zms σ (zsv t) (m - 1)) := by rw [← hms]; exact zfr_ms hfr
            have hms2 : ∀ s, zms (zms σ (zsv t) (m - 1)) s (m - 1) = zms σ s (m - 1) := fun s => by rw [← hms (zsv t)]; exact zms_zms hfr hms s _
            refine J_if_eq (pc := 49) hc 76 dX4_best_49 (by decide) (fun bq49 => ?_) (fun bq49 => ?_)
            · skip
              have hP := hr.f bq49
              refine J_iinc_5 (pc := 76) hc dX4_best_76 (zsv_s t) rfl ?_
              refine J_goto (pc := 79) hc 34 dX4_best_79 (by decide) ?_
              have hgo := ih34 _ (by omega) (t + 1) _ rfl (by omega) hfr2 hms2
              first | (rw [show zbq (zPs σ x (m - 1)) (zBs σ (m - 1)) (t + 1) = (zbq (zPs σ x (m - 1)) (zBs σ (m - 1)) t) from zif_f (fun h => hP h.1)] at hgo; exact J_weak (by repeat (first | exact zle_nil | apply zle_s | apply zle_n)) hgo) | (rw [show zbq (zPs σ x (m - 1)) (zBs σ (m - 1)) (t + 1) = (zbq (zPs σ x (m - 1)) (zBs σ (m - 1)) t) from zif_f (fun h => h.2.elim bq56 (znlt64 bq64))] at hgo; exact J_weak (by repeat (first | exact zle_nil | apply zle_s | apply zle_n)) hgo) | (rw [show zbq (zPs σ x (m - 1)) (zBs σ (m - 1)) (t + 1) = (zsv t, zBs σ (m - 1) t) from zif_t ⟨hP, Or.inl bq56⟩] at hgo; exact J_weak (by repeat (first | exact zle_nil | apply zle_s | apply zle_n)) hgo) | (rw [show zbq (zPs σ x (m - 1)) (zBs σ (m - 1)) (t + 1) = (zsv t, zBs σ (m - 1) t) from zif_t ⟨hP, Or.inr (znle64 bq64)⟩] at hgo; exact J_weak (by repeat (first | exact zle_nil | apply zle_s | apply zle_n)) hgo)
            · skip
              have hP := hr.t bq49
              refine J_iloadn_2 (pc := 52) hc dX4_best_52 ?_
              refine J_sipush (pc := 53) hc dX4_best_53 (v := 2000) (by decide) ?_
              refine J_icmp_eq (pc := 56) hc 68 dX4_best_56 (by decide) (fun bq56 => ?_) (fun bq56 => ?_)
              · skip
                refine J_iload_5 (pc := 68) hc dX4_best_68 ?_
                refine J_istoren_2 (pc := 70) hc dX4_best_70 rfl ?_
                refine J_aloadn_0 (pc := 71) hc dX4_best_71 ?_
                refine kX4_152 (pc := 72) hc hR dX4_best_72 (c_X4_bendOf (n := m - 1) rfl (by omega)) (by decide) (Nat.le_of_ble_eq_true rfl) rfl (fun r u hu => ?_)
                refine J_eq hu.2 (J_topl (y := zBs σ (m - 1) t) hu.1 ?_)
                refine J_lstoren_3 (pc := 75) hc dX4_best_75 rfl ?_
                refine J_iinc_5 (pc := 76) hc dX4_best_76 (zsv_s t) rfl ?_
                refine J_goto (pc := 79) hc 34 dX4_best_79 (by decide) ?_
                have hgo := ih34 _ (by omega) (t + 1) _ rfl (by omega) hfr2 hms2
                first | (rw [show zbq (zPs σ x (m - 1)) (zBs σ (m - 1)) (t + 1) = (zbq (zPs σ x (m - 1)) (zBs σ (m - 1)) t) from zif_f (fun h => hP h.1)] at hgo; exact J_weak (by repeat (first | exact zle_nil | apply zle_s | apply zle_n)) hgo) | (rw [show zbq (zPs σ x (m - 1)) (zBs σ (m - 1)) (t + 1) = (zbq (zPs σ x (m - 1)) (zBs σ (m - 1)) t) from zif_f (fun h => h.2.elim bq56 (znlt64 bq64))] at hgo; exact J_weak (by repeat (first | exact zle_nil | apply zle_s | apply zle_n)) hgo) | (rw [show zbq (zPs σ x (m - 1)) (zBs σ (m - 1)) (t + 1) = (zsv t, zBs σ (m - 1) t) from zif_t ⟨hP, Or.inl bq56⟩] at hgo; exact J_weak (by repeat (first | exact zle_nil | apply zle_s | apply zle_n)) hgo) | (rw [show zbq (zPs σ x (m - 1)) (zBs σ (m - 1)) (t + 1) = (zsv t, zBs σ (m - 1) t) from zif_t ⟨hP, Or.inr (znle64 bq64)⟩] at hgo; exact J_weak (by repeat (first | exact zle_nil | apply zle_s | apply zle_n)) hgo)
              · skip
                refine J_aloadn_0 (pc := 59) hc dX4_best_59 ?_
                refine kX4_152 (pc := 60) hc hR dX4_best_60 (c_X4_bendOf (n := m - 1) rfl (by omega)) (by decide) (Nat.le_of_ble_eq_true rfl) rfl (fun r u hu => ?_)
                refine J_eq hu.2 (J_topl (y := zBs σ (m - 1) t) hu.1 ?_)
                refine J_lloadn_3 (pc := 63) hc dX4_best_63 ?_
                refine J_lcmp_ge (pc := 64) hc 76 dX4_best_64 dX4_best_65 (by decide) (fun bq64 => ?_) (fun bq64 => ?_)
                · skip
                  refine J_iinc_5 (pc := 76) hc dX4_best_76 (zsv_s t) rfl ?_
                  refine J_goto (pc := 79) hc 34 dX4_best_79 (by decide) ?_
                  have hgo := ih34 _ (by omega) (t + 1) _ rfl (by omega) hfr2 hms2
                  first | (rw [show zbq (zPs σ x (m - 1)) (zBs σ (m - 1)) (t + 1) = (zbq (zPs σ x (m - 1)) (zBs σ (m - 1)) t) from zif_f (fun h => hP h.1)] at hgo; exact J_weak (by repeat (first | exact zle_nil | apply zle_s | apply zle_n)) hgo) | (rw [show zbq (zPs σ x (m - 1)) (zBs σ (m - 1)) (t + 1) = (zbq (zPs σ x (m - 1)) (zBs σ (m - 1)) t) from zif_f (fun h => h.2.elim bq56 (znlt64 bq64))] at hgo; exact J_weak (by repeat (first | exact zle_nil | apply zle_s | apply zle_n)) hgo) | (rw [show zbq (zPs σ x (m - 1)) (zBs σ (m - 1)) (t + 1) = (zsv t, zBs σ (m - 1) t) from zif_t ⟨hP, Or.inl bq56⟩] at hgo; exact J_weak (by repeat (first | exact zle_nil | apply zle_s | apply zle_n)) hgo) | (rw [show zbq (zPs σ x (m - 1)) (zBs σ (m - 1)) (t + 1) = (zsv t, zBs σ (m - 1) t) from zif_t ⟨hP, Or.inr (znle64 bq64)⟩] at hgo; exact J_weak (by repeat (first | exact zle_nil | apply zle_s | apply zle_n)) hgo)
                · skip
                  refine J_iload_5 (pc := 68) hc dX4_best_68 ?_
                  refine J_istoren_2 (pc := 70) hc dX4_best_70 rfl ?_
                  refine J_aloadn_0 (pc := 71) hc dX4_best_71 ?_
                  refine kX4_152 (pc := 72) hc hR dX4_best_72 (c_X4_bendOf (n := m - 1) rfl (by omega)) (by decide) (Nat.le_of_ble_eq_true rfl) rfl (fun r u hu => ?_)
                  refine J_eq hu.2 (J_topl (y := zBs σ (m - 1) t) hu.1 ?_)
                  refine J_lstoren_3 (pc := 75) hc dX4_best_75 rfl ?_
                  refine J_iinc_5 (pc := 76) hc dX4_best_76 (zsv_s t) rfl ?_
                  refine J_goto (pc := 79) hc 34 dX4_best_79 (by decide) ?_
                  have hgo := ih34 _ (by omega) (t + 1) _ rfl (by omega) hfr2 hms2
                  first | (rw [show zbq (zPs σ x (m - 1)) (zBs σ (m - 1)) (t + 1) = (zbq (zPs σ x (m - 1)) (zBs σ (m - 1)) t) from zif_f (fun h => hP h.1)] at hgo; exact J_weak (by repeat (first | exact zle_nil | apply zle_s | apply zle_n)) hgo) | (rw [show zbq (zPs σ x (m - 1)) (zBs σ (m - 1)) (t + 1) = (zbq (zPs σ x (m - 1)) (zBs σ (m - 1)) t) from zif_f (fun h => h.2.elim bq56 (znlt64 bq64))] at hgo; exact J_weak (by repeat (first | exact zle_nil | apply zle_s | apply zle_n)) hgo) | (rw [show zbq (zPs σ x (m - 1)) (zBs σ (m - 1)) (t + 1) = (zsv t, zBs σ (m - 1) t) from zif_t ⟨hP, Or.inl bq56⟩] at hgo; exact J_weak (by repeat (first | exact zle_nil | apply zle_s | apply zle_n)) hgo) | (rw [show zbq (zPs σ x (m - 1)) (zBs σ (m - 1)) (t + 1) = (zsv t, zBs σ (m - 1) t) from zif_t ⟨hP, Or.inr (znle64 bq64)⟩] at hgo; exact J_weak (by repeat (first | exact zle_nil | apply zle_s | apply zle_n)) hgo)
      exact J_weak (by repeat (first | exact zle_nil | apply zle_s | apply zle_n)) (hL34 _ 0 σ rfl (by omega) ⟨fun _ _ => rfl, fun _ => rfl, fun _ _ => rfl⟩ (fun _ => rfl))
    · skip
      rw [hm, show (2 : Int32) = nI 2 from rfl, nI_leI (by omega) (by omega)] at bq17
      refine nX4_63 (pc := 20) hc dX4_best_20 ?_
      exact J_iret (pc := 22) hc hI dX4_best_22 (Or.inl ⟨by first | exact (fun h => bq17 h.2) | exact (fun h => hn1 h.1), rfl, rfl⟩)
