def zfill {α : Type} (n : Nat) (f g : Nat → α) : Nat → α := fun i => if i < n then f i else g i
theorem zfill_0 {α : Type} (f g : Nat → α) : zfill 0 f g = g := by funext i; simp [zfill]
theorem zfill_in {α : Type} {n i : Nat} (f g : Nat → α) (h : i < n) : zfill n f g i = f i := if_pos h
theorem zfill_succ (f g : Nat → Int32) (i : Nat) : upd (zfill i f g) i (f i) = zfill (i + 1) f g := by
  funext j
  unfold upd zfill
  by_cases h : j = i
  · subst h; rw [if_pos rfl, if_pos (by omega)]
  · rw [if_neg h]
    by_cases h2 : j < i
    · rw [if_pos h2, if_pos (by omega)]
    · rw [if_neg h2, if_neg (by omega)]
theorem zfill_succL (f g : Nat → Int64) (i : Nat) : vp_updL (zfill i f g) i (f i) = zfill (i + 1) f g := by
  funext j
  unfold vp_updL zfill
  by_cases h : j = i
  · subst h; rw [if_pos rfl, if_pos (by omega)]
  · rw [if_neg h]
    by_cases h2 : j < i
    · rw [if_pos h2, if_pos (by omega)]
    · rw [if_neg h2, if_neg (by omega)]
/-- the three rows of curve k -/
def zc3 (σ : zS) (k : Nat) (A B C : Nat → Int32) : zS := (σ.1, σ.2.1, fun j => if j = k then A else if j = 7 + k then B else if j = 14 + k then C else σ.2.2.1 j, σ.2.2.2)
theorem si_zc3 (σ : zS) (k : Nat) (A B C : Nat → Int32) (j : Nat) : si (zc3 σ k A B C) j = si σ j := rfl
theorem sl_zc3 (σ : zS) (k : Nat) (A B C : Nat → Int32) (j : Nat) : sl (zc3 σ k A B C) j = sl σ j := rfl
theorem sm_zc3 (σ : zS) (k : Nat) (A B C : Nat → Int32) (j : Nat) : sm (zc3 σ k A B C) j = sm σ j := rfl
theorem sa_zc3_a (σ : zS) (k : Nat) (A B C : Nat → Int32) : sa (zc3 σ k A B C) k = A := if_pos rfl
theorem sa_zc3_b (σ : zS) (k : Nat) (A B C : Nat → Int32) : sa (zc3 σ k A B C) (7 + k) = B := by
  show (if 7 + k = k then A else if 7 + k = 7 + k then B else _) = B
  rw [if_neg (by omega), if_pos rfl]
theorem sa_zc3_c (σ : zS) (k : Nat) (A B C : Nat → Int32) : sa (zc3 σ k A B C) (14 + k) = C := by
  show (if 14 + k = k then A else if 14 + k = 7 + k then B else if 14 + k = 14 + k then C else _) = C
  rw [if_neg (by omega), if_neg (by omega), if_pos rfl]
theorem sa_zc3_n (σ : zS) (k : Nat) (A B C : Nat → Int32) {j : Nat} (h1 : ¬ j = k) (h2 : ¬ j = 7 + k) (h3 : ¬ j = 14 + k) : sa (zc3 σ k A B C) j = sa σ j := by
  show (if j = k then A else if j = 7 + k then B else if j = 14 + k then C else σ.2.2.1 j) = _
  rw [if_neg h1, if_neg h2, if_neg h3]; rfl
theorem zc3_zc3 (σ : zS) (k : Nat) (A B C A' B' C' : Nat → Int32) : zc3 (zc3 σ k A B C) k A' B' C' = zc3 σ k A' B' C' := by
  apply zS_ext <;> intro j <;> try rfl
  show (if j = k then A' else if j = 7 + k then B' else if j = 14 + k then C' else _) = (if j = k then A' else if j = 7 + k then B' else if j = 14 + k then C' else _)
  repeat' split
  all_goals first | rfl | (show (if j = k then A else if j = 7 + k then B else if j = 14 + k then C else _) = _; rw [if_neg (by omega), if_neg (by omega), if_neg (by omega)])
theorem zc3_self (σ : zS) (k : Nat) : zc3 σ k (sa σ k) (sa σ (7 + k)) (sa σ (14 + k)) = σ := by
  apply zS_ext <;> intro j <;> try rfl
  show (if j = k then sa σ k else if j = 7 + k then sa σ (7 + k) else if j = 14 + k then sa σ (14 + k) else _) = _
  repeat' split
  all_goals first | rfl | (subst_vars; rfl)
theorem zc3_eq {σ : zS} {k : Nat} {A B C A' B' C' : Nat → Int32} (h1 : A = A') (h2 : B = B') (h3 : C = C') : zc3 σ k A B C = zc3 σ k A' B' C' := by rw [h1, h2, h3]
theorem ua3 (σ : zS) (k : Nat) (A B C : Nat → Int32) : ua (ua (ua σ k A) (7 + k) B) (14 + k) C = zc3 σ k A B C := by
  apply zS_ext <;> intro j <;> try rfl
  rw [sa_ua, sa_ua, sa_ua]
  show _ = (if j = k then A else if j = 7 + k then B else if j = 14 + k then C else _)
  repeat' split
  all_goals first | rfl | omega
theorem zge {x y : Int32} {i n : Nat} (hx : x = nI i) (hy : y = nI n) (hi : i < 2 ^ 31) (hn : n < 2 ^ 31) : y ≤ x ↔ n ≤ i := by
  subst hx; subst hy; exact nI_leI hn hi
/-- what a curve is at the end of a piece; how it is joined -/
def zva (σ : zS) (k i : Nat) : Int32 := sa σ k i + sa σ (7 + k) i + sa σ (14 + k) i
def zsl (σ : zS) (k i : Nat) : Int32 := sa σ (7 + k) i + 2 * sa σ (14 + k) i
def zjn (σ : zS) (k i : Nat) : Int32 := if zva σ k (i - 1) = sa σ k i then (if zsl σ k (i - 1) = sa σ (7 + k) i then (if sa σ (14 + k) (i - 1) = sa σ (14 + k) i then 2 else 1) else 0) else -1
/-- how many of the first n numbers -/
def zct (p : Nat → Prop) [DecidablePred p] : Nat → Nat
  | 0 => 0
  | n + 1 => zct p n + (if p n then 1 else 0)
theorem zct_le (p : Nat → Prop) [DecidablePred p] : ∀ n, zct p n ≤ n
  | 0 => Nat.le_refl 0
  | n + 1 => by have := zct_le p n; unfold zct; split <;> omega
set_option maxRecDepth 100000 in
set_option maxHeartbeats 4000000 in
theorem c_X0_put {l : Launch} {gg : zG} {σ : zS} {k i : Nat} {x A B C : Int32} (hk : k < 7) (hx : x = nI i) (hi : i < 16) : zMv l gg yX0_put cX0_put 5 0 0 [.ref (zc gg k), .int x, .int A, .int B, .int C] σ (fun u => u = zc3 σ k (upd (sa σ k) i A) (upd (sa σ (7 + k)) i B) (upd (sa σ (14 + k)) i C)) := by
  refine zM_v (own := RX0) (lv := [some (.ref (zc gg k)), some (.int x), some (.int A), some (.int B), some (.int C)]) (by decide +kernel) rfl (Nat.le_of_ble_eq_true rfl) rfl (fun cx hc hR hI => ?_)
  refine J_aloadn_0 (pc := 0) hc dX0_put_0 ?_
  refine gX0_9 (pc := 1) hc (by omega) dX0_put_1 ?_
  refine J_iloadn_1 (pc := 4) hc dX0_put_4 ?_
  refine J_iloadn_2 (pc := 5) hc dX0_put_5 ?_
  refine J_iast (pc := 6) hc 16 (by omega) (zlen_c (by omega)) dX0_put_6 (by first | exact rfl | exact z16 _ _ | exact nI_1 _ | exact zm1 (by omega) | assumption) (by omega) ?_
  refine J_aloadn_0 (pc := 7) hc dX0_put_7 ?_
  refine gX0_15 (pc := 8) hc (by omega) dX0_put_8 ?_
  refine J_iloadn_1 (pc := 11) hc dX0_put_11 ?_
  refine J_iloadn_3 (pc := 12) hc dX0_put_12 ?_
  refine J_iast (pc := 13) hc 16 (by omega) (zlen_c (by omega)) dX0_put_13 (by first | exact rfl | exact z16 _ _ | exact nI_1 _ | exact zm1 (by omega) | assumption) (by omega) ?_
  refine J_aloadn_0 (pc := 14) hc dX0_put_14 ?_
  refine gX0_18 (pc := 15) hc (by omega) dX0_put_15 ?_
  refine J_iloadn_1 (pc := 18) hc dX0_put_18 ?_
  refine J_iload_4 (pc := 19) hc dX0_put_19 ?_
  refine J_iast (pc := 21) hc 16 (by omega) (zlen_c (by omega)) dX0_put_21 (by first | exact rfl | exact z16 _ _ | exact nI_1 _ | exact zm1 (by omega) | assumption) (by omega) ?_
  exact J_vret (pc := 22) hc hI dX0_put_22 (by rw [ua3, sa_ua_n _ _ _ _ (by omega), sa_ua_n _ _ _ _ (by omega), sa_ua_n _ _ _ _ (by omega)])
set_option maxRecDepth 100000 in
set_option maxHeartbeats 4000000 in
theorem c_X0_valueAtEnd {l : Launch} {gg : zG} {σ : zS} {k i : Nat} {x : Int32} (hk : k < 7) (hx : x = nI i) (hi : i < 16) : zMi l gg yX0_valueAtEnd cX0_valueAtEnd .int 2 0 0 [.ref (zc gg k), .int x] σ (fun r u => r = zva σ k i ∧ u = σ) := by
  refine zM_i (own := RX0) (lv := [some (.ref (zc gg k)), some (.int x)]) (by decide +kernel) rfl (Nat.le_of_ble_eq_true rfl) rfl (fun cx hc hR hI => ?_)
  refine J_aloadn_0 (pc := 0) hc dX0_valueAtEnd_0 ?_
  refine gX0_9 (pc := 1) hc (by omega) dX0_valueAtEnd_1 ?_
  refine J_iloadn_1 (pc := 4) hc dX0_valueAtEnd_4 ?_
  refine J_iald (pc := 5) hc 16 (by omega) (zlen_c (by omega)) dX0_valueAtEnd_5 (by first | exact rfl | exact z16 _ _ | exact nI_1 _ | exact zm1 (by omega) | assumption) (by omega) ?_
  refine J_aloadn_0 (pc := 6) hc dX0_valueAtEnd_6 ?_
  refine gX0_15 (pc := 7) hc (by omega) dX0_valueAtEnd_7 ?_
  refine J_iloadn_1 (pc := 10) hc dX0_valueAtEnd_10 ?_
  refine J_iald (pc := 11) hc 16 (by omega) (zlen_c (by omega)) dX0_valueAtEnd_11 (by first | exact rfl | exact z16 _ _ | exact nI_1 _ | exact zm1 (by omega) | assumption) (by omega) ?_
  refine J_iadd (pc := 12) hc dX0_valueAtEnd_12 ?_
  refine J_aloadn_0 (pc := 13) hc dX0_valueAtEnd_13 ?_
  refine gX0_18 (pc := 14) hc (by omega) dX0_valueAtEnd_14 ?_
  refine J_iloadn_1 (pc := 17) hc dX0_valueAtEnd_17 ?_
  refine J_iald (pc := 18) hc 16 (by omega) (zlen_c (by omega)) dX0_valueAtEnd_18 (by first | exact rfl | exact z16 _ _ | exact nI_1 _ | exact zm1 (by omega) | assumption) (by omega) ?_
  refine J_iadd (pc := 19) hc dX0_valueAtEnd_19 ?_
  exact J_iret (pc := 20) hc hI dX0_valueAtEnd_20 ⟨rfl, rfl⟩
set_option maxRecDepth 100000 in
set_option maxHeartbeats 4000000 in
theorem c_X0_slopeAtEnd {l : Launch} {gg : zG} {σ : zS} {k i : Nat} {x : Int32} (hk : k < 7) (hx : x = nI i) (hi : i < 16) : zMi l gg yX0_slopeAtEnd cX0_slopeAtEnd .int 2 0 0 [.ref (zc gg k), .int x] σ (fun r u => r = zsl σ k i ∧ u = σ) := by
  refine zM_i (own := RX0) (lv := [some (.ref (zc gg k)), some (.int x)]) (by decide +kernel) rfl (Nat.le_of_ble_eq_true rfl) rfl (fun cx hc hR hI => ?_)
  refine J_aloadn_0 (pc := 0) hc dX0_slopeAtEnd_0 ?_
  refine gX0_15 (pc := 1) hc (by omega) dX0_slopeAtEnd_1 ?_
  refine J_iloadn_1 (pc := 4) hc dX0_slopeAtEnd_4 ?_
  refine J_iald (pc := 5) hc 16 (by omega) (zlen_c (by omega)) dX0_slopeAtEnd_5 (by first | exact rfl | exact z16 _ _ | exact nI_1 _ | exact zm1 (by omega) | assumption) (by omega) ?_
  refine J_iconst (pc := 6) hc dX0_slopeAtEnd_6 (v := 2) (by decide) ?_
  refine J_aloadn_0 (pc := 7) hc dX0_slopeAtEnd_7 ?_
  refine gX0_18 (pc := 8) hc (by omega) dX0_slopeAtEnd_8 ?_
  refine J_iloadn_1 (pc := 11) hc dX0_slopeAtEnd_11 ?_
  refine J_iald (pc := 12) hc 16 (by omega) (zlen_c (by omega)) dX0_slopeAtEnd_12 (by first | exact rfl | exact z16 _ _ | exact nI_1 _ | exact zm1 (by omega) | assumption) (by omega) ?_
  refine J_imul (pc := 13) hc dX0_slopeAtEnd_13 ?_
  refine J_iadd (pc := 14) hc dX0_slopeAtEnd_14 ?_
  exact J_iret (pc := 15) hc hI dX0_slopeAtEnd_15 ⟨rfl, rfl⟩
set_option maxRecDepth 100000 in
set_option maxHeartbeats 4000000 in
theorem c_X0_joinAt {l : Launch} {gg : zG} {σ : zS} {k i : Nat} {x : Int32} (hk : k < 7) (hx : x = nI i) (h0 : 0 < i) (hi : i < 16) : zMi l gg yX0_joinAt cX0_joinAt .int 3 1 21 [.ref (zc gg k), .int x] σ (fun r u => r = zjn σ k i ∧ u = σ) := by
  subst hx
  refine zM_i (own := RX0) (lv := [some (.ref (zc gg k)), some (.int (nI i)), none]) (by decide +kernel) rfl (Nat.le_of_ble_eq_true rfl) rfl (fun cx hc hR hI => ?_)
  refine J_iloadn_1 (pc := 0) hc dX0_joinAt_0 ?_
  refine J_iconst (pc := 1) hc dX0_joinAt_1 (v := 1) (by decide) ?_
  refine J_isub (pc := 2) hc dX0_joinAt_2 ?_
  refine J_topi (zm1 h0) ?_
  refine J_istoren_2 (pc := 3) hc dX0_joinAt_3 rfl ?_
  refine J_aloadn_0 (pc := 4) hc dX0_joinAt_4 ?_
  refine J_iloadn_2 (pc := 5) hc dX0_joinAt_5 ?_
  refine kX0_40 (pc := 6) hc hR (by omega) dX0_joinAt_6 (c_X0_valueAtEnd (by omega) (by first | rfl | assumption) (by omega)) (by decide) (Nat.le_of_ble_eq_true rfl) rfl (fun r u hu => ?_)
  refine J_eq hu.2 (J_topi hu.1 ?_)
  refine J_aloadn_0 (pc := 9) hc dX0_joinAt_9 ?_
  refine gX0_9 (pc := 10) hc (by omega) dX0_joinAt_10 ?_
  refine J_iloadn_1 (pc := 13) hc dX0_joinAt_13 ?_
  refine J_iald (pc := 14) hc 16 (by omega) (zlen_c (by omega)) dX0_joinAt_14 (by first | exact rfl | exact z16 _ _ | exact nI_1 _ | exact zm1 (by omega) | assumption) (by omega) ?_
  refine J_icmp_eq (pc := 15) hc 20 dX0_joinAt_15 (by decide) (fun bq15 => ?_) (fun bq15 => ?_)
  · skip
    refine J_aloadn_0 (pc := 20) hc dX0_joinAt_20 ?_
    refine J_iloadn_2 (pc := 21) hc dX0_joinAt_21 ?_
    refine kX0_44 (pc := 22) hc hR (by omega) dX0_joinAt_22 (c_X0_slopeAtEnd (by omega) (by first | rfl | assumption) (by omega)) (by decide) (Nat.le_of_ble_eq_true rfl) rfl (fun r u hu => ?_)
    refine J_eq hu.2 (J_topi hu.1 ?_)
    refine J_aloadn_0 (pc := 25) hc dX0_joinAt_25 ?_
    refine gX0_15 (pc := 26) hc (by omega) dX0_joinAt_26 ?_
    refine J_iloadn_1 (pc := 29) hc dX0_joinAt_29 ?_
    refine J_iald (pc := 30) hc 16 (by omega) (zlen_c (by omega)) dX0_joinAt_30 (by first | exact rfl | exact z16 _ _ | exact nI_1 _ | exact zm1 (by omega) | assumption) (by omega) ?_
    refine J_icmp_eq (pc := 31) hc 36 dX0_joinAt_31 (by decide) (fun bq31 => ?_) (fun bq31 => ?_)
    · skip
      refine J_aloadn_0 (pc := 36) hc dX0_joinAt_36 ?_
      refine gX0_18 (pc := 37) hc (by omega) dX0_joinAt_37 ?_
      refine J_iloadn_2 (pc := 40) hc dX0_joinAt_40 ?_
      refine J_iald (pc := 41) hc 16 (by omega) (zlen_c (by omega)) dX0_joinAt_41 (by first | exact rfl | exact z16 _ _ | exact nI_1 _ | exact zm1 (by omega) | assumption) (by omega) ?_
      refine J_aloadn_0 (pc := 42) hc dX0_joinAt_42 ?_
      refine gX0_18 (pc := 43) hc (by omega) dX0_joinAt_43 ?_
      refine J_iloadn_1 (pc := 46) hc dX0_joinAt_46 ?_
      refine J_iald (pc := 47) hc 16 (by omega) (zlen_c (by omega)) dX0_joinAt_47 (by first | exact rfl | exact z16 _ _ | exact nI_1 _ | exact zm1 (by omega) | assumption) (by omega) ?_
      refine J_icmp_eq (pc := 48) hc 55 dX0_joinAt_48 (by decide) (fun bq48 => ?_) (fun bq48 => ?_)
      · skip
        refine J_iconst (pc := 55) hc dX0_joinAt_55 (v := 2) (by decide) ?_
        exact J_iret (pc := 56) hc hI dX0_joinAt_56 (by first | exact ⟨by unfold zjn; rw [if_pos bq15, if_pos bq31, if_pos bq48], rfl⟩ | exact ⟨by unfold zjn; rw [if_pos bq15, if_pos bq31, if_neg bq48], rfl⟩)
      · skip
        refine J_iconst (pc := 51) hc dX0_joinAt_51 (v := 1) (by decide) ?_
        refine J_goto (pc := 52) hc 56 dX0_joinAt_52 (by decide) ?_
        exact J_iret (pc := 56) hc hI dX0_joinAt_56 (by first | exact ⟨by unfold zjn; rw [if_pos bq15, if_pos bq31, if_pos bq48], rfl⟩ | exact ⟨by unfold zjn; rw [if_pos bq15, if_pos bq31, if_neg bq48], rfl⟩)
    · skip
      refine J_iconst (pc := 34) hc dX0_joinAt_34 (v := 0) (by decide) ?_
      exact J_iret (pc := 35) hc hI dX0_joinAt_35 ⟨by unfold zjn; rw [if_pos bq15, if_neg bq31], rfl⟩
  · skip
    refine J_iconst (pc := 18) hc dX0_joinAt_18 (v := -1) (by decide) ?_
    exact J_iret (pc := 19) hc hI dX0_joinAt_19 ⟨(if_neg bq15).symm, rfl⟩
set_option maxRecDepth 100000 in
set_option maxHeartbeats 4000000 in
theorem c_X0_becomeZero {l : Launch} {gg : zG} {σ : zS} {k n : Nat} {x : Int32} (hk : k < 7) (hx : x = nI n) (hn : n ≤ 16) : zMv l gg yX0_becomeZero cX0_becomeZero 3 1 24 [.ref (zc gg k), .int x] σ (fun u => u = (zc3 (ui σ k (nI n)) k (zfill n (fun _ => 0) (sa σ k)) (zfill n (fun _ => 0) (sa σ (7 + k))) (zfill n (fun _ => 0) (sa σ (14 + k))))) := by
  subst hx
  refine zM_v (own := RX0) (lv := [some (.ref (zc gg k)), some (.int (nI n)), none]) (by decide +kernel) rfl (Nat.le_of_ble_eq_true rfl) rfl (fun cx hc hR hI => ?_)
  refine J_aloadn_0 (pc := 0) hc dX0_becomeZero_0 ?_
  refine J_iloadn_1 (pc := 1) hc dX0_becomeZero_1 ?_
  refine pX0_21 (pc := 2) hc (by omega) dX0_becomeZero_2 ?_
  refine J_iconst (pc := 5) hc dX0_becomeZero_5 (v := 0) (by decide) ?_
  refine J_istoren_2 (pc := 6) hc dX0_becomeZero_6 rfl ?_
  have hL7 : ∀ (μ : Nat) (i : Nat), n - i = μ → i ≤ n → J cx gg (zQv cx gg (fun u => u = (zc3 (ui σ k (nI n)) k (zfill n (fun _ => 0) (sa σ k)) (zfill n (fun _ => 0) (sa σ (7 + k))) (zfill n (fun _ => 0) (sa σ (14 + k)))))) (zc3 (ui σ k (nI n)) k (zfill i (fun _ => 0) (sa σ k)) (zfill i (fun _ => 0) (sa σ (7 + k))) (zfill i (fun _ => 0) (sa σ (14 + k)))) 7 [some (.ref (zc gg k)), some (.int (nI n)), some (.int (nI i))] [] := by
    intro μ
    induction μ using Nat.strongRecOn with
    | ind μ ih7 =>
      intro i hμ hi
      refine J_iloadn_2 (pc := 7) hc dX0_becomeZero_7 ?_
      refine J_aloadn_0 (pc := 8) hc dX0_becomeZero_8 ?_
      refine gX0_21 (pc := 9) hc (by omega) dX0_becomeZero_9 ?_
      refine J_icmp_ge (pc := 12) hc 29 dX0_becomeZero_12 (by decide) (fun bq12 => ?_) (fun bq12 => ?_)
      · skip
        have bq12 := (zge rfl (by rw [si_zc3, si_ui_s]) (by omega) (by omega)).mp bq12
        exact J_vret (pc := 29) hc hI dX0_becomeZero_29 (by rw [show i = n by omega])
      · skip
        have bq12 := mt (zge rfl (by rw [si_zc3, si_ui_s]) (by omega) (by omega)).mpr bq12
        refine J_aloadn_0 (pc := 15) hc dX0_becomeZero_15 ?_
        refine J_iloadn_2 (pc := 16) hc dX0_becomeZero_16 ?_
        refine J_iconst (pc := 17) hc dX0_becomeZero_17 (v := 0) (by decide) ?_
        refine J_iconst (pc := 18) hc dX0_becomeZero_18 (v := 0) (by decide) ?_
        refine J_iconst (pc := 19) hc dX0_becomeZero_19 (v := 0) (by decide) ?_
        refine kX0_25 (pc := 20) hc hR (by omega) dX0_becomeZero_20 (c_X0_put (by omega) (by first | rfl | assumption) (by omega)) (by decide) (Nat.le_of_ble_eq_true rfl) rfl (fun u hu => ?_)
        refine J_eq hu ?_
        refine J_iinc_2 (pc := 23) hc dX0_becomeZero_23 (by first | exact nI_1 _ | exact rfl) rfl ?_
        refine J_goto (pc := 26) hc 7 dX0_becomeZero_26 (by decide) ?_
        exact J_weak (by repeat (first | exact zle_nil | apply zle_s | apply zle_n)) (J_eq (by rw [sa_zc3_a, sa_zc3_b, sa_zc3_c, zc3_zc3]; exact zc3_eq (zfill_succ _ _ _) (zfill_succ _ _ _) (zfill_succ _ _ _)) (ih7 _ (by omega) (i + 1) rfl (by omega)))
  exact J_weak (by repeat (first | exact zle_nil | apply zle_s | apply zle_n)) (J_eq (by rw [zfill_0, zfill_0, zfill_0]; exact (zc3_self (ui σ k (nI n)) k).symm) (hL7 _ 0 rfl (by omega)))
set_option maxRecDepth 100000 in
set_option maxHeartbeats 4000000 in
theorem c_X0_becomeCopy {l : Launch} {gg : zG} {σ : zS} {k j n : Nat} (hk : k < 7) (hj : j < 7) (hkj : ¬ k = j) (hs : si σ j = nI n) (hn : n ≤ 16) : zMv l gg yX0_becomeCopy cX0_becomeCopy 3 1 24 [.ref (zc gg k), .ref (zc gg j)] σ (fun u => u = (zc3 (ui σ k (nI n)) k (zfill n (sa σ j) (sa σ k)) (zfill n (sa σ (7 + j)) (sa σ (7 + k))) (zfill n (sa σ (14 + j)) (sa σ (14 + k))))) := by
  refine zM_v (own := RX0) (lv := [some (.ref (zc gg k)), some (.ref (zc gg j)), none]) (by decide +kernel) rfl (Nat.le_of_ble_eq_true rfl) rfl (fun cx hc hR hI => ?_)
  refine J_aloadn_0 (pc := 0) hc dX0_becomeCopy_0 ?_
  refine J_aloadn_1 (pc := 1) hc dX0_becomeCopy_1 ?_
  refine gX0_21 (pc := 2) hc (by omega) dX0_becomeCopy_2 ?_
  refine J_topi hs ?_
  refine pX0_21 (pc := 5) hc (by omega) dX0_becomeCopy_5 ?_
  refine J_iconst (pc := 8) hc dX0_becomeCopy_8 (v := 0) (by decide) ?_
  refine J_istoren_2 (pc := 9) hc dX0_becomeCopy_9 rfl ?_
  have hL10 : ∀ (μ : Nat) (i : Nat), n - i = μ → i ≤ n → J cx gg (zQv cx gg (fun u => u = (zc3 (ui σ k (nI n)) k (zfill n (sa σ j) (sa σ k)) (zfill n (sa σ (7 + j)) (sa σ (7 + k))) (zfill n (sa σ (14 + j)) (sa σ (14 + k)))))) (zc3 (ui σ k (nI n)) k (zfill i (sa σ j) (sa σ k)) (zfill i (sa σ (7 + j)) (sa σ (7 + k))) (zfill i (sa σ (14 + j)) (sa σ (14 + k)))) 10 [some (.ref (zc gg k)), some (.ref (zc gg j)), some (.int (nI i))] [] := by
    intro μ
    induction μ using Nat.strongRecOn with
    | ind μ ih10 =>
      intro i hμ hi
      refine J_iloadn_2 (pc := 10) hc dX0_becomeCopy_10 ?_
      refine J_aloadn_0 (pc := 11) hc dX0_becomeCopy_11 ?_
      refine gX0_21 (pc := 12) hc (by omega) dX0_becomeCopy_12 ?_
      refine J_icmp_ge (pc := 15) hc 47 dX0_becomeCopy_15 (by decide) (fun bq15 => ?_) (fun bq15 => ?_)
      · skip
        have bq15 := (zge rfl (by rw [si_zc3, si_ui_s]) (by omega) (by omega)).mp bq15
        exact J_vret (pc := 47) hc hI dX0_becomeCopy_47 (by rw [show i = n by omega])
      · skip
        have bq15 := mt (zge rfl (by rw [si_zc3, si_ui_s]) (by omega) (by omega)).mpr bq15
        refine J_aloadn_0 (pc := 18) hc dX0_becomeCopy_18 ?_
        refine J_iloadn_2 (pc := 19) hc dX0_becomeCopy_19 ?_
        refine J_aloadn_1 (pc := 20) hc dX0_becomeCopy_20 ?_
        refine gX0_9 (pc := 21) hc (by omega) dX0_becomeCopy_21 ?_
        refine J_iloadn_2 (pc := 24) hc dX0_becomeCopy_24 ?_
        refine J_iald (pc := 25) hc 16 (by omega) (zlen_c (by omega)) dX0_becomeCopy_25 (by first | exact rfl | exact z16 _ _ | exact nI_1 _ | exact zm1 (by omega) | assumption) (by omega) ?_
        refine J_aloadn_1 (pc := 26) hc dX0_becomeCopy_26 ?_
        refine gX0_15 (pc := 27) hc (by omega) dX0_becomeCopy_27 ?_
        refine J_iloadn_2 (pc := 30) hc dX0_becomeCopy_30 ?_
        refine J_iald (pc := 31) hc 16 (by omega) (zlen_c (by omega)) dX0_becomeCopy_31 (by first | exact rfl | exact z16 _ _ | exact nI_1 _ | exact zm1 (by omega) | assumption) (by omega) ?_
        refine J_aloadn_1 (pc := 32) hc dX0_becomeCopy_32 ?_
        refine gX0_18 (pc := 33) hc (by omega) dX0_becomeCopy_33 ?_
        refine J_iloadn_2 (pc := 36) hc dX0_becomeCopy_36 ?_
        refine J_iald (pc := 37) hc 16 (by omega) (zlen_c (by omega)) dX0_becomeCopy_37 (by first | exact rfl | exact z16 _ _ | exact nI_1 _ | exact zm1 (by omega) | assumption) (by omega) ?_
        refine kX0_25 (pc := 38) hc hR (by omega) dX0_becomeCopy_38 (c_X0_put (by omega) (by first | rfl | assumption) (by omega)) (by decide) (Nat.le_of_ble_eq_true rfl) rfl (fun u hu => ?_)
        refine J_eq hu ?_
        refine J_iinc_2 (pc := 41) hc dX0_becomeCopy_41 (by first | exact nI_1 _ | exact rfl) rfl ?_
        refine J_goto (pc := 44) hc 10 dX0_becomeCopy_44 (by decide) ?_
        exact J_weak (by repeat (first | exact zle_nil | apply zle_s | apply zle_n)) (J_eq (by rw [sa_zc3_a, sa_zc3_b, sa_zc3_c, sa_zc3_n _ _ _ _ _ (by omega) (by omega) (by omega), sa_zc3_n _ _ _ _ _ (by omega) (by omega) (by omega), sa_zc3_n _ _ _ _ _ (by omega) (by omega) (by omega), zc3_zc3]; exact zc3_eq (zfill_succ _ _ _) (zfill_succ _ _ _) (zfill_succ _ _ _)) (ih10 _ (by omega) (i + 1) rfl (by omega)))
  exact J_weak (by repeat (first | exact zle_nil | apply zle_s | apply zle_n)) (J_eq (by rw [zfill_0, zfill_0, zfill_0]; exact (zc3_self (ui σ k (nI n)) k).symm) (hL10 _ 0 rfl (by omega)))
set_option maxRecDepth 100000 in
set_option maxHeartbeats 4000000 in
theorem c_X0_becomeSum {l : Launch} {gg : zG} {σ : zS} {f h n : Nat} {p q : Int32} (hf : f < 6) (hh : h < 6) (hs : si σ f = nI n) (hs2 : si σ h = nI n) (hn : n ≤ 16) : zMv l gg yX0_becomeSum cX0_becomeSum 6 1 24 [.ref (zc gg 6), .ref (zc gg f), .int p, .ref (zc gg h), .int q] σ (fun u => u = (zc3 (ui σ 6 (nI n)) 6 (zfill n (fun i => p * sa σ f i + q * sa σ h i) (sa σ 6)) (zfill n (fun i => p * sa σ (7 + f) i + q * sa σ (7 + h) i) (sa σ (7 + 6))) (zfill n (fun i => p * sa σ (14 + f) i + q * sa σ (14 + h) i) (sa σ (14 + 6))))) := by
  refine zM_v (own := RX0) (lv := [some (.ref (zc gg 6)), some (.ref (zc gg f)), some (.int p), some (.ref (zc gg h)), some (.int q), none]) (by decide +kernel) rfl (Nat.le_of_ble_eq_true rfl) rfl (fun cx hc hR hI => ?_)
  refine J_aloadn_0 (pc := 0) hc dX0_becomeSum_0 ?_
  refine J_aloadn_1 (pc := 1) hc dX0_becomeSum_1 ?_
  refine gX0_21 (pc := 2) hc (by omega) dX0_becomeSum_2 ?_
  refine J_aloadn_3 (pc := 5) hc dX0_becomeSum_5 ?_
  refine gX0_21 (pc := 6) hc (by omega) dX0_becomeSum_6 ?_
  refine kX0_29 (pc := 9) hc hR dX0_becomeSum_9 (c_J9_min_7cf53) (by decide) (Nat.le_of_ble_eq_true rfl) rfl (fun r u hu => ?_)
  refine J_eq hu.2 (J_topi hu.1 ?_)
  refine J_topi (y := nI n) (by rw [hs, hs2, if_neg Int32.lt_irrefl]) ?_
  refine pX0_21 (pc := 12) hc (by omega) dX0_becomeSum_12 ?_
  refine J_iconst (pc := 15) hc dX0_becomeSum_15 (v := 0) (by decide) ?_
  refine J_istore_5 (pc := 16) hc dX0_becomeSum_16 rfl ?_
  have hL18 : ∀ (μ : Nat) (i : Nat), n - i = μ → i ≤ n → J cx gg (zQv cx gg (fun u => u = (zc3 (ui σ 6 (nI n)) 6 (zfill n (fun i => p * sa σ f i + q * sa σ h i) (sa σ 6)) (zfill n (fun i => p * sa σ (7 + f) i + q * sa σ (7 + h) i) (sa σ (7 + 6))) (zfill n (fun i => p * sa σ (14 + f) i + q * sa σ (14 + h) i) (sa σ (14 + 6)))))) (zc3 (ui σ 6 (nI n)) 6 (zfill i (fun i => p * sa σ f i + q * sa σ h i) (sa σ 6)) (zfill i (fun i => p * sa σ (7 + f) i + q * sa σ (7 + h) i) (sa σ (7 + 6))) (zfill i (fun i => p * sa σ (14 + f) i + q * sa σ (14 + h) i) (sa σ (14 + 6)))) 18 [some (.ref (zc gg 6)), some (.ref (zc gg f)), some (.int p), some (.ref (zc gg h)), some (.int q), some (.int (nI i))] [] := by
    intro μ
    induction μ using Nat.strongRecOn with
    | ind μ ih18 =>
      intro i hμ hi
      refine J_iload_5 (pc := 18) hc dX0_becomeSum_18 ?_
      refine J_aloadn_0 (pc := 20) hc dX0_becomeSum_20 ?_
      refine gX0_21 (pc := 21) hc (by omega) dX0_becomeSum_21 ?_
      refine J_icmp_ge (pc := 24) hc 99 dX0_becomeSum_24 (by decide) (fun bq24 => ?_) (fun bq24 => ?_)
      · skip
        have bq24 := (zge rfl (by rw [si_zc3, si_ui_s]) (by omega) (by omega)).mp bq24
        exact J_vret (pc := 99) hc hI dX0_becomeSum_99 (by rw [show i = n by omega])
      · skip
        have bq24 := mt (zge rfl (by rw [si_zc3, si_ui_s]) (by omega) (by omega)).mpr bq24
        refine J_aloadn_0 (pc := 27) hc dX0_becomeSum_27 ?_
        refine J_iload_5 (pc := 28) hc dX0_becomeSum_28 ?_
        refine J_iloadn_2 (pc := 30) hc dX0_becomeSum_30 ?_
        refine J_aloadn_1 (pc := 31) hc dX0_becomeSum_31 ?_
        refine gX0_9 (pc := 32) hc (by omega) dX0_becomeSum_32 ?_
        refine J_iload_5 (pc := 35) hc dX0_becomeSum_35 ?_
        refine J_iald (pc := 37) hc 16 (by omega) (zlen_c (by omega)) dX0_becomeSum_37 (by first | exact rfl | exact z16 _ _ | exact nI_1 _ | exact zm1 (by omega) | assumption) (by omega) ?_
        refine J_imul (pc := 38) hc dX0_becomeSum_38 ?_
        refine J_iload_4 (pc := 39) hc dX0_becomeSum_39 ?_
        refine J_aloadn_3 (pc := 41) hc dX0_becomeSum_41 ?_
        refine gX0_9 (pc := 42) hc (by omega) dX0_becomeSum_42 ?_
        refine J_iload_5 (pc := 45) hc dX0_becomeSum_45 ?_
        refine J_iald (pc := 47) hc 16 (by omega) (zlen_c (by omega)) dX0_becomeSum_47 (by first | exact rfl | exact z16 _ _ | exact nI_1 _ | exact zm1 (by omega) | assumption) (by omega) ?_
        refine J_imul (pc := 48) hc dX0_becomeSum_48 ?_
        refine J_iadd (pc := 49) hc dX0_becomeSum_49 ?_
        refine J_iloadn_2 (pc := 50) hc dX0_becomeSum_50 ?_
        refine J_aloadn_1 (pc := 51) hc dX0_becomeSum_51 ?_
        refine gX0_15 (pc := 52) hc (by omega) dX0_becomeSum_52 ?_
        refine J_iload_5 (pc := 55) hc dX0_becomeSum_55 ?_
        refine J_iald (pc := 57) hc 16 (by omega) (zlen_c (by omega)) dX0_becomeSum_57 (by first | exact rfl | exact z16 _ _ | exact nI_1 _ | exact zm1 (by omega) | assumption) (by omega) ?_
        refine J_imul (pc := 58) hc dX0_becomeSum_58 ?_
        refine J_iload_4 (pc := 59) hc dX0_becomeSum_59 ?_
        refine J_aloadn_3 (pc := 61) hc dX0_becomeSum_61 ?_
        refine gX0_15 (pc := 62) hc (by omega) dX0_becomeSum_62 ?_
        refine J_iload_5 (pc := 65) hc dX0_becomeSum_65 ?_
        refine J_iald (pc := 67) hc 16 (by omega) (zlen_c (by omega)) dX0_becomeSum_67 (by first | exact rfl | exact z16 _ _ | exact nI_1 _ | exact zm1 (by omega) | assumption) (by omega) ?_
        refine J_imul (pc := 68) hc dX0_becomeSum_68 ?_
        refine J_iadd (pc := 69) hc dX0_becomeSum_69 ?_
        refine J_iloadn_2 (pc := 70) hc dX0_becomeSum_70 ?_
        refine J_aloadn_1 (pc := 71) hc dX0_becomeSum_71 ?_
        refine gX0_18 (pc := 72) hc (by omega) dX0_becomeSum_72 ?_
        refine J_iload_5 (pc := 75) hc dX0_becomeSum_75 ?_
        refine J_iald (pc := 77) hc 16 (by omega) (zlen_c (by omega)) dX0_becomeSum_77 (by first | exact rfl | exact z16 _ _ | exact nI_1 _ | exact zm1 (by omega) | assumption) (by omega) ?_
        refine J_imul (pc := 78) hc dX0_becomeSum_78 ?_
        refine J_iload_4 (pc := 79) hc dX0_becomeSum_79 ?_
        refine J_aloadn_3 (pc := 81) hc dX0_becomeSum_81 ?_
        refine gX0_18 (pc := 82) hc (by omega) dX0_becomeSum_82 ?_
        refine J_iload_5 (pc := 85) hc dX0_becomeSum_85 ?_
        refine J_iald (pc := 87) hc 16 (by omega) (zlen_c (by omega)) dX0_becomeSum_87 (by first | exact rfl | exact z16 _ _ | exact nI_1 _ | exact zm1 (by omega) | assumption) (by omega) ?_
        refine J_imul (pc := 88) hc dX0_becomeSum_88 ?_
        refine J_iadd (pc := 89) hc dX0_becomeSum_89 ?_
        refine kX0_25 (pc := 90) hc hR (by omega) dX0_becomeSum_90 (c_X0_put (by omega) (by first | rfl | assumption) (by omega)) (by decide) (Nat.le_of_ble_eq_true rfl) rfl (fun u hu => ?_)
        refine J_eq hu ?_
        refine J_iinc_5 (pc := 93) hc dX0_becomeSum_93 (by first | exact nI_1 _ | exact rfl) rfl ?_
        refine J_goto (pc := 96) hc 18 dX0_becomeSum_96 (by decide) ?_
        exact J_weak (by repeat (first | exact zle_nil | apply zle_s | apply zle_n)) (J_eq (by rw [sa_zc3_a, sa_zc3_b, sa_zc3_c, sa_zc3_n _ _ _ _ _ (by omega) (by omega) (by omega), sa_zc3_n _ _ _ _ _ (by omega) (by omega) (by omega), sa_zc3_n _ _ _ _ _ (by omega) (by omega) (by omega), sa_zc3_n _ _ _ _ _ (by omega) (by omega) (by omega), sa_zc3_n _ _ _ _ _ (by omega) (by omega) (by omega), sa_zc3_n _ _ _ _ _ (by omega) (by omega) (by omega), zc3_zc3]; exact zc3_eq (zfill_succ _ _ _) (zfill_succ _ _ _) (zfill_succ _ _ _)) (ih18 _ (by omega) (i + 1) rfl (by omega)))
  exact J_weak (by repeat (first | exact zle_nil | apply zle_s | apply zle_n)) (J_eq (by rw [zfill_0, zfill_0, zfill_0]; exact (zc3_self (ui σ 6 (nI n)) 6).symm) (hL18 _ 0 rfl (by omega)))
set_option maxRecDepth 100000 in
set_option maxHeartbeats 4000000 in
theorem c_X0_becomeSloped {l : Launch} {gg : zG} {σ : zS} {j n : Nat} (hj : j < 6) (hs : si σ j = nI n) (hn : n ≤ 16) : zMv l gg yX0_becomeSloped cX0_becomeSloped 3 1 24 [.ref (zc gg 6), .ref (zc gg j)] σ (fun u => u = (zc3 (ui σ 6 (nI n)) 6 (zfill n (sa σ (7 + j)) (sa σ 6)) (zfill n (fun i => 2 * sa σ (14 + j) i) (sa σ (7 + 6))) (zfill n (fun _ => 0) (sa σ (14 + 6))))) := by
  refine zM_v (own := RX0) (lv := [some (.ref (zc gg 6)), some (.ref (zc gg j)), none]) (by decide +kernel) rfl (Nat.le_of_ble_eq_true rfl) rfl (fun cx hc hR hI => ?_)
  refine J_aloadn_0 (pc := 0) hc dX0_becomeSloped_0 ?_
  refine J_aloadn_1 (pc := 1) hc dX0_becomeSloped_1 ?_
  refine gX0_21 (pc := 2) hc (by omega) dX0_becomeSloped_2 ?_
  refine J_topi hs ?_
  refine pX0_21 (pc := 5) hc (by omega) dX0_becomeSloped_5 ?_
  refine J_iconst (pc := 8) hc dX0_becomeSloped_8 (v := 0) (by decide) ?_
  refine J_istoren_2 (pc := 9) hc dX0_becomeSloped_9 rfl ?_
  have hL10 : ∀ (μ : Nat) (i : Nat), n - i = μ → i ≤ n → J cx gg (zQv cx gg (fun u => u = (zc3 (ui σ 6 (nI n)) 6 (zfill n (sa σ (7 + j)) (sa σ 6)) (zfill n (fun i => 2 * sa σ (14 + j) i) (sa σ (7 + 6))) (zfill n (fun _ => 0) (sa σ (14 + 6)))))) (zc3 (ui σ 6 (nI n)) 6 (zfill i (sa σ (7 + j)) (sa σ 6)) (zfill i (fun i => 2 * sa σ (14 + j) i) (sa σ (7 + 6))) (zfill i (fun _ => 0) (sa σ (14 + 6)))) 10 [some (.ref (zc gg 6)), some (.ref (zc gg j)), some (.int (nI i))] [] := by
    intro μ
    induction μ using Nat.strongRecOn with
    | ind μ ih10 =>
      intro i hμ hi
      refine J_iloadn_2 (pc := 10) hc dX0_becomeSloped_10 ?_
      refine J_aloadn_0 (pc := 11) hc dX0_becomeSloped_11 ?_
      refine gX0_21 (pc := 12) hc (by omega) dX0_becomeSloped_12 ?_
      refine J_icmp_ge (pc := 15) hc 44 dX0_becomeSloped_15 (by decide) (fun bq15 => ?_) (fun bq15 => ?_)
      · skip
        have bq15 := (zge rfl (by rw [si_zc3, si_ui_s]) (by omega) (by omega)).mp bq15
        exact J_vret (pc := 44) hc hI dX0_becomeSloped_44 (by rw [show i = n by omega])
      · skip
        have bq15 := mt (zge rfl (by rw [si_zc3, si_ui_s]) (by omega) (by omega)).mpr bq15
        refine J_aloadn_0 (pc := 18) hc dX0_becomeSloped_18 ?_
        refine J_iloadn_2 (pc := 19) hc dX0_becomeSloped_19 ?_
        refine J_aloadn_1 (pc := 20) hc dX0_becomeSloped_20 ?_
        refine gX0_15 (pc := 21) hc (by omega) dX0_becomeSloped_21 ?_
        refine J_iloadn_2 (pc := 24) hc dX0_becomeSloped_24 ?_
        refine J_iald (pc := 25) hc 16 (by omega) (zlen_c (by omega)) dX0_becomeSloped_25 (by first | exact rfl | exact z16 _ _ | exact nI_1 _ | exact zm1 (by omega) | assumption) (by omega) ?_
        refine J_iconst (pc := 26) hc dX0_becomeSloped_26 (v := 2) (by decide) ?_
        refine J_aloadn_1 (pc := 27) hc dX0_becomeSloped_27 ?_
        refine gX0_18 (pc := 28) hc (by omega) dX0_becomeSloped_28 ?_
        refine J_iloadn_2 (pc := 31) hc dX0_becomeSloped_31 ?_
        refine J_iald (pc := 32) hc 16 (by omega) (zlen_c (by omega)) dX0_becomeSloped_32 (by first | exact rfl | exact z16 _ _ | exact nI_1 _ | exact zm1 (by omega) | assumption) (by omega) ?_
        refine J_imul (pc := 33) hc dX0_becomeSloped_33 ?_
        refine J_iconst (pc := 34) hc dX0_becomeSloped_34 (v := 0) (by decide) ?_
        refine kX0_25 (pc := 35) hc hR (by omega) dX0_becomeSloped_35 (c_X0_put (by omega) (by first | rfl | assumption) (by omega)) (by decide) (Nat.le_of_ble_eq_true rfl) rfl (fun u hu => ?_)
        refine J_eq hu ?_
        refine J_iinc_2 (pc := 38) hc dX0_becomeSloped_38 (by first | exact nI_1 _ | exact rfl) rfl ?_
        refine J_goto (pc := 41) hc 10 dX0_becomeSloped_41 (by decide) ?_
        exact J_weak (by repeat (first | exact zle_nil | apply zle_s | apply zle_n)) (J_eq (by rw [sa_zc3_a, sa_zc3_b, sa_zc3_c, sa_zc3_n _ _ _ _ _ (by omega) (by omega) (by omega), sa_zc3_n _ _ _ _ _ (by omega) (by omega) (by omega), zc3_zc3]; exact zc3_eq (zfill_succ _ _ _) (zfill_succ _ _ _) (zfill_succ _ _ _)) (ih10 _ (by omega) (i + 1) rfl (by omega)))
  exact J_weak (by repeat (first | exact zle_nil | apply zle_s | apply zle_n)) (J_eq (by rw [zfill_0, zfill_0, zfill_0]; exact (zc3_self (ui σ 6 (nI n)) 6).symm) (hL10 _ 0 rfl (by omega)))
set_option maxRecDepth 100000 in
set_option maxHeartbeats 4000000 in
theorem c_X0_becomePushed {l : Launch} {gg : zG} {σ : zS} {j n : Nat} {v : Int32} (hj : j < 6) (hs : si σ j = nI n) (hn : n ≤ 16) : zMv l gg yX0_becomePushed cX0_becomePushed 4 1 24 [.ref (zc gg 6), .ref (zc gg j), .int v] σ (fun u => u = (zc3 (ui σ 6 (nI n)) 6 (zfill n (fun i => sa σ j i + v) (sa σ 6)) (zfill n (sa σ (7 + j)) (sa σ (7 + 6))) (zfill n (sa σ (14 + j)) (sa σ (14 + 6))))) := by
  refine zM_v (own := RX0) (lv := [some (.ref (zc gg 6)), some (.ref (zc gg j)), some (.int v), none]) (by decide +kernel) rfl (Nat.le_of_ble_eq_true rfl) rfl (fun cx hc hR hI => ?_)
  refine J_aloadn_0 (pc := 0) hc dX0_becomePushed_0 ?_
  refine J_aloadn_1 (pc := 1) hc dX0_becomePushed_1 ?_
  refine gX0_21 (pc := 2) hc (by omega) dX0_becomePushed_2 ?_
  refine J_topi hs ?_
  refine pX0_21 (pc := 5) hc (by omega) dX0_becomePushed_5 ?_
  refine J_iconst (pc := 8) hc dX0_becomePushed_8 (v := 0) (by decide) ?_
  refine J_istoren_3 (pc := 9) hc dX0_becomePushed_9 rfl ?_
  have hL10 : ∀ (μ : Nat) (i : Nat), n - i = μ → i ≤ n → J cx gg (zQv cx gg (fun u => u = (zc3 (ui σ 6 (nI n)) 6 (zfill n (fun i => sa σ j i + v) (sa σ 6)) (zfill n (sa σ (7 + j)) (sa σ (7 + 6))) (zfill n (sa σ (14 + j)) (sa σ (14 + 6)))))) (zc3 (ui σ 6 (nI n)) 6 (zfill i (fun i => sa σ j i + v) (sa σ 6)) (zfill i (sa σ (7 + j)) (sa σ (7 + 6))) (zfill i (sa σ (14 + j)) (sa σ (14 + 6)))) 10 [some (.ref (zc gg 6)), some (.ref (zc gg j)), some (.int v), some (.int (nI i))] [] := by
    intro μ
    induction μ using Nat.strongRecOn with
    | ind μ ih10 =>
      intro i hμ hi
      refine J_iloadn_3 (pc := 10) hc dX0_becomePushed_10 ?_
      refine J_aloadn_0 (pc := 11) hc dX0_becomePushed_11 ?_
      refine gX0_21 (pc := 12) hc (by omega) dX0_becomePushed_12 ?_
      refine J_icmp_ge (pc := 15) hc 49 dX0_becomePushed_15 (by decide) (fun bq15 => ?_) (fun bq15 => ?_)
      · skip
        have bq15 := (zge rfl (by rw [si_zc3, si_ui_s]) (by omega) (by omega)).mp bq15
        exact J_vret (pc := 49) hc hI dX0_becomePushed_49 (by rw [show i = n by omega])
      · skip
        have bq15 := mt (zge rfl (by rw [si_zc3, si_ui_s]) (by omega) (by omega)).mpr bq15
        refine J_aloadn_0 (pc := 18) hc dX0_becomePushed_18 ?_
        refine J_iloadn_3 (pc := 19) hc dX0_becomePushed_19 ?_
        refine J_aloadn_1 (pc := 20) hc dX0_becomePushed_20 ?_
        refine gX0_9 (pc := 21) hc (by omega) dX0_becomePushed_21 ?_
        refine J_iloadn_3 (pc := 24) hc dX0_becomePushed_24 ?_
        refine J_iald (pc := 25) hc 16 (by omega) (zlen_c (by omega)) dX0_becomePushed_25 (by first | exact rfl | exact z16 _ _ | exact nI_1 _ | exact zm1 (by omega) | assumption) (by omega) ?_
        refine J_iloadn_2 (pc := 26) hc dX0_becomePushed_26 ?_
        refine J_iadd (pc := 27) hc dX0_becomePushed_27 ?_
        refine J_aloadn_1 (pc := 28) hc dX0_becomePushed_28 ?_
        refine gX0_15 (pc := 29) hc (by omega) dX0_becomePushed_29 ?_
        refine J_iloadn_3 (pc := 32) hc dX0_becomePushed_32 ?_
        refine J_iald (pc := 33) hc 16 (by omega) (zlen_c (by omega)) dX0_becomePushed_33 (by first | exact rfl | exact z16 _ _ | exact nI_1 _ | exact zm1 (by omega) | assumption) (by omega) ?_
        refine J_aloadn_1 (pc := 34) hc dX0_becomePushed_34 ?_
        refine gX0_18 (pc := 35) hc (by omega) dX0_becomePushed_35 ?_
        refine J_iloadn_3 (pc := 38) hc dX0_becomePushed_38 ?_
        refine J_iald (pc := 39) hc 16 (by omega) (zlen_c (by omega)) dX0_becomePushed_39 (by first | exact rfl | exact z16 _ _ | exact nI_1 _ | exact zm1 (by omega) | assumption) (by omega) ?_
        refine kX0_25 (pc := 40) hc hR (by omega) dX0_becomePushed_40 (c_X0_put (by omega) (by first | rfl | assumption) (by omega)) (by decide) (Nat.le_of_ble_eq_true rfl) rfl (fun u hu => ?_)
        refine J_eq hu ?_
        refine J_iinc_3 (pc := 43) hc dX0_becomePushed_43 (by first | exact nI_1 _ | exact rfl) rfl ?_
        refine J_goto (pc := 46) hc 10 dX0_becomePushed_46 (by decide) ?_
        exact J_weak (by repeat (first | exact zle_nil | apply zle_s | apply zle_n)) (J_eq (by rw [sa_zc3_a, sa_zc3_b, sa_zc3_c, sa_zc3_n _ _ _ _ _ (by omega) (by omega) (by omega), sa_zc3_n _ _ _ _ _ (by omega) (by omega) (by omega), sa_zc3_n _ _ _ _ _ (by omega) (by omega) (by omega), zc3_zc3]; exact zc3_eq (zfill_succ _ _ _) (zfill_succ _ _ _) (zfill_succ _ _ _)) (ih10 _ (by omega) (i + 1) rfl (by omega)))
  exact J_weak (by repeat (first | exact zle_nil | apply zle_s | apply zle_n)) (J_eq (by rw [zfill_0, zfill_0, zfill_0]; exact (zc3_self (ui σ 6 (nI n)) 6).symm) (hL10 _ 0 rfl (by omega)))
