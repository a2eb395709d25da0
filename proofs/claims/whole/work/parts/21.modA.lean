/-! the reference -/
def z3 (σ : zS) (A B C : Nat → Int64) : zS := (σ.1, σ.2.1, σ.2.2.1, fun j => if j = 0 then A else if j = 1 then B else if j = 2 then C else σ.2.2.2 j)
theorem um3 (σ : zS) (A B C A' B' C' : Nat → Int64) : um (um (um (z3 σ A B C) 0 A') 1 B') 2 C' = z3 σ A' B' C' := by
  apply zS_ext <;> intro j <;> try rfl
  simp only [sm_um]
  show _ = (if j = 0 then A' else if j = 1 then B' else if j = 2 then C' else _)
  (repeat' split) <;> first | rfl | omega | (show (if j = 0 then A else if j = 1 then B else if j = 2 then C else _) = _; rw [if_neg (by omega), if_neg (by omega), if_neg (by omega)])
theorem z3_self (σ : zS) : z3 σ (sm σ 0) (sm σ 1) (sm σ 2) = σ := by
  apply zS_ext <;> intro j <;> try rfl
  show (if j = 0 then sm σ 0 else if j = 1 then sm σ 1 else if j = 2 then sm σ 2 else _) = _
  (repeat' split) <;> first | rfl | (subst_vars; rfl)
theorem z3_eq {σ : zS} {A B C A' B' C' : Nat → Int64} (h1 : A = A') (h2 : B = B') (h3 : C = C') : z3 σ A B C = z3 σ A' B' C' := by rw [h1, h2, h3]
def zlk (σ : zS) (p n : Nat) : zS := z3 (ui σ 12 (nI n)) (zfill n (fun i => (sa σ 24 (16 * p + i)).toInt64) (sm σ 0)) (zfill n (fun i => (sa σ 25 (16 * p + i)).toInt64) (sm σ 1)) (zfill n (fun i => (sa σ 26 (16 * p + i)).toInt64) (sm σ 2))
/-- rows of the reference that are filled at a place -/
def zfl {α : Type} (p n : Nat) (f g : Nat → α) : Nat → α := fun j => if 16 * p ≤ j ∧ j < 16 * p + n then f (j - 16 * p) else g j
theorem zfl_0 {α : Type} (p : Nat) (f g : Nat → α) : zfl p 0 f g = g := by funext j; unfold zfl; rw [if_neg (by omega)]
theorem zfl_s {p i : Nat} {f g : Nat → Int32} {v : Int32} (h : v = f i) : upd (zfl p i f g) (16 * p + i) v = zfl p (i + 1) f g := by
  funext j
  unfold upd zfl
  by_cases q : j = 16 * p + i
  · rw [if_pos q, if_pos (by omega), h, show j - 16 * p = i by omega]
  · rw [if_neg q]
    by_cases q2 : 16 * p ≤ j ∧ j < 16 * p + i
    · rw [if_pos q2, if_pos (by omega)]
    · rw [if_neg q2, if_neg (by omega)]
theorem zfl_in {α : Type} {p n i : Nat} {f g : Nat → α} (h : i < n) : zfl p n f g (16 * p + i) = f i := by unfold zfl; rw [if_pos (by omega), show 16 * p + i - 16 * p = i by omega]
theorem zfl_out {α : Type} {p n j : Nat} {f g : Nat → α} (h : j < 16 * p ∨ 16 * p + n ≤ j) : zfl p n f g j = g j := by unfold zfl; rw [if_neg (by omega)]
def zy4 (σ : zS) (S A B C : Nat → Int32) : zS := (σ.1, σ.2.1, fun j => if j = 23 then S else if j = 24 then A else if j = 25 then B else if j = 26 then C else σ.2.2.1 j, σ.2.2.2)
theorem ua3y (σ : zS) (S A B C A' B' C' : Nat → Int32) : ua (ua (ua (zy4 σ S A B C) 24 A') 25 B') 26 C' = zy4 σ S A' B' C' := by
  apply zS_ext <;> intro j <;> try rfl
  simp only [sa_ua]
  show _ = (if j = 23 then S else if j = 24 then A' else if j = 25 then B' else if j = 26 then C' else _)
  (repeat' split) <;> first | rfl | omega | (show (if j = 23 then S else if j = 24 then A else if j = 25 then B else if j = 26 then C else _) = _; first | rw [if_pos (by omega)] | rw [if_neg (by omega), if_neg (by omega), if_neg (by omega), if_neg (by omega)])
theorem zy4_0 (σ : zS) (S : Nat → Int32) : ua σ 23 S = zy4 σ S (sa σ 24) (sa σ 25) (sa σ 26) := by
  apply zS_ext <;> intro j <;> try rfl
  rw [sa_ua]
  show _ = (if j = 23 then S else if j = 24 then sa σ 24 else if j = 25 then sa σ 25 else if j = 26 then sa σ 26 else _)
  (repeat' split) <;> first | rfl | (subst_vars; rfl) | omega
theorem zy4_eq {σ : zS} {S A B C A' B' C' : Nat → Int32} (h1 : A = A') (h2 : B = B') (h3 : C = C') : zy4 σ S A B C = zy4 σ S A' B' C' := by rw [h1, h2, h3]
def zsmP (σ : zS) (i : Nat) : Prop := zcfl (sm σ 0 i) ∧ zcfl (sm σ 1 i) ∧ zcfl (sm σ 2 i)
def zly (σ : zS) (p n : Nat) : zS := zy4 σ (upd (sa σ 23) p (nI n)) (zfl p n (fun i => (sm σ 0 i).toInt32) (sa σ 24)) (zfl p n (fun i => (sm σ 1 i).toInt32) (sa σ 25)) (zfl p n (fun i => (sm σ 2 i).toInt32) (sa σ 26))
def zLA (σ : zS) (p n : Nat) (r : Int32) (u : zS) : Prop := (¬ (∀ i, i < n → zsmP σ i) ∧ r = -5 ∧ u = σ) ∨ ((∀ i, i < n → zsmP σ i) ∧ r = 1 ∧ u = zly σ p n)
def zjm (σ : zS) (i : Nat) : Int32 := if sm σ 0 (i - 1) + sm σ 1 (i - 1) + sm σ 2 (i - 1) = sm σ 0 i then (if sm σ 1 (i - 1) + 2 * sm σ 2 (i - 1) = sm σ 1 i then (if sm σ 2 (i - 1) = sm σ 2 i then 2 else 1) else 0) else -1
def zmk (σ : zS) (f h : Nat) (p q : Int64) (n : Nat) : zS := z3 (ui σ 12 (nI n)) (zfill n (fun i => p * (sa σ 24 (16 * f + i)).toInt64 + q * (sa σ 24 (16 * h + i)).toInt64) (sm σ 0)) (zfill n (fun i => p * (sa σ 25 (16 * f + i)).toInt64 + q * (sa σ 25 (16 * h + i)).toInt64) (sm σ 1)) (zfill n (fun i => p * (sa σ 26 (16 * f + i)).toInt64 + q * (sa σ 26 (16 * h + i)).toInt64) (sm σ 2))
def zbo (σ : zS) : Nat → Int64
  | 0 => 0
  | i + 1 => zbo σ i + sm σ 2 i * sm σ 2 i
/-- the spline of the reference: its slopes -/
def zsr (σ : zS) (s : Int32) : Nat → Int32
  | 0 => s
  | i + 1 => 2 * (sa σ 27 (i + 1) - sa σ 27 i) - zsr σ s i
def zfk (n : Nat) (f g : Nat → Int32) : Nat → Int32 := zfill (n + 1) f g
def zms (σ : zS) (s : Int32) (n : Nat) : zS := z3 (ua (ui σ 12 (nI n)) 29 (zfill (n + 1) (zsr σ s) (sa σ 29))) (zfill n (fun i => (sa σ 27 i).toInt64) (sm σ 0)) (zfill n (fun i => (zsr σ s i).toInt64) (sm σ 1)) (zfill n (fun i => (sa σ 27 (i + 1) - sa σ 27 i - zsr σ s i).toInt64) (sm σ 2))
set_option maxRecDepth 100000 in
set_option maxHeartbeats 4000000 in
theorem c_X4_look {l : Launch} {gg : zG} {σ : zS} {p n : Nat} {x : Int32} (hp : p < 6) (hx : x = nI p) (hs : sa σ 23 p = nI n) (hn : n ≤ 16) : zMv l gg yX4_look cX4_look 3 0 0 [.ref (zM gg), .int x] σ (fun u => u = zlk σ p n) := by
  subst hx
  refine zM_v (own := RX4) (lv := [some (.ref (zM gg)), some (.int (nI p)), none]) (by decide +kernel) rfl (Nat.le_of_ble_eq_true rfl) rfl (fun cx hc hR hI => ?_)
  refine J_aloadn_0 (pc := 0) hc dX4_look_0 ?_
  refine J_aloadn_0 (pc := 1) hc dX4_look_1 ?_
  refine gX4_7 (pc := 2) hc dX4_look_2 ?_
  refine J_iloadn_1 (pc := 5) hc dX4_look_5 ?_
  refine J_iald (pc := 6) hc 6 (by omega) rfl dX4_look_6 (by first | with_reducible exact rfl | with_reducible exact nI_1 _ | with_reducible exact z16 _ _ | with_reducible exact zm1 (by omega) | assumption | exact rfl) (by omega) ?_
  refine J_topi hs ?_
  refine pX4_64 (pc := 7) hc dX4_look_7 ?_
  refine J_iconst (pc := 10) hc dX4_look_10 (v := 0) (by decide) ?_
  refine J_istoren_2 (pc := 11) hc dX4_look_11 rfl ?_
  have hL12 : ∀ (μ : Nat) (i : Nat), n - i = μ → i ≤ n → J cx gg (zQv cx gg (fun u => u = zlk σ p n)) (z3 (ui σ 12 (nI n)) (zfill i (fun i => (sa σ 24 (16 * p + i)).toInt64) (sm σ 0)) (zfill i (fun i => (sa σ 25 (16 * p + i)).toInt64) (sm σ 1)) (zfill i (fun i => (sa σ 26 (16 * p + i)).toInt64) (sm σ 2))) 12 [some (.ref (zM gg)), some (.int (nI p)), some (.int (nI i))] [] := by
    intro μ
    induction μ using Nat.strongRecOn with
    | ind μ ih12 =>
      intro i hμ hi
      refine J_iloadn_2 (pc := 12) hc dX4_look_12 ?_
      refine J_aloadn_0 (pc := 13) hc dX4_look_13 ?_
      refine gX4_64 (pc := 14) hc dX4_look_14 ?_
      refine J_icmp_ge (pc := 17) hc 80 dX4_look_17 (by decide) (fun bq17 => ?_) (fun bq17 => ?_)
      · skip
        have bq17 := (zge rfl rfl (by omega) (by omega)).mp bq17
        exact J_vret (pc := 80) hc hI dX4_look_80 (by rw [show i = n by omega]; rfl)
      · skip
        have bq17 := mt (zge rfl rfl (by omega) (by omega)).mpr bq17
        refine J_aloadn_0 (pc := 20) hc dX4_look_20 ?_
        refine gX4_25 (pc := 21) hc dX4_look_21 ?_
        refine J_iloadn_2 (pc := 24) hc dX4_look_24 ?_
        refine J_aloadn_0 (pc := 25) hc dX4_look_25 ?_
        refine gX4_13 (pc := 26) hc dX4_look_26 ?_
        refine J_bipush (pc := 29) hc dX4_look_29 (v := 16) (by decide) ?_
        refine J_iloadn_1 (pc := 31) hc dX4_look_31 ?_
        refine J_imul (pc := 32) hc dX4_look_32 ?_
        refine J_iloadn_2 (pc := 33) hc dX4_look_33 ?_
        refine J_iadd (pc := 34) hc dX4_look_34 ?_
        refine J_iald (pc := 35) hc 96 (by omega) rfl dX4_look_35 (by first | with_reducible exact rfl | with_reducible exact nI_1 _ | with_reducible exact z16 _ _ | with_reducible exact zm1 (by omega) | assumption | exact rfl) (by omega) ?_
        refine J_i2l (pc := 36) hc dX4_look_36 ?_
        refine J_last (pc := 37) hc (by decide) dX4_look_37 (by first | with_reducible exact rfl | with_reducible exact nI_1 _ | with_reducible exact z16 _ _ | with_reducible exact zm1 (by omega) | assumption | exact rfl) (by omega) ?_
        refine J_aloadn_0 (pc := 38) hc dX4_look_38 ?_
        refine gX4_29 (pc := 39) hc dX4_look_39 ?_
        refine J_iloadn_2 (pc := 42) hc dX4_look_42 ?_
        refine J_aloadn_0 (pc := 43) hc dX4_look_43 ?_
        refine gX4_16 (pc := 44) hc dX4_look_44 ?_
        refine J_bipush (pc := 47) hc dX4_look_47 (v := 16) (by decide) ?_
        refine J_iloadn_1 (pc := 49) hc dX4_look_49 ?_
        refine J_imul (pc := 50) hc dX4_look_50 ?_
        refine J_iloadn_2 (pc := 51) hc dX4_look_51 ?_
        refine J_iadd (pc := 52) hc dX4_look_52 ?_
        refine J_iald (pc := 53) hc 96 (by omega) rfl dX4_look_53 (by first | with_reducible exact rfl | with_reducible exact nI_1 _ | with_reducible exact z16 _ _ | with_reducible exact zm1 (by omega) | assumption | exact rfl) (by omega) ?_
        refine J_i2l (pc := 54) hc dX4_look_54 ?_
        refine J_last (pc := 55) hc (by decide) dX4_look_55 (by first | with_reducible exact rfl | with_reducible exact nI_1 _ | with_reducible exact z16 _ _ | with_reducible exact zm1 (by omega) | assumption | exact rfl) (by omega) ?_
        refine J_aloadn_0 (pc := 56) hc dX4_look_56 ?_
        refine gX4_32 (pc := 57) hc dX4_look_57 ?_
        refine J_iloadn_2 (pc := 60) hc dX4_look_60 ?_
        refine J_aloadn_0 (pc := 61) hc dX4_look_61 ?_
        refine gX4_19 (pc := 62) hc dX4_look_62 ?_
        refine J_bipush (pc := 65) hc dX4_look_65 (v := 16) (by decide) ?_
        refine J_iloadn_1 (pc := 67) hc dX4_look_67 ?_
        refine J_imul (pc := 68) hc dX4_look_68 ?_
        refine J_iloadn_2 (pc := 69) hc dX4_look_69 ?_
        refine J_iadd (pc := 70) hc dX4_look_70 ?_
        refine J_iald (pc := 71) hc 96 (by omega) rfl dX4_look_71 (by first | with_reducible exact rfl | with_reducible exact nI_1 _ | with_reducible exact z16 _ _ | with_reducible exact zm1 (by omega) | assumption | exact rfl) (by omega) ?_
        refine J_i2l (pc := 72) hc dX4_look_72 ?_
        refine J_last (pc := 73) hc (by decide) dX4_look_73 (by first | with_reducible exact rfl | with_reducible exact nI_1 _ | with_reducible exact z16 _ _ | with_reducible exact zm1 (by omega) | assumption | exact rfl) (by omega) ?_
        refine J_iinc_2 (pc := 74) hc dX4_look_74 (by first | exact nI_1 _ | exact rfl) rfl ?_
        refine J_goto (pc := 77) hc 12 dX4_look_77 (by decide) ?_
        exact J_weak (by repeat (first | exact zle_nil | apply zle_s | apply zle_n)) (J_eq ((um3 _ _ _ _ _ _ _).trans (z3_eq (zfill_sL rfl) (zfill_sL rfl) (zfill_sL rfl))) (ih12 _ (by omega) (i + 1) rfl (by omega)))
  exact J_weak (by repeat (first | exact zle_nil | apply zle_s | apply zle_n)) (J_eq (by rw [zfill_0, zfill_0, zfill_0]; exact (z3_self (ui σ 12 (nI n))).symm) (hL12 _ 0 rfl (by omega)))
set_option maxRecDepth 100000 in
set_option maxHeartbeats 4000000 in
theorem c_X4_make {l : Launch} {gg : zG} {σ : zS} {f h n : Nat} {x y : Int32} {p q : Int64} (hf : f < 6) (hh : h < 6) (hx : x = nI f) (hy : y = nI h) (hs : sa σ 23 f = nI n) (hn : n ≤ 16) : zMv l gg yX4_make cX4_make 8 0 0 [.ref (zM gg), .int x, .long p, .int y, .long q] σ (fun u => u = zmk σ f h p q n) := by
  subst hx
  subst hy
  refine zM_v (own := RX4) (lv := [some (.ref (zM gg)), some (.int (nI f)), some (.long p), none, some (.int (nI h)), some (.long q), none, none]) (by decide +kernel) rfl (Nat.le_of_ble_eq_true rfl) rfl (fun cx hc hR hI => ?_)
  refine J_aloadn_0 (pc := 0) hc dX4_make_0 ?_
  refine J_aloadn_0 (pc := 1) hc dX4_make_1 ?_
  refine gX4_7 (pc := 2) hc dX4_make_2 ?_
  refine J_iloadn_1 (pc := 5) hc dX4_make_5 ?_
  refine J_iald (pc := 6) hc 6 (by omega) rfl dX4_make_6 (by first | with_reducible exact rfl | with_reducible exact nI_1 _ | with_reducible exact z16 _ _ | with_reducible exact zm1 (by omega) | assumption | exact rfl) (by omega) ?_
  refine J_topi hs ?_
  refine pX4_64 (pc := 7) hc dX4_make_7 ?_
  refine J_iconst (pc := 10) hc dX4_make_10 (v := 0) (by decide) ?_
  refine J_istore_7 (pc := 11) hc dX4_make_11 rfl ?_
  have hL13 : ∀ (μ : Nat) (i : Nat), n - i = μ → i ≤ n → J cx gg (zQv cx gg (fun u => u = zmk σ f h p q n)) (z3 (ui σ 12 (nI n)) (zfill i (fun i => p * (sa σ 24 (16 * f + i)).toInt64 + q * (sa σ 24 (16 * h + i)).toInt64) (sm σ 0)) (zfill i (fun i => p * (sa σ 25 (16 * f + i)).toInt64 + q * (sa σ 25 (16 * h + i)).toInt64) (sm σ 1)) (zfill i (fun i => p * (sa σ 26 (16 * f + i)).toInt64 + q * (sa σ 26 (16 * h + i)).toInt64) (sm σ 2))) 13 [some (.ref (zM gg)), some (.int (nI f)), some (.long p), none, some (.int (nI h)), some (.long q), none, some (.int (nI i))] [] := by
    intro μ
    induction μ using Nat.strongRecOn with
    | ind μ ih13 =>
      intro i hμ hi
      refine J_iload_7 (pc := 13) hc dX4_make_13 ?_
      refine J_aloadn_0 (pc := 15) hc dX4_make_15 ?_
      refine gX4_64 (pc := 16) hc dX4_make_16 ?_
      refine J_icmp_ge (pc := 19) hc 148 dX4_make_19 (by decide) (fun bq19 => ?_) (fun bq19 => ?_)
      · skip
        have bq19 := (zge rfl rfl (by omega) (by omega)).mp bq19
        exact J_vret (pc := 148) hc hI dX4_make_148 (by rw [show i = n by omega]; rfl)
      · skip
        have bq19 := mt (zge rfl rfl (by omega) (by omega)).mpr bq19
        refine J_aloadn_0 (pc := 22) hc dX4_make_22 ?_
        refine gX4_25 (pc := 23) hc dX4_make_23 ?_
        refine J_iload_7 (pc := 26) hc dX4_make_26 ?_
        refine J_lloadn_2 (pc := 28) hc dX4_make_28 ?_
        refine J_aloadn_0 (pc := 29) hc dX4_make_29 ?_
        refine gX4_13 (pc := 30) hc dX4_make_30 ?_
        refine J_bipush (pc := 33) hc dX4_make_33 (v := 16) (by decide) ?_
        refine J_iloadn_1 (pc := 35) hc dX4_make_35 ?_
        refine J_imul (pc := 36) hc dX4_make_36 ?_
        refine J_iload_7 (pc := 37) hc dX4_make_37 ?_
        refine J_iadd (pc := 39) hc dX4_make_39 ?_
        refine J_iald (pc := 40) hc 96 (by omega) rfl dX4_make_40 (by first | with_reducible exact rfl | with_reducible exact nI_1 _ | with_reducible exact z16 _ _ | with_reducible exact zm1 (by omega) | assumption | exact rfl) (by omega) ?_
        refine J_i2l (pc := 41) hc dX4_make_41 ?_
        refine J_lmul (pc := 42) hc dX4_make_42 ?_
        refine J_lload_5 (pc := 43) hc dX4_make_43 ?_
        refine J_aloadn_0 (pc := 45) hc dX4_make_45 ?_
        refine gX4_13 (pc := 46) hc dX4_make_46 ?_
        refine J_bipush (pc := 49) hc dX4_make_49 (v := 16) (by decide) ?_
        refine J_iload_4 (pc := 51) hc dX4_make_51 ?_
        refine J_imul (pc := 53) hc dX4_make_53 ?_
        refine J_iload_7 (pc := 54) hc dX4_make_54 ?_
        refine J_iadd (pc := 56) hc dX4_make_56 ?_
        refine J_iald (pc := 57) hc 96 (by omega) rfl dX4_make_57 (by first | with_reducible exact rfl | with_reducible exact nI_1 _ | with_reducible exact z16 _ _ | with_reducible exact zm1 (by omega) | assumption | exact rfl) (by omega) ?_
        refine J_i2l (pc := 58) hc dX4_make_58 ?_
        refine J_lmul (pc := 59) hc dX4_make_59 ?_
        refine J_ladd (pc := 60) hc dX4_make_60 ?_
        refine J_last (pc := 61) hc (by decide) dX4_make_61 (by first | with_reducible exact rfl | with_reducible exact nI_1 _ | with_reducible exact z16 _ _ | with_reducible exact zm1 (by omega) | assumption | exact rfl) (by omega) ?_
        refine J_aloadn_0 (pc := 62) hc dX4_make_62 ?_
        refine gX4_29 (pc := 63) hc dX4_make_63 ?_
        refine J_iload_7 (pc := 66) hc dX4_make_66 ?_
        refine J_lloadn_2 (pc := 68) hc dX4_make_68 ?_
        refine J_aloadn_0 (pc := 69) hc dX4_make_69 ?_
        refine gX4_16 (pc := 70) hc dX4_make_70 ?_
        refine J_bipush (pc := 73) hc dX4_make_73 (v := 16) (by decide) ?_
        refine J_iloadn_1 (pc := 75) hc dX4_make_75 ?_
        refine J_imul (pc := 76) hc dX4_make_76 ?_
        refine J_iload_7 (pc := 77) hc dX4_make_77 ?_
        refine J_iadd (pc := 79) hc dX4_make_79 ?_
        refine J_iald (pc := 80) hc 96 (by omega) rfl dX4_make_80 (by first | with_reducible exact rfl | with_reducible exact nI_1 _ | with_reducible exact z16 _ _ | with_reducible exact zm1 (by omega) | assumption | exact rfl) (by omega) ?_
        refine J_i2l (pc := 81) hc dX4_make_81 ?_
        refine J_lmul (pc := 82) hc dX4_make_82 ?_
        refine J_lload_5 (pc := 83) hc dX4_make_83 ?_
        refine J_aloadn_0 (pc := 85) hc dX4_make_85 ?_
        refine gX4_16 (pc := 86) hc dX4_make_86 ?_
        refine J_bipush (pc := 89) hc dX4_make_89 (v := 16) (by decide) ?_
        refine J_iload_4 (pc := 91) hc dX4_make_91 ?_
        refine J_imul (pc := 93) hc dX4_make_93 ?_
        refine J_iload_7 (pc := 94) hc dX4_make_94 ?_
        refine J_iadd (pc := 96) hc dX4_make_96 ?_
        refine J_iald (pc := 97) hc 96 (by omega) rfl dX4_make_97 (by first | with_reducible exact rfl | with_reducible exact nI_1 _ | with_reducible exact z16 _ _ | with_reducible exact zm1 (by omega) | assumption | exact rfl) (by omega) ?_
        refine J_i2l (pc := 98) hc dX4_make_98 ?_
        refine J_lmul (pc := 99) hc dX4_make_99 ?_
        refine J_ladd (pc := 100) hc dX4_make_100 ?_
        refine J_last (pc := 101) hc (by decide) dX4_make_101 (by first | with_reducible exact rfl | with_reducible exact nI_1 _ | with_reducible exact z16 _ _ | with_reducible exact zm1 (by omega) | assumption | exact rfl) (by omega) ?_
        refine J_aloadn_0 (pc := 102) hc dX4_make_102 ?_
        refine gX4_32 (pc := 103) hc dX4_make_103 ?_
        refine J_iload_7 (pc := 106) hc dX4_make_106 ?_
        refine J_lloadn_2 (pc := 108) hc dX4_make_108 ?_
        refine J_aloadn_0 (pc := 109) hc dX4_make_109 ?_
        refine gX4_19 (pc := 110) hc dX4_make_110 ?_
        refine J_bipush (pc := 113) hc dX4_make_113 (v := 16) (by decide) ?_
        refine J_iloadn_1 (pc := 115) hc dX4_make_115 ?_
        refine J_imul (pc := 116) hc dX4_make_116 ?_
        refine J_iload_7 (pc := 117) hc dX4_make_117 ?_
        refine J_iadd (pc := 119) hc dX4_make_119 ?_
        refine J_iald (pc := 120) hc 96 (by omega) rfl dX4_make_120 (by first | with_reducible exact rfl | with_reducible exact nI_1 _ | with_reducible exact z16 _ _ | with_reducible exact zm1 (by omega) | assumption | exact rfl) (by omega) ?_
        refine J_i2l (pc := 121) hc dX4_make_121 ?_
        refine J_lmul (pc := 122) hc dX4_make_122 ?_
        refine J_lload_5 (pc := 123) hc dX4_make_123 ?_
        refine J_aloadn_0 (pc := 125) hc dX4_make_125 ?_
        refine gX4_19 (pc := 126) hc dX4_make_126 ?_
        refine J_bipush (pc := 129) hc dX4_make_129 (v := 16) (by decide) ?_
        refine J_iload_4 (pc := 131) hc dX4_make_131 ?_
        refine J_imul (pc := 133) hc dX4_make_133 ?_
        refine J_iload_7 (pc := 134) hc dX4_make_134 ?_
        refine J_iadd (pc := 136) hc dX4_make_136 ?_
        refine J_iald (pc := 137) hc 96 (by omega) rfl dX4_make_137 (by first | with_reducible exact rfl | with_reducible exact nI_1 _ | with_reducible exact z16 _ _ | with_reducible exact zm1 (by omega) | assumption | exact rfl) (by omega) ?_
        refine J_i2l (pc := 138) hc dX4_make_138 ?_
        refine J_lmul (pc := 139) hc dX4_make_139 ?_
        refine J_ladd (pc := 140) hc dX4_make_140 ?_
        refine J_last (pc := 141) hc (by decide) dX4_make_141 (by first | with_reducible exact rfl | with_reducible exact nI_1 _ | with_reducible exact z16 _ _ | with_reducible exact zm1 (by omega) | assumption | exact rfl) (by omega) ?_
        refine J_iinc_7 (pc := 142) hc dX4_make_142 (by first | exact nI_1 _ | exact rfl) rfl ?_
        refine J_goto (pc := 145) hc 13 dX4_make_145 (by decide) ?_
        exact J_weak (by repeat (first | exact zle_nil | apply zle_s | apply zle_n)) (J_eq ((um3 _ _ _ _ _ _ _).trans (z3_eq (zfill_sL rfl) (zfill_sL rfl) (zfill_sL rfl))) (ih13 _ (by omega) (i + 1) rfl (by omega)))
  exact J_weak (by repeat (first | exact zle_nil | apply zle_s | apply zle_n)) (J_eq (by rw [zfill_0, zfill_0, zfill_0]; exact (z3_self (ui σ 12 (nI n))).symm) (hL13 _ 0 rfl (by omega)))
set_option maxRecDepth 100000 in
set_option maxHeartbeats 4000000 in
theorem c_X4_lay {l : Launch} {gg : zG} {σ : zS} {p n : Nat} {x : Int32} (hp : p < 6) (hx : x = nI p) (hs : si σ 12 = nI n) (hn : n ≤ 16) : zMi l gg yX4_lay cX4_lay .int 4 2 46 [.ref (zM gg), .int x] σ (fun r u => zLA σ p n r u) := by
  subst hx
  refine zM_i (own := RX4) (lv := [some (.ref (zM gg)), some (.int (nI p)), none, none]) (by decide +kernel) rfl (Nat.le_of_ble_eq_true rfl) rfl (fun cx hc hR hI => ?_)
  refine J_iconst (pc := 0) hc dX4_lay_0 (v := 1) (by decide) ?_
  refine J_istoren_2 (pc := 1) hc dX4_lay_1 rfl ?_
  refine J_iconst (pc := 2) hc dX4_lay_2 (v := 0) (by decide) ?_
  refine J_istoren_3 (pc := 3) hc dX4_lay_3 rfl ?_
  have hL4 : ∀ (μ : Nat) (i : Nat) (b : Int32), n - i = μ → i ≤ n → zb b (∀ j, j < i → zsmP σ j) → J cx gg (zQi cx gg (fun r u => zLA σ p n r u)) σ 4 [some (.ref (zM gg)), some (.int (nI p)), some (.int b), some (.int (nI i))] [] := by
    intro μ
    induction μ using Nat.strongRecOn with
    | ind μ ih4 =>
      intro i b hμ hi hb
      refine J_iloadn_3 (pc := 4) hc dX4_lay_4 ?_
      refine J_aloadn_0 (pc := 5) hc dX4_lay_5 ?_
      refine gX4_64 (pc := 6) hc dX4_lay_6 ?_
      refine J_icmp_ge (pc := 9) hc 64 dX4_lay_9 (by decide) (fun bq9 => ?_) (fun bq9 => ?_)
      · skip
        have bq9 := (zge rfl hs (by omega) (by omega)).mp bq9
        refine J_iloadn_2 (pc := 64) hc dX4_lay_64 ?_
        refine J_if_ne (pc := 65) hc 71 dX4_lay_65 (by decide) (fun bq65 => ?_) (fun bq65 => ?_)
        · skip
          have hall := hb.t bq65
          rw [show i = n by omega] at hall
          refine J_aloadn_0 (pc := 71) hc dX4_lay_71 ?_
          refine gX4_7 (pc := 72) hc dX4_lay_72 ?_
          refine J_iloadn_1 (pc := 75) hc dX4_lay_75 ?_
          refine J_aloadn_0 (pc := 76) hc dX4_lay_76 ?_
          refine gX4_64 (pc := 77) hc dX4_lay_77 ?_
          refine J_topi hs ?_
          refine J_iast (pc := 80) hc 6 (by omega) rfl dX4_lay_80 (by first | with_reducible exact rfl | with_reducible exact nI_1 _ | with_reducible exact z16 _ _ | with_reducible exact zm1 (by omega) | assumption | exact rfl) (by omega) ?_
          refine J_iconst (pc := 81) hc dX4_lay_81 (v := 0) (by decide) ?_
          refine J_istoren_3 (pc := 82) hc dX4_lay_82 rfl ?_
          have hL83 : ∀ (μ : Nat) (e : Nat), n - e = μ → e ≤ n → J cx gg (zQi cx gg (fun r u => zLA σ p n r u)) (zy4 σ (upd (sa σ 23) p (nI n)) (zfl p e (fun i => (sm σ 0 i).toInt32) (sa σ 24)) (zfl p e (fun i => (sm σ 1 i).toInt32) (sa σ 25)) (zfl p e (fun i => (sm σ 2 i).toInt32) (sa σ 26))) 83 [some (.ref (zM gg)), some (.int (nI p)), none, some (.int (nI e))] [] := by
            intro μ
            induction μ using Nat.strongRecOn with
            | ind μ ih83 =>
              intro e hμ2 he
              refine J_iloadn_3 (pc := 83) hc dX4_lay_83 ?_
              refine J_aloadn_0 (pc := 84) hc dX4_lay_84 ?_
              refine gX4_64 (pc := 85) hc dX4_lay_85 ?_
              refine J_icmp_ge (pc := 88) hc 151 dX4_lay_88 (by decide) (fun bq88 => ?_) (fun bq88 => ?_)
              · skip
                have bq88 := (zge rfl hs (by omega) (by omega)).mp bq88
                refine J_iconst (pc := 151) hc dX4_lay_151 (v := 1) (by decide) ?_
                exact J_iret (pc := 152) hc hI dX4_lay_152 (Or.inr ⟨hall, rfl, by rw [show e = n by omega]; rfl⟩)
              · skip
                have bq88 := mt (zge rfl hs (by omega) (by omega)).mpr bq88
                refine J_aloadn_0 (pc := 91) hc dX4_lay_91 ?_
                refine gX4_13 (pc := 92) hc dX4_lay_92 ?_
                refine J_bipush (pc := 95) hc dX4_lay_95 (v := 16) (by decide) ?_
                refine J_iloadn_1 (pc := 97) hc dX4_lay_97 ?_
                refine J_imul (pc := 98) hc dX4_lay_98 ?_
                refine J_iloadn_3 (pc := 99) hc dX4_lay_99 ?_
                refine J_iadd (pc := 100) hc dX4_lay_100 ?_
                refine J_aloadn_0 (pc := 101) hc dX4_lay_101 ?_
                refine gX4_25 (pc := 102) hc dX4_lay_102 ?_
                refine J_iloadn_3 (pc := 105) hc dX4_lay_105 ?_
                refine J_lald (pc := 106) hc (by decide) dX4_lay_106 (by first | with_reducible exact rfl | with_reducible exact nI_1 _ | with_reducible exact z16 _ _ | with_reducible exact zm1 (by omega) | assumption | exact rfl) (by omega) ?_
                refine J_l2i (pc := 107) hc dX4_lay_107 ?_
                refine J_iast (pc := 108) hc 96 (by omega) rfl dX4_lay_108 (by first | with_reducible exact rfl | with_reducible exact nI_1 _ | with_reducible exact z16 _ _ | with_reducible exact zm1 (by omega) | assumption | exact rfl) (by omega) ?_
                refine J_aloadn_0 (pc := 109) hc dX4_lay_109 ?_
                refine gX4_16 (pc := 110) hc dX4_lay_110 ?_
                refine J_bipush (pc := 113) hc dX4_lay_113 (v := 16) (by decide) ?_
                refine J_iloadn_1 (pc := 115) hc dX4_lay_115 ?_
                refine J_imul (pc := 116) hc dX4_lay_116 ?_
                refine J_iloadn_3 (pc := 117) hc dX4_lay_117 ?_
                refine J_iadd (pc := 118) hc dX4_lay_118 ?_
                refine J_aloadn_0 (pc := 119) hc dX4_lay_119 ?_
                refine gX4_29 (pc := 120) hc dX4_lay_120 ?_
                refine J_iloadn_3 (pc := 123) hc dX4_lay_123 ?_
                refine J_lald (pc := 124) hc (by decide) dX4_lay_124 (by first | with_reducible exact rfl | with_reducible exact nI_1 _ | with_reducible exact z16 _ _ | with_reducible exact zm1 (by omega) | assumption | exact rfl) (by omega) ?_
                refine J_l2i (pc := 125) hc dX4_lay_125 ?_
                refine J_iast (pc := 126) hc 96 (by omega) rfl dX4_lay_126 (by first | with_reducible exact rfl | with_reducible exact nI_1 _ | with_reducible exact z16 _ _ | with_reducible exact zm1 (by omega) | assumption | exact rfl) (by omega) ?_
                refine J_aloadn_0 (pc := 127) hc dX4_lay_127 ?_
                refine gX4_19 (pc := 128) hc dX4_lay_128 ?_
                refine J_bipush (pc := 131) hc dX4_lay_131 (v := 16) (by decide) ?_
                refine J_iloadn_1 (pc := 133) hc dX4_lay_133 ?_
                refine J_imul (pc := 134) hc dX4_lay_134 ?_
                refine J_iloadn_3 (pc := 135) hc dX4_lay_135 ?_
                refine J_iadd (pc := 136) hc dX4_lay_136 ?_
                refine J_aloadn_0 (pc := 137) hc dX4_lay_137 ?_
                refine gX4_32 (pc := 138) hc dX4_lay_138 ?_
                refine J_iloadn_3 (pc := 141) hc dX4_lay_141 ?_
                refine J_lald (pc := 142) hc (by decide) dX4_lay_142 (by first | with_reducible exact rfl | with_reducible exact nI_1 _ | with_reducible exact z16 _ _ | with_reducible exact zm1 (by omega) | assumption | exact rfl) (by omega) ?_
                refine J_l2i (pc := 143) hc dX4_lay_143 ?_
                refine J_iast (pc := 144) hc 96 (by omega) rfl dX4_lay_144 (by first | with_reducible exact rfl | with_reducible exact nI_1 _ | with_reducible exact z16 _ _ | with_reducible exact zm1 (by omega) | assumption | exact rfl) (by omega) ?_
                refine J_iinc_3 (pc := 145) hc dX4_lay_145 (by first | exact nI_1 _ | exact rfl) rfl ?_
                refine J_goto (pc := 148) hc 83 dX4_lay_148 (by decide) ?_
                exact J_weak (by repeat (first | exact zle_nil | apply zle_s | apply zle_n)) (J_eq ((ua3y _ _ _ _ _ _ _ _).trans (zy4_eq (zfl_s (p := p) (i := e) (f := fun i => (sm σ 0 i).toInt32) (g := sa σ 24) rfl) (zfl_s (p := p) (i := e) (f := fun i => (sm σ 1 i).toInt32) (g := sa σ 25) rfl) (zfl_s (p := p) (i := e) (f := fun i => (sm σ 2 i).toInt32) (g := sa σ 26) rfl))) (ih83 _ (by omega) (e + 1) rfl (by omega)))
          exact J_weak (by repeat (first | exact zle_nil | apply zle_s | apply zle_n)) (J_eq (by rw [zfl_0, zfl_0, zfl_0]; exact zy4_0 σ _) (hL83 _ 0 rfl (by omega)))
        · skip
          have hall := hb.f bq65
          rw [show i = n by omega] at hall
          refine J_bipush (pc := 68) hc dX4_lay_68 (v := -5) (by decide) ?_
          exact J_iret (pc := 70) hc hI dX4_lay_70 (Or.inl ⟨hall, rfl, rfl⟩)
      · skip
        have bq9 := mt (zge rfl hs (by omega) (by omega)).mpr bq9
        refine J_iloadn_2 (pc := 12) hc dX4_lay_12 ?_
        refine J_if_eq (pc := 13) hc 56 dX4_lay_13 (by decide) (fun bq13 => ?_) (fun bq13 => ?_)
        · skip
          refine J_iconst (pc := 56) hc dX4_lay_56 (v := 0) (by decide) ?_
          refine J_istoren_2 (pc := 57) hc dX4_lay_57 rfl ?_
          refine J_iinc_3 (pc := 58) hc dX4_lay_58 (by first | exact nI_1 _ | exact rfl) rfl ?_
          refine J_goto (pc := 61) hc 4 dX4_lay_61 (by decide) ?_
          first | exact J_weak (by repeat (first | exact zle_nil | apply zle_s | apply zle_n)) (ih4 _ (by omega) (i + 1) 1 rfl (by omega) (zb_1 (lt_s (hb.t bq13) ⟨h1, h2, h3⟩))) | exact J_weak (by repeat (first | exact zle_nil | apply zle_s | apply zle_n)) (ih4 _ (by omega) (i + 1) 0 rfl (by omega) (zb_0 (fun h => hbad (h i (by omega))))) | exact J_weak (by repeat (first | exact zle_nil | apply zle_s | apply zle_n)) (ih4 _ (by omega) (i + 1) 0 rfl (by omega) (zb_0 (fun h => hb.f bq13 (fun j hj => h j (by omega)))))
        · skip
          refine J_aloadn_0 (pc := 16) hc dX4_lay_16 ?_
          refine gX4_25 (pc := 17) hc dX4_lay_17 ?_
          refine J_iloadn_3 (pc := 20) hc dX4_lay_20 ?_
          refine J_lald (pc := 21) hc (by decide) dX4_lay_21 (by first | with_reducible exact rfl | with_reducible exact nI_1 _ | with_reducible exact z16 _ _ | with_reducible exact zm1 (by omega) | assumption | exact rfl) (by omega) ?_
          refine kX4_57 (pc := 22) hc hR dX4_lay_22 (c_X4_isSmall) (by decide) (Nat.le_of_ble_eq_true rfl) rfl (fun r u hu => ?_)
          have hr := hu.1
          refine J_eq hu.2 ?_
          refine J_if_eq (pc := 25) hc 56 dX4_lay_25 (by decide) (fun bq25 => ?_) (fun bq25 => ?_)
          · skip
            have hbad : ¬ zsmP σ i := fun h => hr.f bq25 h.1
            refine J_iconst (pc := 56) hc dX4_lay_56 (v := 0) (by decide) ?_
            refine J_istoren_2 (pc := 57) hc dX4_lay_57 rfl ?_
            refine J_iinc_3 (pc := 58) hc dX4_lay_58 (by first | exact nI_1 _ | exact rfl) rfl ?_
            refine J_goto (pc := 61) hc 4 dX4_lay_61 (by decide) ?_
            first | exact J_weak (by repeat (first | exact zle_nil | apply zle_s | apply zle_n)) (ih4 _ (by omega) (i + 1) 1 rfl (by omega) (zb_1 (lt_s (hb.t bq13) ⟨h1, h2, h3⟩))) | exact J_weak (by repeat (first | exact zle_nil | apply zle_s | apply zle_n)) (ih4 _ (by omega) (i + 1) 0 rfl (by omega) (zb_0 (fun h => hbad (h i (by omega))))) | exact J_weak (by repeat (first | exact zle_nil | apply zle_s | apply zle_n)) (ih4 _ (by omega) (i + 1) 0 rfl (by omega) (zb_0 (fun h => hb.f bq13 (fun j hj => h j (by omega)))))
          · skip
            have h1 := hr.t bq25
            refine J_aloadn_0 (pc := 28) hc dX4_lay_28 ?_
            refine gX4_29 (pc := 29) hc dX4_lay_29 ?_
            refine J_iloadn_3 (pc := 32) hc dX4_lay_32 ?_
            refine J_lald (pc := 33) hc (by decide) dX4_lay_33 (by first | with_reducible exact rfl | with_reducible exact nI_1 _ | with_reducible exact z16 _ _ | with_reducible exact zm1 (by omega) | assumption | exact rfl) (by omega) ?_
            refine kX4_57 (pc := 34) hc hR dX4_lay_34 (c_X4_isSmall) (by decide) (Nat.le_of_ble_eq_true rfl) rfl (fun r u hu => ?_)
            have hr := hu.1
            refine J_eq hu.2 ?_
            refine J_if_eq (pc := 37) hc 56 dX4_lay_37 (by decide) (fun bq37 => ?_) (fun bq37 => ?_)
            · skip
              have hbad : ¬ zsmP σ i := fun h => hr.f bq37 h.2.1
              refine J_iconst (pc := 56) hc dX4_lay_56 (v := 0) (by decide) ?_
              refine J_istoren_2 (pc := 57) hc dX4_lay_57 rfl ?_
              refine J_iinc_3 (pc := 58) hc dX4_lay_58 (by first | exact nI_1 _ | exact rfl) rfl ?_
              refine J_goto (pc := 61) hc 4 dX4_lay_61 (by decide) ?_
              first | exact J_weak (by repeat (first | exact zle_nil | apply zle_s | apply zle_n)) (ih4 _ (by omega) (i + 1) 1 rfl (by omega) (zb_1 (lt_s (hb.t bq13) ⟨h1, h2, h3⟩))) | exact J_weak (by repeat (first | exact zle_nil | apply zle_s | apply zle_n)) (ih4 _ (by omega) (i + 1) 0 rfl (by omega) (zb_0 (fun h => hbad (h i (by omega))))) | exact J_weak (by repeat (first | exact zle_nil | apply zle_s | apply zle_n)) (ih4 _ (by omega) (i + 1) 0 rfl (by omega) (zb_0 (fun h => hb.f bq13 (fun j hj => h j (by omega)))))
            · skip
              have h2 := hr.t bq37
              refine J_aloadn_0 (pc := 40) hc dX4_lay_40 ?_
              refine gX4_32 (pc := 41) hc dX4_lay_41 ?_
              refine J_iloadn_3 (pc := 44) hc dX4_lay_44 ?_
              refine J_lald (pc := 45) hc (by decide) dX4_lay_45 (by first | with_reducible exact rfl | with_reducible exact nI_1 _ | with_reducible exact z16 _ _ | with_reducible exact zm1 (by omega) | assumption | exact rfl) (by omega) ?_
              refine kX4_57 (pc := 46) hc hR dX4_lay_46 (c_X4_isSmall) (by decide) (Nat.le_of_ble_eq_true rfl) rfl (fun r u hu => ?_)
              have hr := hu.1
              refine J_eq hu.2 ?_
              refine J_if_eq (pc := 49) hc 56 dX4_lay_49 (by decide) (fun bq49 => ?_) (fun bq49 => ?_)
              · skip
                have hbad : ¬ zsmP σ i := fun h => hr.f bq49 h.2.2
                refine J_iconst (pc := 56) hc dX4_lay_56 (v := 0) (by decide) ?_
                refine J_istoren_2 (pc := 57) hc dX4_lay_57 rfl ?_
                refine J_iinc_3 (pc := 58) hc dX4_lay_58 (by first | exact nI_1 _ | exact rfl) rfl ?_
                refine J_goto (pc := 61) hc 4 dX4_lay_61 (by decide) ?_
                first | exact J_weak (by repeat (first | exact zle_nil | apply zle_s | apply zle_n)) (ih4 _ (by omega) (i + 1) 1 rfl (by omega) (zb_1 (lt_s (hb.t bq13) ⟨h1, h2, h3⟩))) | exact J_weak (by repeat (first | exact zle_nil | apply zle_s | apply zle_n)) (ih4 _ (by omega) (i + 1) 0 rfl (by omega) (zb_0 (fun h => hbad (h i (by omega))))) | exact J_weak (by repeat (first | exact zle_nil | apply zle_s | apply zle_n)) (ih4 _ (by omega) (i + 1) 0 rfl (by omega) (zb_0 (fun h => hb.f bq13 (fun j hj => h j (by omega)))))
              · skip
                have h3 := hr.t bq49
                refine J_iconst (pc := 52) hc dX4_lay_52 (v := 1) (by decide) ?_
                refine J_goto (pc := 53) hc 57 dX4_lay_53 (by decide) ?_
                refine J_istoren_2 (pc := 57) hc dX4_lay_57 rfl ?_
                refine J_iinc_3 (pc := 58) hc dX4_lay_58 (by first | exact nI_1 _ | exact rfl) rfl ?_
                refine J_goto (pc := 61) hc 4 dX4_lay_61 (by decide) ?_
                first | exact J_weak (by repeat (first | exact zle_nil | apply zle_s | apply zle_n)) (ih4 _ (by omega) (i + 1) 1 rfl (by omega) (zb_1 (lt_s (hb.t bq13) ⟨h1, h2, h3⟩))) | exact J_weak (by repeat (first | exact zle_nil | apply zle_s | apply zle_n)) (ih4 _ (by omega) (i + 1) 0 rfl (by omega) (zb_0 (fun h => hbad (h i (by omega))))) | exact J_weak (by repeat (first | exact zle_nil | apply zle_s | apply zle_n)) (ih4 _ (by omega) (i + 1) 0 rfl (by omega) (zb_0 (fun h => hb.f bq13 (fun j hj => h j (by omega)))))
  exact J_weak (by repeat (first | exact zle_nil | apply zle_s | apply zle_n)) (hL4 _ 0 1 rfl (by omega) (zb_1 lt_0))
set_option maxRecDepth 100000 in
set_option maxHeartbeats 4000000 in
theorem c_X4_common {l : Launch} {gg : zG} {σ : zS} {x : Int64} {D : Nat} (hx : zbd x.toInt 4000000000000000000) (hD0 : 0 < D) (hD : D < 8192) : zMl l gg yX4_common cX4_common 10 0 0 [.long x, .long (lN D)] σ (fun r u => r = lN (Nat.gcd x.toInt.natAbs D) ∧ u = σ) := by
  refine zM_l (own := RX4) (lv := [some (.long x), none, some (.long (lN D)), none, none, none, none, none, none, none]) (by decide +kernel) rfl (Nat.le_of_ble_eq_true rfl) rfl (fun cx hc hR hI => ?_)
  refine J_lloadn_0 (pc := 0) hc dX4_common_0 ?_
  refine J_lconst (pc := 1) hc dX4_common_1 (v := 0) (by decide) ?_
  refine J_lcmp_ge (pc := 2) hc 11 dX4_common_2 dX4_common_3 (by decide) (fun bq2 => ?_) (fun bq2 => ?_)
  · skip
    refine J_lloadn_0 (pc := 11) hc dX4_common_11 ?_
    refine J_topl (y := lN x.toInt.natAbs) (by first | (rw [← zabsL hx (by decide), if_pos bq2]) | (rw [← zabsL hx (by decide), if_neg bq2])) ?_
    refine J_lstore_4 (pc := 12) hc dX4_common_12 rfl ?_
    refine J_lloadn_2 (pc := 14) hc dX4_common_14 ?_
    refine J_lstore_6 (pc := 15) hc dX4_common_15 rfl ?_
    have hL17 : ∀ (μ : Nat) (A B : Nat), B = μ → A < 9223372036854775808 → B < 8192 → Nat.gcd A B = Nat.gcd x.toInt.natAbs D → J cx gg (zQl cx gg (fun r u => r = lN (Nat.gcd x.toInt.natAbs D) ∧ u = σ)) σ 17 [some (.long x), none, some (.long (lN D)), none, some (.long (lN A)), none, some (.long (lN B)), none, none, none] [] := by
      intro μ
      induction μ using Nat.strongRecOn with
      | ind μ ih17 =>
        intro A B hμ hA hB hg
        refine J_lload_6 (pc := 17) hc dX4_common_17 ?_
        refine J_lconst (pc := 19) hc dX4_common_19 (v := 0) (by decide) ?_
        refine J_lcmp_eq (pc := 20) hc 42 dX4_common_20 dX4_common_21 (by decide) (fun bq20 => ?_) (fun bq20 => ?_)
        · skip
          have hB1 : B = 0 := (pk_lEQ (by omega) (by omega)).mp (bq20.trans rfl)
          rw [hB1, Nat.gcd_zero_right] at hg
          refine J_lload_4 (pc := 42) hc dX4_common_42 ?_
          exact J_lret (pc := 44) hc hI dX4_common_44 ⟨by rw [hg], rfl⟩
        · skip
          have hB0 : 0 < B := Nat.pos_of_ne_zero (fun q => bq20 (by rw [q]; rfl))
          refine J_lload_4 (pc := 24) hc dX4_common_24 ?_
          refine J_lload_6 (pc := 26) hc dX4_common_26 ?_
          refine J_lrem (pc := 28) hc dX4_common_28 bq20 ?_
          refine J_topl (pk_lRem (by omega) hB0 (by omega)) ?_
          refine J_lstore_8 (pc := 29) hc dX4_common_29 rfl ?_
          refine J_lload_6 (pc := 31) hc dX4_common_31 ?_
          refine J_lstore_4 (pc := 33) hc dX4_common_33 rfl ?_
          refine J_lload_8 (pc := 35) hc dX4_common_35 ?_
          refine J_lstore_6 (pc := 37) hc dX4_common_37 rfl ?_
          refine J_goto (pc := 39) hc 17 dX4_common_39 (by decide) ?_
          have hmm := Nat.mod_lt A hB0
          exact J_weak (by repeat (first | exact zle_nil | apply zle_s | apply zle_n)) (ih17 (A % B) (by omega) B (A % B) rfl (by omega) (by omega) ((zgcd A B).trans hg))
    exact J_weak (by repeat (first | exact zle_nil | apply zle_s | apply zle_n)) (hL17 _ x.toInt.natAbs D rfl (by unfold zbd at hx; omega) hD rfl)
  · skip
    refine J_lloadn_0 (pc := 6) hc dX4_common_6 ?_
    refine J_lneg (pc := 7) hc dX4_common_7 ?_
    refine J_goto (pc := 8) hc 12 dX4_common_8 (by decide) ?_
    refine J_topl (y := lN x.toInt.natAbs) (by first | (rw [← zabsL hx (by decide), if_pos bq2]) | (rw [← zabsL hx (by decide), if_neg bq2])) ?_
    refine J_lstore_4 (pc := 12) hc dX4_common_12 rfl ?_
    refine J_lloadn_2 (pc := 14) hc dX4_common_14 ?_
    refine J_lstore_6 (pc := 15) hc dX4_common_15 rfl ?_
    have hL17 : ∀ (μ : Nat) (A B : Nat), B = μ → A < 9223372036854775808 → B < 8192 → Nat.gcd A B = Nat.gcd x.toInt.natAbs D → J cx gg (zQl cx gg (fun r u => r = lN (Nat.gcd x.toInt.natAbs D) ∧ u = σ)) σ 17 [some (.long x), none, some (.long (lN D)), none, some (.long (lN A)), none, some (.long (lN B)), none, none, none] [] := by
      intro μ
      induction μ using Nat.strongRecOn with
      | ind μ ih17 =>
        intro A B hμ hA hB hg
        refine J_lload_6 (pc := 17) hc dX4_common_17 ?_
        refine J_lconst (pc := 19) hc dX4_common_19 (v := 0) (by decide) ?_
        refine J_lcmp_eq (pc := 20) hc 42 dX4_common_20 dX4_common_21 (by decide) (fun bq20 => ?_) (fun bq20 => ?_)
        · skip
          have hB1 : B = 0 := (pk_lEQ (by omega) (by omega)).mp (bq20.trans rfl)
          rw [hB1, Nat.gcd_zero_right] at hg
          refine J_lload_4 (pc := 42) hc dX4_common_42 ?_
          exact J_lret (pc := 44) hc hI dX4_common_44 ⟨by rw [hg], rfl⟩
        · skip
          have hB0 : 0 < B := Nat.pos_of_ne_zero (fun q => bq20 (by rw [q]; rfl))
          refine J_lload_4 (pc := 24) hc dX4_common_24 ?_
          refine J_lload_6 (pc := 26) hc dX4_common_26 ?_
          refine J_lrem (pc := 28) hc dX4_common_28 bq20 ?_
          refine J_topl (pk_lRem (by omega) hB0 (by omega)) ?_
          refine J_lstore_8 (pc := 29) hc dX4_common_29 rfl ?_
          refine J_lload_6 (pc := 31) hc dX4_common_31 ?_
          refine J_lstore_4 (pc := 33) hc dX4_common_33 rfl ?_
          refine J_lload_8 (pc := 35) hc dX4_common_35 ?_
          refine J_lstore_6 (pc := 37) hc dX4_common_37 rfl ?_
          refine J_goto (pc := 39) hc 17 dX4_common_39 (by decide) ?_
          have hmm := Nat.mod_lt A hB0
          exact J_weak (by repeat (first | exact zle_nil | apply zle_s | apply zle_n)) (ih17 (A % B) (by omega) B (A % B) rfl (by omega) (by omega) ((zgcd A B).trans hg))
    exact J_weak (by repeat (first | exact zle_nil | apply zle_s | apply zle_n)) (hL17 _ x.toInt.natAbs D rfl (by unfold zbd at hx; omega) hD rfl)
set_option maxRecDepth 100000 in
set_option maxHeartbeats 4000000 in
theorem c_X4_told {l : Launch} {gg : zG} {σ : zS} {x : Int64} {D : Nat} {w : Int32} (hx : zbd x.toInt 4000000000000000000) (hD0 : 0 < D) (hD : D < 8192) : zMl l gg yX4_told cX4_told 7 1 29 [.long x, .long (lN D), .int w] σ (fun r u => r = (if w = 0 then x else lN D) / lN (Nat.gcd x.toInt.natAbs D) ∧ u = σ) := by
  have hg0 : ¬ lN (Nat.gcd x.toInt.natAbs D) = 0 := fun h => absurd ((pk_lEQ (by have := Nat.gcd_le_right x.toInt.natAbs hD0; omega) (by omega)).mp (h.trans (show (0 : Int64) = lN 0 from rfl))) (by have := Nat.gcd_pos_of_pos_right x.toInt.natAbs hD0; omega)
  refine zM_l (own := RX4) (lv := [some (.long x), none, some (.long (lN D)), none, some (.int w), none, none]) (by decide +kernel) rfl (Nat.le_of_ble_eq_true rfl) rfl (fun cx hc hR hI => ?_)
  refine J_lloadn_0 (pc := 0) hc dX4_told_0 ?_
  refine J_lloadn_2 (pc := 1) hc dX4_told_1 ?_
  refine kX4_68 (pc := 2) hc hR dX4_told_2 (c_X4_common hx hD0 hD) (by decide) (Nat.le_of_ble_eq_true rfl) rfl (fun r u hu => ?_)
  refine J_eq hu.2 (J_topl hu.1 ?_)
  refine J_lstore_5 (pc := 5) hc dX4_told_5 rfl ?_
  refine J_iload_4 (pc := 7) hc dX4_told_7 ?_
  refine J_if_ne (pc := 9) hc 19 dX4_told_9 (by decide) (fun bq9 => ?_) (fun bq9 => ?_)
  · skip
    refine J_lloadn_2 (pc := 19) hc dX4_told_19 ?_
    refine J_lload_5 (pc := 20) hc dX4_told_20 ?_
    refine J_ldiv (pc := 22) hc dX4_told_22 hg0 ?_
    exact J_lret (pc := 23) hc hI dX4_told_23 (by first | exact ⟨by rw [if_neg bq9], rfl⟩ | exact ⟨by rw [if_pos bq9], rfl⟩)
  · skip
    refine J_lloadn_0 (pc := 12) hc dX4_told_12 ?_
    refine J_lload_5 (pc := 13) hc dX4_told_13 ?_
    refine J_ldiv (pc := 15) hc dX4_told_15 hg0 ?_
    refine J_goto (pc := 16) hc 23 dX4_told_16 (by decide) ?_
    exact J_lret (pc := 23) hc hI dX4_told_23 (by first | exact ⟨by rw [if_neg bq9], rfl⟩ | exact ⟨by rw [if_pos bq9], rfl⟩)
set_option maxRecDepth 100000 in
set_option maxHeartbeats 4000000 in
theorem c_X4_joinOf {l : Launch} {gg : zG} {σ : zS} {i : Nat} {x : Int32} (hx : x = nI i) (h0 : 0 < i) (hi : i < 16) : zMi l gg yX4_joinOf cX4_joinOf .int 2 0 0 [.ref (zM gg), .int x] σ (fun r u => r = zjm σ i ∧ u = σ) := by
  subst hx
  refine zM_i (own := RX4) (lv := [some (.ref (zM gg)), some (.int (nI i))]) (by decide +kernel) rfl (Nat.le_of_ble_eq_true rfl) rfl (fun cx hc hR hI => ?_)
  refine J_aloadn_0 (pc := 0) hc dX4_joinOf_0 ?_
  refine gX4_25 (pc := 1) hc dX4_joinOf_1 ?_
  refine J_iloadn_1 (pc := 4) hc dX4_joinOf_4 ?_
  refine J_iconst (pc := 5) hc dX4_joinOf_5 (v := 1) (by decide) ?_
  refine J_isub (pc := 6) hc dX4_joinOf_6 ?_
  refine J_lald (pc := 7) hc (by decide) dX4_joinOf_7 (by first | with_reducible exact rfl | with_reducible exact nI_1 _ | with_reducible exact z16 _ _ | with_reducible exact zm1 (by omega) | assumption | exact rfl) (by omega) ?_
  refine J_aloadn_0 (pc := 8) hc dX4_joinOf_8 ?_
  refine gX4_29 (pc := 9) hc dX4_joinOf_9 ?_
  refine J_iloadn_1 (pc := 12) hc dX4_joinOf_12 ?_
  refine J_iconst (pc := 13) hc dX4_joinOf_13 (v := 1) (by decide) ?_
  refine J_isub (pc := 14) hc dX4_joinOf_14 ?_
  refine J_lald (pc := 15) hc (by decide) dX4_joinOf_15 (by first | with_reducible exact rfl | with_reducible exact nI_1 _ | with_reducible exact z16 _ _ | with_reducible exact zm1 (by omega) | assumption | exact rfl) (by omega) ?_
  refine J_ladd (pc := 16) hc dX4_joinOf_16 ?_
  refine J_aloadn_0 (pc := 17) hc dX4_joinOf_17 ?_
  refine gX4_32 (pc := 18) hc dX4_joinOf_18 ?_
  refine J_iloadn_1 (pc := 21) hc dX4_joinOf_21 ?_
  refine J_iconst (pc := 22) hc dX4_joinOf_22 (v := 1) (by decide) ?_
  refine J_isub (pc := 23) hc dX4_joinOf_23 ?_
  refine J_lald (pc := 24) hc (by decide) dX4_joinOf_24 (by first | with_reducible exact rfl | with_reducible exact nI_1 _ | with_reducible exact z16 _ _ | with_reducible exact zm1 (by omega) | assumption | exact rfl) (by omega) ?_
  refine J_ladd (pc := 25) hc dX4_joinOf_25 ?_
  refine J_aloadn_0 (pc := 26) hc dX4_joinOf_26 ?_
  refine gX4_25 (pc := 27) hc dX4_joinOf_27 ?_
  refine J_iloadn_1 (pc := 30) hc dX4_joinOf_30 ?_
  refine J_lald (pc := 31) hc (by decide) dX4_joinOf_31 (by first | with_reducible exact rfl | with_reducible exact nI_1 _ | with_reducible exact z16 _ _ | with_reducible exact zm1 (by omega) | assumption | exact rfl) (by omega) ?_
  refine J_lcmp_eq (pc := 32) hc 38 dX4_joinOf_32 dX4_joinOf_33 (by decide) (fun bq32 => ?_) (fun bq32 => ?_)
  · skip
    refine J_aloadn_0 (pc := 38) hc dX4_joinOf_38 ?_
    refine gX4_29 (pc := 39) hc dX4_joinOf_39 ?_
    refine J_iloadn_1 (pc := 42) hc dX4_joinOf_42 ?_
    refine J_iconst (pc := 43) hc dX4_joinOf_43 (v := 1) (by decide) ?_
    refine J_isub (pc := 44) hc dX4_joinOf_44 ?_
    refine J_lald (pc := 45) hc (by decide) dX4_joinOf_45 (by first | with_reducible exact rfl | with_reducible exact nI_1 _ | with_reducible exact z16 _ _ | with_reducible exact zm1 (by omega) | assumption | exact rfl) (by omega) ?_
    refine nX4_61 (pc := 46) hc dX4_joinOf_46 ?_
    refine J_aloadn_0 (pc := 49) hc dX4_joinOf_49 ?_
    refine gX4_32 (pc := 50) hc dX4_joinOf_50 ?_
    refine J_iloadn_1 (pc := 53) hc dX4_joinOf_53 ?_
    refine J_iconst (pc := 54) hc dX4_joinOf_54 (v := 1) (by decide) ?_
    refine J_isub (pc := 55) hc dX4_joinOf_55 ?_
    refine J_lald (pc := 56) hc (by decide) dX4_joinOf_56 (by first | with_reducible exact rfl | with_reducible exact nI_1 _ | with_reducible exact z16 _ _ | with_reducible exact zm1 (by omega) | assumption | exact rfl) (by omega) ?_
    refine J_lmul (pc := 57) hc dX4_joinOf_57 ?_
    refine J_ladd (pc := 58) hc dX4_joinOf_58 ?_
    refine J_aloadn_0 (pc := 59) hc dX4_joinOf_59 ?_
    refine gX4_29 (pc := 60) hc dX4_joinOf_60 ?_
    refine J_iloadn_1 (pc := 63) hc dX4_joinOf_63 ?_
    refine J_lald (pc := 64) hc (by decide) dX4_joinOf_64 (by first | with_reducible exact rfl | with_reducible exact nI_1 _ | with_reducible exact z16 _ _ | with_reducible exact zm1 (by omega) | assumption | exact rfl) (by omega) ?_
    refine J_lcmp_eq (pc := 65) hc 73 dX4_joinOf_65 dX4_joinOf_66 (by decide) (fun bq65 => ?_) (fun bq65 => ?_)
    · skip
      refine J_aloadn_0 (pc := 73) hc dX4_joinOf_73 ?_
      refine gX4_32 (pc := 74) hc dX4_joinOf_74 ?_
      refine J_iloadn_1 (pc := 77) hc dX4_joinOf_77 ?_
      refine J_iconst (pc := 78) hc dX4_joinOf_78 (v := 1) (by decide) ?_
      refine J_isub (pc := 79) hc dX4_joinOf_79 ?_
      refine J_lald (pc := 80) hc (by decide) dX4_joinOf_80 (by first | with_reducible exact rfl | with_reducible exact nI_1 _ | with_reducible exact z16 _ _ | with_reducible exact zm1 (by omega) | assumption | exact rfl) (by omega) ?_
      refine J_aloadn_0 (pc := 81) hc dX4_joinOf_81 ?_
      refine gX4_32 (pc := 82) hc dX4_joinOf_82 ?_
      refine J_iloadn_1 (pc := 85) hc dX4_joinOf_85 ?_
      refine J_lald (pc := 86) hc (by decide) dX4_joinOf_86 (by first | with_reducible exact rfl | with_reducible exact nI_1 _ | with_reducible exact z16 _ _ | with_reducible exact zm1 (by omega) | assumption | exact rfl) (by omega) ?_
      refine J_lcmp_eq (pc := 87) hc 95 dX4_joinOf_87 dX4_joinOf_88 (by decide) (fun bq87 => ?_) (fun bq87 => ?_)
      · skip
        refine J_iconst (pc := 95) hc dX4_joinOf_95 (v := 2) (by decide) ?_
        exact J_iret (pc := 96) hc hI dX4_joinOf_96 (by first | exact ⟨by unfold zjm; rw [if_pos bq32, if_pos bq65, if_pos bq87], rfl⟩ | exact ⟨by unfold zjm; rw [if_pos bq32, if_pos bq65, if_neg bq87], rfl⟩ | exact ⟨by unfold zjm; rw [if_pos bq32, if_neg bq65], rfl⟩)
      · skip
        refine J_iconst (pc := 91) hc dX4_joinOf_91 (v := 1) (by decide) ?_
        refine J_goto (pc := 92) hc 96 dX4_joinOf_92 (by decide) ?_
        exact J_iret (pc := 96) hc hI dX4_joinOf_96 (by first | exact ⟨by unfold zjm; rw [if_pos bq32, if_pos bq65, if_pos bq87], rfl⟩ | exact ⟨by unfold zjm; rw [if_pos bq32, if_pos bq65, if_neg bq87], rfl⟩ | exact ⟨by unfold zjm; rw [if_pos bq32, if_neg bq65], rfl⟩)
    · skip
      refine J_iconst (pc := 69) hc dX4_joinOf_69 (v := 0) (by decide) ?_
      refine J_goto (pc := 70) hc 96 dX4_joinOf_70 (by decide) ?_
      exact J_iret (pc := 96) hc hI dX4_joinOf_96 (by first | exact ⟨by unfold zjm; rw [if_pos bq32, if_pos bq65, if_pos bq87], rfl⟩ | exact ⟨by unfold zjm; rw [if_pos bq32, if_pos bq65, if_neg bq87], rfl⟩ | exact ⟨by unfold zjm; rw [if_pos bq32, if_neg bq65], rfl⟩)
  · skip
    refine J_iconst (pc := 36) hc dX4_joinOf_36 (v := -1) (by decide) ?_
    exact J_iret (pc := 37) hc hI dX4_joinOf_37 ⟨(if_neg bq32).symm, rfl⟩
set_option maxRecDepth 100000 in
set_option maxHeartbeats 4000000 in
theorem c_X4_bendOf {l : Launch} {gg : zG} {σ : zS} {n : Nat} (hs : si σ 12 = nI n) (hn : n ≤ 16) : zMl l gg yX4_bendOf cX4_bendOf 4 0 0 [.ref (zM gg)] σ (fun r u => r = zbo σ n ∧ u = σ) := by
  refine zM_l (own := RX4) (lv := [some (.ref (zM gg)), none, none, none]) (by decide +kernel) rfl (Nat.le_of_ble_eq_true rfl) rfl (fun cx hc hR hI => ?_)
  refine J_lconst (pc := 0) hc dX4_bendOf_0 (v := 0) (by decide) ?_
  refine J_lstoren_1 (pc := 1) hc dX4_bendOf_1 rfl ?_
  refine J_iconst (pc := 2) hc dX4_bendOf_2 (v := 0) (by decide) ?_
  refine J_istoren_3 (pc := 3) hc dX4_bendOf_3 rfl ?_
  have hL4 : ∀ (μ : Nat) (i : Nat), n - i = μ → i ≤ n → J cx gg (zQl cx gg (fun r u => r = zbo σ n ∧ u = σ)) σ 4 [some (.ref (zM gg)), some (.long (zbo σ i)), none, some (.int (nI i))] [] := by
    intro μ
    induction μ using Nat.strongRecOn with
    | ind μ ih4 =>
      intro i hμ hi
      refine J_iloadn_3 (pc := 4) hc dX4_bendOf_4 ?_
      refine J_aloadn_0 (pc := 5) hc dX4_bendOf_5 ?_
      refine gX4_64 (pc := 6) hc dX4_bendOf_6 ?_
      refine J_icmp_ge (pc := 9) hc 34 dX4_bendOf_9 (by decide) (fun bq9 => ?_) (fun bq9 => ?_)
      · skip
        have bq9 := (zge rfl hs (by omega) (by omega)).mp bq9
        refine J_lloadn_1 (pc := 34) hc dX4_bendOf_34 ?_
        exact J_lret (pc := 35) hc hI dX4_bendOf_35 ⟨by rw [show i = n by omega], rfl⟩
      · skip
        have bq9 := mt (zge rfl hs (by omega) (by omega)).mpr bq9
        refine J_lloadn_1 (pc := 12) hc dX4_bendOf_12 ?_
        refine J_aloadn_0 (pc := 13) hc dX4_bendOf_13 ?_
        refine gX4_32 (pc := 14) hc dX4_bendOf_14 ?_
        refine J_iloadn_3 (pc := 17) hc dX4_bendOf_17 ?_
        refine J_lald (pc := 18) hc (by decide) dX4_bendOf_18 (by first | with_reducible exact rfl | with_reducible exact nI_1 _ | with_reducible exact z16 _ _ | with_reducible exact zm1 (by omega) | assumption | exact rfl) (by omega) ?_
        refine J_aloadn_0 (pc := 19) hc dX4_bendOf_19 ?_
        refine gX4_32 (pc := 20) hc dX4_bendOf_20 ?_
        refine J_iloadn_3 (pc := 23) hc dX4_bendOf_23 ?_
        refine J_lald (pc := 24) hc (by decide) dX4_bendOf_24 (by first | with_reducible exact rfl | with_reducible exact nI_1 _ | with_reducible exact z16 _ _ | with_reducible exact zm1 (by omega) | assumption | exact rfl) (by omega) ?_
        refine J_lmul (pc := 25) hc dX4_bendOf_25 ?_
        refine J_ladd (pc := 26) hc dX4_bendOf_26 ?_
        refine J_lstoren_1 (pc := 27) hc dX4_bendOf_27 rfl ?_
        refine J_iinc_3 (pc := 28) hc dX4_bendOf_28 (by first | exact nI_1 _ | exact rfl) rfl ?_
        refine J_goto (pc := 31) hc 4 dX4_bendOf_31 (by decide) ?_
        exact J_weak (by repeat (first | exact zle_nil | apply zle_s | apply zle_n)) (ih4 _ (by omega) (i + 1) rfl (by omega))
  exact J_weak (by repeat (first | exact zle_nil | apply zle_s | apply zle_n)) (hL4 _ 0 rfl (by omega))
