theorem zfill_hi {α : Type} {n : Nat} (f g : Nat → α) : zfill n f g n = g n := if_neg (Nat.lt_irrefl n)
def zeqm (σ : zS) (k j i : Nat) : Prop := sa σ 24 (16 * k + i) = sa σ 24 (16 * j + i) ∧ sa σ 25 (16 * k + i) = sa σ 25 (16 * j + i) ∧ sa σ 26 (16 * k + i) = sa σ 26 (16 * j + i)
def zqA (σ : zS) (j m : Nat) : Int64 := 4 * (sa σ 24 (16 * j + m / 2)).toInt64 + 2 * (nI (m % 2)).toInt64 * (sa σ 25 (16 * j + m / 2)).toInt64 + (nI (m % 2)).toInt64 * (sa σ 26 (16 * j + m / 2)).toInt64
def zqB (σ : zS) (j m : Nat) : Int64 := 2 * (sa σ 25 (16 * j + m / 2)).toInt64 + 2 * (nI (m % 2)).toInt64 * (sa σ 26 (16 * j + m / 2)).toInt64
def zqC (σ : zS) (j m : Nat) : Int64 := (sa σ 26 (16 * j + m / 2)).toInt64
def zrm (σ : zS) (j n : Nat) : zS := z3 (ui σ 12 (nI (2 * n))) (zfill (2 * n) (zqA σ j) (sm σ 0)) (zfill (2 * n) (zqB σ j) (sm σ 1)) (zfill (2 * n) (zqC σ j) (sm σ 2))
def zsm (σ : zS) (j n : Nat) : zS := z3 (ui σ 12 (nI n)) (zfill n (fun i => (sa σ 25 (16 * j + i)).toInt64) (sm σ 0)) (zfill n (fun i => 2 * (sa σ 26 (16 * j + i)).toInt64) (sm σ 1)) (zfill n (fun _ => 0) (sm σ 2))
def zpm (σ : zS) (k n : Nat) (v : Int32) : zS := um (zlk σ k n) 0 (zfill n (fun i => sm (zlk σ k n) 0 i + v.toInt64) (sm (zlk σ k n) 0))
theorem um_um (σ : zS) (k : Nat) (F G : Nat → Int64) : um (um σ k F) k G = um σ k G := by
  apply zS_ext <;> intro j <;> try rfl
  simp only [sm_um]; split <;> rfl
theorem um_self (σ : zS) (k : Nat) : um σ k (sm σ k) = σ := by
  apply zS_ext <;> intro j <;> try rfl
  rw [sm_um]; split
  · subst_vars; rfl
  · rfl
theorem zrem2 {i : Nat} (h : i < 2 ^ 31) : nI i - nI i / 2 * 2 = nI (i % 2) := pk_rem (d := 2) h (by omega) (by omega)
def zwn (σ : zS) (k i V R : Nat) : Int64 := (sa σ 24 (16 * k + i)).toInt64 * (nI V).toInt64 * (nI V).toInt64 + (sa σ 25 (16 * k + i)).toInt64 * (nI R).toInt64 * (nI V).toInt64 + (sa σ 26 (16 * k + i)).toInt64 * (nI R).toInt64 * (nI R).toInt64
def zas (σ : zS) (k i : Nat) : Nat → Int64
  | 0 => 0
  | d + 1 => zas σ k i d + (6 * (sa σ 24 (16 * k + (i + d))).toInt64 + 3 * (sa σ 25 (16 * k + (i + d))).toInt64 + 2 * (sa σ 26 (16 * k + (i + d))).toInt64)
set_option maxRecDepth 100000 in
set_option maxHeartbeats 4000000 in
theorem c_X4_pieces {l : Launch} {gg : zG} {σ : zS} {x y : Int32}  : zMi l gg yX4_pieces cX4_pieces .int 4 2 45 [.ref (zM gg), .int x, .int y] σ (fun r u => (¬ zpl x ∧ r = -2 ∧ u = σ) ∨ (zpl x ∧ ¬ (1 ≤ y.toInt ∧ y.toInt ≤ 16) ∧ r = -3 ∧ u = σ) ∨ (∃ k n, k < 6 ∧ x = nI k ∧ 1 ≤ n ∧ n ≤ 16 ∧ y = nI n ∧ r = 1 ∧ u = zy4 σ (upd (sa σ 23) k (nI n)) (zfl k 16 (fun _ => 0) (sa σ 24)) (zfl k 16 (fun _ => 0) (sa σ 25)) (zfl k 16 (fun _ => 0) (sa σ 26)))) := by
  refine zM_i (own := RX4) (lv := [some (.ref (zM gg)), some (.int x), some (.int y), none]) (by decide +kernel) rfl (Nat.le_of_ble_eq_true rfl) rfl (fun cx hc hR hI => ?_)
  refine J_iloadn_1 (pc := 0) hc dX4_pieces_0 ?_
  refine kX4_51 (pc := 1) hc hR dX4_pieces_1 (c_X4_isPlace) (by decide) (Nat.le_of_ble_eq_true rfl) rfl (fun r u hu => ?_)
  have hr := hu.1
  refine J_eq hu.2 ?_
  refine J_if_ne (pc := 4) hc 10 dX4_pieces_4 (by decide) (fun bq4 => ?_) (fun bq4 => ?_)
  · skip
    obtain ⟨k, hk, hxk⟩ := zpl_nI (hr.t bq4)
    refine J_iloadn_2 (pc := 10) hc dX4_pieces_10 ?_
    refine J_i2l (pc := 11) hc dX4_pieces_11 ?_
    refine J_lconst (pc := 12) hc dX4_pieces_12 (v := 1) (by decide) ?_
    refine nX4_55 (pc := 13) hc dX4_pieces_13 ?_
    refine kX4_43 (pc := 16) hc hR dX4_pieces_16 (c_X4_in) (by decide) (Nat.le_of_ble_eq_true rfl) rfl (fun r u hu => ?_)
    have hr := hu.1
    refine J_eq hu.2 ?_
    refine J_if_ne (pc := 19) hc 25 dX4_pieces_19 (by decide) (fun bq19 => ?_) (fun bq19 => ?_)
    · skip
      obtain ⟨n, hn1, hn2, hyn⟩ := zvI (x := y) (n := 16) ((zin1 hr rfl (show (16 : Int64).toInt = 16 from rfl)).t bq19) (by omega)
      refine J_aloadn_0 (pc := 25) hc dX4_pieces_25 ?_
      refine gX4_7 (pc := 26) hc dX4_pieces_26 ?_
      refine J_iloadn_1 (pc := 29) hc dX4_pieces_29 ?_
      refine J_iloadn_2 (pc := 30) hc dX4_pieces_30 ?_
      refine J_iast (pc := 31) hc 6 (by omega) rfl dX4_pieces_31 hxk (by omega) ?_
      refine J_iconst (pc := 32) hc dX4_pieces_32 (v := 0) (by decide) ?_
      refine J_istoren_3 (pc := 33) hc dX4_pieces_33 rfl ?_
      have hL34 : ∀ (μ : Nat) (i : Nat), 16 - i = μ → i ≤ 16 → J cx gg (zQi cx gg (fun r u => (¬ zpl x ∧ r = -2 ∧ u = σ) ∨ (zpl x ∧ ¬ (1 ≤ y.toInt ∧ y.toInt ≤ 16) ∧ r = -3 ∧ u = σ) ∨ (∃ k n, k < 6 ∧ x = nI k ∧ 1 ≤ n ∧ n ≤ 16 ∧ y = nI n ∧ r = 1 ∧ u = zy4 σ (upd (sa σ 23) k (nI n)) (zfl k 16 (fun _ => 0) (sa σ 24)) (zfl k 16 (fun _ => 0) (sa σ 25)) (zfl k 16 (fun _ => 0) (sa σ 26))))) (zy4 σ (upd (sa σ 23) k y) (zfl k i (fun _ => 0) (sa σ 24)) (zfl k i (fun _ => 0) (sa σ 25)) (zfl k i (fun _ => 0) (sa σ 26))) 34 [some (.ref (zM gg)), some (.int x), some (.int y), some (.int (nI i))] [] := by
        intro μ
        induction μ using Nat.strongRecOn with
        | ind μ ih34 =>
          intro i hμ hi
          refine J_iloadn_3 (pc := 34) hc dX4_pieces_34 ?_
          refine J_bipush (pc := 35) hc dX4_pieces_35 (v := 16) (by decide) ?_
          refine J_icmp_ge (pc := 37) hc 82 dX4_pieces_37 (by decide) (fun bq37 => ?_) (fun bq37 => ?_)
          · skip
            have bq37 := (zge rfl (show (16 : Int32) = nI 16 from rfl) (by omega) (by omega)).mp bq37
            refine J_iconst (pc := 82) hc dX4_pieces_82 (v := 1) (by decide) ?_
            exact J_iret (pc := 83) hc hI dX4_pieces_83 (Or.inr (Or.inr ⟨k, n, hk, hxk, hn1, hn2, hyn, rfl, by rw [show i = 16 by omega, hyn]⟩))
          · skip
            have bq37 := mt (zge rfl (show (16 : Int32) = nI 16 from rfl) (by omega) (by omega)).mpr bq37
            refine J_aloadn_0 (pc := 40) hc dX4_pieces_40 ?_
            refine gX4_13 (pc := 41) hc dX4_pieces_41 ?_
            refine J_bipush (pc := 44) hc dX4_pieces_44 (v := 16) (by decide) ?_
            refine J_iloadn_1 (pc := 46) hc dX4_pieces_46 ?_
            refine J_imul (pc := 47) hc dX4_pieces_47 ?_
            refine J_iloadn_3 (pc := 48) hc dX4_pieces_48 ?_
            refine J_iadd (pc := 49) hc dX4_pieces_49 ?_
            refine J_iconst (pc := 50) hc dX4_pieces_50 (v := 0) (by decide) ?_
            refine J_iast (pc := 51) hc 96 (by omega) rfl dX4_pieces_51 (by rw [hxk]; exact z16 k i) (by omega) ?_
            refine J_aloadn_0 (pc := 52) hc dX4_pieces_52 ?_
            refine gX4_16 (pc := 53) hc dX4_pieces_53 ?_
            refine J_bipush (pc := 56) hc dX4_pieces_56 (v := 16) (by decide) ?_
            refine J_iloadn_1 (pc := 58) hc dX4_pieces_58 ?_
            refine J_imul (pc := 59) hc dX4_pieces_59 ?_
            refine J_iloadn_3 (pc := 60) hc dX4_pieces_60 ?_
            refine J_iadd (pc := 61) hc dX4_pieces_61 ?_
            refine J_iconst (pc := 62) hc dX4_pieces_62 (v := 0) (by decide) ?_
            refine J_iast (pc := 63) hc 96 (by omega) rfl dX4_pieces_63 (by rw [hxk]; exact z16 k i) (by omega) ?_
            refine J_aloadn_0 (pc := 64) hc dX4_pieces_64 ?_
            refine gX4_19 (pc := 65) hc dX4_pieces_65 ?_
            refine J_bipush (pc := 68) hc dX4_pieces_68 (v := 16) (by decide) ?_
            refine J_iloadn_1 (pc := 70) hc dX4_pieces_70 ?_
            refine J_imul (pc := 71) hc dX4_pieces_71 ?_
            refine J_iloadn_3 (pc := 72) hc dX4_pieces_72 ?_
            refine J_iadd (pc := 73) hc dX4_pieces_73 ?_
            refine J_iconst (pc := 74) hc dX4_pieces_74 (v := 0) (by decide) ?_
            refine J_iast (pc := 75) hc 96 (by omega) rfl dX4_pieces_75 (by rw [hxk]; exact z16 k i) (by omega) ?_
            refine J_iinc_3 (pc := 76) hc dX4_pieces_76 (by first | exact nI_1 _ | exact rfl) rfl ?_
            refine J_goto (pc := 79) hc 34 dX4_pieces_79 (by decide) ?_
            exact J_weak (by repeat (first | exact zle_nil | apply zle_s | apply zle_n)) (J_eq ((ua3y _ _ _ _ _ _ _ _).trans (zy4_eq (zfl_s (p := k) (i := i) (f := fun _ => 0) (g := sa σ 24) rfl) (zfl_s (p := k) (i := i) (f := fun _ => 0) (g := sa σ 25) rfl) (zfl_s (p := k) (i := i) (f := fun _ => 0) (g := sa σ 26) rfl))) (ih34 _ (by omega) (i + 1) rfl (by omega)))
      exact J_weak (by repeat (first | exact zle_nil | apply zle_s | apply zle_n)) (J_eq (by rw [zfl_0, zfl_0, zfl_0]; exact zy4_0 σ _) (hL34 _ 0 rfl (by omega)))
    · skip
      have hny := (zin1 hr (show (1 : Int64).toInt = 1 from rfl) (show (16 : Int64).toInt = 16 from rfl)).f bq19
      refine J_bipush (pc := 22) hc dX4_pieces_22 (v := -3) (by decide) ?_
      exact J_iret (pc := 24) hc hI dX4_pieces_24 (Or.inr (Or.inl ⟨by rw [hxk]; exact zpl_k hk, hny, rfl, rfl⟩))
  · skip
    have hnp := hr.f bq4
    refine J_bipush (pc := 7) hc dX4_pieces_7 (v := -2) (by decide) ?_
    exact J_iret (pc := 9) hc hI dX4_pieces_9 (Or.inl ⟨hnp, rfl, rfl⟩)
set_option maxRecDepth 100000 in
set_option maxHeartbeats 4000000 in
theorem c_X4_piece {l : Launch} {gg : zG} {σ : zS} {x y a b c : Int32} {N : Nat → Nat} (hz : zRv σ N) : zMi l gg yX4_piece cX4_piece .int 6 2 46 [.ref (zM gg), .int x, .int y, .int a, .int b, .int c] σ (fun r u => (¬ zpcs N x y ∧ r = -2 ∧ u = σ) ∨ (zpcs N x y ∧ ¬ (zcf a ∧ zcf b ∧ zcf c) ∧ r = -5 ∧ u = σ) ∨ ((zcf a ∧ zcf b ∧ zcf c) ∧ ∃ k i, k < 6 ∧ x = nI k ∧ i < N k ∧ y = nI i ∧ r = 1 ∧ u = zy4 σ (sa σ 23) (upd (sa σ 24) (16 * k + i) a) (upd (sa σ 25) (16 * k + i) b) (upd (sa σ 26) (16 * k + i) c))) := by
  refine zM_i (own := RX4) (lv := [some (.ref (zM gg)), some (.int x), some (.int y), some (.int a), some (.int b), some (.int c)]) (by decide +kernel) rfl (Nat.le_of_ble_eq_true rfl) rfl (fun cx hc hR hI => ?_)
  refine J_iloadn_1 (pc := 0) hc dX4_piece_0 ?_
  refine kX4_51 (pc := 1) hc hR dX4_piece_1 (c_X4_isPlace) (by decide) (Nat.le_of_ble_eq_true rfl) rfl (fun r u hu => ?_)
  have hr := hu.1
  refine J_eq hu.2 ?_
  refine J_if_eq (pc := 4) hc 25 dX4_piece_4 (by decide) (fun bq4 => ?_) (fun bq4 => ?_)
  · skip
    have hnp : ¬ zpcs N x y := fun ⟨k, i, h1, h2, _, _⟩ => hr.f bq4 (by rw [h2]; exact zpl_k h1)
    refine J_bipush (pc := 25) hc dX4_piece_25 (v := -2) (by decide) ?_
    exact J_iret (pc := 27) hc hI dX4_piece_27 (Or.inl ⟨hnp, rfl, rfl⟩)
  · skip
    obtain ⟨k, hk, hxk⟩ := zpl_nI (hr.t bq4)
    have hzk := hz k hk
    refine J_iloadn_2 (pc := 7) hc dX4_piece_7 ?_
    refine J_i2l (pc := 8) hc dX4_piece_8 ?_
    refine J_lconst (pc := 9) hc dX4_piece_9 (v := 0) (by decide) ?_
    refine J_aloadn_0 (pc := 10) hc dX4_piece_10 ?_
    refine gX4_7 (pc := 11) hc dX4_piece_11 ?_
    refine J_iloadn_1 (pc := 14) hc dX4_piece_14 ?_
    refine J_iald (pc := 15) hc 6 (by omega) rfl dX4_piece_15 hxk (by omega) ?_
    refine J_iconst (pc := 16) hc dX4_piece_16 (v := 1) (by decide) ?_
    refine J_isub (pc := 17) hc dX4_piece_17 ?_
    refine J_topi (y := nI (N k - 1)) (by rw [hzk.2.2.1]; exact zm1 (by omega)) ?_
    refine J_i2l (pc := 18) hc dX4_piece_18 ?_
    refine kX4_43 (pc := 19) hc hR dX4_piece_19 (c_X4_in) (by decide) (Nat.le_of_ble_eq_true rfl) rfl (fun r u hu => ?_)
    have hr := hu.1
    refine J_eq hu.2 ?_
    refine J_if_ne (pc := 22) hc 28 dX4_piece_22 (by decide) (fun bq22 => ?_) (fun bq22 => ?_)
    · skip
      have hpc := (zpc_i hk hxk hzk.1 hzk.2.1).mp ((zin1 hr rfl (zN64 (m := N k - 1) (by omega))).t bq22)
      obtain ⟨k2, i, hk2, hxk2, hi, hyi⟩ := hpc
      have ek : k = k2 := (nI_eq (by omega) (by omega)).mp (hxk.symm.trans hxk2)
      subst ek
      refine J_iloadn_3 (pc := 28) hc dX4_piece_28 ?_
      refine J_i2l (pc := 29) hc dX4_piece_29 ?_
      refine kX4_57 (pc := 30) hc hR dX4_piece_30 (c_X4_isSmall) (by decide) (Nat.le_of_ble_eq_true rfl) rfl (fun r u hu => ?_)
      have hr := hu.1
      refine J_eq hu.2 ?_
      refine J_if_eq (pc := 33) hc 54 dX4_piece_33 (by decide) (fun bq33 => ?_) (fun bq33 => ?_)
      · skip
        have hb1 := (zsmall hr).f bq33
        refine J_bipush (pc := 54) hc dX4_piece_54 (v := -5) (by decide) ?_
        exact J_iret (pc := 56) hc hI dX4_piece_56 (Or.inr (Or.inl ⟨⟨k, i, hk, hxk, hi, hyi⟩, fun h => by first | exact hb3 h.2.2 | exact hb2 h.2.1 | exact hb1 h.1, rfl, rfl⟩))
      · skip
        have h1 := (zsmall hr).t bq33
        refine J_iload_4 (pc := 36) hc dX4_piece_36 ?_
        refine J_i2l (pc := 38) hc dX4_piece_38 ?_
        refine kX4_57 (pc := 39) hc hR dX4_piece_39 (c_X4_isSmall) (by decide) (Nat.le_of_ble_eq_true rfl) rfl (fun r u hu => ?_)
        have hr := hu.1
        refine J_eq hu.2 ?_
        refine J_if_eq (pc := 42) hc 54 dX4_piece_42 (by decide) (fun bq42 => ?_) (fun bq42 => ?_)
        · skip
          have hb2 := (zsmall hr).f bq42
          refine J_bipush (pc := 54) hc dX4_piece_54 (v := -5) (by decide) ?_
          exact J_iret (pc := 56) hc hI dX4_piece_56 (Or.inr (Or.inl ⟨⟨k, i, hk, hxk, hi, hyi⟩, fun h => by first | exact hb3 h.2.2 | exact hb2 h.2.1 | exact hb1 h.1, rfl, rfl⟩))
        · skip
          have h2 := (zsmall hr).t bq42
          refine J_iload_5 (pc := 45) hc dX4_piece_45 ?_
          refine J_i2l (pc := 47) hc dX4_piece_47 ?_
          refine kX4_57 (pc := 48) hc hR dX4_piece_48 (c_X4_isSmall) (by decide) (Nat.le_of_ble_eq_true rfl) rfl (fun r u hu => ?_)
          have hr := hu.1
          refine J_eq hu.2 ?_
          refine J_if_ne (pc := 51) hc 57 dX4_piece_51 (by decide) (fun bq51 => ?_) (fun bq51 => ?_)
          · skip
            have h3 := (zsmall hr).t bq51
            refine J_aloadn_0 (pc := 57) hc dX4_piece_57 ?_
            refine gX4_13 (pc := 58) hc dX4_piece_58 ?_
            refine J_bipush (pc := 61) hc dX4_piece_61 (v := 16) (by decide) ?_
            refine J_iloadn_1 (pc := 63) hc dX4_piece_63 ?_
            refine J_imul (pc := 64) hc dX4_piece_64 ?_
            refine J_iloadn_2 (pc := 65) hc dX4_piece_65 ?_
            refine J_iadd (pc := 66) hc dX4_piece_66 ?_
            refine J_iloadn_3 (pc := 67) hc dX4_piece_67 ?_
            refine J_iast (pc := 68) hc 96 (by omega) rfl dX4_piece_68 (by rw [hxk, hyi]; exact z16 k i) (by omega) ?_
            refine J_aloadn_0 (pc := 69) hc dX4_piece_69 ?_
            refine gX4_16 (pc := 70) hc dX4_piece_70 ?_
            refine J_bipush (pc := 73) hc dX4_piece_73 (v := 16) (by decide) ?_
            refine J_iloadn_1 (pc := 75) hc dX4_piece_75 ?_
            refine J_imul (pc := 76) hc dX4_piece_76 ?_
            refine J_iloadn_2 (pc := 77) hc dX4_piece_77 ?_
            refine J_iadd (pc := 78) hc dX4_piece_78 ?_
            refine J_iload_4 (pc := 79) hc dX4_piece_79 ?_
            refine J_iast (pc := 81) hc 96 (by omega) rfl dX4_piece_81 (by rw [hxk, hyi]; exact z16 k i) (by omega) ?_
            refine J_aloadn_0 (pc := 82) hc dX4_piece_82 ?_
            refine gX4_19 (pc := 83) hc dX4_piece_83 ?_
            refine J_bipush (pc := 86) hc dX4_piece_86 (v := 16) (by decide) ?_
            refine J_iloadn_1 (pc := 88) hc dX4_piece_88 ?_
            refine J_imul (pc := 89) hc dX4_piece_89 ?_
            refine J_iloadn_2 (pc := 90) hc dX4_piece_90 ?_
            refine J_iadd (pc := 91) hc dX4_piece_91 ?_
            refine J_iload_5 (pc := 92) hc dX4_piece_92 ?_
            refine J_iast (pc := 94) hc 96 (by omega) rfl dX4_piece_94 (by rw [hxk, hyi]; exact z16 k i) (by omega) ?_
            refine J_iconst (pc := 95) hc dX4_piece_95 (v := 1) (by decide) ?_
            exact J_iret (pc := 96) hc hI dX4_piece_96 (Or.inr (Or.inr ⟨⟨h1, h2, h3⟩, k, i, hk, hxk, hi, hyi, rfl, zy4_u σ _ _ _⟩))
          · skip
            have hb3 := (zsmall hr).f bq51
            refine J_bipush (pc := 54) hc dX4_piece_54 (v := -5) (by decide) ?_
            exact J_iret (pc := 56) hc hI dX4_piece_56 (Or.inr (Or.inl ⟨⟨k, i, hk, hxk, hi, hyi⟩, fun h => by first | exact hb3 h.2.2 | exact hb2 h.2.1 | exact hb1 h.1, rfl, rfl⟩))
    · skip
      have hnp := mt (zpc_i hk hxk hzk.1 hzk.2.1).mpr ((zin1 hr rfl (zN64 (m := N k - 1) (by omega))).f bq22)
      refine J_bipush (pc := 25) hc dX4_piece_25 (v := -2) (by decide) ?_
      exact J_iret (pc := 27) hc hI dX4_piece_27 (Or.inl ⟨hnp, rfl, rfl⟩)
set_option maxRecDepth 100000 in
set_option maxHeartbeats 4000000 in
theorem c_X4_of {l : Launch} {gg : zG} {σ : zS} {x y w : Int32} {N : Nat → Nat} (hz : zRv σ N) : zMi l gg yX4_of cX4_of .int 4 2 45 [.ref (zM gg), .int x, .int y, .int w] σ (fun r u => u = σ ∧ ((¬ (zpcs N x y ∧ 0 ≤ w.toInt ∧ w.toInt ≤ 2) ∧ r = -2147483648) ∨ (∃ k i, k < 6 ∧ x = nI k ∧ i < N k ∧ y = nI i ∧ ((w = 0 ∧ r = sa σ 24 (16 * k + i)) ∨ (w = 1 ∧ r = sa σ 25 (16 * k + i)) ∨ (w = 2 ∧ r = sa σ 26 (16 * k + i)))))) := by
  refine zM_i (own := RX4) (lv := [some (.ref (zM gg)), some (.int x), some (.int y), some (.int w)]) (by decide +kernel) rfl (Nat.le_of_ble_eq_true rfl) rfl (fun cx hc hR hI => ?_)
  refine J_iloadn_1 (pc := 0) hc dX4_of_0 ?_
  refine kX4_51 (pc := 1) hc hR dX4_of_1 (c_X4_isPlace) (by decide) (Nat.le_of_ble_eq_true rfl) rfl (fun r u hu => ?_)
  have hr := hu.1
  refine J_eq hu.2 ?_
  refine J_if_eq (pc := 4) hc 37 dX4_of_4 (by decide) (fun bq4 => ?_) (fun bq4 => ?_)
  · skip
    have hnp : ¬ zpcs N x y := fun ⟨k, i, h1, h2, _, _⟩ => hr.f bq4 (by rw [h2]; exact zpl_k h1)
    refine nX4_63 (pc := 37) hc dX4_of_37 ?_
    exact J_iret (pc := 39) hc hI dX4_of_39 ⟨rfl, Or.inl ⟨fun h => by first | exact hnw h.2 | exact hnp h.1, rfl⟩⟩
  · skip
    obtain ⟨k, hk, hxk⟩ := zpl_nI (hr.t bq4)
    have hzk := hz k hk
    refine J_iloadn_2 (pc := 7) hc dX4_of_7 ?_
    refine J_i2l (pc := 8) hc dX4_of_8 ?_
    refine J_lconst (pc := 9) hc dX4_of_9 (v := 0) (by decide) ?_
    refine J_aloadn_0 (pc := 10) hc dX4_of_10 ?_
    refine gX4_7 (pc := 11) hc dX4_of_11 ?_
    refine J_iloadn_1 (pc := 14) hc dX4_of_14 ?_
    refine J_iald (pc := 15) hc 6 (by omega) rfl dX4_of_15 hxk (by omega) ?_
    refine J_iconst (pc := 16) hc dX4_of_16 (v := 1) (by decide) ?_
    refine J_isub (pc := 17) hc dX4_of_17 ?_
    refine J_topi (y := nI (N k - 1)) (by rw [hzk.2.2.1]; exact zm1 (by omega)) ?_
    refine J_i2l (pc := 18) hc dX4_of_18 ?_
    refine kX4_43 (pc := 19) hc hR dX4_of_19 (c_X4_in) (by decide) (Nat.le_of_ble_eq_true rfl) rfl (fun r u hu => ?_)
    have hr := hu.1
    refine J_eq hu.2 ?_
    refine J_if_eq (pc := 22) hc 37 dX4_of_22 (by decide) (fun bq22 => ?_) (fun bq22 => ?_)
    · skip
      have hnp := mt (zpc_i hk hxk hzk.1 hzk.2.1).mpr ((zin1 hr rfl (zN64 (m := N k - 1) (by omega))).f bq22)
      refine nX4_63 (pc := 37) hc dX4_of_37 ?_
      exact J_iret (pc := 39) hc hI dX4_of_39 ⟨rfl, Or.inl ⟨fun h => by first | exact hnw h.2 | exact hnp h.1, rfl⟩⟩
    · skip
      have hpc := (zpc_i hk hxk hzk.1 hzk.2.1).mp ((zin1 hr rfl (zN64 (m := N k - 1) (by omega))).t bq22)
      obtain ⟨k2, i, hk2, hxk2, hi, hyi⟩ := hpc
      have ek : k = k2 := (nI_eq (by omega) (by omega)).mp (hxk.symm.trans hxk2)
      subst ek
      refine J_iloadn_3 (pc := 25) hc dX4_of_25 ?_
      refine J_i2l (pc := 26) hc dX4_of_26 ?_
      refine J_lconst (pc := 27) hc dX4_of_27 (v := 0) (by decide) ?_
      refine nX4_61 (pc := 28) hc dX4_of_28 ?_
      refine kX4_43 (pc := 31) hc hR dX4_of_31 (c_X4_in) (by decide) (Nat.le_of_ble_eq_true rfl) rfl (fun r u hu => ?_)
      have hr := hu.1
      refine J_eq hu.2 ?_
      refine J_if_ne (pc := 34) hc 40 dX4_of_34 (by decide) (fun bq34 => ?_) (fun bq34 => ?_)
      · skip
        have hw := (zin1 hr (show (0 : Int64).toInt = 0 from rfl) (show (2 : Int64).toInt = 2 from rfl)).t bq34
        refine J_iloadn_3 (pc := 40) hc dX4_of_40 ?_
        refine J_if_ne (pc := 41) hc 58 dX4_of_41 (by decide) (fun bq41 => ?_) (fun bq41 => ?_)
        · skip
          refine J_iloadn_3 (pc := 58) hc dX4_of_58 ?_
          refine J_iconst (pc := 59) hc dX4_of_59 (v := 1) (by decide) ?_
          refine J_icmp_ne (pc := 60) hc 77 dX4_of_60 (by decide) (fun bq60 => ?_) (fun bq60 => ?_)
          · skip
            refine J_aloadn_0 (pc := 77) hc dX4_of_77 ?_
            refine gX4_19 (pc := 78) hc dX4_of_78 ?_
            refine J_bipush (pc := 81) hc dX4_of_81 (v := 16) (by decide) ?_
            refine J_iloadn_1 (pc := 83) hc dX4_of_83 ?_
            refine J_imul (pc := 84) hc dX4_of_84 ?_
            refine J_iloadn_2 (pc := 85) hc dX4_of_85 ?_
            refine J_iadd (pc := 86) hc dX4_of_86 ?_
            refine J_iald (pc := 87) hc 96 (by omega) rfl dX4_of_87 (by rw [hxk, hyi]; exact z16 k i) (by omega) ?_
            exact J_iret (pc := 88) hc hI dX4_of_88 ⟨rfl, Or.inr ⟨k, i, hk, hxk, hi, hyi, by first | exact Or.inl ⟨bq41, rfl⟩ | exact Or.inr (Or.inl ⟨bq60, rfl⟩) | exact Or.inr (Or.inr ⟨zi_eq.mpr (by rw [zi_eq] at bq41 bq60; have q1 : (1 : Int32).toInt = 1 := rfl; have q0 : (0 : Int32).toInt = 0 := rfl; have q2 : (2 : Int32).toInt = 2 := rfl; omega), rfl⟩)⟩⟩
          · skip
            refine J_aloadn_0 (pc := 63) hc dX4_of_63 ?_
            refine gX4_16 (pc := 64) hc dX4_of_64 ?_
            refine J_bipush (pc := 67) hc dX4_of_67 (v := 16) (by decide) ?_
            refine J_iloadn_1 (pc := 69) hc dX4_of_69 ?_
            refine J_imul (pc := 70) hc dX4_of_70 ?_
            refine J_iloadn_2 (pc := 71) hc dX4_of_71 ?_
            refine J_iadd (pc := 72) hc dX4_of_72 ?_
            refine J_iald (pc := 73) hc 96 (by omega) rfl dX4_of_73 (by rw [hxk, hyi]; exact z16 k i) (by omega) ?_
            refine J_goto (pc := 74) hc 88 dX4_of_74 (by decide) ?_
            exact J_iret (pc := 88) hc hI dX4_of_88 ⟨rfl, Or.inr ⟨k, i, hk, hxk, hi, hyi, by first | exact Or.inl ⟨bq41, rfl⟩ | exact Or.inr (Or.inl ⟨bq60, rfl⟩) | exact Or.inr (Or.inr ⟨zi_eq.mpr (by rw [zi_eq] at bq41 bq60; have q1 : (1 : Int32).toInt = 1 := rfl; have q0 : (0 : Int32).toInt = 0 := rfl; have q2 : (2 : Int32).toInt = 2 := rfl; omega), rfl⟩)⟩⟩
        · skip
          refine J_aloadn_0 (pc := 44) hc dX4_of_44 ?_
          refine gX4_13 (pc := 45) hc dX4_of_45 ?_
          refine J_bipush (pc := 48) hc dX4_of_48 (v := 16) (by decide) ?_
          refine J_iloadn_1 (pc := 50) hc dX4_of_50 ?_
          refine J_imul (pc := 51) hc dX4_of_51 ?_
          refine J_iloadn_2 (pc := 52) hc dX4_of_52 ?_
          refine J_iadd (pc := 53) hc dX4_of_53 ?_
          refine J_iald (pc := 54) hc 96 (by omega) rfl dX4_of_54 (by rw [hxk, hyi]; exact z16 k i) (by omega) ?_
          refine J_goto (pc := 55) hc 88 dX4_of_55 (by decide) ?_
          exact J_iret (pc := 88) hc hI dX4_of_88 ⟨rfl, Or.inr ⟨k, i, hk, hxk, hi, hyi, by first | exact Or.inl ⟨bq41, rfl⟩ | exact Or.inr (Or.inl ⟨bq60, rfl⟩) | exact Or.inr (Or.inr ⟨zi_eq.mpr (by rw [zi_eq] at bq41 bq60; have q1 : (1 : Int32).toInt = 1 := rfl; have q0 : (0 : Int32).toInt = 0 := rfl; have q2 : (2 : Int32).toInt = 2 := rfl; omega), rfl⟩)⟩⟩
      · skip
        have hnw := (zin1 hr (show (0 : Int64).toInt = 0 from rfl) (show (2 : Int64).toInt = 2 from rfl)).f bq34
        refine nX4_63 (pc := 37) hc dX4_of_37 ?_
        exact J_iret (pc := 39) hc hI dX4_of_39 ⟨rfl, Or.inl ⟨fun h => by first | exact hnw h.2 | exact hnp h.1, rfl⟩⟩
set_option maxRecDepth 100000 in
set_option maxHeartbeats 4000000 in
theorem c_X4_join {l : Launch} {gg : zG} {σ : zS} {x y : Int32} {N : Nat → Nat} (hz : zRv σ N) : zMi l gg yX4_join cX4_join .int 3 2 45 [.ref (zM gg), .int x, .int y] σ (fun r u => (¬ (∃ k i, k < 6 ∧ x = nI k ∧ 1 ≤ i ∧ i < N k ∧ y = nI i) ∧ r = -2 ∧ u = σ) ∨ (∃ k i, k < 6 ∧ x = nI k ∧ 1 ≤ i ∧ i < N k ∧ y = nI i ∧ r = zjm (zlk σ k (N k)) i ∧ u = zlk σ k (N k))) := by
  refine zM_i (own := RX4) (lv := [some (.ref (zM gg)), some (.int x), some (.int y)]) (by decide +kernel) rfl (Nat.le_of_ble_eq_true rfl) rfl (fun cx hc hR hI => ?_)
  refine J_iloadn_1 (pc := 0) hc dX4_join_0 ?_
  refine kX4_51 (pc := 1) hc hR dX4_join_1 (c_X4_isPlace) (by decide) (Nat.le_of_ble_eq_true rfl) rfl (fun r u hu => ?_)
  have hr := hu.1
  refine J_eq hu.2 ?_
  refine J_if_eq (pc := 4) hc 25 dX4_join_4 (by decide) (fun bq4 => ?_) (fun bq4 => ?_)
  · skip
    have hnp := hr.f bq4
    refine J_bipush (pc := 25) hc dX4_join_25 (v := -2) (by decide) ?_
    exact J_iret (pc := 27) hc hI dX4_join_27 (Or.inl ⟨by first | exact (fun ⟨k, i, h1, h2, _⟩ => hnp (by rw [h2]; exact zpl_k h1)) | exact (fun ⟨k2, i, h1, h2, h3, h4, h5⟩ => by have e : k = k2 := (nI_eq (by omega) (by omega)).mp (hxk.symm.trans h2); subst e; rw [h5, nI_toInt (by omega)] at hnin; omega), rfl, rfl⟩)
  · skip
    obtain ⟨k, hk, hxk⟩ := zpl_nI (hr.t bq4)
    have hzk := hz k hk
    refine J_iloadn_2 (pc := 7) hc dX4_join_7 ?_
    refine J_i2l (pc := 8) hc dX4_join_8 ?_
    refine J_lconst (pc := 9) hc dX4_join_9 (v := 1) (by decide) ?_
    refine J_aloadn_0 (pc := 10) hc dX4_join_10 ?_
    refine gX4_7 (pc := 11) hc dX4_join_11 ?_
    refine J_iloadn_1 (pc := 14) hc dX4_join_14 ?_
    refine J_iald (pc := 15) hc 6 (by omega) rfl dX4_join_15 hxk (by omega) ?_
    refine J_iconst (pc := 16) hc dX4_join_16 (v := 1) (by decide) ?_
    refine J_isub (pc := 17) hc dX4_join_17 ?_
    refine J_topi (y := nI (N k - 1)) (by rw [hzk.2.2.1]; exact zm1 (by omega)) ?_
    refine J_i2l (pc := 18) hc dX4_join_18 ?_
    refine kX4_43 (pc := 19) hc hR dX4_join_19 (c_X4_in) (by decide) (Nat.le_of_ble_eq_true rfl) rfl (fun r u hu => ?_)
    have hr := hu.1
    refine J_eq hu.2 ?_
    refine J_if_ne (pc := 22) hc 28 dX4_join_22 (by decide) (fun bq22 => ?_) (fun bq22 => ?_)
    · skip
      have hin := (zin1 hr rfl (zN64 (m := N k - 1) (by omega))).t bq22
      obtain ⟨i, hi1, hi2, hyi⟩ := zvI (x := y) (n := N k - 1) ⟨by have q1 : (1 : Int64).toInt = 1 := rfl; omega, by omega⟩ (by omega)
      refine J_aloadn_0 (pc := 28) hc dX4_join_28 ?_
      refine J_iloadn_1 (pc := 29) hc dX4_join_29 ?_
      refine kX4_80 (pc := 30) hc hR dX4_join_30 (c_X4_look hk hxk hzk.2.2.1 hzk.2.1) (by decide) (Nat.le_of_ble_eq_true rfl) rfl (fun u hu => ?_)
      refine J_eq hu ?_
      refine J_aloadn_0 (pc := 33) hc dX4_join_33 ?_
      refine J_iloadn_2 (pc := 34) hc dX4_join_34 ?_
      refine kX4_84 (pc := 35) hc hR dX4_join_35 (c_X4_joinOf hyi (by omega) (by omega)) (by decide) (Nat.le_of_ble_eq_true rfl) rfl (fun r u hu => ?_)
      refine J_eq hu.2 (J_topi hu.1 ?_)
      exact J_iret (pc := 38) hc hI dX4_join_38 (Or.inr ⟨k, i, hk, hxk, hi1, by omega, hyi, rfl, rfl⟩)
    · skip
      have hnin := (zin1 hr (show (1 : Int64).toInt = 1 from rfl) (zN64 (m := N k - 1) (by omega))).f bq22
      refine J_bipush (pc := 25) hc dX4_join_25 (v := -2) (by decide) ?_
      exact J_iret (pc := 27) hc hI dX4_join_27 (Or.inl ⟨by first | exact (fun ⟨k, i, h1, h2, _⟩ => hnp (by rw [h2]; exact zpl_k h1)) | exact (fun ⟨k2, i, h1, h2, h3, h4, h5⟩ => by have e : k = k2 := (nI_eq (by omega) (by omega)).mp (hxk.symm.trans h2); subst e; rw [h5, nI_toInt (by omega)] at hnin; omega), rfl, rfl⟩)
set_option maxRecDepth 100000 in
set_option maxHeartbeats 4000000 in
theorem c_X4_has {l : Launch} {gg : zG} {σ : zS} {x y : Int32} {N : Nat → Nat} (hz : zRv σ N) : zMi l gg yX4_has cX4_has .int 3 2 50 [.ref (zM gg), .int x, .int y] σ (fun r u => (¬ zpl x ∧ r = -2 ∧ u = σ) ∨ (zpl x ∧ ¬ (1 ≤ y.toInt ∧ y.toInt ≤ 4) ∧ r = -3 ∧ u = σ) ∨ ((1 ≤ y.toInt ∧ y.toInt ≤ 4) ∧ ∃ k, k < 6 ∧ x = nI k ∧ zb r (∀ i, i < N k → zhs (zlk σ k (N k)) y i) ∧ u = zlk σ k (N k))) := by
  refine zM_i (own := RX4) (lv := [some (.ref (zM gg)), some (.int x), some (.int y)]) (by decide +kernel) rfl (Nat.le_of_ble_eq_true rfl) rfl (fun cx hc hR hI => ?_)
  refine J_iloadn_1 (pc := 0) hc dX4_has_0 ?_
  refine kX4_51 (pc := 1) hc hR dX4_has_1 (c_X4_isPlace) (by decide) (Nat.le_of_ble_eq_true rfl) rfl (fun r u hu => ?_)
  have hr := hu.1
  refine J_eq hu.2 ?_
  refine J_if_ne (pc := 4) hc 10 dX4_has_4 (by decide) (fun bq4 => ?_) (fun bq4 => ?_)
  · skip
    obtain ⟨k, hk, hxk⟩ := zpl_nI (hr.t bq4)
    have hzk := hz k hk
    refine J_iloadn_2 (pc := 10) hc dX4_has_10 ?_
    refine J_i2l (pc := 11) hc dX4_has_11 ?_
    refine J_lconst (pc := 12) hc dX4_has_12 (v := 1) (by decide) ?_
    refine nX4_90 (pc := 13) hc dX4_has_13 ?_
    refine kX4_43 (pc := 16) hc hR dX4_has_16 (c_X4_in) (by decide) (Nat.le_of_ble_eq_true rfl) rfl (fun r u hu => ?_)
    have hr := hu.1
    refine J_eq hu.2 ?_
    refine J_if_ne (pc := 19) hc 25 dX4_has_19 (by decide) (fun bq19 => ?_) (fun bq19 => ?_)
    · skip
      have hy14 := (zin1 hr (show (1 : Int64).toInt = 1 from rfl) (show (4 : Int64).toInt = 4 from rfl)).t bq19
      refine J_aloadn_0 (pc := 25) hc dX4_has_25 ?_
      refine J_iloadn_1 (pc := 26) hc dX4_has_26 ?_
      refine kX4_80 (pc := 27) hc hR dX4_has_27 (c_X4_look hk hxk hzk.2.2.1 hzk.2.1) (by decide) (Nat.le_of_ble_eq_true rfl) rfl (fun u hu => ?_)
      refine J_eq hu ?_
      refine J_aloadn_0 (pc := 30) hc dX4_has_30 ?_
      refine J_iloadn_2 (pc := 31) hc dX4_has_31 ?_
      refine kX4_92 (pc := 32) hc hR dX4_has_32 (c_X4_hasShape (n := N k) hy14 rfl (by omega)) (by decide) (Nat.le_of_ble_eq_true rfl) rfl (fun r u hu => ?_)
      have hr := hu.1
      refine J_eq hu.2 ?_
      refine J_if_eq (pc := 35) hc 42 dX4_has_35 (by decide) (fun bq35 => ?_) (fun bq35 => ?_)
      · skip
        refine J_iconst (pc := 42) hc dX4_has_42 (v := 0) (by decide) ?_
        exact J_iret (pc := 43) hc hI dX4_has_43 (Or.inr (Or.inr ⟨hy14, k, hk, hxk, by first | exact zb_0 (hr.f bq35) | exact zb_1 (hr.t bq35), rfl⟩))
      · skip
        refine J_iconst (pc := 38) hc dX4_has_38 (v := 1) (by decide) ?_
        refine J_goto (pc := 39) hc 43 dX4_has_39 (by decide) ?_
        exact J_iret (pc := 43) hc hI dX4_has_43 (Or.inr (Or.inr ⟨hy14, k, hk, hxk, by first | exact zb_0 (hr.f bq35) | exact zb_1 (hr.t bq35), rfl⟩))
    · skip
      have hny := (zin1 hr (show (1 : Int64).toInt = 1 from rfl) (show (4 : Int64).toInt = 4 from rfl)).f bq19
      refine J_bipush (pc := 22) hc dX4_has_22 (v := -3) (by decide) ?_
      exact J_iret (pc := 24) hc hI dX4_has_24 (Or.inr (Or.inl ⟨by rw [hxk]; exact zpl_k hk, hny, rfl, rfl⟩))
  · skip
    have hnp := hr.f bq4
    refine J_bipush (pc := 7) hc dX4_has_7 (v := -2) (by decide) ?_
    exact J_iret (pc := 9) hc hI dX4_has_9 (Or.inl ⟨hnp, rfl, rfl⟩)
set_option maxRecDepth 100000 in
set_option maxHeartbeats 4000000 in
theorem c_X4_point {l : Launch} {gg : zG} {σ : zS} {y : Int32} {m : Nat} (hm : si σ 11 = nI m) (hm2 : m ≤ 17) : zMi l gg yX4_point cX4_point .int 2 1 25 [.ref (zM gg), .int y] σ (fun r u => (¬ (-1000 ≤ y.toInt ∧ y.toInt ≤ 1000) ∧ r = -3 ∧ u = σ) ∨ ((-1000 ≤ y.toInt ∧ y.toInt ≤ 1000) ∧ m = 17 ∧ r = -6 ∧ u = σ) ∨ ((-1000 ≤ y.toInt ∧ y.toInt ≤ 1000) ∧ m < 17 ∧ r = nI (m + 1) ∧ u = ui (ua σ 27 (upd (sa σ 27) m y)) 11 (nI (m + 1)))) := by
  refine zM_i (own := RX4) (lv := [some (.ref (zM gg)), some (.int y)]) (by decide +kernel) rfl (Nat.le_of_ble_eq_true rfl) rfl (fun cx hc hR hI => ?_)
  refine J_iloadn_1 (pc := 0) hc dX4_point_0 ?_
  refine J_i2l (pc := 1) hc dX4_point_1 ?_
  refine nX4_138 (pc := 2) hc dX4_point_2 ?_
  refine nX4_140 (pc := 5) hc dX4_point_5 ?_
  refine kX4_43 (pc := 8) hc hR dX4_point_8 (c_X4_in) (by decide) (Nat.le_of_ble_eq_true rfl) rfl (fun r u hu => ?_)
  have hr := hu.1
  refine J_eq hu.2 ?_
  refine J_if_ne (pc := 11) hc 17 dX4_point_11 (by decide) (fun bq11 => ?_) (fun bq11 => ?_)
  · skip
    have hv := (zin1 hr (show (-1000 : Int64).toInt = -1000 by decide) (show (1000 : Int64).toInt = 1000 by decide)).t bq11
    refine J_aloadn_0 (pc := 17) hc dX4_point_17 ?_
    refine gX4_142 (pc := 18) hc dX4_point_18 ?_
    refine J_bipush (pc := 21) hc dX4_point_21 (v := 17) (by decide) ?_
    refine J_icmp_ne (pc := 23) hc 29 dX4_point_23 (by decide) (fun bq23 => ?_) (fun bq23 => ?_)
    · skip
      rw [hm, show (17 : Int32) = nI 17 from rfl, nI_eq (by omega) (by omega)] at bq23
      refine J_aloadn_0 (pc := 29) hc dX4_point_29 ?_
      refine gX4_22 (pc := 30) hc dX4_point_30 ?_
      refine J_aloadn_0 (pc := 33) hc dX4_point_33 ?_
      refine gX4_142 (pc := 34) hc dX4_point_34 ?_
      refine J_iloadn_1 (pc := 37) hc dX4_point_37 ?_
      refine J_iast (pc := 38) hc 17 (by omega) rfl dX4_point_38 hm (by omega) ?_
      refine J_aloadn_0 (pc := 39) hc dX4_point_39 ?_
      refine J_dup (pc := 40) hc dX4_point_40 rfl ?_
      refine gX4_142 (pc := 41) hc dX4_point_41 ?_
      refine J_iconst (pc := 44) hc dX4_point_44 (v := 1) (by decide) ?_
      refine J_iadd (pc := 45) hc dX4_point_45 ?_
      refine J_topi (y := nI (m + 1)) (by rw [si_ua, hm, nI_1]) ?_
      refine pX4_142 (pc := 46) hc dX4_point_46 ?_
      refine J_aloadn_0 (pc := 49) hc dX4_point_49 ?_
      refine gX4_142 (pc := 50) hc dX4_point_50 ?_
      exact J_iret (pc := 53) hc hI dX4_point_53 (Or.inr (Or.inr ⟨hv, by omega, rfl, rfl⟩))
    · skip
      rw [hm, show (17 : Int32) = nI 17 from rfl, nI_eq (by omega) (by omega)] at bq23
      refine J_bipush (pc := 26) hc dX4_point_26 (v := -6) (by decide) ?_
      exact J_iret (pc := 28) hc hI dX4_point_28 (Or.inr (Or.inl ⟨hv, bq23, rfl, rfl⟩))
  · skip
    have hv := (zin1 hr (show (-1000 : Int64).toInt = -1000 by decide) (show (1000 : Int64).toInt = 1000 by decide)).f bq11
    refine J_bipush (pc := 14) hc dX4_point_14 (v := -3) (by decide) ?_
    exact J_iret (pc := 16) hc hI dX4_point_16 (Or.inl ⟨hv, rfl, rfl⟩)
set_option maxRecDepth 100000 in
set_option maxHeartbeats 4000000 in
theorem c_X4_clear {l : Launch} {gg : zG} {σ : zS}   : zMi l gg yX4_clear cX4_clear .int 2 0 0 [.ref (zM gg)] σ (fun r u => r = si σ 11 ∧ u = ui σ 11 0) := by
  refine zM_i (own := RX4) (lv := [some (.ref (zM gg)), none]) (by decide +kernel) rfl (Nat.le_of_ble_eq_true rfl) rfl (fun cx hc hR hI => ?_)
  refine J_aloadn_0 (pc := 0) hc dX4_clear_0 ?_
  refine gX4_142 (pc := 1) hc dX4_clear_1 ?_
  refine J_istoren_1 (pc := 4) hc dX4_clear_4 rfl ?_
  refine J_aloadn_0 (pc := 5) hc dX4_clear_5 ?_
  refine J_iconst (pc := 6) hc dX4_clear_6 (v := 0) (by decide) ?_
  refine pX4_142 (pc := 7) hc dX4_clear_7 ?_
  refine J_iloadn_1 (pc := 10) hc dX4_clear_10 ?_
  exact J_iret (pc := 11) hc hI dX4_clear_11 ⟨rfl, rfl⟩
set_option maxRecDepth 100000 in
set_option maxHeartbeats 4000000 in
theorem c_X4_bend {l : Launch} {gg : zG} {σ : zS} {s : Int32} {m : Nat} (hm : si σ 11 = nI m) (hm2 : m ≤ 17) : zMl l gg yX4_bend cX4_bend 2 1 25 [.ref (zM gg), .int s] σ (fun r u => (¬ (-1000 ≤ s.toInt ∧ s.toInt ≤ 1000) ∧ r = -3 ∧ u = σ) ∨ ((-1000 ≤ s.toInt ∧ s.toInt ≤ 1000) ∧ ¬ 2 ≤ m ∧ r = -4 ∧ u = σ) ∨ ((-1000 ≤ s.toInt ∧ s.toInt ≤ 1000) ∧ 2 ≤ m ∧ u = zms σ s (m - 1) ∧ r = zbo (zms σ s (m - 1)) (m - 1))) := by
  refine zM_l (own := RX4) (lv := [some (.ref (zM gg)), some (.int s)]) (by decide +kernel) rfl (Nat.le_of_ble_eq_true rfl) rfl (fun cx hc hR hI => ?_)
  refine J_iloadn_1 (pc := 0) hc dX4_bend_0 ?_
  refine J_i2l (pc := 1) hc dX4_bend_1 ?_
  refine nX4_138 (pc := 2) hc dX4_bend_2 ?_
  refine nX4_140 (pc := 5) hc dX4_bend_5 ?_
  refine kX4_43 (pc := 8) hc hR dX4_bend_8 (c_X4_in) (by decide) (Nat.le_of_ble_eq_true rfl) rfl (fun r u hu => ?_)
  have hr := hu.1
  refine J_eq hu.2 ?_
  refine J_if_ne (pc := 11) hc 18 dX4_bend_11 (by decide) (fun bq11 => ?_) (fun bq11 => ?_)
  · skip
    have hv := (zin1 hr (show (-1000 : Int64).toInt = -1000 by decide) (show (1000 : Int64).toInt = 1000 by decide)).t bq11
    refine J_aloadn_0 (pc := 18) hc dX4_bend_18 ?_
    refine gX4_142 (pc := 19) hc dX4_bend_19 ?_
    refine J_iconst (pc := 22) hc dX4_bend_22 (v := 2) (by decide) ?_
    refine J_icmp_ge (pc := 23) hc 30 dX4_bend_23 (by decide) (fun bq23 => ?_) (fun bq23 => ?_)
    · skip
      rw [hm, show (2 : Int32) = nI 2 from rfl, nI_leI (by omega) (by omega)] at bq23
      refine J_aloadn_0 (pc := 30) hc dX4_bend_30 ?_
      refine J_iloadn_1 (pc := 31) hc dX4_bend_31 ?_
      refine kX4_145 (pc := 32) hc hR dX4_bend_32 (c_X4_makeSpline (m := m) hm bq23 hm2) (by decide) (Nat.le_of_ble_eq_true rfl) rfl (fun u hu => ?_)
      refine J_eq hu ?_
      refine J_aloadn_0 (pc := 35) hc dX4_bend_35 ?_
      refine kX4_152 (pc := 36) hc hR dX4_bend_36 (c_X4_bendOf (n := m - 1) rfl (by omega)) (by decide) (Nat.le_of_ble_eq_true rfl) rfl (fun r u hu => ?_)
      refine J_eq hu.2 (J_topl hu.1 ?_)
      exact J_lret (pc := 39) hc hI dX4_bend_39 (Or.inr (Or.inr ⟨hv, bq23, rfl, rfl⟩))
    · skip
      rw [hm, show (2 : Int32) = nI 2 from rfl, nI_leI (by omega) (by omega)] at bq23
      refine nX4_97 (pc := 26) hc dX4_bend_26 ?_
      exact J_lret (pc := 29) hc hI dX4_bend_29 (Or.inr (Or.inl ⟨hv, bq23, rfl, rfl⟩))
  · skip
    have hv := (zin1 hr (show (-1000 : Int64).toInt = -1000 by decide) (show (1000 : Int64).toInt = 1000 by decide)).f bq11
    refine nX4_156 (pc := 14) hc dX4_bend_14 ?_
    exact J_lret (pc := 17) hc hI dX4_bend_17 (Or.inl ⟨hv, rfl, rfl⟩)
set_option maxRecDepth 100000 in
set_option maxHeartbeats 4000000 in
theorem c_X4_spline {l : Launch} {gg : zG} {σ : zS} {x s : Int32} {m : Nat} (hm : si σ 11 = nI m) (hm2 : m ≤ 17) : zMi l gg yX4_spline cX4_spline .int 3 3 69 [.ref (zM gg), .int x, .int s] σ (fun r u => (¬ zpl x ∧ r = -2 ∧ u = σ) ∨ (∃ k, k < 6 ∧ x = nI k ∧ ((¬ (-1000 ≤ s.toInt ∧ s.toInt ≤ 1000) ∧ r = -3 ∧ u = σ) ∨ ((-1000 ≤ s.toInt ∧ s.toInt ≤ 1000) ∧ ¬ 2 ≤ m ∧ r = -4 ∧ u = σ) ∨ ((-1000 ≤ s.toInt ∧ s.toInt ≤ 1000) ∧ 2 ≤ m ∧ zLA (zms σ s (m - 1)) k (m - 1) r u)))) := by
  refine zM_i (own := RX4) (lv := [some (.ref (zM gg)), some (.int x), some (.int s)]) (by decide +kernel) rfl (Nat.le_of_ble_eq_true rfl) rfl (fun cx hc hR hI => ?_)
  refine J_iloadn_1 (pc := 0) hc dX4_spline_0 ?_
  refine kX4_51 (pc := 1) hc hR dX4_spline_1 (c_X4_isPlace) (by decide) (Nat.le_of_ble_eq_true rfl) rfl (fun r u hu => ?_)
  have hr := hu.1
  refine J_eq hu.2 ?_
  refine J_if_ne (pc := 4) hc 10 dX4_spline_4 (by decide) (fun bq4 => ?_) (fun bq4 => ?_)
  · skip
    obtain ⟨k, hk, hxk⟩ := zpl_nI (hr.t bq4)
    refine J_iloadn_2 (pc := 10) hc dX4_spline_10 ?_
    refine J_i2l (pc := 11) hc dX4_spline_11 ?_
    refine nX4_138 (pc := 12) hc dX4_spline_12 ?_
    refine nX4_140 (pc := 15) hc dX4_spline_15 ?_
    refine kX4_43 (pc := 18) hc hR dX4_spline_18 (c_X4_in) (by decide) (Nat.le_of_ble_eq_true rfl) rfl (fun r u hu => ?_)
    have hr := hu.1
    refine J_eq hu.2 ?_
    refine J_if_ne (pc := 21) hc 27 dX4_spline_21 (by decide) (fun bq21 => ?_) (fun bq21 => ?_)
    · skip
      have hv := (zin1 hr (show (-1000 : Int64).toInt = -1000 by decide) (show (1000 : Int64).toInt = 1000 by decide)).t bq21
      refine J_aloadn_0 (pc := 27) hc dX4_spline_27 ?_
      refine gX4_142 (pc := 28) hc dX4_spline_28 ?_
      refine J_iconst (pc := 31) hc dX4_spline_31 (v := 2) (by decide) ?_
      refine J_icmp_ge (pc := 32) hc 38 dX4_spline_32 (by decide) (fun bq32 => ?_) (fun bq32 => ?_)
      · skip
        rw [hm, show (2 : Int32) = nI 2 from rfl, nI_leI (by omega) (by omega)] at bq32
        refine J_aloadn_0 (pc := 38) hc dX4_spline_38 ?_
        refine J_iloadn_2 (pc := 39) hc dX4_spline_39 ?_
        refine kX4_145 (pc := 40) hc hR dX4_spline_40 (c_X4_makeSpline (m := m) hm bq32 hm2) (by decide) (Nat.le_of_ble_eq_true rfl) rfl (fun u hu => ?_)
        refine J_eq hu ?_
        refine J_aloadn_0 (pc := 43) hc dX4_spline_43 ?_
        refine J_iloadn_1 (pc := 44) hc dX4_spline_44 ?_
        refine kX4_135 (pc := 45) hc hR dX4_spline_45 (c_X4_lay (n := m - 1) hk hxk rfl (by omega)) (by decide) (Nat.le_of_ble_eq_true rfl) rfl (fun r u hu => ?_)
        exact J_iret (pc := 48) hc hI dX4_spline_48 (Or.inr ⟨k, hk, hxk, Or.inr (Or.inr ⟨hv, bq32, hu⟩)⟩)
      · skip
        rw [hm, show (2 : Int32) = nI 2 from rfl, nI_leI (by omega) (by omega)] at bq32
        refine J_bipush (pc := 35) hc dX4_spline_35 (v := -4) (by decide) ?_
        exact J_iret (pc := 37) hc hI dX4_spline_37 (Or.inr ⟨k, hk, hxk, Or.inr (Or.inl ⟨hv, bq32, rfl, rfl⟩)⟩)
    · skip
      have hv := (zin1 hr (show (-1000 : Int64).toInt = -1000 by decide) (show (1000 : Int64).toInt = 1000 by decide)).f bq21
      refine J_bipush (pc := 24) hc dX4_spline_24 (v := -3) (by decide) ?_
      exact J_iret (pc := 26) hc hI dX4_spline_26 (Or.inr ⟨k, hk, hxk, Or.inl ⟨hv, rfl, rfl⟩⟩)
  · skip
    have hnp := hr.f bq4
    refine J_bipush (pc := 7) hc dX4_spline_7 (v := -2) (by decide) ?_
    exact J_iret (pc := 9) hc hI dX4_spline_9 (Or.inl ⟨hnp, rfl, rfl⟩)
set_option maxRecDepth 100000 in
set_option maxHeartbeats 4000000 in
theorem c_X4_mix {l : Launch} {gg : zG} {σ : zS} {x y p z q : Int32} {N : Nat → Nat} (hz : zRv σ N) : zMi l gg yX4_mix cX4_mix .int 6 3 69 [.ref (zM gg), .int x, .int y, .int p, .int z, .int q] σ (fun r u => (¬ (zpl x ∧ zpl y ∧ zpl z) ∧ r = -2 ∧ u = σ) ∨ (∃ k f h, k < 6 ∧ x = nI k ∧ f < 6 ∧ y = nI f ∧ h < 6 ∧ z = nI h ∧ ((¬ ((-100 ≤ p.toInt ∧ p.toInt ≤ 100) ∧ (-100 ≤ q.toInt ∧ q.toInt ≤ 100)) ∧ r = -3 ∧ u = σ) ∨ (((-100 ≤ p.toInt ∧ p.toInt ≤ 100) ∧ (-100 ≤ q.toInt ∧ q.toInt ≤ 100)) ∧ ((¬ N f = N h ∧ r = -4 ∧ u = σ) ∨ (N f = N h ∧ zLA (zmk σ f h p.toInt64 q.toInt64 (N f)) k (N f) r u)))))) := by
  refine zM_i (own := RX4) (lv := [some (.ref (zM gg)), some (.int x), some (.int y), some (.int p), some (.int z), some (.int q)]) (by decide +kernel) rfl (Nat.le_of_ble_eq_true rfl) rfl (fun cx hc hR hI => ?_)
  refine J_iloadn_1 (pc := 0) hc dX4_mix_0 ?_
  refine kX4_51 (pc := 1) hc hR dX4_mix_1 (c_X4_isPlace) (by decide) (Nat.le_of_ble_eq_true rfl) rfl (fun r u hu => ?_)
  have hr := hu.1
  refine J_eq hu.2 ?_
  refine J_if_eq (pc := 4) hc 22 dX4_mix_4 (by decide) (fun bq4 => ?_) (fun bq4 => ?_)
  · skip
    have hn1 := hr.f bq4
    refine J_bipush (pc := 22) hc dX4_mix_22 (v := -2) (by decide) ?_
    exact J_iret (pc := 24) hc hI dX4_mix_24 (Or.inl ⟨by first | exact (fun w => hn3 w.2.2) | exact (fun w => hn2 w.2.1) | exact (fun w => hn1 w.1), rfl, rfl⟩)
  · skip
    obtain ⟨k, hk, hxk⟩ := zpl_nI (hr.t bq4)
    have hzk := hz k hk
    refine J_iloadn_2 (pc := 7) hc dX4_mix_7 ?_
    refine kX4_51 (pc := 8) hc hR dX4_mix_8 (c_X4_isPlace) (by decide) (Nat.le_of_ble_eq_true rfl) rfl (fun r u hu => ?_)
    have hr := hu.1
    refine J_eq hu.2 ?_
    refine J_if_eq (pc := 11) hc 22 dX4_mix_11 (by decide) (fun bq11 => ?_) (fun bq11 => ?_)
    · skip
      have hn2 := hr.f bq11
      refine J_bipush (pc := 22) hc dX4_mix_22 (v := -2) (by decide) ?_
      exact J_iret (pc := 24) hc hI dX4_mix_24 (Or.inl ⟨by first | exact (fun w => hn3 w.2.2) | exact (fun w => hn2 w.2.1) | exact (fun w => hn1 w.1), rfl, rfl⟩)
    · skip
      obtain ⟨f, hf, hxf⟩ := zpl_nI (hr.t bq11)
      have hzf := hz f hf
      refine J_iload_4 (pc := 14) hc dX4_mix_14 ?_
      refine kX4_51 (pc := 16) hc hR dX4_mix_16 (c_X4_isPlace) (by decide) (Nat.le_of_ble_eq_true rfl) rfl (fun r u hu => ?_)
      have hr := hu.1
      refine J_eq hu.2 ?_
      refine J_if_ne (pc := 19) hc 25 dX4_mix_19 (by decide) (fun bq19 => ?_) (fun bq19 => ?_)
      · skip
        obtain ⟨h, hh, hxh⟩ := zpl_nI (hr.t bq19)
        have hzh := hz h hh
        refine J_iloadn_3 (pc := 25) hc dX4_mix_25 ?_
        refine J_i2l (pc := 26) hc dX4_mix_26 ?_
        refine nX4_131 (pc := 27) hc dX4_mix_27 ?_
        refine nX4_133 (pc := 30) hc dX4_mix_30 ?_
        refine kX4_43 (pc := 33) hc hR dX4_mix_33 (c_X4_in) (by decide) (Nat.le_of_ble_eq_true rfl) rfl (fun r u hu => ?_)
        have hr := hu.1
        refine J_eq hu.2 ?_
        refine J_if_eq (pc := 36) hc 54 dX4_mix_36 (by decide) (fun bq36 => ?_) (fun bq36 => ?_)
        · skip
          have hn4 := (zin1 hr (show (-100 : Int64).toInt = -100 by decide) (show (100 : Int64).toInt = 100 by decide)).f bq36
          refine J_bipush (pc := 54) hc dX4_mix_54 (v := -3) (by decide) ?_
          exact J_iret (pc := 56) hc hI dX4_mix_56 (Or.inr ⟨k, f, h, hk, hxk, hf, hxf, hh, hxh, Or.inl ⟨by first | exact (fun w => hn5 w.2) | exact (fun w => hn4 w.1), rfl, rfl⟩⟩)
        · skip
          have hp := (zin1 hr (show (-100 : Int64).toInt = -100 by decide) (show (100 : Int64).toInt = 100 by decide)).t bq36
          refine J_iload_5 (pc := 39) hc dX4_mix_39 ?_
          refine J_i2l (pc := 41) hc dX4_mix_41 ?_
          refine nX4_131 (pc := 42) hc dX4_mix_42 ?_
          refine nX4_133 (pc := 45) hc dX4_mix_45 ?_
          refine kX4_43 (pc := 48) hc hR dX4_mix_48 (c_X4_in) (by decide) (Nat.le_of_ble_eq_true rfl) rfl (fun r u hu => ?_)
          have hr := hu.1
          refine J_eq hu.2 ?_
          refine J_if_ne (pc := 51) hc 57 dX4_mix_51 (by decide) (fun bq51 => ?_) (fun bq51 => ?_)
          · skip
            have hq := (zin1 hr (show (-100 : Int64).toInt = -100 by decide) (show (100 : Int64).toInt = 100 by decide)).t bq51
            refine J_aloadn_0 (pc := 57) hc dX4_mix_57 ?_
            refine gX4_7 (pc := 58) hc dX4_mix_58 ?_
            refine J_iloadn_2 (pc := 61) hc dX4_mix_61 ?_
            refine J_iald (pc := 62) hc 6 (by omega) rfl dX4_mix_62 hxf (by omega) ?_
            refine J_aloadn_0 (pc := 63) hc dX4_mix_63 ?_
            refine gX4_7 (pc := 64) hc dX4_mix_64 ?_
            refine J_iload_4 (pc := 67) hc dX4_mix_67 ?_
            refine J_iald (pc := 69) hc 6 (by omega) rfl dX4_mix_69 hxh (by omega) ?_
            refine J_icmp_eq (pc := 70) hc 76 dX4_mix_70 (by decide) (fun bq70 => ?_) (fun bq70 => ?_)
            · skip
              rw [hzf.2.2.1, hzh.2.2.1, nI_eq (by omega) (by omega)] at bq70
              refine J_aloadn_0 (pc := 76) hc dX4_mix_76 ?_
              refine J_iloadn_2 (pc := 77) hc dX4_mix_77 ?_
              refine J_iloadn_3 (pc := 78) hc dX4_mix_78 ?_
              refine J_i2l (pc := 79) hc dX4_mix_79 ?_
              refine J_iload_4 (pc := 80) hc dX4_mix_80 ?_
              refine J_iload_5 (pc := 82) hc dX4_mix_82 ?_
              refine J_i2l (pc := 84) hc dX4_mix_84 ?_
              refine kX4_127 (pc := 85) hc hR dX4_mix_85 (c_X4_make (n := N f) hf hh hxf hxh hzf.2.2.1 hzf.2.1) (by decide) (Nat.le_of_ble_eq_true rfl) rfl (fun u hu => ?_)
              refine J_eq hu ?_
              refine J_aloadn_0 (pc := 88) hc dX4_mix_88 ?_
              refine J_iloadn_1 (pc := 89) hc dX4_mix_89 ?_
              refine kX4_135 (pc := 90) hc hR dX4_mix_90 (c_X4_lay (n := N f) hk hxk rfl (by omega)) (by decide) (Nat.le_of_ble_eq_true rfl) rfl (fun r u hu => ?_)
              exact J_iret (pc := 93) hc hI dX4_mix_93 (Or.inr ⟨k, f, h, hk, hxk, hf, hxf, hh, hxh, Or.inr ⟨⟨hp, hq⟩, Or.inr ⟨bq70, hu⟩⟩⟩)
            · skip
              rw [hzf.2.2.1, hzh.2.2.1, nI_eq (by omega) (by omega)] at bq70
              refine J_bipush (pc := 73) hc dX4_mix_73 (v := -4) (by decide) ?_
              exact J_iret (pc := 75) hc hI dX4_mix_75 (Or.inr ⟨k, f, h, hk, hxk, hf, hxf, hh, hxh, Or.inr ⟨⟨hp, hq⟩, Or.inl ⟨bq70, rfl, rfl⟩⟩⟩)
          · skip
            have hn5 := (zin1 hr (show (-100 : Int64).toInt = -100 by decide) (show (100 : Int64).toInt = 100 by decide)).f bq51
            refine J_bipush (pc := 54) hc dX4_mix_54 (v := -3) (by decide) ?_
            exact J_iret (pc := 56) hc hI dX4_mix_56 (Or.inr ⟨k, f, h, hk, hxk, hf, hxf, hh, hxh, Or.inl ⟨by first | exact (fun w => hn5 w.2) | exact (fun w => hn4 w.1), rfl, rfl⟩⟩)
      · skip
        have hn3 := hr.f bq19
        refine J_bipush (pc := 22) hc dX4_mix_22 (v := -2) (by decide) ?_
        exact J_iret (pc := 24) hc hI dX4_mix_24 (Or.inl ⟨by first | exact (fun w => hn3 w.2.2) | exact (fun w => hn2 w.2.1) | exact (fun w => hn1 w.1), rfl, rfl⟩)
set_option maxRecDepth 100000 in
set_option maxHeartbeats 4000000 in
theorem c_X4_refine {l : Launch} {gg : zG} {σ : zS} {x y : Int32} {N : Nat → Nat} (hz : zRv σ N) : zMi l gg yX4_refine cX4_refine .int 7 3 69 [.ref (zM gg), .int x, .int y] σ (fun r u => (¬ (zpl x ∧ zpl y) ∧ r = -2 ∧ u = σ) ∨ (∃ k j, k < 6 ∧ x = nI k ∧ j < 6 ∧ y = nI j ∧ ((8 < N j ∧ r = -4 ∧ u = σ) ∨ (N j ≤ 8 ∧ zLA (zrm σ j (N j)) k (2 * N j) r u)))) := by
  refine zM_i (own := RX4) (lv := [some (.ref (zM gg)), some (.int x), some (.int y), none, none, none, none]) (by decide +kernel) rfl (Nat.le_of_ble_eq_true rfl) rfl (fun cx hc hR hI => ?_)
  refine J_iloadn_1 (pc := 0) hc dX4_refine_0 ?_
  refine kX4_51 (pc := 1) hc hR dX4_refine_1 (c_X4_isPlace) (by decide) (Nat.le_of_ble_eq_true rfl) rfl (fun r u hu => ?_)
  have hr := hu.1
  refine J_eq hu.2 ?_
  refine J_if_eq (pc := 4) hc 14 dX4_refine_4 (by decide) (fun bq4 => ?_) (fun bq4 => ?_)
  · skip
    have hnp := hr.f bq4
    refine J_bipush (pc := 14) hc dX4_refine_14 (v := -2) (by decide) ?_
    exact J_iret (pc := 16) hc hI dX4_refine_16 (Or.inl ⟨by first | exact (fun h => hnq h.2) | exact (fun h => hnp h.1), rfl, rfl⟩)
  · skip
    obtain ⟨k, hk, hxk⟩ := zpl_nI (hr.t bq4)
    have hzk := hz k hk
    refine J_iloadn_2 (pc := 7) hc dX4_refine_7 ?_
    refine kX4_51 (pc := 8) hc hR dX4_refine_8 (c_X4_isPlace) (by decide) (Nat.le_of_ble_eq_true rfl) rfl (fun r u hu => ?_)
    have hr := hu.1
    refine J_eq hu.2 ?_
    refine J_if_ne (pc := 11) hc 17 dX4_refine_11 (by decide) (fun bq11 => ?_) (fun bq11 => ?_)
    · skip
      obtain ⟨j, hj, hxj⟩ := zpl_nI (hr.t bq11)
      have hzj := hz j hj
      refine J_aloadn_0 (pc := 17) hc dX4_refine_17 ?_
      refine gX4_7 (pc := 18) hc dX4_refine_18 ?_
      refine J_iloadn_2 (pc := 21) hc dX4_refine_21 ?_
      refine J_iald (pc := 22) hc 6 (by omega) rfl dX4_refine_22 hxj (by omega) ?_
      refine J_bipush (pc := 23) hc dX4_refine_23 (v := 8) (by decide) ?_
      refine J_icmp_le (pc := 25) hc 31 dX4_refine_25 (by decide) (fun bq25 => ?_) (fun bq25 => ?_)
      · skip
        rw [hzj.2.2.1, show (8 : Int32) = nI 8 from rfl, nI_leI (by omega) (by omega)] at bq25
        refine J_aloadn_0 (pc := 31) hc dX4_refine_31 ?_
        refine J_iconst (pc := 32) hc dX4_refine_32 (v := 2) (by decide) ?_
        refine J_aloadn_0 (pc := 33) hc dX4_refine_33 ?_
        refine gX4_7 (pc := 34) hc dX4_refine_34 ?_
        refine J_iloadn_2 (pc := 37) hc dX4_refine_37 ?_
        refine J_iald (pc := 38) hc 6 (by omega) rfl dX4_refine_38 hxj (by omega) ?_
        refine J_imul (pc := 39) hc dX4_refine_39 ?_
        refine J_topi (y := nI (2 * N j)) (by rw [hzj.2.2.1, z2]) ?_
        refine pX4_64 (pc := 40) hc dX4_refine_40 ?_
        refine J_iconst (pc := 43) hc dX4_refine_43 (v := 0) (by decide) ?_
        refine J_istoren_3 (pc := 44) hc dX4_refine_44 rfl ?_
        have hL45 : ∀ (μ : Nat) (i : Nat), 2 * N j - i = μ → i ≤ 2 * N j → J cx gg (zQi cx gg (fun r u => (¬ (zpl x ∧ zpl y) ∧ r = -2 ∧ u = σ) ∨ (∃ k j, k < 6 ∧ x = nI k ∧ j < 6 ∧ y = nI j ∧ ((8 < N j ∧ r = -4 ∧ u = σ) ∨ (N j ≤ 8 ∧ zLA (zrm σ j (N j)) k (2 * N j) r u))))) (z3 (ui σ 12 (nI (2 * N j))) (zfill i (zqA σ j) (sm σ 0)) (zfill i (zqB σ j) (sm σ 1)) (zfill i (zqC σ j) (sm σ 2))) 45 [some (.ref (zM gg)), some (.int x), some (.int y), some (.int (nI i)), none, none, none] [] := by
          intro μ
          induction μ using Nat.strongRecOn with
          | ind μ ih45 =>
            intro i hμ hi
            refine J_iloadn_3 (pc := 45) hc dX4_refine_45 ?_
            refine J_aloadn_0 (pc := 46) hc dX4_refine_46 ?_
            refine gX4_64 (pc := 47) hc dX4_refine_47 ?_
            refine J_icmp_ge (pc := 50) hc 169 dX4_refine_50 (by decide) (fun bq50 => ?_) (fun bq50 => ?_)
            · skip
              have bq50 := (zge rfl rfl (by omega) (by omega)).mp bq50
              refine J_aloadn_0 (pc := 169) hc dX4_refine_169 ?_
              refine J_iloadn_1 (pc := 170) hc dX4_refine_170 ?_
              refine kX4_135 (pc := 171) hc hR dX4_refine_171 (c_X4_lay (n := 2 * N j) hk hxk rfl (by omega)) (by decide) (Nat.le_of_ble_eq_true rfl) rfl (fun r u hu => ?_)
              rw [show i = 2 * N j by omega] at hu
              exact J_iret (pc := 174) hc hI dX4_refine_174 (Or.inr ⟨k, j, hk, hxk, hj, hxj, Or.inr ⟨by omega, hu⟩⟩)
            · skip
              have bq50 := mt (zge rfl rfl (by omega) (by omega)).mpr bq50
              refine J_bipush (pc := 53) hc dX4_refine_53 (v := 16) (by decide) ?_
              refine J_iloadn_2 (pc := 55) hc dX4_refine_55 ?_
              refine J_imul (pc := 56) hc dX4_refine_56 ?_
              refine J_iloadn_3 (pc := 57) hc dX4_refine_57 ?_
              refine J_iconst (pc := 58) hc dX4_refine_58 (v := 2) (by decide) ?_
              refine J_idiv (pc := 59) hc dX4_refine_59 (by decide) ?_
              refine J_iadd (pc := 60) hc dX4_refine_60 ?_
              refine J_topi (y := nI (16 * j + i / 2)) (by rw [hxj, zdiv2 (by omega)]; exact z16 j (i / 2)) ?_
              refine J_istore_4 (pc := 61) hc dX4_refine_61 rfl ?_
              refine J_iloadn_3 (pc := 63) hc dX4_refine_63 ?_
              refine J_iconst (pc := 64) hc dX4_refine_64 (v := 2) (by decide) ?_
              refine J_irem (pc := 65) hc dX4_refine_65 (by decide) ?_
              refine J_topi (zrem2 (by omega)) ?_
              refine J_i2l (pc := 66) hc dX4_refine_66 ?_
              refine J_lstore_5 (pc := 67) hc dX4_refine_67 rfl ?_
              refine J_aloadn_0 (pc := 69) hc dX4_refine_69 ?_
              refine gX4_25 (pc := 70) hc dX4_refine_70 ?_
              refine J_iloadn_3 (pc := 73) hc dX4_refine_73 ?_
              refine nX4_90 (pc := 74) hc dX4_refine_74 ?_
              refine J_aloadn_0 (pc := 77) hc dX4_refine_77 ?_
              refine gX4_13 (pc := 78) hc dX4_refine_78 ?_
              refine J_iload_4 (pc := 81) hc dX4_refine_81 ?_
              refine J_iald (pc := 83) hc 96 (by omega) rfl dX4_refine_83 (by first | with_reducible exact rfl | with_reducible exact nI_1 _ | with_reducible exact z16 _ _ | with_reducible exact zm1 (by omega) | assumption | exact rfl) (by omega) ?_
              refine J_i2l (pc := 84) hc dX4_refine_84 ?_
              refine J_lmul (pc := 85) hc dX4_refine_85 ?_
              refine nX4_61 (pc := 86) hc dX4_refine_86 ?_
              refine J_lload_5 (pc := 89) hc dX4_refine_89 ?_
              refine J_lmul (pc := 91) hc dX4_refine_91 ?_
              refine J_aloadn_0 (pc := 92) hc dX4_refine_92 ?_
              refine gX4_16 (pc := 93) hc dX4_refine_93 ?_
              refine J_iload_4 (pc := 96) hc dX4_refine_96 ?_
              refine J_iald (pc := 98) hc 96 (by omega) rfl dX4_refine_98 (by first | with_reducible exact rfl | with_reducible exact nI_1 _ | with_reducible exact z16 _ _ | with_reducible exact zm1 (by omega) | assumption | exact rfl) (by omega) ?_
              refine J_i2l (pc := 99) hc dX4_refine_99 ?_
              refine J_lmul (pc := 100) hc dX4_refine_100 ?_
              refine J_ladd (pc := 101) hc dX4_refine_101 ?_
              refine J_lload_5 (pc := 102) hc dX4_refine_102 ?_
              refine J_aloadn_0 (pc := 104) hc dX4_refine_104 ?_
              refine gX4_19 (pc := 105) hc dX4_refine_105 ?_
              refine J_iload_4 (pc := 108) hc dX4_refine_108 ?_
              refine J_iald (pc := 110) hc 96 (by omega) rfl dX4_refine_110 (by first | with_reducible exact rfl | with_reducible exact nI_1 _ | with_reducible exact z16 _ _ | with_reducible exact zm1 (by omega) | assumption | exact rfl) (by omega) ?_
              refine J_i2l (pc := 111) hc dX4_refine_111 ?_
              refine J_lmul (pc := 112) hc dX4_refine_112 ?_
              refine J_ladd (pc := 113) hc dX4_refine_113 ?_
              refine J_last (pc := 114) hc (by decide) dX4_refine_114 (by first | with_reducible exact rfl | with_reducible exact nI_1 _ | with_reducible exact z16 _ _ | with_reducible exact zm1 (by omega) | assumption | exact rfl) (by omega) ?_
              refine J_aloadn_0 (pc := 115) hc dX4_refine_115 ?_
              refine gX4_29 (pc := 116) hc dX4_refine_116 ?_
              refine J_iloadn_3 (pc := 119) hc dX4_refine_119 ?_
              refine nX4_61 (pc := 120) hc dX4_refine_120 ?_
              refine J_aloadn_0 (pc := 123) hc dX4_refine_123 ?_
              refine gX4_16 (pc := 124) hc dX4_refine_124 ?_
              refine J_iload_4 (pc := 127) hc dX4_refine_127 ?_
              refine J_iald (pc := 129) hc 96 (by omega) rfl dX4_refine_129 (by first | with_reducible exact rfl | with_reducible exact nI_1 _ | with_reducible exact z16 _ _ | with_reducible exact zm1 (by omega) | assumption | exact rfl) (by omega) ?_
              refine J_i2l (pc := 130) hc dX4_refine_130 ?_
              refine J_lmul (pc := 131) hc dX4_refine_131 ?_
              refine nX4_61 (pc := 132) hc dX4_refine_132 ?_
              refine J_lload_5 (pc := 135) hc dX4_refine_135 ?_
              refine J_lmul (pc := 137) hc dX4_refine_137 ?_
              refine J_aloadn_0 (pc := 138) hc dX4_refine_138 ?_
              refine gX4_19 (pc := 139) hc dX4_refine_139 ?_
              refine J_iload_4 (pc := 142) hc dX4_refine_142 ?_
              refine J_iald (pc := 144) hc 96 (by omega) rfl dX4_refine_144 (by first | with_reducible exact rfl | with_reducible exact nI_1 _ | with_reducible exact z16 _ _ | with_reducible exact zm1 (by omega) | assumption | exact rfl) (by omega) ?_
              refine J_i2l (pc := 145) hc dX4_refine_145 ?_
              refine J_lmul (pc := 146) hc dX4_refine_146 ?_
              refine J_ladd (pc := 147) hc dX4_refine_147 ?_
              refine J_last (pc := 148) hc (by decide) dX4_refine_148 (by first | with_reducible exact rfl | with_reducible exact nI_1 _ | with_reducible exact z16 _ _ | with_reducible exact zm1 (by omega) | assumption | exact rfl) (by omega) ?_
              refine J_aloadn_0 (pc := 149) hc dX4_refine_149 ?_
              refine gX4_32 (pc := 150) hc dX4_refine_150 ?_
              refine J_iloadn_3 (pc := 153) hc dX4_refine_153 ?_
              refine J_aloadn_0 (pc := 154) hc dX4_refine_154 ?_
              refine gX4_19 (pc := 155) hc dX4_refine_155 ?_
              refine J_iload_4 (pc := 158) hc dX4_refine_158 ?_
              refine J_iald (pc := 160) hc 96 (by omega) rfl dX4_refine_160 (by first | with_reducible exact rfl | with_reducible exact nI_1 _ | with_reducible exact z16 _ _ | with_reducible exact zm1 (by omega) | assumption | exact rfl) (by omega) ?_
              refine J_i2l (pc := 161) hc dX4_refine_161 ?_
              refine J_last (pc := 162) hc (by decide) dX4_refine_162 (by first | with_reducible exact rfl | with_reducible exact nI_1 _ | with_reducible exact z16 _ _ | with_reducible exact zm1 (by omega) | assumption | exact rfl) (by omega) ?_
              refine J_iinc_3 (pc := 163) hc dX4_refine_163 (by first | exact nI_1 _ | exact rfl) rfl ?_
              refine J_goto (pc := 166) hc 45 dX4_refine_166 (by decide) ?_
              exact J_weak (by repeat (first | exact zle_nil | apply zle_s | apply zle_n)) (J_eq ((um3 _ _ _ _ _ _ _).trans (z3_eq (zfill_sL rfl) (zfill_sL rfl) (zfill_sL rfl))) (ih45 _ (by omega) (i + 1) rfl (by omega)))
        exact J_weak (by repeat (first | exact zle_nil | apply zle_s | apply zle_n)) (J_eq (by rw [zfill_0, zfill_0, zfill_0]; exact (z3_self _).symm) (hL45 _ 0 rfl (by omega)))
      · skip
        rw [hzj.2.2.1, show (8 : Int32) = nI 8 from rfl, nI_leI (by omega) (by omega)] at bq25
        refine J_bipush (pc := 28) hc dX4_refine_28 (v := -4) (by decide) ?_
        exact J_iret (pc := 30) hc hI dX4_refine_30 (Or.inr ⟨k, j, hk, hxk, hj, hxj, Or.inl ⟨by omega, rfl, rfl⟩⟩)
    · skip
      have hnq := hr.f bq11
      refine J_bipush (pc := 14) hc dX4_refine_14 (v := -2) (by decide) ?_
      exact J_iret (pc := 16) hc hI dX4_refine_16 (Or.inl ⟨by first | exact (fun h => hnq h.2) | exact (fun h => hnp h.1), rfl, rfl⟩)
set_option maxRecDepth 100000 in
set_option maxHeartbeats 4000000 in
theorem c_X4_slope {l : Launch} {gg : zG} {σ : zS} {x y : Int32} {N : Nat → Nat} (hz : zRv σ N) : zMi l gg yX4_slope cX4_slope .int 4 3 69 [.ref (zM gg), .int x, .int y] σ (fun r u => (¬ (zpl x ∧ zpl y) ∧ r = -2 ∧ u = σ) ∨ (∃ k j, k < 6 ∧ x = nI k ∧ j < 6 ∧ y = nI j ∧ zLA (zsm σ j (N j)) k (N j) r u)) := by
  refine zM_i (own := RX4) (lv := [some (.ref (zM gg)), some (.int x), some (.int y), none]) (by decide +kernel) rfl (Nat.le_of_ble_eq_true rfl) rfl (fun cx hc hR hI => ?_)
  refine J_iloadn_1 (pc := 0) hc dX4_slope_0 ?_
  refine kX4_51 (pc := 1) hc hR dX4_slope_1 (c_X4_isPlace) (by decide) (Nat.le_of_ble_eq_true rfl) rfl (fun r u hu => ?_)
  have hr := hu.1
  refine J_eq hu.2 ?_
  refine J_if_eq (pc := 4) hc 14 dX4_slope_4 (by decide) (fun bq4 => ?_) (fun bq4 => ?_)
  · skip
    have hnp := hr.f bq4
    refine J_bipush (pc := 14) hc dX4_slope_14 (v := -2) (by decide) ?_
    exact J_iret (pc := 16) hc hI dX4_slope_16 (Or.inl ⟨by first | exact (fun h => hnq h.2) | exact (fun h => hnp h.1), rfl, rfl⟩)
  · skip
    obtain ⟨k, hk, hxk⟩ := zpl_nI (hr.t bq4)
    have hzk := hz k hk
    refine J_iloadn_2 (pc := 7) hc dX4_slope_7 ?_
    refine kX4_51 (pc := 8) hc hR dX4_slope_8 (c_X4_isPlace) (by decide) (Nat.le_of_ble_eq_true rfl) rfl (fun r u hu => ?_)
    have hr := hu.1
    refine J_eq hu.2 ?_
    refine J_if_ne (pc := 11) hc 17 dX4_slope_11 (by decide) (fun bq11 => ?_) (fun bq11 => ?_)
    · skip
      obtain ⟨j, hj, hxj⟩ := zpl_nI (hr.t bq11)
      have hzj := hz j hj
      refine J_aloadn_0 (pc := 17) hc dX4_slope_17 ?_
      refine J_aloadn_0 (pc := 18) hc dX4_slope_18 ?_
      refine gX4_7 (pc := 19) hc dX4_slope_19 ?_
      refine J_iloadn_2 (pc := 22) hc dX4_slope_22 ?_
      refine J_iald (pc := 23) hc 6 (by omega) rfl dX4_slope_23 hxj (by omega) ?_
      refine J_topi hzj.2.2.1 ?_
      refine pX4_64 (pc := 24) hc dX4_slope_24 ?_
      refine J_iconst (pc := 27) hc dX4_slope_27 (v := 0) (by decide) ?_
      refine J_istoren_3 (pc := 28) hc dX4_slope_28 rfl ?_
      have hL29 : ∀ (μ : Nat) (i : Nat), N j - i = μ → i ≤ N j → J cx gg (zQi cx gg (fun r u => (¬ (zpl x ∧ zpl y) ∧ r = -2 ∧ u = σ) ∨ (∃ k j, k < 6 ∧ x = nI k ∧ j < 6 ∧ y = nI j ∧ zLA (zsm σ j (N j)) k (N j) r u))) (z3 (ui σ 12 (nI (N j))) (zfill i (fun i => (sa σ 25 (16 * j + i)).toInt64) (sm σ 0)) (zfill i (fun i => 2 * (sa σ 26 (16 * j + i)).toInt64) (sm σ 1)) (zfill i (fun _ => 0) (sm σ 2))) 29 [some (.ref (zM gg)), some (.int x), some (.int y), some (.int (nI i))] [] := by
        intro μ
        induction μ using Nat.strongRecOn with
        | ind μ ih29 =>
          intro i hμ hi
          refine J_iloadn_3 (pc := 29) hc dX4_slope_29 ?_
          refine J_aloadn_0 (pc := 30) hc dX4_slope_30 ?_
          refine gX4_64 (pc := 31) hc dX4_slope_31 ?_
          refine J_icmp_ge (pc := 34) hc 90 dX4_slope_34 (by decide) (fun bq34 => ?_) (fun bq34 => ?_)
          · skip
            have bq34 := (zge rfl rfl (by omega) (by omega)).mp bq34
            refine J_aloadn_0 (pc := 90) hc dX4_slope_90 ?_
            refine J_iloadn_1 (pc := 91) hc dX4_slope_91 ?_
            refine kX4_135 (pc := 92) hc hR dX4_slope_92 (c_X4_lay (n := N j) hk hxk rfl (by omega)) (by decide) (Nat.le_of_ble_eq_true rfl) rfl (fun r u hu => ?_)
            rw [show i = N j by omega] at hu
            exact J_iret (pc := 95) hc hI dX4_slope_95 (Or.inr ⟨k, j, hk, hxk, hj, hxj, hu⟩)
          · skip
            have bq34 := mt (zge rfl rfl (by omega) (by omega)).mpr bq34
            refine J_aloadn_0 (pc := 37) hc dX4_slope_37 ?_
            refine gX4_25 (pc := 38) hc dX4_slope_38 ?_
            refine J_iloadn_3 (pc := 41) hc dX4_slope_41 ?_
            refine J_aloadn_0 (pc := 42) hc dX4_slope_42 ?_
            refine gX4_16 (pc := 43) hc dX4_slope_43 ?_
            refine J_bipush (pc := 46) hc dX4_slope_46 (v := 16) (by decide) ?_
            refine J_iloadn_2 (pc := 48) hc dX4_slope_48 ?_
            refine J_imul (pc := 49) hc dX4_slope_49 ?_
            refine J_iloadn_3 (pc := 50) hc dX4_slope_50 ?_
            refine J_iadd (pc := 51) hc dX4_slope_51 ?_
            refine J_iald (pc := 52) hc 96 (by omega) rfl dX4_slope_52 (by rw [hxj]; exact z16 j i) (by omega) ?_
            refine J_i2l (pc := 53) hc dX4_slope_53 ?_
            refine J_last (pc := 54) hc (by decide) dX4_slope_54 (by first | with_reducible exact rfl | with_reducible exact nI_1 _ | with_reducible exact z16 _ _ | with_reducible exact zm1 (by omega) | assumption | exact rfl) (by omega) ?_
            refine J_aloadn_0 (pc := 55) hc dX4_slope_55 ?_
            refine gX4_29 (pc := 56) hc dX4_slope_56 ?_
            refine J_iloadn_3 (pc := 59) hc dX4_slope_59 ?_
            refine nX4_61 (pc := 60) hc dX4_slope_60 ?_
            refine J_aloadn_0 (pc := 63) hc dX4_slope_63 ?_
            refine gX4_19 (pc := 64) hc dX4_slope_64 ?_
            refine J_bipush (pc := 67) hc dX4_slope_67 (v := 16) (by decide) ?_
            refine J_iloadn_2 (pc := 69) hc dX4_slope_69 ?_
            refine J_imul (pc := 70) hc dX4_slope_70 ?_
            refine J_iloadn_3 (pc := 71) hc dX4_slope_71 ?_
            refine J_iadd (pc := 72) hc dX4_slope_72 ?_
            refine J_iald (pc := 73) hc 96 (by omega) rfl dX4_slope_73 (by rw [hxj]; exact z16 j i) (by omega) ?_
            refine J_i2l (pc := 74) hc dX4_slope_74 ?_
            refine J_lmul (pc := 75) hc dX4_slope_75 ?_
            refine J_last (pc := 76) hc (by decide) dX4_slope_76 (by first | with_reducible exact rfl | with_reducible exact nI_1 _ | with_reducible exact z16 _ _ | with_reducible exact zm1 (by omega) | assumption | exact rfl) (by omega) ?_
            refine J_aloadn_0 (pc := 77) hc dX4_slope_77 ?_
            refine gX4_32 (pc := 78) hc dX4_slope_78 ?_
            refine J_iloadn_3 (pc := 81) hc dX4_slope_81 ?_
            refine J_lconst (pc := 82) hc dX4_slope_82 (v := 0) (by decide) ?_
            refine J_last (pc := 83) hc (by decide) dX4_slope_83 (by first | with_reducible exact rfl | with_reducible exact nI_1 _ | with_reducible exact z16 _ _ | with_reducible exact zm1 (by omega) | assumption | exact rfl) (by omega) ?_
            refine J_iinc_3 (pc := 84) hc dX4_slope_84 (by first | exact nI_1 _ | exact rfl) rfl ?_
            refine J_goto (pc := 87) hc 29 dX4_slope_87 (by decide) ?_
            exact J_weak (by repeat (first | exact zle_nil | apply zle_s | apply zle_n)) (J_eq ((um3 _ _ _ _ _ _ _).trans (z3_eq (zfill_sL rfl) (zfill_sL rfl) (zfill_sL rfl))) (ih29 _ (by omega) (i + 1) rfl (by omega)))
      exact J_weak (by repeat (first | exact zle_nil | apply zle_s | apply zle_n)) (J_eq (by rw [zfill_0, zfill_0, zfill_0]; exact (z3_self _).symm) (hL29 _ 0 rfl (by omega)))
    · skip
      have hnq := hr.f bq11
      refine J_bipush (pc := 14) hc dX4_slope_14 (v := -2) (by decide) ?_
      exact J_iret (pc := 16) hc hI dX4_slope_16 (Or.inl ⟨by first | exact (fun h => hnq h.2) | exact (fun h => hnp h.1), rfl, rfl⟩)
set_option maxRecDepth 100000 in
set_option maxHeartbeats 4000000 in
theorem c_X4_push {l : Launch} {gg : zG} {σ : zS} {x v : Int32} {N : Nat → Nat} (hz : zRv σ N) : zMi l gg yX4_push cX4_push .int 4 3 69 [.ref (zM gg), .int x, .int v] σ (fun r u => (¬ zpl x ∧ r = -2 ∧ u = σ) ∨ (∃ k, k < 6 ∧ x = nI k ∧ ((¬ zcf v ∧ r = -3 ∧ u = σ) ∨ (zcf v ∧ zLA (zpm σ k (N k) v) k (N k) r u)))) := by
  refine zM_i (own := RX4) (lv := [some (.ref (zM gg)), some (.int x), some (.int v), none]) (by decide +kernel) rfl (Nat.le_of_ble_eq_true rfl) rfl (fun cx hc hR hI => ?_)
  refine J_iloadn_1 (pc := 0) hc dX4_push_0 ?_
  refine kX4_51 (pc := 1) hc hR dX4_push_1 (c_X4_isPlace) (by decide) (Nat.le_of_ble_eq_true rfl) rfl (fun r u hu => ?_)
  have hr := hu.1
  refine J_eq hu.2 ?_
  refine J_if_ne (pc := 4) hc 10 dX4_push_4 (by decide) (fun bq4 => ?_) (fun bq4 => ?_)
  · skip
    obtain ⟨k, hk, hxk⟩ := zpl_nI (hr.t bq4)
    have hzk := hz k hk
    refine J_iloadn_2 (pc := 10) hc dX4_push_10 ?_
    refine J_i2l (pc := 11) hc dX4_push_11 ?_
    refine kX4_57 (pc := 12) hc hR dX4_push_12 (c_X4_isSmall) (by decide) (Nat.le_of_ble_eq_true rfl) rfl (fun r u hu => ?_)
    have hr := hu.1
    refine J_eq hu.2 ?_
    refine J_if_ne (pc := 15) hc 21 dX4_push_15 (by decide) (fun bq15 => ?_) (fun bq15 => ?_)
    · skip
      have hv := (zsmall hr).t bq15
      refine J_aloadn_0 (pc := 21) hc dX4_push_21 ?_
      refine J_iloadn_1 (pc := 22) hc dX4_push_22 ?_
      refine kX4_80 (pc := 23) hc hR dX4_push_23 (c_X4_look hk hxk hzk.2.2.1 hzk.2.1) (by decide) (Nat.le_of_ble_eq_true rfl) rfl (fun u hu => ?_)
      refine J_eq hu ?_
      refine J_iconst (pc := 26) hc dX4_push_26 (v := 0) (by decide) ?_
      refine J_istoren_3 (pc := 27) hc dX4_push_27 rfl ?_
      have hL28 : ∀ (μ : Nat) (i : Nat), N k - i = μ → i ≤ N k → J cx gg (zQi cx gg (fun r u => (¬ zpl x ∧ r = -2 ∧ u = σ) ∨ (∃ k, k < 6 ∧ x = nI k ∧ ((¬ zcf v ∧ r = -3 ∧ u = σ) ∨ (zcf v ∧ zLA (zpm σ k (N k) v) k (N k) r u))))) (um (zlk σ k (N k)) 0 (zfill i (fun i => sm (zlk σ k (N k)) 0 i + v.toInt64) (sm (zlk σ k (N k)) 0))) 28 [some (.ref (zM gg)), some (.int x), some (.int v), some (.int (nI i))] [] := by
        intro μ
        induction μ using Nat.strongRecOn with
        | ind μ ih28 =>
          intro i hμ hi
          refine J_iloadn_3 (pc := 28) hc dX4_push_28 ?_
          refine J_aloadn_0 (pc := 29) hc dX4_push_29 ?_
          refine gX4_64 (pc := 30) hc dX4_push_30 ?_
          refine J_icmp_ge (pc := 33) hc 53 dX4_push_33 (by decide) (fun bq33 => ?_) (fun bq33 => ?_)
          · skip
            have bq33 := (zge rfl rfl (by omega) (by omega)).mp bq33
            refine J_aloadn_0 (pc := 53) hc dX4_push_53 ?_
            refine J_iloadn_1 (pc := 54) hc dX4_push_54 ?_
            refine kX4_135 (pc := 55) hc hR dX4_push_55 (c_X4_lay (n := N k) hk hxk rfl (by omega)) (by decide) (Nat.le_of_ble_eq_true rfl) rfl (fun r u hu => ?_)
            rw [show i = N k by omega] at hu
            exact J_iret (pc := 58) hc hI dX4_push_58 (Or.inr ⟨k, hk, hxk, Or.inr ⟨hv, hu⟩⟩)
          · skip
            have bq33 := mt (zge rfl rfl (by omega) (by omega)).mpr bq33
            refine J_aloadn_0 (pc := 36) hc dX4_push_36 ?_
            refine gX4_25 (pc := 37) hc dX4_push_37 ?_
            refine J_iloadn_3 (pc := 40) hc dX4_push_40 ?_
            refine J_dup2 (pc := 41) hc dX4_push_41 rfl rfl ?_
            refine J_lald (pc := 42) hc (by decide) dX4_push_42 (by first | with_reducible exact rfl | with_reducible exact nI_1 _ | with_reducible exact z16 _ _ | with_reducible exact zm1 (by omega) | assumption | exact rfl) (by omega) ?_
            refine J_iloadn_2 (pc := 43) hc dX4_push_43 ?_
            refine J_i2l (pc := 44) hc dX4_push_44 ?_
            refine J_ladd (pc := 45) hc dX4_push_45 ?_
            refine J_last (pc := 46) hc (by decide) dX4_push_46 (by first | with_reducible exact rfl | with_reducible exact nI_1 _ | with_reducible exact z16 _ _ | with_reducible exact zm1 (by omega) | assumption | exact rfl) (by omega) ?_
            refine J_iinc_3 (pc := 47) hc dX4_push_47 (by first | exact nI_1 _ | exact rfl) rfl ?_
            refine J_goto (pc := 50) hc 28 dX4_push_50 (by decide) ?_
            exact J_weak (by repeat (first | exact zle_nil | apply zle_s | apply zle_n)) (J_eq ((um_um _ _ _ _).trans (congrArg (um (zlk σ k (N k)) 0) (zfill_sL (f := fun i => sm (zlk σ k (N k)) 0 i + v.toInt64) (g := sm (zlk σ k (N k)) 0) (congrArg (· + v.toInt64) (zfill_hi (n := i) (fun i => sm (zlk σ k (N k)) 0 i + v.toInt64) (sm (zlk σ k (N k)) 0)))))) (ih28 _ (by omega) (i + 1) rfl (by omega)))
      exact J_weak (by repeat (first | exact zle_nil | apply zle_s | apply zle_n)) (J_eq (by rw [zfill_0]; exact (um_self _ _).symm) (hL28 _ 0 rfl (by omega)))
    · skip
      have hv := (zsmall hr).f bq15
      refine J_bipush (pc := 18) hc dX4_push_18 (v := -3) (by decide) ?_
      exact J_iret (pc := 20) hc hI dX4_push_20 (Or.inr ⟨k, hk, hxk, Or.inl ⟨hv, rfl, rfl⟩⟩)
  · skip
    have hnp := hr.f bq4
    refine J_bipush (pc := 7) hc dX4_push_7 (v := -2) (by decide) ?_
    exact J_iret (pc := 9) hc hI dX4_push_9 (Or.inl ⟨hnp, rfl, rfl⟩)
