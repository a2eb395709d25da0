theorem z2 (i : Nat) : 2 * nI i = nI (2 * i) := by rw [show (2 : Int32) = nI 2 from rfl, pk_mul]
theorem z21 (i : Nat) : 2 * nI i + 1 = nI (2 * i + 1) := by rw [z2, nI_1]
theorem zfill_s {f g : Nat → Int32} {i : Nat} {v : Int32} (h : v = f i) : upd (zfill i f g) i v = zfill (i + 1) f g := by rw [h]; exact zfill_succ f g i
theorem zfill_sL {f g : Nat → Int64} {i : Nat} {v : Int64} (h : v = f i) : vp_updL (zfill i f g) i v = zfill (i + 1) f g := by subst h; exact zfill_succL f g i
theorem zle0 {i : Nat} (h : i < 2 ^ 31) : nI i ≤ 0 ↔ i = 0 := by
  rw [zi_le, nI_toInt h]
  show (i : Int) ≤ 0 ↔ i = 0
  omega
theorem zct_t {p : Nat → Prop} [DecidablePred p] {n : Nat} (h : p n) : zct p (n + 1) = zct p n + 1 := by rw [zct, if_pos h]
theorem zct_f {p : Nat → Prop} [DecidablePred p] {n : Nat} (h : ¬ p n) : zct p (n + 1) = zct p n := by rw [zct, if_neg h]; rfl
theorem zbnd {r x : Int32} (h : zb r (¬ ((-(100000 : Int32)).toInt ≤ x.toInt ∧ x.toInt ≤ (100000 : Int32).toInt))) : zb r (¬ zcf x) := h.iff (by unfold zcf; rw [show (-(100000 : Int32)).toInt = -100000 by decide, show (100000 : Int32).toInt = 100000 by decide])
def zrA (σ : zS) (j : Nat) : Nat → Int32 := fun m => if m % 2 = 0 then 4 * sa σ j (m / 2) else 4 * sa σ j (m / 2) + 2 * sa σ (7 + j) (m / 2) + sa σ (14 + j) (m / 2)
def zrB (σ : zS) (j : Nat) : Nat → Int32 := fun m => if m % 2 = 0 then 2 * sa σ (7 + j) (m / 2) else 2 * sa σ (7 + j) (m / 2) + 2 * sa σ (14 + j) (m / 2)
def zrC (σ : zS) (j : Nat) : Nat → Int32 := fun m => sa σ (14 + j) (m / 2)
theorem zrA_0 (σ : zS) (j i : Nat) : 4 * sa σ j i = zrA σ j (2 * i) := by unfold zrA; rw [if_pos (by omega), show 2 * i / 2 = i by omega]
theorem zrA_1 (σ : zS) (j i : Nat) : 4 * sa σ j i + 2 * sa σ (7 + j) i + sa σ (14 + j) i = zrA σ j (2 * i + 1) := by unfold zrA; rw [if_neg (by omega), show (2 * i + 1) / 2 = i by omega]
theorem zrB_0 (σ : zS) (j i : Nat) : 2 * sa σ (7 + j) i = zrB σ j (2 * i) := by unfold zrB; rw [if_pos (by omega), show 2 * i / 2 = i by omega]
theorem zrB_1 (σ : zS) (j i : Nat) : 2 * sa σ (7 + j) i + 2 * sa σ (14 + j) i = zrB σ j (2 * i + 1) := by unfold zrB; rw [if_neg (by omega), show (2 * i + 1) / 2 = i by omega]
theorem zrC_0 (σ : zS) (j i : Nat) : sa σ (14 + j) i = zrC σ j (2 * i) := by unfold zrC; rw [show 2 * i / 2 = i by omega]
theorem zrC_1 (σ : zS) (j i : Nat) : sa σ (14 + j) i = zrC σ j (2 * i + 1) := by unfold zrC; rw [show (2 * i + 1) / 2 = i by omega]
theorem zfill_2 {f g : Nat → Int32} {i : Nat} {v w : Int32} (h : v = f (2 * i)) (h2 : w = f (2 * i + 1)) : upd (upd (zfill (2 * i) f g) (2 * i) v) (2 * i + 1) w = zfill (2 * (i + 1)) f g := by rw [zfill_s h, zfill_s h2]; rfl
def zfd (x y : Int64) : Int64 := if 0 ≤ x ^^^ y then x / y else if x / y * y = x then x / y else x / y - 1
def ztp (a b c : Int64) : Int64 := if c < 0 ∧ 0 < b ∧ b + 2 * c < 0 then a - zfd (b * b) (4 * c) else (if a < a + b + c then a + b + c else a)
theorem ztp_t {a b c : Int64} (h : c < 0 ∧ 0 < b ∧ b + 2 * c < 0) : ztp a b c = a - zfd (b * b) (4 * c) := if_pos h
theorem ztp_f {a b c : Int64} (h : ¬ (c < 0 ∧ 0 < b ∧ b + 2 * c < 0)) : ztp a b c = (if a < a + b + c then a + b + c else a) := if_neg h
def zTop (σ : zS) (k : Nat) (s : Int32) : Nat → Int64
  | 0 => ztp (s * sa σ k 0).toInt64 (s * sa σ (7 + k) 0).toInt64 (s * sa σ (14 + k) 0).toInt64
  | i + 1 => if zTop σ k s i < ztp (s * sa σ k (i + 1)).toInt64 (s * sa σ (7 + k) (i + 1)).toInt64 (s * sa σ (14 + k) (i + 1)).toInt64 then ztp (s * sa σ k (i + 1)).toInt64 (s * sa σ (7 + k) (i + 1)).toInt64 (s * sa σ (14 + k) (i + 1)).toInt64 else zTop σ k s i
theorem z4c {c : Int64} (h : -1000000 ≤ c.toInt) (h2 : ¬ 0 ≤ c) : ¬ 4 * c = 0 := by
  rw [zl_le] at h2
  rw [zl_eq, Int64.toInt_mul, show (4 : Int64).toInt = 4 by decide, Int.bmod_eq_of_le (by simp at h2; omega) (by simp at h2; omega)]
  simp at h2 ⊢
  omega
def zriP (σ : zS) (k : Nat) (s : Int32) (i : Nat) : Prop := ¬ s * sa σ (7 + k) i < 0 ∧ ¬ s * zsl σ k i < 0 ∧ (0 < i → ¬ s * (sa σ k i - zva σ k (i - 1)) < 0)
def zbuP (σ : zS) (k : Nat) (s : Int32) (i : Nat) : Prop := ¬ s * sa σ (14 + k) i < 0 ∧ (0 < i → ¬ zjn σ k i < 0 ∧ ¬ s * (sa σ (7 + k) i - zsl σ k (i - 1)) < 0)
def zzP (σ : zS) (k i : Nat) : Prop := sa σ k i = 0 ∧ sa σ (7 + k) i = 0 ∧ sa σ (14 + k) i = 0
def zbdP (σ : zS) (k i : Nat) : Prop := zcf (sa σ k i) ∧ zcf (sa σ (7 + k) i) ∧ zcf (sa σ (14 + k) i)
def zeqP (σ : zS) (f h i : Nat) : Prop := sa σ f i = sa σ h i ∧ sa σ (7 + f) i = sa σ (7 + h) i ∧ sa σ (14 + f) i = sa σ (14 + h) i
theorem znl {x : Int32} (h : 0 ≤ x) : ¬ x < 0 := by rw [zi_le] at h; rw [zi_lt]; omega
theorem znge {x : Int32} (h : ¬ 0 ≤ x) : x < 0 := by rw [zi_le] at h; rw [zi_lt]; omega
set_option maxRecDepth 100000 in
set_option maxHeartbeats 4000000 in
theorem c_X0_becomeRefined {l : Launch} {gg : zG} {σ : zS} {j n : Nat} (hj : j < 6) (hs : si σ j = nI n) (hn : n ≤ 8) : zMv l gg yX0_becomeRefined cX0_becomeRefined 7 1 24 [.ref (zc gg 6), .ref (zc gg j)] σ (fun u => u = (zc3 (ui σ 6 (nI (2 * n))) 6 (zfill (2 * n) (zrA σ j) (sa σ 6)) (zfill (2 * n) (zrB σ j) (sa σ (7 + 6))) (zfill (2 * n) (zrC σ j) (sa σ (14 + 6))))) := by
  refine zM_v (own := RX0) (lv := [some (.ref (zc gg 6)), some (.ref (zc gg j)), none, none, none, none, none]) (by decide +kernel) rfl (Nat.le_of_ble_eq_true rfl) rfl (fun cx hc hR hI => ?_)
  refine J_aloadn_1 (pc := 0) hc dX0_becomeRefined_0 ?_
  refine gX0_21 (pc := 1) hc (by omega) dX0_becomeRefined_1 ?_
  refine J_bipush (pc := 4) hc dX0_becomeRefined_4 (v := 8) (by decide) ?_
  refine kX0_29 (pc := 6) hc hR dX0_becomeRefined_6 (c_J9_min_7cf53) (by decide) (Nat.le_of_ble_eq_true rfl) rfl (fun r u hu => ?_)
  refine J_eq hu.2 (J_topi hu.1 ?_)
  refine J_topi (y := nI n) (by rw [hs, if_neg (by rw [zi_lt, nI_toInt (by omega)]; simp; omega)]) ?_
  refine J_istoren_2 (pc := 9) hc dX0_becomeRefined_9 rfl ?_
  refine J_aloadn_0 (pc := 10) hc dX0_becomeRefined_10 ?_
  refine J_iconst (pc := 11) hc dX0_becomeRefined_11 (v := 2) (by decide) ?_
  refine J_iloadn_2 (pc := 12) hc dX0_becomeRefined_12 ?_
  refine J_imul (pc := 13) hc dX0_becomeRefined_13 ?_
  refine J_topi (z2 n) ?_
  refine pX0_21 (pc := 14) hc (by omega) dX0_becomeRefined_14 ?_
  refine J_iconst (pc := 17) hc dX0_becomeRefined_17 (v := 0) (by decide) ?_
  refine J_istoren_3 (pc := 18) hc dX0_becomeRefined_18 rfl ?_
  have hL19 : ∀ (μ : Nat) (i : Nat), n - i = μ → i ≤ n → J cx gg (zQv cx gg (fun u => u = (zc3 (ui σ 6 (nI (2 * n))) 6 (zfill (2 * n) (zrA σ j) (sa σ 6)) (zfill (2 * n) (zrB σ j) (sa σ (7 + 6))) (zfill (2 * n) (zrC σ j) (sa σ (14 + 6)))))) (zc3 (ui σ 6 (nI (2 * n))) 6 (zfill (2 * i) (zrA σ j) (sa σ 6)) (zfill (2 * i) (zrB σ j) (sa σ (7 + 6))) (zfill (2 * i) (zrC σ j) (sa σ (14 + 6)))) 19 [some (.ref (zc gg 6)), some (.ref (zc gg j)), some (.int (nI n)), some (.int (nI i)), none, none, none] [] := by
    intro μ
    induction μ using Nat.strongRecOn with
    | ind μ ih19 =>
      intro i hμ hi
      refine J_iloadn_3 (pc := 19) hc dX0_becomeRefined_19 ?_
      refine J_iloadn_2 (pc := 20) hc dX0_becomeRefined_20 ?_
      refine J_icmp_ge (pc := 21) hc 103 dX0_becomeRefined_21 (by decide) (fun bq21 => ?_) (fun bq21 => ?_)
      · skip
        have bq21 := (zge rfl rfl (by omega) (by omega)).mp bq21
        exact J_vret (pc := 103) hc hI dX0_becomeRefined_103 (by rw [show i = n by omega])
      · skip
        have bq21 := mt (zge rfl rfl (by omega) (by omega)).mpr bq21
        refine J_aloadn_1 (pc := 24) hc dX0_becomeRefined_24 ?_
        refine gX0_9 (pc := 25) hc (by omega) dX0_becomeRefined_25 ?_
        refine J_iloadn_3 (pc := 28) hc dX0_becomeRefined_28 ?_
        refine J_iald (pc := 29) hc 16 (by omega) (zlen_c (by omega)) dX0_becomeRefined_29 (by first | exact rfl | exact z16 _ _ | exact nI_1 _ | exact zm1 (by omega) | assumption) (by omega) ?_
        refine J_istore_4 (pc := 30) hc dX0_becomeRefined_30 rfl ?_
        refine J_aloadn_1 (pc := 32) hc dX0_becomeRefined_32 ?_
        refine gX0_15 (pc := 33) hc (by omega) dX0_becomeRefined_33 ?_
        refine J_iloadn_3 (pc := 36) hc dX0_becomeRefined_36 ?_
        refine J_iald (pc := 37) hc 16 (by omega) (zlen_c (by omega)) dX0_becomeRefined_37 (by first | exact rfl | exact z16 _ _ | exact nI_1 _ | exact zm1 (by omega) | assumption) (by omega) ?_
        refine J_istore_5 (pc := 38) hc dX0_becomeRefined_38 rfl ?_
        refine J_aloadn_1 (pc := 40) hc dX0_becomeRefined_40 ?_
        refine gX0_18 (pc := 41) hc (by omega) dX0_becomeRefined_41 ?_
        refine J_iloadn_3 (pc := 44) hc dX0_becomeRefined_44 ?_
        refine J_iald (pc := 45) hc 16 (by omega) (zlen_c (by omega)) dX0_becomeRefined_45 (by first | exact rfl | exact z16 _ _ | exact nI_1 _ | exact zm1 (by omega) | assumption) (by omega) ?_
        refine J_istore_6 (pc := 46) hc dX0_becomeRefined_46 rfl ?_
        refine J_aloadn_0 (pc := 48) hc dX0_becomeRefined_48 ?_
        refine J_iconst (pc := 49) hc dX0_becomeRefined_49 (v := 2) (by decide) ?_
        refine J_iloadn_3 (pc := 50) hc dX0_becomeRefined_50 ?_
        refine J_imul (pc := 51) hc dX0_becomeRefined_51 ?_
        refine J_iconst (pc := 52) hc dX0_becomeRefined_52 (v := 4) (by decide) ?_
        refine J_iload_4 (pc := 53) hc dX0_becomeRefined_53 ?_
        refine J_imul (pc := 55) hc dX0_becomeRefined_55 ?_
        refine J_iconst (pc := 56) hc dX0_becomeRefined_56 (v := 2) (by decide) ?_
        refine J_iload_5 (pc := 57) hc dX0_becomeRefined_57 ?_
        refine J_imul (pc := 59) hc dX0_becomeRefined_59 ?_
        refine J_iload_6 (pc := 60) hc dX0_becomeRefined_60 ?_
        refine kX0_25 (pc := 62) hc hR (by omega) dX0_becomeRefined_62 (c_X0_put (by omega) (z2 i) (by omega)) (by decide) (Nat.le_of_ble_eq_true rfl) rfl (fun u hu => ?_)
        refine J_eq hu ?_
        refine J_aloadn_0 (pc := 65) hc dX0_becomeRefined_65 ?_
        refine J_iconst (pc := 66) hc dX0_becomeRefined_66 (v := 2) (by decide) ?_
        refine J_iloadn_3 (pc := 67) hc dX0_becomeRefined_67 ?_
        refine J_imul (pc := 68) hc dX0_becomeRefined_68 ?_
        refine J_iconst (pc := 69) hc dX0_becomeRefined_69 (v := 1) (by decide) ?_
        refine J_iadd (pc := 70) hc dX0_becomeRefined_70 ?_
        refine J_iconst (pc := 71) hc dX0_becomeRefined_71 (v := 4) (by decide) ?_
        refine J_iload_4 (pc := 72) hc dX0_becomeRefined_72 ?_
        refine J_imul (pc := 74) hc dX0_becomeRefined_74 ?_
        refine J_iconst (pc := 75) hc dX0_becomeRefined_75 (v := 2) (by decide) ?_
        refine J_iload_5 (pc := 76) hc dX0_becomeRefined_76 ?_
        refine J_imul (pc := 78) hc dX0_becomeRefined_78 ?_
        refine J_iadd (pc := 79) hc dX0_becomeRefined_79 ?_
        refine J_iload_6 (pc := 80) hc dX0_becomeRefined_80 ?_
        refine J_iadd (pc := 82) hc dX0_becomeRefined_82 ?_
        refine J_iconst (pc := 83) hc dX0_becomeRefined_83 (v := 2) (by decide) ?_
        refine J_iload_5 (pc := 84) hc dX0_becomeRefined_84 ?_
        refine J_imul (pc := 86) hc dX0_becomeRefined_86 ?_
        refine J_iconst (pc := 87) hc dX0_becomeRefined_87 (v := 2) (by decide) ?_
        refine J_iload_6 (pc := 88) hc dX0_becomeRefined_88 ?_
        refine J_imul (pc := 90) hc dX0_becomeRefined_90 ?_
        refine J_iadd (pc := 91) hc dX0_becomeRefined_91 ?_
        refine J_iload_6 (pc := 92) hc dX0_becomeRefined_92 ?_
        refine kX0_25 (pc := 94) hc hR (by omega) dX0_becomeRefined_94 (c_X0_put (by omega) (z21 i) (by omega)) (by decide) (Nat.le_of_ble_eq_true rfl) rfl (fun u hu => ?_)
        refine J_eq hu ?_
        refine J_iinc_3 (pc := 97) hc dX0_becomeRefined_97 (by first | exact nI_1 _ | exact rfl) rfl ?_
        refine J_goto (pc := 100) hc 19 dX0_becomeRefined_100 (by decide) ?_
        exact J_weak (by repeat (first | exact zle_nil | apply zle_s | apply zle_n)) (J_eq (by simp only [sa_zc3_a, sa_zc3_b, sa_zc3_c, zc3_zc3]; rw [sa_zc3_n _ _ _ _ _ (by omega) (by omega) (by omega), sa_zc3_n _ _ _ _ _ (by omega) (by omega) (by omega), sa_zc3_n _ _ _ _ _ (by omega) (by omega) (by omega)]; exact zc3_eq (zfill_2 (zrA_0 σ j i) (zrA_1 σ j i)) (zfill_2 (zrB_0 σ j i) (zrB_1 σ j i)) (zfill_2 (zrC_0 σ j i) (zrC_1 σ j i))) (ih19 _ (by omega) (i + 1) rfl (by omega)))
  exact J_weak (by repeat (first | exact zle_nil | apply zle_s | apply zle_n)) (J_eq (by rw [zfill_0, zfill_0, zfill_0]; exact (zc3_self (ui σ 6 (nI (2 * n))) 6).symm) (hL19 _ 0 rfl (by omega)))
set_option maxRecDepth 100000 in
set_option maxHeartbeats 4000000 in
theorem c_X0_isInBounds {l : Launch} {gg : zG} {σ : zS} {k n : Nat} (hk : k < 7) (hs : si σ k = nI n) (hn : n ≤ 16) : zMi l gg yX0_isInBounds cX0_isInBounds .boolean 2 1 21 [.ref (zc gg k)] σ (fun r u => zb r (∀ i, i < n → zbdP σ k i) ∧ u = σ) := by
  refine zM_i (own := RX0) (lv := [some (.ref (zc gg k)), none]) (by decide +kernel) rfl (Nat.le_of_ble_eq_true rfl) rfl (fun cx hc hR hI => ?_)
  refine J_iconst (pc := 0) hc dX0_isInBounds_0 (v := 0) (by decide) ?_
  refine J_istoren_1 (pc := 1) hc dX0_isInBounds_1 rfl ?_
  have hL2 : ∀ (μ : Nat) (i : Nat), n - i = μ → i ≤ n → (∀ j, j < i → zbdP σ k j) → J cx gg (zQi cx gg (fun r u => zb r (∀ i, i < n → zbdP σ k i) ∧ u = σ)) σ 2 [some (.ref (zc gg k)), some (.int (nI i))] [] := by
    intro μ
    induction μ using Nat.strongRecOn with
    | ind μ ih2 =>
      intro i hμ hi hall
      refine J_iloadn_1 (pc := 2) hc dX0_isInBounds_2 ?_
      refine J_aloadn_0 (pc := 3) hc dX0_isInBounds_3 ?_
      refine gX0_21 (pc := 4) hc (by omega) dX0_isInBounds_4 ?_
      refine J_icmp_ge (pc := 7) hc 60 dX0_isInBounds_7 (by decide) (fun bq7 => ?_) (fun bq7 => ?_)
      · skip
        have bq7 := (zge rfl hs (by omega) (by omega)).mp bq7
        refine J_iconst (pc := 60) hc dX0_isInBounds_60 (v := 1) (by decide) ?_
        exact J_zret (pc := 61) hc hI dX0_isInBounds_61 (by first | exact znb0 | exact znb1 | exact zb.n (by assumption)) ⟨zb_1 (fun j hj => hall j (by omega)), rfl⟩
      · skip
        have bq7 := mt (zge rfl hs (by omega) (by omega)).mpr bq7
        refine J_aloadn_0 (pc := 10) hc dX0_isInBounds_10 ?_
        refine gX0_9 (pc := 11) hc (by omega) dX0_isInBounds_11 ?_
        refine J_iloadn_1 (pc := 14) hc dX0_isInBounds_14 ?_
        refine J_iald (pc := 15) hc 16 (by omega) (zlen_c (by omega)) dX0_isInBounds_15 (by first | exact rfl | exact z16 _ _ | exact nI_1 _ | exact zm1 (by omega) | assumption) (by omega) ?_
        refine nX0_35 (pc := 16) hc dX0_isInBounds_16 ?_
        refine kX0_36 (pc := 18) hc hR dX0_isInBounds_18 (c_X3_isBeyond) (by decide) (Nat.le_of_ble_eq_true rfl) rfl (fun r u hu => ?_)
        have hr := hu.1
        refine J_eq hu.2 ?_
        refine J_if_ne (pc := 21) hc 52 dX0_isInBounds_21 (by decide) (fun bq21 => ?_) (fun bq21 => ?_)
        · skip
          refine J_iconst (pc := 52) hc dX0_isInBounds_52 (v := 0) (by decide) ?_
          exact J_zret (pc := 53) hc hI dX0_isInBounds_53 (by first | exact znb0 | exact znb1 | exact zb.n (by assumption)) ⟨zb_0 (fun h => by first | exact (zbnd hr).t bq49 (h i (by omega)).2.2 | exact (zbnd hr).t bq35 (h i (by omega)).2.1 | exact (zbnd hr).t bq21 (h i (by omega)).1), rfl⟩
        · skip
          have h1 := (zbnd hr).f bq21
          refine J_aloadn_0 (pc := 24) hc dX0_isInBounds_24 ?_
          refine gX0_15 (pc := 25) hc (by omega) dX0_isInBounds_25 ?_
          refine J_iloadn_1 (pc := 28) hc dX0_isInBounds_28 ?_
          refine J_iald (pc := 29) hc 16 (by omega) (zlen_c (by omega)) dX0_isInBounds_29 (by first | exact rfl | exact z16 _ _ | exact nI_1 _ | exact zm1 (by omega) | assumption) (by omega) ?_
          refine nX0_35 (pc := 30) hc dX0_isInBounds_30 ?_
          refine kX0_36 (pc := 32) hc hR dX0_isInBounds_32 (c_X3_isBeyond) (by decide) (Nat.le_of_ble_eq_true rfl) rfl (fun r u hu => ?_)
          have hr := hu.1
          refine J_eq hu.2 ?_
          refine J_if_ne (pc := 35) hc 52 dX0_isInBounds_35 (by decide) (fun bq35 => ?_) (fun bq35 => ?_)
          · skip
            refine J_iconst (pc := 52) hc dX0_isInBounds_52 (v := 0) (by decide) ?_
            exact J_zret (pc := 53) hc hI dX0_isInBounds_53 (by first | exact znb0 | exact znb1 | exact zb.n (by assumption)) ⟨zb_0 (fun h => by first | exact (zbnd hr).t bq49 (h i (by omega)).2.2 | exact (zbnd hr).t bq35 (h i (by omega)).2.1 | exact (zbnd hr).t bq21 (h i (by omega)).1), rfl⟩
          · skip
            have h2 := (zbnd hr).f bq35
            refine J_aloadn_0 (pc := 38) hc dX0_isInBounds_38 ?_
            refine gX0_18 (pc := 39) hc (by omega) dX0_isInBounds_39 ?_
            refine J_iloadn_1 (pc := 42) hc dX0_isInBounds_42 ?_
            refine J_iald (pc := 43) hc 16 (by omega) (zlen_c (by omega)) dX0_isInBounds_43 (by first | exact rfl | exact z16 _ _ | exact nI_1 _ | exact zm1 (by omega) | assumption) (by omega) ?_
            refine nX0_35 (pc := 44) hc dX0_isInBounds_44 ?_
            refine kX0_36 (pc := 46) hc hR dX0_isInBounds_46 (c_X3_isBeyond) (by decide) (Nat.le_of_ble_eq_true rfl) rfl (fun r u hu => ?_)
            have hr := hu.1
            refine J_eq hu.2 ?_
            refine J_if_eq (pc := 49) hc 54 dX0_isInBounds_49 (by decide) (fun bq49 => ?_) (fun bq49 => ?_)
            · skip
              have h3 := (zbnd hr).f bq49
              refine J_iinc_1 (pc := 54) hc dX0_isInBounds_54 (by first | exact nI_1 _ | exact rfl) rfl ?_
              refine J_goto (pc := 57) hc 2 dX0_isInBounds_57 (by decide) ?_
              exact J_weak (by repeat (first | exact zle_nil | apply zle_s | apply zle_n)) (ih2 _ (by omega) (i + 1) rfl (by omega) (lt_s hall ⟨Classical.not_not.mp h1, Classical.not_not.mp h2, Classical.not_not.mp h3⟩))
            · skip
              refine J_iconst (pc := 52) hc dX0_isInBounds_52 (v := 0) (by decide) ?_
              exact J_zret (pc := 53) hc hI dX0_isInBounds_53 (by first | exact znb0 | exact znb1 | exact zb.n (by assumption)) ⟨zb_0 (fun h => by first | exact (zbnd hr).t bq49 (h i (by omega)).2.2 | exact (zbnd hr).t bq35 (h i (by omega)).2.1 | exact (zbnd hr).t bq21 (h i (by omega)).1), rfl⟩
  exact J_weak (by repeat (first | exact zle_nil | apply zle_s | apply zle_n)) (hL2 _ 0 rfl (by omega) lt_0)
set_option maxRecDepth 100000 in
set_option maxHeartbeats 4000000 in
theorem c_X0_hasZeroPiece {l : Launch} {gg : zG} {σ : zS} {k n : Nat} (hk : k < 7) (hs : si σ k = nI n) (hn : n ≤ 16) : zMi l gg yX0_hasZeroPiece cX0_hasZeroPiece .boolean 2 0 0 [.ref (zc gg k)] σ (fun r u => zb r (∃ i, i < n ∧ zzP σ k i) ∧ u = σ) := by
  refine zM_i (own := RX0) (lv := [some (.ref (zc gg k)), none]) (by decide +kernel) rfl (Nat.le_of_ble_eq_true rfl) rfl (fun cx hc hR hI => ?_)
  refine J_iconst (pc := 0) hc dX0_hasZeroPiece_0 (v := 0) (by decide) ?_
  refine J_istoren_1 (pc := 1) hc dX0_hasZeroPiece_1 rfl ?_
  have hL2 : ∀ (μ : Nat) (i : Nat), n - i = μ → i ≤ n → (∀ j, j < i → ¬ zzP σ k j) → J cx gg (zQi cx gg (fun r u => zb r (∃ i, i < n ∧ zzP σ k i) ∧ u = σ)) σ 2 [some (.ref (zc gg k)), some (.int (nI i))] [] := by
    intro μ
    induction μ using Nat.strongRecOn with
    | ind μ ih2 =>
      intro i hμ hi hall
      refine J_iloadn_1 (pc := 2) hc dX0_hasZeroPiece_2 ?_
      refine J_aloadn_0 (pc := 3) hc dX0_hasZeroPiece_3 ?_
      refine gX0_21 (pc := 4) hc (by omega) dX0_hasZeroPiece_4 ?_
      refine J_icmp_ge (pc := 7) hc 45 dX0_hasZeroPiece_7 (by decide) (fun bq7 => ?_) (fun bq7 => ?_)
      · skip
        have bq7 := (zge rfl hs (by omega) (by omega)).mp bq7
        refine J_iconst (pc := 45) hc dX0_hasZeroPiece_45 (v := 0) (by decide) ?_
        exact J_zret (pc := 46) hc hI dX0_hasZeroPiece_46 (by first | exact znb0 | exact znb1 | exact zb.n (by assumption)) ⟨zb_0 (fun ⟨j, hj, h⟩ => hall j (by omega) h), rfl⟩
      · skip
        have bq7 := mt (zge rfl hs (by omega) (by omega)).mpr bq7
        refine J_aloadn_0 (pc := 10) hc dX0_hasZeroPiece_10 ?_
        refine gX0_9 (pc := 11) hc (by omega) dX0_hasZeroPiece_11 ?_
        refine J_iloadn_1 (pc := 14) hc dX0_hasZeroPiece_14 ?_
        refine J_iald (pc := 15) hc 16 (by omega) (zlen_c (by omega)) dX0_hasZeroPiece_15 (by first | exact rfl | exact z16 _ _ | exact nI_1 _ | exact zm1 (by omega) | assumption) (by omega) ?_
        refine J_if_ne (pc := 16) hc 39 dX0_hasZeroPiece_16 (by decide) (fun bq16 => ?_) (fun bq16 => ?_)
        · skip
          refine J_iinc_1 (pc := 39) hc dX0_hasZeroPiece_39 (by first | exact nI_1 _ | exact rfl) rfl ?_
          refine J_goto (pc := 42) hc 2 dX0_hasZeroPiece_42 (by decide) ?_
          exact J_weak (by repeat (first | exact zle_nil | apply zle_s | apply zle_n)) (ih2 _ (by omega) (i + 1) rfl (by omega) (lt_s hall (fun h => by first | exact bq34 h.2.2 | exact bq25 h.2.1 | exact bq16 h.1)))
        · skip
          refine J_aloadn_0 (pc := 19) hc dX0_hasZeroPiece_19 ?_
          refine gX0_15 (pc := 20) hc (by omega) dX0_hasZeroPiece_20 ?_
          refine J_iloadn_1 (pc := 23) hc dX0_hasZeroPiece_23 ?_
          refine J_iald (pc := 24) hc 16 (by omega) (zlen_c (by omega)) dX0_hasZeroPiece_24 (by first | exact rfl | exact z16 _ _ | exact nI_1 _ | exact zm1 (by omega) | assumption) (by omega) ?_
          refine J_if_ne (pc := 25) hc 39 dX0_hasZeroPiece_25 (by decide) (fun bq25 => ?_) (fun bq25 => ?_)
          · skip
            refine J_iinc_1 (pc := 39) hc dX0_hasZeroPiece_39 (by first | exact nI_1 _ | exact rfl) rfl ?_
            refine J_goto (pc := 42) hc 2 dX0_hasZeroPiece_42 (by decide) ?_
            exact J_weak (by repeat (first | exact zle_nil | apply zle_s | apply zle_n)) (ih2 _ (by omega) (i + 1) rfl (by omega) (lt_s hall (fun h => by first | exact bq34 h.2.2 | exact bq25 h.2.1 | exact bq16 h.1)))
          · skip
            refine J_aloadn_0 (pc := 28) hc dX0_hasZeroPiece_28 ?_
            refine gX0_18 (pc := 29) hc (by omega) dX0_hasZeroPiece_29 ?_
            refine J_iloadn_1 (pc := 32) hc dX0_hasZeroPiece_32 ?_
            refine J_iald (pc := 33) hc 16 (by omega) (zlen_c (by omega)) dX0_hasZeroPiece_33 (by first | exact rfl | exact z16 _ _ | exact nI_1 _ | exact zm1 (by omega) | assumption) (by omega) ?_
            refine J_if_ne (pc := 34) hc 39 dX0_hasZeroPiece_34 (by decide) (fun bq34 => ?_) (fun bq34 => ?_)
            · skip
              refine J_iinc_1 (pc := 39) hc dX0_hasZeroPiece_39 (by first | exact nI_1 _ | exact rfl) rfl ?_
              refine J_goto (pc := 42) hc 2 dX0_hasZeroPiece_42 (by decide) ?_
              exact J_weak (by repeat (first | exact zle_nil | apply zle_s | apply zle_n)) (ih2 _ (by omega) (i + 1) rfl (by omega) (lt_s hall (fun h => by first | exact bq34 h.2.2 | exact bq25 h.2.1 | exact bq16 h.1)))
            · skip
              refine J_iconst (pc := 37) hc dX0_hasZeroPiece_37 (v := 1) (by decide) ?_
              exact J_zret (pc := 38) hc hI dX0_hasZeroPiece_38 (by first | exact znb0 | exact znb1 | exact zb.n (by assumption)) ⟨zb_1 ⟨i, by omega, bq16, bq25, bq34⟩, rfl⟩
  exact J_weak (by repeat (first | exact zle_nil | apply zle_s | apply zle_n)) (hL2 _ 0 rfl (by omega) lt_0)
set_option maxRecDepth 100000 in
set_option maxHeartbeats 4000000 in
theorem c_X0_isLike {l : Launch} {gg : zG} {σ : zS} {f h n m : Nat} (hf : f < 7) (hh : h < 7) (hs : si σ f = nI n) (hs2 : si σ h = nI m) (hn : n ≤ 16) (hm : m ≤ 16) : zMi l gg yX0_isLike cX0_isLike .boolean 3 0 0 [.ref (zc gg f), .ref (zc gg h)] σ (fun r u => zb r (n = m ∧ ∀ i, i < n → zeqP σ f h i) ∧ u = σ) := by
  refine zM_i (own := RX0) (lv := [some (.ref (zc gg f)), some (.ref (zc gg h)), none]) (by decide +kernel) rfl (Nat.le_of_ble_eq_true rfl) rfl (fun cx hc hR hI => ?_)
  refine J_aloadn_0 (pc := 0) hc dX0_isLike_0 ?_
  refine gX0_21 (pc := 1) hc (by omega) dX0_isLike_1 ?_
  refine J_aloadn_1 (pc := 4) hc dX0_isLike_4 ?_
  refine gX0_21 (pc := 5) hc (by omega) dX0_isLike_5 ?_
  refine J_icmp_eq (pc := 8) hc 13 dX0_isLike_8 (by decide) (fun bq8 => ?_) (fun bq8 => ?_)
  · skip
    rw [hs, hs2, nI_eq (by omega) (by omega)] at bq8
    refine J_iconst (pc := 13) hc dX0_isLike_13 (v := 0) (by decide) ?_
    refine J_istoren_2 (pc := 14) hc dX0_isLike_14 rfl ?_
    have hL15 : ∀ (μ : Nat) (i : Nat), n - i = μ → i ≤ n → (∀ j, j < i → zeqP σ f h j) → J cx gg (zQi cx gg (fun r u => zb r (n = m ∧ ∀ i, i < n → zeqP σ f h i) ∧ u = σ)) σ 15 [some (.ref (zc gg f)), some (.ref (zc gg h)), some (.int (nI i))] [] := by
      intro μ
      induction μ using Nat.strongRecOn with
      | ind μ ih15 =>
        intro i hμ hi hall
        refine J_iloadn_2 (pc := 15) hc dX0_isLike_15 ?_
        refine J_aloadn_0 (pc := 16) hc dX0_isLike_16 ?_
        refine gX0_21 (pc := 17) hc (by omega) dX0_isLike_17 ?_
        refine J_icmp_ge (pc := 20) hc 76 dX0_isLike_20 (by decide) (fun bq20 => ?_) (fun bq20 => ?_)
        · skip
          have bq20 := (zge rfl hs (by omega) (by omega)).mp bq20
          refine J_iconst (pc := 76) hc dX0_isLike_76 (v := 1) (by decide) ?_
          exact J_zret (pc := 77) hc hI dX0_isLike_77 (by first | exact znb0 | exact znb1 | exact zb.n (by assumption)) ⟨zb_1 ⟨bq8, fun j hj => hall j (by omega)⟩, rfl⟩
        · skip
          have bq20 := mt (zge rfl hs (by omega) (by omega)).mpr bq20
          refine J_aloadn_0 (pc := 23) hc dX0_isLike_23 ?_
          refine gX0_9 (pc := 24) hc (by omega) dX0_isLike_24 ?_
          refine J_iloadn_2 (pc := 27) hc dX0_isLike_27 ?_
          refine J_iald (pc := 28) hc 16 (by omega) (zlen_c (by omega)) dX0_isLike_28 (by first | exact rfl | exact z16 _ _ | exact nI_1 _ | exact zm1 (by omega) | assumption) (by omega) ?_
          refine J_aloadn_1 (pc := 29) hc dX0_isLike_29 ?_
          refine gX0_9 (pc := 30) hc (by omega) dX0_isLike_30 ?_
          refine J_iloadn_2 (pc := 33) hc dX0_isLike_33 ?_
          refine J_iald (pc := 34) hc 16 (by omega) (zlen_c (by omega)) dX0_isLike_34 (by first | exact rfl | exact z16 _ _ | exact nI_1 _ | exact zm1 (by omega) | assumption) (by omega) ?_
          refine J_icmp_ne (pc := 35) hc 68 dX0_isLike_35 (by decide) (fun bq35 => ?_) (fun bq35 => ?_)
          · skip
            refine J_iconst (pc := 68) hc dX0_isLike_68 (v := 0) (by decide) ?_
            exact J_zret (pc := 69) hc hI dX0_isLike_69 (by first | exact znb0 | exact znb1 | exact zb.n (by assumption)) ⟨zb_0 (fun h => by first | exact bq65 (h.2 i (by omega)).2.2 | exact bq50 (h.2 i (by omega)).2.1 | exact bq35 (h.2 i (by omega)).1), rfl⟩
          · skip
            refine J_aloadn_0 (pc := 38) hc dX0_isLike_38 ?_
            refine gX0_15 (pc := 39) hc (by omega) dX0_isLike_39 ?_
            refine J_iloadn_2 (pc := 42) hc dX0_isLike_42 ?_
            refine J_iald (pc := 43) hc 16 (by omega) (zlen_c (by omega)) dX0_isLike_43 (by first | exact rfl | exact z16 _ _ | exact nI_1 _ | exact zm1 (by omega) | assumption) (by omega) ?_
            refine J_aloadn_1 (pc := 44) hc dX0_isLike_44 ?_
            refine gX0_15 (pc := 45) hc (by omega) dX0_isLike_45 ?_
            refine J_iloadn_2 (pc := 48) hc dX0_isLike_48 ?_
            refine J_iald (pc := 49) hc 16 (by omega) (zlen_c (by omega)) dX0_isLike_49 (by first | exact rfl | exact z16 _ _ | exact nI_1 _ | exact zm1 (by omega) | assumption) (by omega) ?_
            refine J_icmp_ne (pc := 50) hc 68 dX0_isLike_50 (by decide) (fun bq50 => ?_) (fun bq50 => ?_)
            · skip
              refine J_iconst (pc := 68) hc dX0_isLike_68 (v := 0) (by decide) ?_
              exact J_zret (pc := 69) hc hI dX0_isLike_69 (by first | exact znb0 | exact znb1 | exact zb.n (by assumption)) ⟨zb_0 (fun h => by first | exact bq65 (h.2 i (by omega)).2.2 | exact bq50 (h.2 i (by omega)).2.1 | exact bq35 (h.2 i (by omega)).1), rfl⟩
            · skip
              refine J_aloadn_0 (pc := 53) hc dX0_isLike_53 ?_
              refine gX0_18 (pc := 54) hc (by omega) dX0_isLike_54 ?_
              refine J_iloadn_2 (pc := 57) hc dX0_isLike_57 ?_
              refine J_iald (pc := 58) hc 16 (by omega) (zlen_c (by omega)) dX0_isLike_58 (by first | exact rfl | exact z16 _ _ | exact nI_1 _ | exact zm1 (by omega) | assumption) (by omega) ?_
              refine J_aloadn_1 (pc := 59) hc dX0_isLike_59 ?_
              refine gX0_18 (pc := 60) hc (by omega) dX0_isLike_60 ?_
              refine J_iloadn_2 (pc := 63) hc dX0_isLike_63 ?_
              refine J_iald (pc := 64) hc 16 (by omega) (zlen_c (by omega)) dX0_isLike_64 (by first | exact rfl | exact z16 _ _ | exact nI_1 _ | exact zm1 (by omega) | assumption) (by omega) ?_
              refine J_icmp_eq (pc := 65) hc 70 dX0_isLike_65 (by decide) (fun bq65 => ?_) (fun bq65 => ?_)
              · skip
                refine J_iinc_2 (pc := 70) hc dX0_isLike_70 (by first | exact nI_1 _ | exact rfl) rfl ?_
                refine J_goto (pc := 73) hc 15 dX0_isLike_73 (by decide) ?_
                exact J_weak (by repeat (first | exact zle_nil | apply zle_s | apply zle_n)) (ih15 _ (by omega) (i + 1) rfl (by omega) (lt_s hall ⟨bq35, bq50, bq65⟩))
              · skip
                refine J_iconst (pc := 68) hc dX0_isLike_68 (v := 0) (by decide) ?_
                exact J_zret (pc := 69) hc hI dX0_isLike_69 (by first | exact znb0 | exact znb1 | exact zb.n (by assumption)) ⟨zb_0 (fun h => by first | exact bq65 (h.2 i (by omega)).2.2 | exact bq50 (h.2 i (by omega)).2.1 | exact bq35 (h.2 i (by omega)).1), rfl⟩
    exact J_weak (by repeat (first | exact zle_nil | apply zle_s | apply zle_n)) (hL15 _ 0 rfl (by omega) lt_0)
  · skip
    rw [hs, hs2, nI_eq (by omega) (by omega)] at bq8
    refine J_iconst (pc := 11) hc dX0_isLike_11 (v := 0) (by decide) ?_
    exact J_zret (pc := 12) hc hI dX0_isLike_12 (by first | exact znb0 | exact znb1 | exact zb.n (by assumption)) ⟨zb_0 (fun h => bq8 h.1), rfl⟩
set_option maxRecDepth 100000 in
set_option maxHeartbeats 4000000 in
theorem c_X0_knotsJoined {l : Launch} {gg : zG} {σ : zS} {k n : Nat} {w : Int32} (hk : k < 7) (hs : si σ k = nI n) (h1 : 1 ≤ n) (hn : n ≤ 16) : zMi l gg yX0_knotsJoined cX0_knotsJoined .int 4 2 43 [.ref (zc gg k), .int w] σ (fun r u => r = nI (zct (fun i => 1 ≤ i ∧ zjn σ k i = w) n) ∧ u = σ) := by
  refine zM_i (own := RX0) (lv := [some (.ref (zc gg k)), some (.int w), none, none]) (by decide +kernel) rfl (Nat.le_of_ble_eq_true rfl) rfl (fun cx hc hR hI => ?_)
  refine J_iconst (pc := 0) hc dX0_knotsJoined_0 (v := 0) (by decide) ?_
  refine J_istoren_2 (pc := 1) hc dX0_knotsJoined_1 rfl ?_
  refine J_iconst (pc := 2) hc dX0_knotsJoined_2 (v := 1) (by decide) ?_
  refine J_istoren_3 (pc := 3) hc dX0_knotsJoined_3 rfl ?_
  have hL4 : ∀ (μ : Nat) (i : Nat), n - i = μ → 1 ≤ i → i ≤ n → J cx gg (zQi cx gg (fun r u => r = nI (zct (fun i => 1 ≤ i ∧ zjn σ k i = w) n) ∧ u = σ)) σ 4 [some (.ref (zc gg k)), some (.int w), some (.int (nI (zct (fun i => 1 ≤ i ∧ zjn σ k i = w) i))), some (.int (nI i))] [] := by
    intro μ
    induction μ using Nat.strongRecOn with
    | ind μ ih4 =>
      intro i hμ hi1 hi
      refine J_iloadn_3 (pc := 4) hc dX0_knotsJoined_4 ?_
      refine J_aloadn_0 (pc := 5) hc dX0_knotsJoined_5 ?_
      refine gX0_21 (pc := 6) hc (by omega) dX0_knotsJoined_6 ?_
      refine J_icmp_ge (pc := 9) hc 30 dX0_knotsJoined_9 (by decide) (fun bq9 => ?_) (fun bq9 => ?_)
      · skip
        have bq9 := (zge rfl hs (by omega) (by omega)).mp bq9
        refine J_iloadn_2 (pc := 30) hc dX0_knotsJoined_30 ?_
        exact J_iret (pc := 31) hc hI dX0_knotsJoined_31 ⟨by rw [show i = n by omega], rfl⟩
      · skip
        have bq9 := mt (zge rfl hs (by omega) (by omega)).mpr bq9
        refine J_aloadn_0 (pc := 12) hc dX0_knotsJoined_12 ?_
        refine J_iloadn_3 (pc := 13) hc dX0_knotsJoined_13 ?_
        refine kX0_47 (pc := 14) hc hR (by omega) dX0_knotsJoined_14 (c_X0_joinAt (by omega) (by first | rfl | assumption) (by omega) (by omega)) (by decide) (Nat.le_of_ble_eq_true rfl) rfl (fun r u hu => ?_)
        refine J_eq hu.2 (J_topi hu.1 ?_)
        refine J_iloadn_1 (pc := 17) hc dX0_knotsJoined_17 ?_
        refine J_icmp_ne (pc := 18) hc 24 dX0_knotsJoined_18 (by decide) (fun bq18 => ?_) (fun bq18 => ?_)
        · skip
          refine J_iinc_3 (pc := 24) hc dX0_knotsJoined_24 (by first | exact nI_1 _ | exact rfl) rfl ?_
          refine J_goto (pc := 27) hc 4 dX0_knotsJoined_27 (by decide) ?_
          first | (rw [← zct_t (p := fun i => 1 ≤ i ∧ zjn σ k i = w) (n := i) ⟨hi1, bq18⟩]; exact J_weak (by repeat (first | exact zle_nil | apply zle_s | apply zle_n)) (ih4 _ (by omega) (i + 1) rfl (by omega) (by omega))) | (rw [← zct_f (p := fun i => 1 ≤ i ∧ zjn σ k i = w) (n := i) (fun h => bq18 h.2)]; exact J_weak (by repeat (first | exact zle_nil | apply zle_s | apply zle_n)) (ih4 _ (by omega) (i + 1) rfl (by omega) (by omega)))
        · skip
          refine J_iinc_2 (pc := 21) hc dX0_knotsJoined_21 (by first | exact nI_1 _ | exact rfl) rfl ?_
          refine J_iinc_3 (pc := 24) hc dX0_knotsJoined_24 (by first | exact nI_1 _ | exact rfl) rfl ?_
          refine J_goto (pc := 27) hc 4 dX0_knotsJoined_27 (by decide) ?_
          first | (rw [← zct_t (p := fun i => 1 ≤ i ∧ zjn σ k i = w) (n := i) ⟨hi1, bq18⟩]; exact J_weak (by repeat (first | exact zle_nil | apply zle_s | apply zle_n)) (ih4 _ (by omega) (i + 1) rfl (by omega) (by omega))) | (rw [← zct_f (p := fun i => 1 ≤ i ∧ zjn σ k i = w) (n := i) (fun h => bq18 h.2)]; exact J_weak (by repeat (first | exact zle_nil | apply zle_s | apply zle_n)) (ih4 _ (by omega) (i + 1) rfl (by omega) (by omega)))
  exact J_weak (by repeat (first | exact zle_nil | apply zle_s | apply zle_n)) (hL4 _ 1 rfl (by omega) (by omega))
set_option maxRecDepth 100000 in
set_option maxHeartbeats 4000000 in
theorem c_X0_isRising {l : Launch} {gg : zG} {σ : zS} {k n : Nat} {s : Int32} (hk : k < 7) (hs : si σ k = nI n) (hn : n ≤ 16) : zMi l gg yX0_isRising cX0_isRising .boolean 3 1 21 [.ref (zc gg k), .int s] σ (fun r u => zb r (∀ i, i < n → zriP σ k s i) ∧ u = σ) := by
  refine zM_i (own := RX0) (lv := [some (.ref (zc gg k)), some (.int s), none]) (by decide +kernel) rfl (Nat.le_of_ble_eq_true rfl) rfl (fun cx hc hR hI => ?_)
  refine J_iconst (pc := 0) hc dX0_isRising_0 (v := 0) (by decide) ?_
  refine J_istoren_2 (pc := 1) hc dX0_isRising_1 rfl ?_
  have hL2 : ∀ (μ : Nat) (i : Nat), n - i = μ → i ≤ n → (∀ j, j < i → zriP σ k s j) → J cx gg (zQi cx gg (fun r u => zb r (∀ i, i < n → zriP σ k s i) ∧ u = σ)) σ 2 [some (.ref (zc gg k)), some (.int s), some (.int (nI i))] [] := by
    intro μ
    induction μ using Nat.strongRecOn with
    | ind μ ih2 =>
      intro i hμ hi hall
      refine J_iloadn_2 (pc := 2) hc dX0_isRising_2 ?_
      refine J_aloadn_0 (pc := 3) hc dX0_isRising_3 ?_
      refine gX0_21 (pc := 4) hc (by omega) dX0_isRising_4 ?_
      refine J_icmp_ge (pc := 7) hc 64 dX0_isRising_7 (by decide) (fun bq7 => ?_) (fun bq7 => ?_)
      · skip
        have bq7 := (zge rfl hs (by omega) (by omega)).mp bq7
        refine J_iconst (pc := 64) hc dX0_isRising_64 (v := 1) (by decide) ?_
        exact J_zret (pc := 65) hc hI dX0_isRising_65 (by first | exact znb0 | exact znb1 | exact zb.n (by assumption)) ⟨zb_1 (fun j hj => hall j (by omega)), rfl⟩
      · skip
        have bq7 := mt (zge rfl hs (by omega) (by omega)).mpr bq7
        refine J_iloadn_1 (pc := 10) hc dX0_isRising_10 ?_
        refine J_aloadn_0 (pc := 11) hc dX0_isRising_11 ?_
        refine gX0_15 (pc := 12) hc (by omega) dX0_isRising_12 ?_
        refine J_iloadn_2 (pc := 15) hc dX0_isRising_15 ?_
        refine J_iald (pc := 16) hc 16 (by omega) (zlen_c (by omega)) dX0_isRising_16 (by first | exact rfl | exact z16 _ _ | exact nI_1 _ | exact zm1 (by omega) | assumption) (by omega) ?_
        refine J_imul (pc := 17) hc dX0_isRising_17 ?_
        refine J_if_lt (pc := 18) hc 31 dX0_isRising_18 (by decide) (fun bq18 => ?_) (fun bq18 => ?_)
        · skip
          refine J_iconst (pc := 31) hc dX0_isRising_31 (v := 0) (by decide) ?_
          exact J_zret (pc := 32) hc hI dX0_isRising_32 (by first | exact znb0 | exact znb1 | exact zb.n (by assumption)) ⟨zb_0 (fun h => by first | exact (h i (by omega)).2.1 (znge bq28) | exact (h i (by omega)).1 bq18), rfl⟩
        · skip
          refine J_iloadn_1 (pc := 21) hc dX0_isRising_21 ?_
          refine J_aloadn_0 (pc := 22) hc dX0_isRising_22 ?_
          refine J_iloadn_2 (pc := 23) hc dX0_isRising_23 ?_
          refine kX0_44 (pc := 24) hc hR (by omega) dX0_isRising_24 (c_X0_slopeAtEnd (by omega) (by first | rfl | assumption) (by omega)) (by decide) (Nat.le_of_ble_eq_true rfl) rfl (fun r u hu => ?_)
          refine J_eq hu.2 (J_topi hu.1 ?_)
          refine J_imul (pc := 27) hc dX0_isRising_27 ?_
          refine J_if_ge (pc := 28) hc 33 dX0_isRising_28 (by decide) (fun bq28 => ?_) (fun bq28 => ?_)
          · skip
            refine J_iloadn_2 (pc := 33) hc dX0_isRising_33 ?_
            refine J_if_le (pc := 34) hc 58 dX0_isRising_34 (by decide) (fun bq34 => ?_) (fun bq34 => ?_)
            · skip
              have bq34 := (zle0 (by omega)).mp bq34
              refine J_iinc_2 (pc := 58) hc dX0_isRising_58 (by first | exact nI_1 _ | exact rfl) rfl ?_
              refine J_goto (pc := 61) hc 2 dX0_isRising_61 (by decide) ?_
              exact J_weak (by repeat (first | exact zle_nil | apply zle_s | apply zle_n)) (ih2 _ (by omega) (i + 1) rfl (by omega) (lt_s hall ⟨bq18, znl bq28, fun h => by first | exact znl bq53 | omega⟩))
            · skip
              have bq34 := mt (zle0 (by omega)).mpr bq34
              refine J_iloadn_1 (pc := 37) hc dX0_isRising_37 ?_
              refine J_aloadn_0 (pc := 38) hc dX0_isRising_38 ?_
              refine gX0_9 (pc := 39) hc (by omega) dX0_isRising_39 ?_
              refine J_iloadn_2 (pc := 42) hc dX0_isRising_42 ?_
              refine J_iald (pc := 43) hc 16 (by omega) (zlen_c (by omega)) dX0_isRising_43 (by first | exact rfl | exact z16 _ _ | exact nI_1 _ | exact zm1 (by omega) | assumption) (by omega) ?_
              refine J_aloadn_0 (pc := 44) hc dX0_isRising_44 ?_
              refine J_iloadn_2 (pc := 45) hc dX0_isRising_45 ?_
              refine J_iconst (pc := 46) hc dX0_isRising_46 (v := 1) (by decide) ?_
              refine J_isub (pc := 47) hc dX0_isRising_47 ?_
              refine kX0_40 (pc := 48) hc hR (by omega) dX0_isRising_48 (c_X0_valueAtEnd (by omega) (zm1 (by omega)) (by omega)) (by decide) (Nat.le_of_ble_eq_true rfl) rfl (fun r u hu => ?_)
              refine J_eq hu.2 (J_topi hu.1 ?_)
              refine J_isub (pc := 51) hc dX0_isRising_51 ?_
              refine J_imul (pc := 52) hc dX0_isRising_52 ?_
              refine J_if_ge (pc := 53) hc 58 dX0_isRising_53 (by decide) (fun bq53 => ?_) (fun bq53 => ?_)
              · skip
                refine J_iinc_2 (pc := 58) hc dX0_isRising_58 (by first | exact nI_1 _ | exact rfl) rfl ?_
                refine J_goto (pc := 61) hc 2 dX0_isRising_61 (by decide) ?_
                exact J_weak (by repeat (first | exact zle_nil | apply zle_s | apply zle_n)) (ih2 _ (by omega) (i + 1) rfl (by omega) (lt_s hall ⟨bq18, znl bq28, fun h => by first | exact znl bq53 | omega⟩))
              · skip
                refine J_iconst (pc := 56) hc dX0_isRising_56 (v := 0) (by decide) ?_
                exact J_zret (pc := 57) hc hI dX0_isRising_57 (by first | exact znb0 | exact znb1 | exact zb.n (by assumption)) ⟨zb_0 (fun h => (h i (by omega)).2.2 (by omega) (znge bq53)), rfl⟩
          · skip
            refine J_iconst (pc := 31) hc dX0_isRising_31 (v := 0) (by decide) ?_
            exact J_zret (pc := 32) hc hI dX0_isRising_32 (by first | exact znb0 | exact znb1 | exact zb.n (by assumption)) ⟨zb_0 (fun h => by first | exact (h i (by omega)).2.1 (znge bq28) | exact (h i (by omega)).1 bq18), rfl⟩
  exact J_weak (by repeat (first | exact zle_nil | apply zle_s | apply zle_n)) (hL2 _ 0 rfl (by omega) lt_0)
set_option maxRecDepth 100000 in
set_option maxHeartbeats 4000000 in
theorem c_X0_isBentUp {l : Launch} {gg : zG} {σ : zS} {k n : Nat} {s : Int32} (hk : k < 7) (hs : si σ k = nI n) (hn : n ≤ 16) : zMi l gg yX0_isBentUp cX0_isBentUp .boolean 3 2 43 [.ref (zc gg k), .int s] σ (fun r u => zb r (∀ i, i < n → zbuP σ k s i) ∧ u = σ) := by
  refine zM_i (own := RX0) (lv := [some (.ref (zc gg k)), some (.int s), none]) (by decide +kernel) rfl (Nat.le_of_ble_eq_true rfl) rfl (fun cx hc hR hI => ?_)
  refine J_iconst (pc := 0) hc dX0_isBentUp_0 (v := 0) (by decide) ?_
  refine J_istoren_2 (pc := 1) hc dX0_isBentUp_1 rfl ?_
  have hL2 : ∀ (μ : Nat) (i : Nat), n - i = μ → i ≤ n → (∀ j, j < i → zbuP σ k s j) → J cx gg (zQi cx gg (fun r u => zb r (∀ i, i < n → zbuP σ k s i) ∧ u = σ)) σ 2 [some (.ref (zc gg k)), some (.int s), some (.int (nI i))] [] := by
    intro μ
    induction μ using Nat.strongRecOn with
    | ind μ ih2 =>
      intro i hμ hi hall
      refine J_iloadn_2 (pc := 2) hc dX0_isBentUp_2 ?_
      refine J_aloadn_0 (pc := 3) hc dX0_isBentUp_3 ?_
      refine gX0_21 (pc := 4) hc (by omega) dX0_isBentUp_4 ?_
      refine J_icmp_ge (pc := 7) hc 62 dX0_isBentUp_7 (by decide) (fun bq7 => ?_) (fun bq7 => ?_)
      · skip
        have bq7 := (zge rfl hs (by omega) (by omega)).mp bq7
        refine J_iconst (pc := 62) hc dX0_isBentUp_62 (v := 1) (by decide) ?_
        exact J_zret (pc := 63) hc hI dX0_isBentUp_63 (by first | exact znb0 | exact znb1 | exact zb.n (by assumption)) ⟨zb_1 (fun j hj => hall j (by omega)), rfl⟩
      · skip
        have bq7 := mt (zge rfl hs (by omega) (by omega)).mpr bq7
        refine J_iloadn_1 (pc := 10) hc dX0_isBentUp_10 ?_
        refine J_aloadn_0 (pc := 11) hc dX0_isBentUp_11 ?_
        refine gX0_18 (pc := 12) hc (by omega) dX0_isBentUp_12 ?_
        refine J_iloadn_2 (pc := 15) hc dX0_isBentUp_15 ?_
        refine J_iald (pc := 16) hc 16 (by omega) (zlen_c (by omega)) dX0_isBentUp_16 (by first | exact rfl | exact z16 _ _ | exact nI_1 _ | exact zm1 (by omega) | assumption) (by omega) ?_
        refine J_imul (pc := 17) hc dX0_isBentUp_17 ?_
        refine J_if_ge (pc := 18) hc 23 dX0_isBentUp_18 (by decide) (fun bq18 => ?_) (fun bq18 => ?_)
        · skip
          refine J_iloadn_2 (pc := 23) hc dX0_isBentUp_23 ?_
          refine J_if_le (pc := 24) hc 56 dX0_isBentUp_24 (by decide) (fun bq24 => ?_) (fun bq24 => ?_)
          · skip
            have bq24 := (zle0 (by omega)).mp bq24
            refine J_iinc_2 (pc := 56) hc dX0_isBentUp_56 (by first | exact nI_1 _ | exact rfl) rfl ?_
            refine J_goto (pc := 59) hc 2 dX0_isBentUp_59 (by decide) ?_
            exact J_weak (by repeat (first | exact zle_nil | apply zle_s | apply zle_n)) (ih2 _ (by omega) (i + 1) rfl (by omega) (lt_s hall ⟨znl bq18, fun h => by first | exact ⟨bq32, znl bq51⟩ | omega⟩))
          · skip
            have bq24 := mt (zle0 (by omega)).mpr bq24
            refine J_aloadn_0 (pc := 27) hc dX0_isBentUp_27 ?_
            refine J_iloadn_2 (pc := 28) hc dX0_isBentUp_28 ?_
            refine kX0_47 (pc := 29) hc hR (by omega) dX0_isBentUp_29 (c_X0_joinAt (by omega) (by first | rfl | assumption) (by omega) (by omega)) (by decide) (Nat.le_of_ble_eq_true rfl) rfl (fun r u hu => ?_)
            refine J_eq hu.2 (J_topi hu.1 ?_)
            refine J_if_lt (pc := 32) hc 54 dX0_isBentUp_32 (by decide) (fun bq32 => ?_) (fun bq32 => ?_)
            · skip
              refine J_iconst (pc := 54) hc dX0_isBentUp_54 (v := 0) (by decide) ?_
              exact J_zret (pc := 55) hc hI dX0_isBentUp_55 (by first | exact znb0 | exact znb1 | exact zb.n (by assumption)) ⟨zb_0 (fun h => by first | exact ((h i (by omega)).2 (by omega)).2 (znge bq51) | exact ((h i (by omega)).2 (by omega)).1 bq32), rfl⟩
            · skip
              refine J_iloadn_1 (pc := 35) hc dX0_isBentUp_35 ?_
              refine J_aloadn_0 (pc := 36) hc dX0_isBentUp_36 ?_
              refine gX0_15 (pc := 37) hc (by omega) dX0_isBentUp_37 ?_
              refine J_iloadn_2 (pc := 40) hc dX0_isBentUp_40 ?_
              refine J_iald (pc := 41) hc 16 (by omega) (zlen_c (by omega)) dX0_isBentUp_41 (by first | exact rfl | exact z16 _ _ | exact nI_1 _ | exact zm1 (by omega) | assumption) (by omega) ?_
              refine J_aloadn_0 (pc := 42) hc dX0_isBentUp_42 ?_
              refine J_iloadn_2 (pc := 43) hc dX0_isBentUp_43 ?_
              refine J_iconst (pc := 44) hc dX0_isBentUp_44 (v := 1) (by decide) ?_
              refine J_isub (pc := 45) hc dX0_isBentUp_45 ?_
              refine kX0_44 (pc := 46) hc hR (by omega) dX0_isBentUp_46 (c_X0_slopeAtEnd (by omega) (zm1 (by omega)) (by omega)) (by decide) (Nat.le_of_ble_eq_true rfl) rfl (fun r u hu => ?_)
              refine J_eq hu.2 (J_topi hu.1 ?_)
              refine J_isub (pc := 49) hc dX0_isBentUp_49 ?_
              refine J_imul (pc := 50) hc dX0_isBentUp_50 ?_
              refine J_if_ge (pc := 51) hc 56 dX0_isBentUp_51 (by decide) (fun bq51 => ?_) (fun bq51 => ?_)
              · skip
                refine J_iinc_2 (pc := 56) hc dX0_isBentUp_56 (by first | exact nI_1 _ | exact rfl) rfl ?_
                refine J_goto (pc := 59) hc 2 dX0_isBentUp_59 (by decide) ?_
                exact J_weak (by repeat (first | exact zle_nil | apply zle_s | apply zle_n)) (ih2 _ (by omega) (i + 1) rfl (by omega) (lt_s hall ⟨znl bq18, fun h => by first | exact ⟨bq32, znl bq51⟩ | omega⟩))
              · skip
                refine J_iconst (pc := 54) hc dX0_isBentUp_54 (v := 0) (by decide) ?_
                exact J_zret (pc := 55) hc hI dX0_isBentUp_55 (by first | exact znb0 | exact znb1 | exact zb.n (by assumption)) ⟨zb_0 (fun h => by first | exact ((h i (by omega)).2 (by omega)).2 (znge bq51) | exact ((h i (by omega)).2 (by omega)).1 bq32), rfl⟩
        · skip
          refine J_iconst (pc := 21) hc dX0_isBentUp_21 (v := 0) (by decide) ?_
          exact J_zret (pc := 22) hc hI dX0_isBentUp_22 (by first | exact znb0 | exact znb1 | exact zb.n (by assumption)) ⟨zb_0 (fun h => (h i (by omega)).1 (znge bq18)), rfl⟩
  exact J_weak (by repeat (first | exact zle_nil | apply zle_s | apply zle_n)) (hL2 _ 0 rfl (by omega) lt_0)
set_option maxRecDepth 100000 in
set_option maxHeartbeats 4000000 in
theorem c_X0_topOfPiece {l : Launch} {gg : zG} {σ : zS} {a b c : Int64} (hb : -1000000 ≤ c.toInt) : zMl l gg yX0_topOfPiece cX0_topOfPiece 8 1 25 [.long a, .long b, .long c] σ (fun r u => r = ztp a b c ∧ u = σ) := by
  refine zM_l (own := RX0) (lv := [some (.long a), none, some (.long b), none, some (.long c), none, none, none]) (by decide +kernel) rfl (Nat.le_of_ble_eq_true rfl) rfl (fun cx hc hR hI => ?_)
  refine J_lloadn_0 (pc := 0) hc dX0_topOfPiece_0 ?_
  refine J_lloadn_0 (pc := 1) hc dX0_topOfPiece_1 ?_
  refine J_lloadn_2 (pc := 2) hc dX0_topOfPiece_2 ?_
  refine J_ladd (pc := 3) hc dX0_topOfPiece_3 ?_
  refine J_lload_4 (pc := 4) hc dX0_topOfPiece_4 ?_
  refine J_ladd (pc := 6) hc dX0_topOfPiece_6 ?_
  refine kX0_54 (pc := 7) hc hR dX0_topOfPiece_7 (c_J9_max_f86c9) (by decide) (Nat.le_of_ble_eq_true rfl) rfl (fun r u hu => ?_)
  refine J_eq hu.2 (J_topl hu.1 ?_)
  refine J_lstore_6 (pc := 10) hc dX0_topOfPiece_10 rfl ?_
  refine J_lload_4 (pc := 12) hc dX0_topOfPiece_12 ?_
  refine J_lconst (pc := 14) hc dX0_topOfPiece_14 (v := 0) (by decide) ?_
  refine J_lcmp_ge (pc := 15) hc 54 dX0_topOfPiece_15 dX0_topOfPiece_16 (by decide) (fun bq15 => ?_) (fun bq15 => ?_)
  · skip
    refine J_lload_6 (pc := 54) hc dX0_topOfPiece_54 ?_
    exact J_lret (pc := 56) hc hI dX0_topOfPiece_56 (by first | exact ⟨(ztp_t ⟨by rw [zl_le] at bq15; rw [zl_lt]; omega, by rw [zl_le] at bq21; rw [zl_lt]; omega, by rw [zl_le] at bq34; rw [zl_lt]; omega⟩).symm, rfl⟩ | exact ⟨(ztp_f (fun h => by have h3 := h.2.2; rw [zl_lt] at h3; rw [zl_le] at bq34; omega)).symm, rfl⟩ | exact ⟨(ztp_f (fun h => by have h3 := h.2.1; rw [zl_lt] at h3; rw [zl_le] at bq21; omega)).symm, rfl⟩ | exact ⟨(ztp_f (fun h => by have h3 := h.1; rw [zl_lt] at h3; rw [zl_le] at bq15; omega)).symm, rfl⟩)
  · skip
    refine J_lloadn_2 (pc := 19) hc dX0_topOfPiece_19 ?_
    refine J_lconst (pc := 20) hc dX0_topOfPiece_20 (v := 0) (by decide) ?_
    refine J_lcmp_le (pc := 21) hc 54 dX0_topOfPiece_21 dX0_topOfPiece_22 (by decide) (fun bq21 => ?_) (fun bq21 => ?_)
    · skip
      refine J_lload_6 (pc := 54) hc dX0_topOfPiece_54 ?_
      exact J_lret (pc := 56) hc hI dX0_topOfPiece_56 (by first | exact ⟨(ztp_t ⟨by rw [zl_le] at bq15; rw [zl_lt]; omega, by rw [zl_le] at bq21; rw [zl_lt]; omega, by rw [zl_le] at bq34; rw [zl_lt]; omega⟩).symm, rfl⟩ | exact ⟨(ztp_f (fun h => by have h3 := h.2.2; rw [zl_lt] at h3; rw [zl_le] at bq34; omega)).symm, rfl⟩ | exact ⟨(ztp_f (fun h => by have h3 := h.2.1; rw [zl_lt] at h3; rw [zl_le] at bq21; omega)).symm, rfl⟩ | exact ⟨(ztp_f (fun h => by have h3 := h.1; rw [zl_lt] at h3; rw [zl_le] at bq15; omega)).symm, rfl⟩)
    · skip
      refine J_lloadn_2 (pc := 25) hc dX0_topOfPiece_25 ?_
      refine nX0_58 (pc := 26) hc dX0_topOfPiece_26 ?_
      refine J_lload_4 (pc := 29) hc dX0_topOfPiece_29 ?_
      refine J_lmul (pc := 31) hc dX0_topOfPiece_31 ?_
      refine J_ladd (pc := 32) hc dX0_topOfPiece_32 ?_
      refine J_lconst (pc := 33) hc dX0_topOfPiece_33 (v := 0) (by decide) ?_
      refine J_lcmp_ge (pc := 34) hc 54 dX0_topOfPiece_34 dX0_topOfPiece_35 (by decide) (fun bq34 => ?_) (fun bq34 => ?_)
      · skip
        refine J_lload_6 (pc := 54) hc dX0_topOfPiece_54 ?_
        exact J_lret (pc := 56) hc hI dX0_topOfPiece_56 (by first | exact ⟨(ztp_t ⟨by rw [zl_le] at bq15; rw [zl_lt]; omega, by rw [zl_le] at bq21; rw [zl_lt]; omega, by rw [zl_le] at bq34; rw [zl_lt]; omega⟩).symm, rfl⟩ | exact ⟨(ztp_f (fun h => by have h3 := h.2.2; rw [zl_lt] at h3; rw [zl_le] at bq34; omega)).symm, rfl⟩ | exact ⟨(ztp_f (fun h => by have h3 := h.2.1; rw [zl_lt] at h3; rw [zl_le] at bq21; omega)).symm, rfl⟩ | exact ⟨(ztp_f (fun h => by have h3 := h.1; rw [zl_lt] at h3; rw [zl_le] at bq15; omega)).symm, rfl⟩)
      · skip
        refine J_lloadn_0 (pc := 38) hc dX0_topOfPiece_38 ?_
        refine J_lloadn_2 (pc := 39) hc dX0_topOfPiece_39 ?_
        refine J_lloadn_2 (pc := 40) hc dX0_topOfPiece_40 ?_
        refine J_lmul (pc := 41) hc dX0_topOfPiece_41 ?_
        refine nX0_60 (pc := 42) hc dX0_topOfPiece_42 ?_
        refine J_lload_4 (pc := 45) hc dX0_topOfPiece_45 ?_
        refine J_lmul (pc := 47) hc dX0_topOfPiece_47 ?_
        refine kX0_62 (pc := 48) hc hR dX0_topOfPiece_48 (c_J9_floorDiv_f86c9 (z4c hb bq15)) (by decide) (Nat.le_of_ble_eq_true rfl) rfl (fun r u hu => ?_)
        refine J_eq hu.2 (J_topl hu.1 ?_)
        refine J_lsub (pc := 51) hc dX0_topOfPiece_51 ?_
        refine J_lstore_6 (pc := 52) hc dX0_topOfPiece_52 rfl ?_
        refine J_lload_6 (pc := 54) hc dX0_topOfPiece_54 ?_
        exact J_lret (pc := 56) hc hI dX0_topOfPiece_56 (by first | exact ⟨(ztp_t ⟨by rw [zl_le] at bq15; rw [zl_lt]; omega, by rw [zl_le] at bq21; rw [zl_lt]; omega, by rw [zl_le] at bq34; rw [zl_lt]; omega⟩).symm, rfl⟩ | exact ⟨(ztp_f (fun h => by have h3 := h.2.2; rw [zl_lt] at h3; rw [zl_le] at bq34; omega)).symm, rfl⟩ | exact ⟨(ztp_f (fun h => by have h3 := h.2.1; rw [zl_lt] at h3; rw [zl_le] at bq21; omega)).symm, rfl⟩ | exact ⟨(ztp_f (fun h => by have h3 := h.1; rw [zl_lt] at h3; rw [zl_le] at bq15; omega)).symm, rfl⟩)
set_option maxRecDepth 100000 in
set_option maxHeartbeats 4000000 in
theorem c_X0_top {l : Launch} {gg : zG} {σ : zS} {k n : Nat} {s : Int32} (hk : k < 7) (hs : si σ k = nI n) (h1 : 1 ≤ n) (hn : n ≤ 16) (hb : ∀ i, i < n → -1000000 ≤ (s * sa σ (14 + k) i).toInt64.toInt) : zMl l gg yX0_top cX0_top 5 2 52 [.ref (zc gg k), .int s] σ (fun r u => r = zTop σ k s (n - 1) ∧ u = σ) := by
  refine zM_l (own := RX0) (lv := [some (.ref (zc gg k)), some (.int s), none, none, none]) (by decide +kernel) rfl (Nat.le_of_ble_eq_true rfl) rfl (fun cx hc hR hI => ?_)
  refine J_iloadn_1 (pc := 0) hc dX0_top_0 ?_
  refine J_aloadn_0 (pc := 1) hc dX0_top_1 ?_
  refine gX0_9 (pc := 2) hc (by omega) dX0_top_2 ?_
  refine J_iconst (pc := 5) hc dX0_top_5 (v := 0) (by decide) ?_
  refine J_iald (pc := 6) hc 16 (by omega) (zlen_c (by omega)) dX0_top_6 nI_0.symm (by omega) ?_
  refine J_imul (pc := 7) hc dX0_top_7 ?_
  refine J_i2l (pc := 8) hc dX0_top_8 ?_
  refine J_iloadn_1 (pc := 9) hc dX0_top_9 ?_
  refine J_aloadn_0 (pc := 10) hc dX0_top_10 ?_
  refine gX0_15 (pc := 11) hc (by omega) dX0_top_11 ?_
  refine J_iconst (pc := 14) hc dX0_top_14 (v := 0) (by decide) ?_
  refine J_iald (pc := 15) hc 16 (by omega) (zlen_c (by omega)) dX0_top_15 nI_0.symm (by omega) ?_
  refine J_imul (pc := 16) hc dX0_top_16 ?_
  refine J_i2l (pc := 17) hc dX0_top_17 ?_
  refine J_iloadn_1 (pc := 18) hc dX0_top_18 ?_
  refine J_aloadn_0 (pc := 19) hc dX0_top_19 ?_
  refine gX0_18 (pc := 20) hc (by omega) dX0_top_20 ?_
  refine J_iconst (pc := 23) hc dX0_top_23 (v := 0) (by decide) ?_
  refine J_iald (pc := 24) hc 16 (by omega) (zlen_c (by omega)) dX0_top_24 nI_0.symm (by omega) ?_
  refine J_imul (pc := 25) hc dX0_top_25 ?_
  refine J_i2l (pc := 26) hc dX0_top_26 ?_
  refine kX0_50 (pc := 27) hc hR dX0_top_27 (c_X0_topOfPiece (hb 0 (by omega))) (by decide) (Nat.le_of_ble_eq_true rfl) rfl (fun r u hu => ?_)
  refine J_eq hu.2 (J_topl hu.1 ?_)
  refine J_lstoren_2 (pc := 30) hc dX0_top_30 rfl ?_
  refine J_iconst (pc := 31) hc dX0_top_31 (v := 1) (by decide) ?_
  refine J_istore_4 (pc := 32) hc dX0_top_32 rfl ?_
  have hL34 : ∀ (μ : Nat) (i : Nat), n - i = μ → 1 ≤ i → i ≤ n → J cx gg (zQl cx gg (fun r u => r = zTop σ k s (n - 1) ∧ u = σ)) σ 34 [some (.ref (zc gg k)), some (.int s), some (.long (zTop σ k s (i - 1))), none, some (.int (nI i))] [] := by
    intro μ
    induction μ using Nat.strongRecOn with
    | ind μ ih34 =>
      intro i hμ hi1 hi
      refine J_iload_4 (pc := 34) hc dX0_top_34 ?_
      refine J_aloadn_0 (pc := 36) hc dX0_top_36 ?_
      refine gX0_21 (pc := 37) hc (by omega) dX0_top_37 ?_
      refine J_icmp_ge (pc := 40) hc 87 dX0_top_40 (by decide) (fun bq40 => ?_) (fun bq40 => ?_)
      · skip
        have bq40 := (zge rfl hs (by omega) (by omega)).mp bq40
        refine J_lloadn_2 (pc := 87) hc dX0_top_87 ?_
        exact J_lret (pc := 88) hc hI dX0_top_88 ⟨by rw [show i = n by omega], rfl⟩
      · skip
        have bq40 := mt (zge rfl hs (by omega) (by omega)).mpr bq40
        refine J_lloadn_2 (pc := 43) hc dX0_top_43 ?_
        refine J_iloadn_1 (pc := 44) hc dX0_top_44 ?_
        refine J_aloadn_0 (pc := 45) hc dX0_top_45 ?_
        refine gX0_9 (pc := 46) hc (by omega) dX0_top_46 ?_
        refine J_iload_4 (pc := 49) hc dX0_top_49 ?_
        refine J_iald (pc := 51) hc 16 (by omega) (zlen_c (by omega)) dX0_top_51 (by first | exact rfl | exact z16 _ _ | exact nI_1 _ | exact zm1 (by omega) | assumption) (by omega) ?_
        refine J_imul (pc := 52) hc dX0_top_52 ?_
        refine J_i2l (pc := 53) hc dX0_top_53 ?_
        refine J_iloadn_1 (pc := 54) hc dX0_top_54 ?_
        refine J_aloadn_0 (pc := 55) hc dX0_top_55 ?_
        refine gX0_15 (pc := 56) hc (by omega) dX0_top_56 ?_
        refine J_iload_4 (pc := 59) hc dX0_top_59 ?_
        refine J_iald (pc := 61) hc 16 (by omega) (zlen_c (by omega)) dX0_top_61 (by first | exact rfl | exact z16 _ _ | exact nI_1 _ | exact zm1 (by omega) | assumption) (by omega) ?_
        refine J_imul (pc := 62) hc dX0_top_62 ?_
        refine J_i2l (pc := 63) hc dX0_top_63 ?_
        refine J_iloadn_1 (pc := 64) hc dX0_top_64 ?_
        refine J_aloadn_0 (pc := 65) hc dX0_top_65 ?_
        refine gX0_18 (pc := 66) hc (by omega) dX0_top_66 ?_
        refine J_iload_4 (pc := 69) hc dX0_top_69 ?_
        refine J_iald (pc := 71) hc 16 (by omega) (zlen_c (by omega)) dX0_top_71 (by first | exact rfl | exact z16 _ _ | exact nI_1 _ | exact zm1 (by omega) | assumption) (by omega) ?_
        refine J_imul (pc := 72) hc dX0_top_72 ?_
        refine J_i2l (pc := 73) hc dX0_top_73 ?_
        refine kX0_50 (pc := 74) hc hR dX0_top_74 (c_X0_topOfPiece (hb i (by omega))) (by decide) (Nat.le_of_ble_eq_true rfl) rfl (fun r u hu => ?_)
        refine J_eq hu.2 (J_topl hu.1 ?_)
        refine kX0_54 (pc := 77) hc hR dX0_top_77 (c_J9_max_f86c9) (by decide) (Nat.le_of_ble_eq_true rfl) rfl (fun r u hu => ?_)
        refine J_eq hu.2 (J_topl hu.1 ?_)
        refine J_lstoren_2 (pc := 80) hc dX0_top_80 rfl ?_
        refine J_iinc_4 (pc := 81) hc dX0_top_81 (by first | exact nI_1 _ | exact rfl) rfl ?_
        refine J_goto (pc := 84) hc 34 dX0_top_84 (by decide) ?_
        obtain ⟨q, rfl⟩ : ∃ q, i = q + 1 := ⟨i - 1, by omega⟩
        exact J_weak (by repeat (first | exact zle_nil | apply zle_s | apply zle_n)) (ih34 _ (by omega) (q + 1 + 1) rfl (by omega) (by omega))
  exact J_weak (by repeat (first | exact zle_nil | apply zle_s | apply zle_n)) (hL34 _ 1 rfl (by omega) (by omega))
