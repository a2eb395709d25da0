theorem zh_s (a b c s : Int) : zh a b c (s + 1) = zh a b c s + zrr b c s + c := by unfold zh zrr; grind
theorem zrr_s (b c s : Int) : zrr b c (s + 1) = zrr b c s + 2 * c := by unfold zrr; grind
theorem zmono {a b c : Int} (l : Bool) {s : Int} (hc : 0 ≤ c) (h : ¬ zside a b c l s ≤ 0) : ¬ zside a b c l (s + 1) ≤ 0 := by
  have e1 := zh_s a b c s
  have e2 := zrr_s b c s
  cases l
  · rw [zside_f] at h ⊢
    generalize zh a b c s = x at *
    generalize zrr b c s = y at *
    generalize zh a b c (s + 1) = x' at *
    generalize zrr b c (s + 1) = y' at *
    by_cases q : x < 0 ∨ y < 0
    · rw [if_pos q] at h; omega
    · rw [if_neg q] at h
      by_cases q2 : x = 0
      · rw [if_pos q2] at h; omega
      · rw [if_neg (by omega), if_neg (by omega)]; decide
  · rw [zside_t] at h ⊢
    generalize zh a b c s = x at *
    generalize zrr b c s = y at *
    generalize zh a b c (s + 1) = x' at *
    generalize zrr b c (s + 1) = y' at *
    by_cases q : x < 0 ∨ 0 < y
    · rw [if_pos (by omega)]; decide
    · rw [if_neg q] at h
      by_cases q2 : x = 0
      · rw [if_pos q2] at h; omega
      · rw [if_neg q2] at h; omega
theorem zct_bx {P : Nat → Prop} [DecidablePred P] {bx : Nat} (hm : ∀ m, ¬ P m → ¬ P (m + 1)) (h1 : P bx) (h2 : ¬ P (bx + 1)) (hb : bx < 64) : zct (fun m => P (m + 1)) 63 = bx := by
  have up : ∀ d, ¬ P (bx + 1 + d) := fun d => by
    induction d with
    | zero => exact h2
    | succ d ih => exact hm _ ih
  have dn : ∀ d m, m + d = bx → P m := fun d => by
    induction d with
    | zero => intro m e; rw [show m = bx by omega]; exact h1
    | succ d ih => intro m e; exact Classical.not_not.mp (fun q => hm m q (ih (m + 1) (by omega)))
  have key : ∀ n, zct (fun m => P (m + 1)) n = min n bx := fun n => by
    induction n with
    | zero => simp [zct]
    | succ n ih =>
      by_cases q : n < bx
      · rw [zct_t (p := fun m => P (m + 1)) (dn (bx - (n + 1)) (n + 1) (by omega)), ih]; omega
      · rw [zct_f (p := fun m => P (m + 1)) (by rw [show n + 1 = bx + 1 + (n - bx) by omega]; exact up _), ih]; omega
  rw [key]; omega
/-- the box of a root, if it is kept -/
def zbx (a b c : Int) (l : Bool) : Nat := zct (fun m => zside a b c l ((m + 1 : Nat) : Int) ≤ 0) 63
def zkr (a b c : Int) (l la : Bool) : List Nat := if 0 < zside a b c l 0 then [] else if zside a b c l 64 < 0 ∨ (zside a b c l 64 = 0 ∧ la = false) then [] else if zside a b c l 64 = 0 then [64] else [zbx a b c l]
theorem zkr_len (a b c : Int) (l la : Bool) : (zkr a b c l la).length ≤ 1 := by
  unfold zkr
  (repeat' split) <;> simp
def zputs (f : Nat → Int32) (m : Nat) : List Nat → Nat → Int32
  | [] => f
  | x :: t => zputs (upd f m (nI x)) (m + 1) t
theorem zputs_app (f : Nat → Int32) (m : Nat) (L M : List Nat) : zputs f m (L ++ M) = zputs (zputs f m L) (m + L.length) M := by
  induction L generalizing f m with
  | nil => rfl
  | cons x t ih => rw [List.cons_append, zputs, zputs, ih, List.length_cons, show m + 1 + t.length = m + (t.length + 1) by omega]
theorem zputs_out (f : Nat → Int32) (m : Nat) (L : List Nat) {j : Nat} (h : j < m ∨ m + L.length ≤ j) : zputs f m L j = f j := by
  induction L generalizing f m with
  | nil => rfl
  | cons x t ih =>
    rw [zputs, ih (upd f m (nI x)) (m + 1) (by simp at h; omega)]
    unfold upd
    rw [if_neg (by simp at h; omega)]
theorem zputs_in (f : Nat → Int32) (m : Nat) (L : List Nat) {j : Nat} (h : j < L.length) : zputs f m L (m + j) = nI (L.getD j 0) := by
  induction L generalizing f m j with
  | nil => simp at h
  | cons x t ih =>
    rw [zputs]
    cases j with
    | zero =>
      rw [zputs_out _ _ _ (by omega)]
      simp [upd]
    | succ j =>
      rw [show m + (j + 1) = m + 1 + j by omega, ih (upd f m (nI x)) (m + 1) (by simpa using h)]
      simp
def zkl (σ : zS) (f i : Nat) (L : List Nat) : zS := ui (ua σ 22 (zputs (sa σ 22) f (L.map (fun b => 64 * i + b)))) 8 (nI (f + L.length))
theorem ui_self (σ : zS) {k : Nat} {v : Int32} (h : si σ k = v) : ui σ k v = σ := by
  apply zS_ext <;> intro j <;> try rfl
  rw [si_ui]; split
  · subst_vars; rfl
  · rfl
theorem ua_self (σ : zS) (k : Nat) : ua σ k (sa σ k) = σ := by
  apply zS_ext <;> intro j <;> try rfl
  rw [sa_ua]; split
  · subst_vars; rfl
  · rfl
theorem zkl_nil {σ : zS} {f i : Nat} (h : si σ 8 = nI f) : zkl σ f i [] = σ := by
  unfold zkl
  show ui (ua σ 22 (sa σ 22)) 8 (nI f) = σ
  rw [ua_self]; exact ui_self σ h
theorem zkl_app (σ : zS) (f i j : Nat) (L M : List Nat) : zkl (zkl σ f i L) (f + L.length) j M = ui (ua σ 22 (zputs (sa σ 22) f (L.map (fun b => 64 * i + b) ++ M.map (fun b => 64 * j + b)))) 8 (nI (f + (L.length + M.length))) := by
  unfold zkl
  apply zS_ext <;> intro q <;> try rfl
  · simp only [si_ui, si_ua]
    split
    · congr 1; omega
    · rfl
  · simp only [sa_ui, sa_ua]
    split
    · simp only [if_true, zputs_app, List.length_map]
    · rfl
theorem zkl_app1 (σ : zS) (f i : Nat) (L M : List Nat) : zkl (zkl σ f i L) (f + L.length) i M = zkl σ f i (L ++ M) := by
  rw [zkl_app]; unfold zkl; rw [List.map_append, List.length_append]
theorem zpw {W : Nat} (h : ∃ e, W = 2 ^ e) (h2 : ¬ W / 2 = 0) : ∃ V, W = 2 * V ∧ 0 < V ∧ ∃ e, V = 2 ^ e := by
  obtain ⟨e, rfl⟩ := h
  cases e with
  | zero => exact absurd (by decide) h2
  | succ e => exact ⟨2 ^ e, by rw [Nat.pow_succ]; omega, Nat.pos_of_ne_zero (by intro q; rw [Nat.pow_succ] at h2; omega), e, rfl⟩
theorem zpw1 {W : Nat} (h : ∃ e, W = 2 ^ e) (h2 : W / 2 = 0) : W = 1 := by
  obtain ⟨e, rfl⟩ := h
  cases e with
  | zero => rfl
  | succ e => have : 0 < 2 ^ e := Nat.pos_of_ne_zero (by simp); rw [Nat.pow_succ] at h2; omega
theorem zts {a b : Nat} (h : a + b < 2 ^ 31) : (nI a + nI b).toInt64.toInt = ((a + b : Nat) : Int) := by rw [nI_add, Int32.toInt_toInt64, nI_toInt h]
theorem zdiv2 {V : Nat} (h : V < 2 ^ 31) : nI V / 2 = nI (V / 2) := by rw [show (2 : Int32) = nI 2 from rfl, pk_div h (by omega) (by omega)]
theorem z64 (i b : Nat) : nI i * 64 + nI b = nI (64 * i + b) := by rw [show (64 : Int32) = nI 64 from rfl, pk_mul, nI_add, Nat.mul_comm]
/-- the sign by which a piece is turned; its leading number -/
def zld (b c : Int) : Int := if c = 0 then b else c
def zsg (b c : Int) : Int := if zld b c < 0 then -1 else 1
set_option maxRecDepth 100000 in
set_option maxHeartbeats 4000000 in
theorem c_X2_boxInside {l : Launch} {gg : zG} {σ : zS} {ll : Bool} {x : Int32} (hb : zfb σ) (hx : x = zbi ll) (hc0 : 0 ≤ (sl σ 2).toInt) (h0 : zside (sl σ 0).toInt (sl σ 1).toInt (sl σ 2).toInt ll 0 ≤ 0) (h64 : ¬ zside (sl σ 0).toInt (sl σ 1).toInt (sl σ 2).toInt ll 64 ≤ 0) : zMi l gg yX2_boxInside cX2_boxInside .int 4 1 27 [.ref (zf gg), .int x] σ (fun r u => r = nI (zbx (sl σ 0).toInt (sl σ 1).toInt (sl σ 2).toInt ll) ∧ u = σ) := by
  refine zM_i (own := RX2) (lv := [some (.ref (zf gg)), some (.int x), none, none]) (by decide +kernel) rfl (Nat.le_of_ble_eq_true rfl) rfl (fun cx hc hR hI => ?_)
  refine J_iconst (pc := 0) hc dX2_boxInside_0 (v := 0) (by decide) ?_
  refine J_istoren_2 (pc := 1) hc dX2_boxInside_1 rfl ?_
  refine J_bipush (pc := 2) hc dX2_boxInside_2 (v := 32) (by decide) ?_
  refine J_istoren_3 (pc := 4) hc dX2_boxInside_4 rfl ?_
  have hL5 : ∀ (μ : Nat) (W bx : Nat), W = μ → (∃ e, W = 2 ^ e) → bx + W ≤ 64 → zside (sl σ 0).toInt (sl σ 1).toInt (sl σ 2).toInt ll ((bx : Nat) : Int) ≤ 0 → ¬ zside (sl σ 0).toInt (sl σ 1).toInt (sl σ 2).toInt ll ((bx + W : Nat) : Int) ≤ 0 → J cx gg (zQi cx gg (fun r u => r = nI (zbx (sl σ 0).toInt (sl σ 1).toInt (sl σ 2).toInt ll) ∧ u = σ)) σ 5 [some (.ref (zf gg)), some (.int x), some (.int (nI bx)), some (.int (nI (W / 2)))] [] := by
    intro μ
    induction μ using Nat.strongRecOn with
    | ind μ ih5 =>
      intro W bx hμ hW hle hD hN
      refine J_iloadn_3 (pc := 5) hc dX2_boxInside_5 ?_
      refine J_if_le (pc := 6) hc 32 dX2_boxInside_6 (by decide) (fun bq6 => ?_) (fun bq6 => ?_)
      · skip
        have hW1 := zpw1 hW ((zle0 (by omega)).mp bq6)
        subst hW1
        refine J_iloadn_2 (pc := 32) hc dX2_boxInside_32 ?_
        exact J_iret (pc := 33) hc hI dX2_boxInside_33 ⟨by rw [show zbx (sl σ 0).toInt (sl σ 1).toInt (sl σ 2).toInt ll = bx from zct_bx (P := fun m => zside (sl σ 0).toInt (sl σ 1).toInt (sl σ 2).toInt ll ((m : Nat) : Int) ≤ 0) (fun m h => by have := zmono ll hc0 h; rwa [show ((m + 1 : Nat) : Int) = (m : Int) + 1 by omega]) hD hN (by omega)], rfl⟩
      · skip
        obtain ⟨V, rfl, hV0, hVe⟩ := zpw hW (mt (zle0 (by omega)).mpr bq6)
        rw [show 2 * V / 2 = V by omega]
        refine J_aloadn_0 (pc := 9) hc dX2_boxInside_9 ?_
        refine J_iloadn_2 (pc := 10) hc dX2_boxInside_10 ?_
        refine J_iloadn_3 (pc := 11) hc dX2_boxInside_11 ?_
        refine J_iadd (pc := 12) hc dX2_boxInside_12 ?_
        refine J_i2l (pc := 13) hc dX2_boxInside_13 ?_
        refine J_iloadn_1 (pc := 14) hc dX2_boxInside_14 ?_
        refine kX2_60 (pc := 15) hc hR dX2_boxInside_15 (c_X2_sideOfRoot (m := bx + V) hb (zts (by omega)) (by omega) hx) (by decide) (Nat.le_of_ble_eq_true rfl) rfl (fun r u hu => ?_)
        have hr := hu.1
        refine J_eq hu.2 ?_
        refine J_if_gt (pc := 18) hc 25 dX2_boxInside_18 (by decide) (fun bq18 => ?_) (fun bq18 => ?_)
        · skip
          have hn : ¬ zside (sl σ 0).toInt (sl σ 1).toInt (sl σ 2).toInt ll ((bx + V : Nat) : Int) ≤ 0 := by rw [zi_lt, hr, z0I] at bq18; omega
          refine J_iloadn_3 (pc := 25) hc dX2_boxInside_25 ?_
          refine J_iconst (pc := 26) hc dX2_boxInside_26 (v := 2) (by decide) ?_
          refine J_idiv (pc := 27) hc dX2_boxInside_27 (by decide) ?_
          refine J_topi (zdiv2 (by omega)) ?_
          refine J_istoren_3 (pc := 28) hc dX2_boxInside_28 rfl ?_
          refine J_goto (pc := 29) hc 5 dX2_boxInside_29 (by decide) ?_
          first | exact J_weak (by repeat (first | exact zle_nil | apply zle_s | apply zle_n)) (ih5 V (by omega) V bx rfl hVe (by omega) hD hn) | exact J_weak (by repeat (first | exact zle_nil | apply zle_s | apply zle_n)) (ih5 V (by omega) V (bx + V) rfl hVe (by omega) hp (by rw [show bx + V + V = bx + 2 * V by omega]; exact hN))
        · skip
          have hp : zside (sl σ 0).toInt (sl σ 1).toInt (sl σ 2).toInt ll ((bx + V : Nat) : Int) ≤ 0 := by rw [zi_lt, hr, z0I] at bq18; omega
          refine J_iloadn_2 (pc := 21) hc dX2_boxInside_21 ?_
          refine J_iloadn_3 (pc := 22) hc dX2_boxInside_22 ?_
          refine J_iadd (pc := 23) hc dX2_boxInside_23 ?_
          refine J_topi (nI_add bx V) ?_
          refine J_istoren_2 (pc := 24) hc dX2_boxInside_24 rfl ?_
          refine J_iloadn_3 (pc := 25) hc dX2_boxInside_25 ?_
          refine J_iconst (pc := 26) hc dX2_boxInside_26 (v := 2) (by decide) ?_
          refine J_idiv (pc := 27) hc dX2_boxInside_27 (by decide) ?_
          refine J_topi (zdiv2 (by omega)) ?_
          refine J_istoren_3 (pc := 28) hc dX2_boxInside_28 rfl ?_
          refine J_goto (pc := 29) hc 5 dX2_boxInside_29 (by decide) ?_
          first | exact J_weak (by repeat (first | exact zle_nil | apply zle_s | apply zle_n)) (ih5 V (by omega) V bx rfl hVe (by omega) hD hn) | exact J_weak (by repeat (first | exact zle_nil | apply zle_s | apply zle_n)) (ih5 V (by omega) V (bx + V) rfl hVe (by omega) hp (by rw [show bx + V + V = bx + 2 * V by omega]; exact hN))
  exact J_weak (by repeat (first | exact zle_nil | apply zle_s | apply zle_n)) (hL5 _ 64 0 rfl ⟨6, rfl⟩ (by omega) h0 h64)
set_option maxRecDepth 100000 in
set_option maxHeartbeats 4000000 in
theorem c_X2_keepRoot {l : Launch} {gg : zG} {σ : zS} {i f : Nat} {ll la : Bool} {x y z : Int32} (hb : zfb σ) (hc0 : 0 ≤ (sl σ 2).toInt) (hf : si σ 8 = nI f) (hf2 : f < 32) (hx : x = nI i) (hi : i < 16) (hy : y = zbi la) (hz : z = zbi ll) : zMv l gg yX2_keepRoot cX2_keepRoot 6 2 50 [.ref (zf gg), .int x, .int y, .int z] σ (fun u => u = zkl σ f i (zkr (sl σ 0).toInt (sl σ 1).toInt (sl σ 2).toInt ll la)) := by
  subst hx
  refine zM_v (own := RX2) (lv := [some (.ref (zf gg)), some (.int (nI i)), some (.int y), some (.int z), none, none]) (by decide +kernel) rfl (Nat.le_of_ble_eq_true rfl) rfl (fun cx hc hR hI => ?_)
  refine J_aloadn_0 (pc := 0) hc dX2_keepRoot_0 ?_
  refine J_lconst (pc := 1) hc dX2_keepRoot_1 (v := 0) (by decide) ?_
  refine J_iloadn_3 (pc := 2) hc dX2_keepRoot_2 ?_
  refine kX2_60 (pc := 3) hc hR dX2_keepRoot_3 (c_X2_sideOfRoot (m := 0) hb rfl (by omega) hz) (by decide) (Nat.le_of_ble_eq_true rfl) rfl (fun r u hu => ?_)
  have hr1 := hu.1
  refine J_eq hu.2 ?_
  refine J_if_le (pc := 6) hc 10 dX2_keepRoot_6 (by decide) (fun bq6 => ?_) (fun bq6 => ?_)
  · skip
    have h1 : zside (sl σ 0).toInt (sl σ 1).toInt (sl σ 2).toInt ll 0 ≤ 0 := by rw [zi_le, hr1, z0I] at bq6; exact bq6
    refine J_aloadn_0 (pc := 10) hc dX2_keepRoot_10 ?_
    refine nX2_48 (pc := 11) hc dX2_keepRoot_11 ?_
    refine J_iloadn_3 (pc := 14) hc dX2_keepRoot_14 ?_
    refine kX2_60 (pc := 15) hc hR dX2_keepRoot_15 (c_X2_sideOfRoot (m := 64) hb rfl (by omega) hz) (by decide) (Nat.le_of_ble_eq_true rfl) rfl (fun r u hu => ?_)
    have hr2 := hu.1
    refine J_eq hu.2 ?_
    refine J_istore_4 (pc := 18) hc dX2_keepRoot_18 rfl ?_
    refine J_iload_4 (pc := 20) hc dX2_keepRoot_20 ?_
    refine J_if_lt (pc := 22) hc 46 dX2_keepRoot_22 (by decide) (fun bq22 => ?_) (fun bq22 => ?_)
    · skip
      have h2 : zside (sl σ 0).toInt (sl σ 1).toInt (sl σ 2).toInt ll 64 < 0 := by rw [zi_lt, hr2, z0I] at bq22; exact bq22
      exact J_vret (pc := 46) hc hI dX2_keepRoot_46 (by first | rw [show zkr (sl σ 0).toInt (sl σ 1).toInt (sl σ 2).toInt ll la = [] from (if_neg (Int.not_lt.mpr h1)).trans (if_pos (Or.inl h2)), zkl_nil hf] | rw [show zkr (sl σ 0).toInt (sl σ 1).toInt (sl σ 2).toInt ll la = [] from (if_neg (Int.not_lt.mpr h1)).trans (if_pos (Or.inr ⟨h2, hla⟩)), zkl_nil hf])
    · skip
      have h3 : ¬ zside (sl σ 0).toInt (sl σ 1).toInt (sl σ 2).toInt ll 64 < 0 := by rw [zi_lt, hr2, z0I] at bq22; exact bq22
      refine J_iload_4 (pc := 25) hc dX2_keepRoot_25 ?_
      refine J_if_ne (pc := 27) hc 34 dX2_keepRoot_27 (by decide) (fun bq27 => ?_) (fun bq27 => ?_)
      · skip
        refine J_aloadn_0 (pc := 34) hc dX2_keepRoot_34 ?_
        refine gX2_15 (pc := 35) hc dX2_keepRoot_35 ?_
        refine J_aloadn_0 (pc := 38) hc dX2_keepRoot_38 ?_
        refine gX2_9 (pc := 39) hc dX2_keepRoot_39 ?_
        refine J_alen (pc := 42) hc 32 (by omega) rfl dX2_keepRoot_42 ?_
        refine J_icmp_lt (pc := 43) hc 47 dX2_keepRoot_43 (by decide) (fun bq43 => ?_) (fun bq43 => ?_)
        · skip
          refine J_iload_4 (pc := 47) hc dX2_keepRoot_47 ?_
          refine J_if_ne (pc := 49) hc 57 dX2_keepRoot_49 (by decide) (fun bq49 => ?_) (fun bq49 => ?_)
          · skip
            have h2 : ¬ zside (sl σ 0).toInt (sl σ 1).toInt (sl σ 2).toInt ll 64 ≤ 0 := by rw [zi_eq, hr2, z0I] at bq49; have bq49 : ¬ zside (sl σ 0).toInt (sl σ 1).toInt (sl σ 2).toInt ll 64 = 0 := bq49; omega
            refine J_aloadn_0 (pc := 57) hc dX2_keepRoot_57 ?_
            refine J_iloadn_3 (pc := 58) hc dX2_keepRoot_58 ?_
            refine kX2_64 (pc := 59) hc hR dX2_keepRoot_59 (c_X2_boxInside hb hz hc0 h1 h2) (by decide) (Nat.le_of_ble_eq_true rfl) rfl (fun r u hu => ?_)
            refine J_eq hu.2 (J_topi hu.1 ?_)
            refine J_istore_5 (pc := 62) hc dX2_keepRoot_62 rfl ?_
            refine J_aloadn_0 (pc := 64) hc dX2_keepRoot_64 ?_
            refine gX2_9 (pc := 65) hc dX2_keepRoot_65 ?_
            refine J_aloadn_0 (pc := 68) hc dX2_keepRoot_68 ?_
            refine gX2_15 (pc := 69) hc dX2_keepRoot_69 ?_
            refine J_iloadn_1 (pc := 72) hc dX2_keepRoot_72 ?_
            refine J_bipush (pc := 73) hc dX2_keepRoot_73 (v := 64) (by decide) ?_
            refine J_imul (pc := 75) hc dX2_keepRoot_75 ?_
            refine J_iload_5 (pc := 76) hc dX2_keepRoot_76 ?_
            refine J_iadd (pc := 78) hc dX2_keepRoot_78 ?_
            first | (refine J_topi (z64 i 64) ?_) | (refine J_topi (z64 i _) ?_)
            refine J_iast (pc := 79) hc 32 (by omega) rfl dX2_keepRoot_79 hf (by omega) ?_
            refine J_aloadn_0 (pc := 80) hc dX2_keepRoot_80 ?_
            refine J_dup (pc := 81) hc dX2_keepRoot_81 rfl ?_
            refine gX2_15 (pc := 82) hc dX2_keepRoot_82 ?_
            refine J_iconst (pc := 85) hc dX2_keepRoot_85 (v := 1) (by decide) ?_
            refine J_iadd (pc := 86) hc dX2_keepRoot_86 ?_
            refine J_topi (y := nI (f + 1)) (by rw [si_ua, hf, nI_1]) ?_
            refine pX2_15 (pc := 87) hc dX2_keepRoot_87 ?_
            exact J_vret (pc := 90) hc hI dX2_keepRoot_90 (by first | exact absurd bq49 bq27 | exact absurd bq27 bq49 | rw [show zkr (sl σ 0).toInt (sl σ 1).toInt (sl σ 2).toInt ll la = [64] from (if_neg (Int.not_lt.mpr h1)).trans ((if_neg (fun h => h.elim (fun q => h3 q) (fun q => by rw [hla] at q; cases q.2))).trans (if_pos h2))]; rfl | rw [show zkr (sl σ 0).toInt (sl σ 1).toInt (sl σ 2).toInt ll la = [zbx (sl σ 0).toInt (sl σ 1).toInt (sl σ 2).toInt ll] from (if_neg (Int.not_lt.mpr h1)).trans ((if_neg (fun h => h.elim (fun q => h2 (Int.le_of_lt q)) (fun q => h2 (Int.le_of_eq q.1)))).trans (if_neg (fun q => h2 (Int.le_of_eq q))))]; rfl)
          · skip
            have h2 : zside (sl σ 0).toInt (sl σ 1).toInt (sl σ 2).toInt ll 64 = 0 := by rw [zi_eq, hr2, z0I] at bq49; exact bq49
            refine J_bipush (pc := 52) hc dX2_keepRoot_52 (v := 64) (by decide) ?_
            refine J_goto (pc := 54) hc 62 dX2_keepRoot_54 (by decide) ?_
            refine J_istore_5 (pc := 62) hc dX2_keepRoot_62 rfl ?_
            refine J_aloadn_0 (pc := 64) hc dX2_keepRoot_64 ?_
            refine gX2_9 (pc := 65) hc dX2_keepRoot_65 ?_
            refine J_aloadn_0 (pc := 68) hc dX2_keepRoot_68 ?_
            refine gX2_15 (pc := 69) hc dX2_keepRoot_69 ?_
            refine J_iloadn_1 (pc := 72) hc dX2_keepRoot_72 ?_
            refine J_bipush (pc := 73) hc dX2_keepRoot_73 (v := 64) (by decide) ?_
            refine J_imul (pc := 75) hc dX2_keepRoot_75 ?_
            refine J_iload_5 (pc := 76) hc dX2_keepRoot_76 ?_
            refine J_iadd (pc := 78) hc dX2_keepRoot_78 ?_
            first | (refine J_topi (z64 i 64) ?_) | (refine J_topi (z64 i _) ?_)
            refine J_iast (pc := 79) hc 32 (by omega) rfl dX2_keepRoot_79 hf (by omega) ?_
            refine J_aloadn_0 (pc := 80) hc dX2_keepRoot_80 ?_
            refine J_dup (pc := 81) hc dX2_keepRoot_81 rfl ?_
            refine gX2_15 (pc := 82) hc dX2_keepRoot_82 ?_
            refine J_iconst (pc := 85) hc dX2_keepRoot_85 (v := 1) (by decide) ?_
            refine J_iadd (pc := 86) hc dX2_keepRoot_86 ?_
            refine J_topi (y := nI (f + 1)) (by rw [si_ua, hf, nI_1]) ?_
            refine pX2_15 (pc := 87) hc dX2_keepRoot_87 ?_
            exact J_vret (pc := 90) hc hI dX2_keepRoot_90 (by first | exact absurd bq49 bq27 | exact absurd bq27 bq49 | rw [show zkr (sl σ 0).toInt (sl σ 1).toInt (sl σ 2).toInt ll la = [64] from (if_neg (Int.not_lt.mpr h1)).trans ((if_neg (fun h => h.elim (fun q => h3 q) (fun q => by rw [hla] at q; cases q.2))).trans (if_pos h2))]; rfl | rw [show zkr (sl σ 0).toInt (sl σ 1).toInt (sl σ 2).toInt ll la = [zbx (sl σ 0).toInt (sl σ 1).toInt (sl σ 2).toInt ll] from (if_neg (Int.not_lt.mpr h1)).trans ((if_neg (fun h => h.elim (fun q => h2 (Int.le_of_lt q)) (fun q => h2 (Int.le_of_eq q.1)))).trans (if_neg (fun q => h2 (Int.le_of_eq q))))]; rfl)
        · skip
          exact absurd (show si σ 8 < nI 32 by rw [hf]; exact (nI_ltI (by omega) (by omega)).mpr hf2) bq43 --stop
      · skip
        have h2 : zside (sl σ 0).toInt (sl σ 1).toInt (sl σ 2).toInt ll 64 = 0 := by rw [zi_eq, hr2, z0I] at bq27; exact bq27
        refine J_iloadn_2 (pc := 30) hc dX2_keepRoot_30 ?_
        refine J_if_eq (pc := 31) hc 46 dX2_keepRoot_31 (by decide) (fun bq31 => ?_) (fun bq31 => ?_)
        · skip
          have hla : la = false := by cases la; rfl; rw [hy] at bq31; exact absurd bq31 (by decide)
          exact J_vret (pc := 46) hc hI dX2_keepRoot_46 (by first | rw [show zkr (sl σ 0).toInt (sl σ 1).toInt (sl σ 2).toInt ll la = [] from (if_neg (Int.not_lt.mpr h1)).trans (if_pos (Or.inl h2)), zkl_nil hf] | rw [show zkr (sl σ 0).toInt (sl σ 1).toInt (sl σ 2).toInt ll la = [] from (if_neg (Int.not_lt.mpr h1)).trans (if_pos (Or.inr ⟨h2, hla⟩)), zkl_nil hf])
        · skip
          have hla : la = true := by cases la; rw [hy] at bq31; exact absurd rfl bq31; rfl
          refine J_aloadn_0 (pc := 34) hc dX2_keepRoot_34 ?_
          refine gX2_15 (pc := 35) hc dX2_keepRoot_35 ?_
          refine J_aloadn_0 (pc := 38) hc dX2_keepRoot_38 ?_
          refine gX2_9 (pc := 39) hc dX2_keepRoot_39 ?_
          refine J_alen (pc := 42) hc 32 (by omega) rfl dX2_keepRoot_42 ?_
          refine J_icmp_lt (pc := 43) hc 47 dX2_keepRoot_43 (by decide) (fun bq43 => ?_) (fun bq43 => ?_)
          · skip
            refine J_iload_4 (pc := 47) hc dX2_keepRoot_47 ?_
            refine J_if_ne (pc := 49) hc 57 dX2_keepRoot_49 (by decide) (fun bq49 => ?_) (fun bq49 => ?_)
            · skip
              have h2 : ¬ zside (sl σ 0).toInt (sl σ 1).toInt (sl σ 2).toInt ll 64 ≤ 0 := by rw [zi_eq, hr2, z0I] at bq49; have bq49 : ¬ zside (sl σ 0).toInt (sl σ 1).toInt (sl σ 2).toInt ll 64 = 0 := bq49; omega
              refine J_aloadn_0 (pc := 57) hc dX2_keepRoot_57 ?_
              refine J_iloadn_3 (pc := 58) hc dX2_keepRoot_58 ?_
              refine kX2_64 (pc := 59) hc hR dX2_keepRoot_59 (c_X2_boxInside hb hz hc0 h1 h2) (by decide) (Nat.le_of_ble_eq_true rfl) rfl (fun r u hu => ?_)
              refine J_eq hu.2 (J_topi hu.1 ?_)
              refine J_istore_5 (pc := 62) hc dX2_keepRoot_62 rfl ?_
              refine J_aloadn_0 (pc := 64) hc dX2_keepRoot_64 ?_
              refine gX2_9 (pc := 65) hc dX2_keepRoot_65 ?_
              refine J_aloadn_0 (pc := 68) hc dX2_keepRoot_68 ?_
              refine gX2_15 (pc := 69) hc dX2_keepRoot_69 ?_
              refine J_iloadn_1 (pc := 72) hc dX2_keepRoot_72 ?_
              refine J_bipush (pc := 73) hc dX2_keepRoot_73 (v := 64) (by decide) ?_
              refine J_imul (pc := 75) hc dX2_keepRoot_75 ?_
              refine J_iload_5 (pc := 76) hc dX2_keepRoot_76 ?_
              refine J_iadd (pc := 78) hc dX2_keepRoot_78 ?_
              first | (refine J_topi (z64 i 64) ?_) | (refine J_topi (z64 i _) ?_)
              refine J_iast (pc := 79) hc 32 (by omega) rfl dX2_keepRoot_79 hf (by omega) ?_
              refine J_aloadn_0 (pc := 80) hc dX2_keepRoot_80 ?_
              refine J_dup (pc := 81) hc dX2_keepRoot_81 rfl ?_
              refine gX2_15 (pc := 82) hc dX2_keepRoot_82 ?_
              refine J_iconst (pc := 85) hc dX2_keepRoot_85 (v := 1) (by decide) ?_
              refine J_iadd (pc := 86) hc dX2_keepRoot_86 ?_
              refine J_topi (y := nI (f + 1)) (by rw [si_ua, hf, nI_1]) ?_
              refine pX2_15 (pc := 87) hc dX2_keepRoot_87 ?_
              exact J_vret (pc := 90) hc hI dX2_keepRoot_90 (by first | exact absurd bq49 bq27 | exact absurd bq27 bq49 | rw [show zkr (sl σ 0).toInt (sl σ 1).toInt (sl σ 2).toInt ll la = [64] from (if_neg (Int.not_lt.mpr h1)).trans ((if_neg (fun h => h.elim (fun q => h3 q) (fun q => by rw [hla] at q; cases q.2))).trans (if_pos h2))]; rfl | rw [show zkr (sl σ 0).toInt (sl σ 1).toInt (sl σ 2).toInt ll la = [zbx (sl σ 0).toInt (sl σ 1).toInt (sl σ 2).toInt ll] from (if_neg (Int.not_lt.mpr h1)).trans ((if_neg (fun h => h.elim (fun q => h2 (Int.le_of_lt q)) (fun q => h2 (Int.le_of_eq q.1)))).trans (if_neg (fun q => h2 (Int.le_of_eq q))))]; rfl)
            · skip
              have h2 : zside (sl σ 0).toInt (sl σ 1).toInt (sl σ 2).toInt ll 64 = 0 := by rw [zi_eq, hr2, z0I] at bq49; exact bq49
              refine J_bipush (pc := 52) hc dX2_keepRoot_52 (v := 64) (by decide) ?_
              refine J_goto (pc := 54) hc 62 dX2_keepRoot_54 (by decide) ?_
              refine J_istore_5 (pc := 62) hc dX2_keepRoot_62 rfl ?_
              refine J_aloadn_0 (pc := 64) hc dX2_keepRoot_64 ?_
              refine gX2_9 (pc := 65) hc dX2_keepRoot_65 ?_
              refine J_aloadn_0 (pc := 68) hc dX2_keepRoot_68 ?_
              refine gX2_15 (pc := 69) hc dX2_keepRoot_69 ?_
              refine J_iloadn_1 (pc := 72) hc dX2_keepRoot_72 ?_
              refine J_bipush (pc := 73) hc dX2_keepRoot_73 (v := 64) (by decide) ?_
              refine J_imul (pc := 75) hc dX2_keepRoot_75 ?_
              refine J_iload_5 (pc := 76) hc dX2_keepRoot_76 ?_
              refine J_iadd (pc := 78) hc dX2_keepRoot_78 ?_
              first | (refine J_topi (z64 i 64) ?_) | (refine J_topi (z64 i _) ?_)
              refine J_iast (pc := 79) hc 32 (by omega) rfl dX2_keepRoot_79 hf (by omega) ?_
              refine J_aloadn_0 (pc := 80) hc dX2_keepRoot_80 ?_
              refine J_dup (pc := 81) hc dX2_keepRoot_81 rfl ?_
              refine gX2_15 (pc := 82) hc dX2_keepRoot_82 ?_
              refine J_iconst (pc := 85) hc dX2_keepRoot_85 (v := 1) (by decide) ?_
              refine J_iadd (pc := 86) hc dX2_keepRoot_86 ?_
              refine J_topi (y := nI (f + 1)) (by rw [si_ua, hf, nI_1]) ?_
              refine pX2_15 (pc := 87) hc dX2_keepRoot_87 ?_
              exact J_vret (pc := 90) hc hI dX2_keepRoot_90 (by first | exact absurd bq49 bq27 | exact absurd bq27 bq49 | rw [show zkr (sl σ 0).toInt (sl σ 1).toInt (sl σ 2).toInt ll la = [64] from (if_neg (Int.not_lt.mpr h1)).trans ((if_neg (fun h => h.elim (fun q => h3 q) (fun q => by rw [hla] at q; cases q.2))).trans (if_pos h2))]; rfl | rw [show zkr (sl σ 0).toInt (sl σ 1).toInt (sl σ 2).toInt ll la = [zbx (sl σ 0).toInt (sl σ 1).toInt (sl σ 2).toInt ll] from (if_neg (Int.not_lt.mpr h1)).trans ((if_neg (fun h => h.elim (fun q => h2 (Int.le_of_lt q)) (fun q => h2 (Int.le_of_eq q.1)))).trans (if_neg (fun q => h2 (Int.le_of_eq q))))]; rfl)
          · skip
            exact absurd (show si σ 8 < nI 32 by rw [hf]; exact (nI_ltI (by omega) (by omega)).mpr hf2) bq43 --stop
  · skip
    have h1 : 0 < zside (sl σ 0).toInt (sl σ 1).toInt (sl σ 2).toInt ll 0 := by rw [zi_le, hr1, z0I] at bq6; exact Int.not_le.mp bq6
    exact J_vret (pc := 9) hc hI dX2_keepRoot_9 (by rw [show zkr (sl σ 0).toInt (sl σ 1).toInt (sl σ 2).toInt ll la = [] from if_pos h1, zkl_nil hf])
