/-! THE STATE, as numbers: int variables, long variables, int rows, long rows -/
abbrev zS : Type := (Nat → Int32) × (Nat → Int64) × (Nat → Nat → Int32) × (Nat → Nat → Int64)
def si (σ : zS) (k : Nat) : Int32 := σ.1 k
def sl (σ : zS) (k : Nat) : Int64 := σ.2.1 k
def sa (σ : zS) (k : Nat) : Nat → Int32 := σ.2.2.1 k
def sm (σ : zS) (k : Nat) : Nat → Int64 := σ.2.2.2 k
def ui (σ : zS) (k : Nat) (v : Int32) : zS := (va_up σ.1 k v, σ.2)
def ul (σ : zS) (k : Nat) (v : Int64) : zS := (σ.1, va_up σ.2.1 k v, σ.2.2)
def ua (σ : zS) (k : Nat) (f : Nat → Int32) : zS := (σ.1, σ.2.1, va_up σ.2.2.1 k f, σ.2.2.2)
def um (σ : zS) (k : Nat) (f : Nat → Int64) : zS := (σ.1, σ.2.1, σ.2.2.1, va_up σ.2.2.2 k f)
theorem si_ui (σ : zS) (k j : Nat) (v : Int32) : si (ui σ k v) j = if j = k then v else si σ j := rfl
theorem si_ui_s (σ : zS) (k : Nat) (v : Int32) : si (ui σ k v) k = v := if_pos rfl
theorem si_ui_n (σ : zS) (k j : Nat) (v : Int32) (h : ¬ j = k) : si (ui σ k v) j = si σ j := if_neg h
theorem si_ul (σ : zS) (k j : Nat) (v : Int64) : si (ul σ k v) j = si σ j := rfl
theorem si_ua (σ : zS) (k j : Nat) (v : Nat → Int32) : si (ua σ k v) j = si σ j := rfl
theorem si_um (σ : zS) (k j : Nat) (v : Nat → Int64) : si (um σ k v) j = si σ j := rfl
theorem sl_ui (σ : zS) (k j : Nat) (v : Int32) : sl (ui σ k v) j = sl σ j := rfl
theorem sl_ul (σ : zS) (k j : Nat) (v : Int64) : sl (ul σ k v) j = if j = k then v else sl σ j := rfl
theorem sl_ul_s (σ : zS) (k : Nat) (v : Int64) : sl (ul σ k v) k = v := if_pos rfl
theorem sl_ul_n (σ : zS) (k j : Nat) (v : Int64) (h : ¬ j = k) : sl (ul σ k v) j = sl σ j := if_neg h
theorem sl_ua (σ : zS) (k j : Nat) (v : Nat → Int32) : sl (ua σ k v) j = sl σ j := rfl
theorem sl_um (σ : zS) (k j : Nat) (v : Nat → Int64) : sl (um σ k v) j = sl σ j := rfl
theorem sa_ui (σ : zS) (k j : Nat) (v : Int32) : sa (ui σ k v) j = sa σ j := rfl
theorem sa_ul (σ : zS) (k j : Nat) (v : Int64) : sa (ul σ k v) j = sa σ j := rfl
theorem sa_ua (σ : zS) (k j : Nat) (v : Nat → Int32) : sa (ua σ k v) j = if j = k then v else sa σ j := rfl
theorem sa_ua_s (σ : zS) (k : Nat) (v : Nat → Int32) : sa (ua σ k v) k = v := if_pos rfl
theorem sa_ua_n (σ : zS) (k j : Nat) (v : Nat → Int32) (h : ¬ j = k) : sa (ua σ k v) j = sa σ j := if_neg h
theorem sa_um (σ : zS) (k j : Nat) (v : Nat → Int64) : sa (um σ k v) j = sa σ j := rfl
theorem sm_ui (σ : zS) (k j : Nat) (v : Int32) : sm (ui σ k v) j = sm σ j := rfl
theorem sm_ul (σ : zS) (k j : Nat) (v : Int64) : sm (ul σ k v) j = sm σ j := rfl
theorem sm_ua (σ : zS) (k j : Nat) (v : Nat → Int32) : sm (ua σ k v) j = sm σ j := rfl
theorem sm_um (σ : zS) (k j : Nat) (v : Nat → Int64) : sm (um σ k v) j = if j = k then v else sm σ j := rfl
theorem sm_um_s (σ : zS) (k : Nat) (v : Nat → Int64) : sm (um σ k v) k = v := if_pos rfl
theorem sm_um_n (σ : zS) (k j : Nat) (v : Nat → Int64) (h : ¬ j = k) : sm (um σ k v) j = sm σ j := if_neg h
theorem zS_ext {σ τ : zS} (h1 : ∀ k, si σ k = si τ k) (h2 : ∀ k, sl σ k = sl τ k) (h3 : ∀ k, sa σ k = sa τ k) (h4 : ∀ k, sm σ k = sm τ k) : σ = τ := by
  obtain ⟨a, b, c, d⟩ := σ
  obtain ⟨a', b', c', d'⟩ := τ
  have e1 : a = a' := funext h1
  have e2 : b = b' := funext h2
  have e3 : c = c' := funext h3
  have e4 : d = d' := funext h4
  subst e1; subst e2; subst e3; subst e4
  rfl
/-! THE PLACES of the cells -/
abbrev zG : Type := (Nat → ClassId) × (Nat → Nat → Nat) × (ClassId × ClassId × ClassId) × (Nat → Nat)
def zD (gg : zG) : va_G := (gg.1, gg.2.1)
def zI (gg : zG) : ClassId := gg.2.2.1.1
def zJ (gg : zG) : ClassId := gg.2.2.1.2.1
def zQ (gg : zG) : ClassId := gg.2.2.1.2.2
def zad (gg : zG) (i : Nat) : Nat := gg.2.2.2 i
def zo (gg : zG) : Nat := zad gg 0
def zv (gg : zG) : Nat := zad gg 1
def zc (gg : zG) (k : Nat) : Nat := zad gg (2 + k)
def zr (gg : zG) (j : Nat) : Nat := zad gg (9 + j)
def zm (gg : zG) (j : Nat) : Nat := zad gg (39 + j)
def zf (gg : zG) : Nat := zad gg 42
def zn (gg : zG) : Nat := zad gg 43
def zM (gg : zG) : Nat := zad gg 44
def zlen (j : Nat) : Nat := if j < 21 then 16 else if j = 21 then 17 else if j = 22 then 32 else if j = 23 then 6 else if j < 27 then 96 else if j = 27 then 17 else if j = 28 then 40 else 17
theorem zlen_c {j : Nat} (h : j < 21) : zlen j = 16 := if_pos h
theorem zlen_lt (j : Nat) : zlen j < 2 ^ 31 := by unfold zlen; repeat' split
                                                  all_goals omega
def zE (gg : zG) (σ : zS) (i : Nat) : va_E :=
  if i < 9 then
    if i = 0 then .inr (3, [.ref (zv gg), .ref (zc gg 6), .ref (zf gg), .ref (zn gg), .ref (zr gg 21), .int (si σ 7)])
    else if i = 1 then .inl (zQ gg, 6, .inr (.inr (.inr (.inr (fun j => some (zc gg j))))))
    else .inr (0, [.ref (zr gg (i - 2)), .ref (zr gg (7 + (i - 2))), .ref (zr gg (14 + (i - 2))), .int (si σ (i - 2))])
  else if i < 39 then .inl (zI gg, zlen (i - 9), .inl (sa σ (i - 9)))
  else if i < 42 then .inl (zJ gg, 16, .inr (.inl (sm σ (i - 39))))
  else if i = 42 then .inr (2, [.ref (zr gg 22), .int (si σ 8), .long (sl σ 0), .long (sl σ 1), .long (sl σ 2)])
  else if i = 43 then .inr (1, [.int (si σ 9), .int (si σ 10)])
  else .inr (4, [.ref (zr gg 23), .ref (zr gg 24), .ref (zr gg 25), .ref (zr gg 26), .int (si σ 11), .ref (zr gg 27), .int (si σ 12), .ref (zm gg 0), .ref (zm gg 1), .ref (zm gg 2), .int (si σ 13), .ref (zr gg 28), .ref (zr gg 29)])
def zW (gg : zG) (σ : zS) : va_W := (List.range 45).map (fun i => (zad gg i, zE gg σ i))
theorem zW_get (gg : zG) (σ : zS) {i : Nat} (h : i < 45) : (zW gg σ)[i]? = some (zad gg i, zE gg σ i) := by
  unfold zW
  rw [List.getElem?_map, List.getElem?_range h]
  rfl
theorem zW_set {gg : zG} {σ σ' : zS} {i : Nat} {e : va_E} (h : i < 45) (he : zE gg σ' i = e) (hn : ∀ j, j < 45 → ¬ j = i → zE gg σ' j = zE gg σ j) : (zW gg σ).set i (zad gg i, e) = zW gg σ' := by
  apply List.ext_getElem?
  intro j
  by_cases hj : j < 45
  · rw [zW_get gg σ' hj, List.getElem?_set]
    by_cases q : i = j
    · subst q
      rw [if_pos rfl, if_pos (by simp [zW]; exact hj), he]
    · rw [if_neg q, zW_get gg σ hj, hn j hj (fun z => q z.symm)]
  · rw [List.getElem?_eq_none (by simp [zW]; omega), List.getElem?_eq_none (by simp [zW]; omega)]
theorem zE_c (gg : zG) (σ : zS) {k : Nat} (h : k < 7) : zE gg σ (2 + k) = .inr (0, [.ref (zr gg k), .ref (zr gg (7 + k)), .ref (zr gg (14 + k)), .int (si σ k)]) := by
  unfold zE
  rw [if_pos (by omega), if_neg (by omega), if_neg (by omega), Nat.add_sub_cancel_left]
theorem zE_r (gg : zG) (σ : zS) {j : Nat} (h : j < 30) : zE gg σ (9 + j) = .inl (zI gg, zlen j, .inl (sa σ j)) := by
  unfold zE
  rw [if_neg (by omega), if_pos (by omega), Nat.add_sub_cancel_left]
theorem zE_m (gg : zG) (σ : zS) {j : Nat} (h : j < 3) : zE gg σ (39 + j) = .inl (zJ gg, 16, .inr (.inl (sm σ j))) := by
  unfold zE
  rw [if_neg (by omega), if_neg (by omega), if_pos (by omega), Nat.add_sub_cancel_left]
def zA (gg : zG) (q : Nat) : Prop := ∃ i, i < 45 ∧ q = zad gg i
def zt (gg : zG) : List (ClassId × FieldType) := [(zI gg, .int), (zJ gg, .long), (zQ gg, .object RX0)]
def zNest : Cond → Bool
  | .fieldLinkNest .. => true
  | .methodLinkNest .. => true
  | _ => false
def zT : List Cond := lw_tbl.filter goodWord
def zN : List Cond := lw_tbl.filter zNest
def zK (gg : zG) (U : State) : Prop := va_K (zD gg) vwCl (zt gg) U ∧ (∀ w ∈ zN, va_Nw w U) ∧ ∀ i j, i < 45 → j < 45 → zad gg i = zad gg j → i = j
theorem zK.moved {gg : zG} {u U : State} (hW : u.WarmedH U.vm) (h : zK gg u) : zK gg U := by
  refine ⟨va_K.moved hW.alike h.1, fun w hw => ?_, h.2.2⟩
  have h1 := h.2.1 w hw
  have h2 := (List.mem_filter.mp hw).2
  cases w <;> first | exact va_Nw.warmF hW h1 | exact va_Nw.warmM hW h1 | exact absurd h2 Bool.false_ne_true
theorem zK.calling {gg : zG} {U : State} {g : JFrame} {mk : MethodId} {a : Array Value} (h : zK gg U) : zK gg (U.calling g mk a) := by
  refine ⟨va_K.moved (u := U) (U := U.calling g mk a) (Vm.Alike.refl U.vm) h.1, fun w hw => ?_, h.2.2⟩
  have h1 := h.2.1 w hw
  have h2 := (List.mem_filter.mp hw).2
  have h3 : w.onTables = true := by cases w <;> first | rfl | exact absurd h2 Bool.false_ne_true
  exact va_Nw.same (u := U) h3 rfl h1
theorem zD_of {gg : zG} {σ : zS} {A : Nat → Prop} (h : ∀ i j, i < 45 → j < 45 → zad gg i = zad gg j → i = j) (hA : ∀ i, i < 45 → A (zad gg i)) : va_D A (zW gg σ) := by
  have lt : ∀ (k : Nat) (q : Nat × va_E), (zW gg σ)[k]? = some q → k < 45 ∧ q.1 = zad gg k := fun k q hk => by
    have h1 : k < 45 := by
      have := (List.getElem?_eq_some_iff.mp hk).1
      simpa [zW] using this
    rw [zW_get gg σ h1] at hk
    exact ⟨h1, by rw [← Option.some.inj hk]⟩
  exact ⟨fun i j p q hi hj e => h i j (lt i p hi).1 (lt j q hj).1 (by rw [← (lt i p hi).2, ← (lt j q hj).2, e]), fun k q hk => by rw [(lt k q hk).2]; exact hA k (lt k q hk).1⟩
/-! THE JUDGEMENT: from these locals, this operand stack and this state, the machine comes to Q -/
abbrev zX : Type := (Program × Launch × Env × Room) × (State × MethodId × Array Value × List Frame) × (Method × Code × Nat × Nat) × (Nat → Prop)
def zL (ls : Array Slot) (lv : List (Option Value)) : Prop := ls.size = lv.length ∧ lv_wf ls ∧ ∀ (i : Nat) (v : Value), lv[i]? = some (some v) → ls[i]? = some (.val v)
def J (cx : zX) (gg : zG) (Q : State → Prop) (σ : zS) (pc : Nat) (lv : List (Option Value)) (st : List Value) : Prop :=
  ∀ (H : Heap) (locs : List Loc) (ls : Array Slot), va_P (zD gg) vwCl (zW gg σ) H → va_S cx.2.2.2 cx.2.1.1.heap H locs → zL ls lv →
    W cx.1.1 cx.1.2.1 cx.1.2.2.1 cx.1.2.2.2 cx.2.1.1 cx.2.1.2.1 cx.2.1.2.2.1 cx.2.1.2.2.2 cx.2.2.1.1 cx.2.2.1.2.1 H locs cx.2.2.1.2.2.1 cx.2.2.1.2.2.2 Q (F0 cx.2.1.2.1 pc ls st)
def zOK (cx : zX) (gg : zG) (cc : ByteArray) (own : String) (nL : Nat) : Prop :=
  cx.1.1.tables.exec = Jvm.exec ∧ cx.2.2.1.2.1.code = cc ∧ cx.2.2.1.2.1.maxLocals = nL ∧ cx.2.1.1.vm.findClass own = some cx.2.1.2.1.cls ∧ (∀ w ∈ zT, w.before cx.2.1.2.2.1 cx.2.1.1 = true) ∧ zK gg cx.2.1.1 ∧ (∀ i, i < 45 → cx.2.2.2 (zad gg i)) ∧ cx.2.2.1.1.locks = false
def zpairs : Nat → List (Option Value) → List (Nat × Value)
  | _, [] => []
  | i, none :: t => zpairs (i + 1) t
  | i, some v :: t => (i, v) :: zpairs (i + 1) t
theorem zpairs_mem : ∀ (lv : List (Option Value)) (i : Nat) (q : Nat × Value), q ∈ zpairs i lv ↔ ∃ k, lv[k]? = some (some q.2) ∧ q.1 = i + k
  | [], i, q => by simp [zpairs]
  | none :: t, i, q => by
    rw [zpairs, zpairs_mem t (i + 1) q]
    constructor
    · rintro ⟨k, h1, h2⟩
      exact ⟨k + 1, by simpa using h1, by omega⟩
    · rintro ⟨k, h1, h2⟩
      cases k with
      | zero => simp at h1
      | succ k => exact ⟨k, by simpa using h1, by omega⟩
  | some v :: t, i, q => by
    rw [zpairs, List.mem_cons, zpairs_mem t (i + 1) q]
    constructor
    · rintro (rfl | ⟨k, h1, h2⟩)
      · exact ⟨0, by simp, by simp⟩
      · exact ⟨k + 1, by simpa using h1, by omega⟩
    · rintro ⟨k, h1, h2⟩
      cases k with
      | zero =>
        refine Or.inl ?_
        have h3 : v = q.2 := by simpa using h1
        exact Prod.ext (by simpa using h2) h3.symm
      | succ k => exact Or.inr ⟨k, by simpa using h1, by omega⟩
theorem zL.has {ls : Array Slot} {lv : List (Option Value)} (h : zL ls lv) : lv_has ls lv.length (zpairs 0 lv) :=
  ⟨h.1, h.2.1, fun q hq => by obtain ⟨k, h1, h2⟩ := (zpairs_mem lv 0 q).mp hq; rw [h2, Nat.zero_add]; exact h.2.2 k q.2 h1⟩
theorem zL.set1 {ls : Array Slot} {lv : List (Option Value)} {i : Nat} {v : Value} (hi : i < lv.length) (hp : ∀ (j : Nat) (w : Value), j + 1 = i → lv[j]? = some (some w) → w.category = 1)
    (h : lv_has ls lv.length ((i, v) :: (zpairs 0 lv).filter (fun q => !(q.1 == i) && !(q.1 + 1 == i && q.2.category == 2)))) : zL ls (lv.set i (some v)) := by
  refine ⟨by rw [List.length_set]; exact h.1, h.2.1, fun j w hj => ?_⟩
  rw [List.getElem?_set] at hj
  by_cases q : i = j
  · subst q
    rw [if_pos rfl, if_pos hi] at hj
    have hv : v = w := Option.some.inj (Option.some.inj hj)
    subst hv
    exact h.2.2 (i, v) List.mem_cons_self
  · rw [if_neg q] at hj
    refine h.2.2 (j, w) (List.mem_cons_of_mem _ (List.mem_filter.mpr ⟨(zpairs_mem lv 0 (j, w)).mpr ⟨j, hj, by simp⟩, ?_⟩))
    have h1 : ¬ j = i := fun z => q z.symm
    by_cases h2 : j + 1 = i
    · have h3 := hp j w h2 hj
      simp [h1, h3]
    · simp [h1, h2]
theorem zL.set2 {ls : Array Slot} {lv : List (Option Value)} {i : Nat} {v : Value} (hi : i + 1 < lv.length) (hp : ∀ (j : Nat) (w : Value), j + 1 = i → lv[j]? = some (some w) → w.category = 1)
    (h : lv_has ls lv.length ((i, v) :: (zpairs 0 lv).filter (fun q => !(q.1 == i) && (!(q.1 == i + 1) && !(q.1 + 1 == i && q.2.category == 2))))) : zL ls ((lv.set i (some v)).set (i + 1) none) := by
  refine ⟨by rw [List.length_set, List.length_set]; exact h.1, h.2.1, fun j w hj => ?_⟩
  rw [List.getElem?_set, List.getElem?_set] at hj
  by_cases q1 : i + 1 = j
  · subst q1
    rw [if_pos rfl, if_pos (by rw [List.length_set]; exact hi)] at hj
    cases hj
  · rw [if_neg q1] at hj
    by_cases q : i = j
    · subst q
      rw [if_pos rfl, if_pos (by omega)] at hj
      have hv : v = w := Option.some.inj (Option.some.inj hj)
      subst hv
      exact h.2.2 (i, v) List.mem_cons_self
    · rw [if_neg q] at hj
      refine h.2.2 (j, w) (List.mem_cons_of_mem _ (List.mem_filter.mpr ⟨(zpairs_mem lv 0 (j, w)).mpr ⟨j, hj, by simp⟩, ?_⟩))
      have h1 : ¬ j = i := fun z => q z.symm
      have h4 : ¬ j = i + 1 := fun z => q1 z.symm
      by_cases h2 : j + 1 = i
      · have h3 := hp j w h2 hj
        simp [h1, h3, h4]
      · simp [h1, h2, h4]
def zc1 : Option Value → Bool
  | none => true
  | some v => v.category == 1
theorem zc1_spec {x : Option Value} {w : Value} (h : zc1 x = true) (e : x = some w) : w.category = 1 := by
  subst e
  simpa [zc1] using h
theorem zpre {lv : List (Option Value)} {i : Nat} {x : Option Value} (h : zc1 x = true) (e : lv[i]? = some x) : ∀ (j : Nat) (w : Value), j + 1 = i + 1 → lv[j]? = some (some w) → w.category = 1 := by
  intro j w hj hw
  have : j = i := by omega
  subst this
  exact zc1_spec h (Option.some.inj (e.symm.trans hw))
/-- fewer locals are known -/
def zle : List (Option Value) → List (Option Value) → Prop
  | [], [] => True
  | none :: t, _ :: u => zle t u
  | some v :: t, x :: u => x = some v ∧ zle t u
  | _, _ => False
theorem zle_nil : zle [] [] := trivial
theorem zle_n {t u : List (Option Value)} {x : Option Value} (h : zle t u) : zle (none :: t) (x :: u) := h
theorem zle_s {t u : List (Option Value)} {v : Value} (h : zle t u) : zle (some v :: t) (some v :: u) := ⟨rfl, h⟩
theorem zle_spec : ∀ (l' l : List (Option Value)), zle l' l → l'.length = l.length ∧ ∀ (i : Nat) (v : Value), l'[i]? = some (some v) → l[i]? = some (some v)
  | [], [], _ => ⟨rfl, fun _ _ h => h⟩
  | none :: t, x :: u, h => by
    have ih := zle_spec t u h
    refine ⟨by simp [ih.1], fun i v hi => ?_⟩
    cases i with
    | zero => simp at hi
    | succ i => simpa using ih.2 i v (by simpa using hi)
  | some w :: t, x :: u, h => by
    have ih := zle_spec t u h.2
    refine ⟨by simp [ih.1], fun i v hi => ?_⟩
    cases i with
    | zero => rw [h.1]; simpa using hi
    | succ i => simpa using ih.2 i v (by simpa using hi)
  | [], _ :: _, h => h.elim
  | none :: _, [], h => h.elim
  | some _ :: _, [], h => h.elim
section ZJ
variable {cx : zX} {gg : zG} {Q : State → Prop} {σ : zS} {pc : Nat} {lv : List (Option Value)} {st : List Value} {cc : ByteArray} {own : String} {nL : Nat}
theorem J_weak {lv' : List (Option Value)} (h : zle lv' lv) (k : J cx gg Q σ pc lv' st) : J cx gg Q σ pc lv st := by
  intro H locs ls hP hS hl
  have h1 := zle_spec _ _ h
  exact k H locs ls hP hS ⟨by rw [h1.1]; exact hl.1, hl.2.1, fun i v hi => hl.2.2 i v (h1.2 i v hi)⟩
theorem J_eq {σ' : zS} (h : σ = σ') (k : J cx gg Q σ' pc lv st) : J cx gg Q σ pc lv st := h ▸ k
theorem J_topi {x y : Int32} (h : x = y) (k : J cx gg Q σ pc lv (.int y :: st)) : J cx gg Q σ pc lv (.int x :: st) := h ▸ k
theorem J_topl {x y : Int64} (h : x = y) (k : J cx gg Q σ pc lv (.long y :: st)) : J cx gg Q σ pc lv (.long x :: st) := h ▸ k
theorem J_nami {x : Int32} (k : ∀ y : Int32, y = x → J cx gg Q σ pc lv (.int y :: st)) : J cx gg Q σ pc lv (.int x :: st) := k x rfl
theorem J_naml {x : Int64} (k : ∀ y : Int64, y = x → J cx gg Q σ pc lv (.long y :: st)) : J cx gg Q σ pc lv (.long x :: st) := k x rfl
theorem J_iconst (hc : zOK cx gg cc own nL) {n : Int} {v : Int32} (hd : decode cc pc = .ok (.iconst n, 1)) (hv : Int32.ofInt n = v) (k : J cx gg Q σ (pc + 1) lv (.int v :: st)) : J cx gg Q σ pc lv (st) :=
  fun H locs ls hP hS hl => lv_iconst hc.1 hc.2.1 hd hv (k H locs ls hP hS hl)
theorem J_bipush (hc : zOK cx gg cc own nL) {n : Int} {v : Int32} (hd : decode cc pc = .ok (.bipush n, 2)) (hv : (Int8.ofInt n).toInt32 = v) (k : J cx gg Q σ (pc + 2) lv (.int v :: st)) : J cx gg Q σ pc lv (st) :=
  fun H locs ls hP hS hl => lv_bipush hc.1 hc.2.1 hd hv (k H locs ls hP hS hl)
theorem J_sipush (hc : zOK cx gg cc own nL) {n : Int} {v : Int32} (hd : decode cc pc = .ok (.sipush n, 3)) (hv : (Int16.ofInt n).toInt32 = v) (k : J cx gg Q σ (pc + 3) lv (.int v :: st)) : J cx gg Q σ pc lv (st) :=
  fun H locs ls hP hS hl => lv_sipush hc.1 hc.2.1 hd hv (k H locs ls hP hS hl)
theorem J_lconst (hc : zOK cx gg cc own nL) {n : Fin 2} {v : Int64} (hd : decode cc pc = .ok (.lconst n, 1)) (hv : Int64.ofNat (n : Nat) = v) (k : J cx gg Q σ (pc + 1) lv (.long v :: st)) : J cx gg Q σ pc lv (st) :=
  fun H locs ls hP hS hl => lv_lconst hc.1 hc.2.1 hd hv (k H locs ls hP hS hl)
theorem J_iadd (hc : zOK cx gg cc own nL) {x y : Int32} (hd : decode cc pc = .ok (.iadd, 1)) (k : J cx gg Q σ (pc + 1) lv (.int (x + y) :: st)) : J cx gg Q σ pc lv (.int y :: .int x :: st) :=
  fun H locs ls hP hS hl => lv_iadd hc.1 hc.2.1 hd (k H locs ls hP hS hl)
theorem J_isub (hc : zOK cx gg cc own nL) {x y : Int32} (hd : decode cc pc = .ok (.isub, 1)) (k : J cx gg Q σ (pc + 1) lv (.int (x - y) :: st)) : J cx gg Q σ pc lv (.int y :: .int x :: st) :=
  fun H locs ls hP hS hl => lv_isub hc.1 hc.2.1 hd (k H locs ls hP hS hl)
theorem J_imul (hc : zOK cx gg cc own nL) {x y : Int32} (hd : decode cc pc = .ok (.imul, 1)) (k : J cx gg Q σ (pc + 1) lv (.int (x * y) :: st)) : J cx gg Q σ pc lv (.int y :: .int x :: st) :=
  fun H locs ls hP hS hl => lv_imul hc.1 hc.2.1 hd (k H locs ls hP hS hl)
theorem J_iand (hc : zOK cx gg cc own nL) {x y : Int32} (hd : decode cc pc = .ok (.iand, 1)) (k : J cx gg Q σ (pc + 1) lv (.int (x &&& y) :: st)) : J cx gg Q σ pc lv (.int y :: .int x :: st) :=
  fun H locs ls hP hS hl => lv_iand hc.1 hc.2.1 hd (k H locs ls hP hS hl)
theorem J_ixor (hc : zOK cx gg cc own nL) {x y : Int32} (hd : decode cc pc = .ok (.ixor, 1)) (k : J cx gg Q σ (pc + 1) lv (.int (x ^^^ y) :: st)) : J cx gg Q σ pc lv (.int y :: .int x :: st) :=
  fun H locs ls hP hS hl => lv_ixor hc.1 hc.2.1 hd (k H locs ls hP hS hl)
theorem J_ladd (hc : zOK cx gg cc own nL) {x y : Int64} (hd : decode cc pc = .ok (.ladd, 1)) (k : J cx gg Q σ (pc + 1) lv (.long (x + y) :: st)) : J cx gg Q σ pc lv (.long y :: .long x :: st) :=
  fun H locs ls hP hS hl => lv_ladd hc.1 hc.2.1 hd (k H locs ls hP hS hl)
theorem J_lsub (hc : zOK cx gg cc own nL) {x y : Int64} (hd : decode cc pc = .ok (.lsub, 1)) (k : J cx gg Q σ (pc + 1) lv (.long (x - y) :: st)) : J cx gg Q σ pc lv (.long y :: .long x :: st) :=
  fun H locs ls hP hS hl => lv_lsub hc.1 hc.2.1 hd (k H locs ls hP hS hl)
theorem J_lmul (hc : zOK cx gg cc own nL) {x y : Int64} (hd : decode cc pc = .ok (.lmul, 1)) (k : J cx gg Q σ (pc + 1) lv (.long (x * y) :: st)) : J cx gg Q σ pc lv (.long y :: .long x :: st) :=
  fun H locs ls hP hS hl => lv_lmul hc.1 hc.2.1 hd (k H locs ls hP hS hl)
theorem J_lxor (hc : zOK cx gg cc own nL) {x y : Int64} (hd : decode cc pc = .ok (.lxor, 1)) (k : J cx gg Q σ (pc + 1) lv (.long (x ^^^ y) :: st)) : J cx gg Q σ pc lv (.long y :: .long x :: st) :=
  fun H locs ls hP hS hl => lv_lxor hc.1 hc.2.1 hd (k H locs ls hP hS hl)
theorem J_ineg (hc : zOK cx gg cc own nL) {x : Int32} (hd : decode cc pc = .ok (.ineg, 1)) (k : J cx gg Q σ (pc + 1) lv (.int (-x) :: st)) : J cx gg Q σ pc lv (.int x :: st) :=
  fun H locs ls hP hS hl => lv_ineg hc.1 hc.2.1 hd (k H locs ls hP hS hl)
theorem J_lneg (hc : zOK cx gg cc own nL) {x : Int64} (hd : decode cc pc = .ok (.lneg, 1)) (k : J cx gg Q σ (pc + 1) lv (.long (-x) :: st)) : J cx gg Q σ pc lv (.long x :: st) :=
  fun H locs ls hP hS hl => lv_lneg hc.1 hc.2.1 hd (k H locs ls hP hS hl)
theorem J_idiv (hc : zOK cx gg cc own nL) {x y : Int32} (hd : decode cc pc = .ok (.idiv, 1)) (hne : ¬ y = 0) (k : J cx gg Q σ (pc + 1) lv (.int (x / y) :: st)) : J cx gg Q σ pc lv (.int y :: .int x :: st) :=
  fun H locs ls hP hS hl => lv_idiv hc.1 hc.2.1 hd hne (k H locs ls hP hS hl)
theorem J_irem (hc : zOK cx gg cc own nL) {x y : Int32} (hd : decode cc pc = .ok (.irem, 1)) (hne : ¬ y = 0) (k : J cx gg Q σ (pc + 1) lv (.int (x - x / y * y) :: st)) : J cx gg Q σ pc lv (.int y :: .int x :: st) :=
  fun H locs ls hP hS hl => lv_irem hc.1 hc.2.1 hd hne (k H locs ls hP hS hl)
theorem J_ldiv (hc : zOK cx gg cc own nL) {x y : Int64} (hd : decode cc pc = .ok (.ldiv, 1)) (hne : ¬ y = 0) (k : J cx gg Q σ (pc + 1) lv (.long (x / y) :: st)) : J cx gg Q σ pc lv (.long y :: .long x :: st) :=
  fun H locs ls hP hS hl => lv_ldiv hc.1 hc.2.1 hd hne (k H locs ls hP hS hl)
theorem J_lrem (hc : zOK cx gg cc own nL) {x y : Int64} (hd : decode cc pc = .ok (.lrem, 1)) (hne : ¬ y = 0) (k : J cx gg Q σ (pc + 1) lv (.long (x - x / y * y) :: st)) : J cx gg Q σ pc lv (.long y :: .long x :: st) :=
  fun H locs ls hP hS hl => lv_lrem hc.1 hc.2.1 hd hne (k H locs ls hP hS hl)
theorem J_i2l (hc : zOK cx gg cc own nL) {x : Int32} (hd : decode cc pc = .ok (.i2l, 1)) (k : J cx gg Q σ (pc + 1) lv (.long x.toInt64 :: st)) : J cx gg Q σ pc lv (.int x :: st) :=
  fun H locs ls hP hS hl => lv_i2l hc.1 hc.2.1 hd rfl (k H locs ls hP hS hl)
theorem J_l2i (hc : zOK cx gg cc own nL) {x : Int64} (hd : decode cc pc = .ok (.l2i, 1)) (k : J cx gg Q σ (pc + 1) lv (.int x.toInt32 :: st)) : J cx gg Q σ pc lv (.long x :: st) :=
  fun H locs ls hP hS hl => lv_l2i hc.1 hc.2.1 hd rfl (k H locs ls hP hS hl)
theorem J_dup (hc : zOK cx gg cc own nL) {a : Value} (hd : decode cc pc = .ok (.dup, 1)) (ha : a.category = 1) (k : J cx gg Q σ (pc + 1) lv (a :: a :: st)) : J cx gg Q σ pc lv (a :: st) :=
  fun H locs ls hP hS hl => lv_dup hc.1 hc.2.1 hd ha (k H locs ls hP hS hl)
theorem J_dup2 (hc : zOK cx gg cc own nL) {a b : Value} (hd : decode cc pc = .ok (.dup2, 1)) (ha : a.category = 1) (hb : b.category = 1) (k : J cx gg Q σ (pc + 1) lv (a :: b :: a :: b :: st)) : J cx gg Q σ pc lv (a :: b :: st) :=
  fun H locs ls hP hS hl => lv_dup2_11 hc.1 hc.2.1 hd ha hb (k H locs ls hP hS hl)
theorem J_if_eq (hc : zOK cx gg cc own nL) {x : Int32} {off : Int} (tgt : Nat) (hd : decode cc pc = .ok (.ifCond .eq off, 3)) (ht : (pc : Int) + off = (tgt : Int)) (k1 : x = 0 → J cx gg Q σ tgt lv st) (k2 : ¬ x = 0 → J cx gg Q σ (pc + 3) lv st) : J cx gg Q σ pc lv (.int x :: st) :=
  fun H locs ls hP hS hl => lv_if_eq hc.1 hc.2.1 hd ht (fun h => k1 h H locs ls hP hS hl) (fun h => k2 h H locs ls hP hS hl)
theorem J_if_ne (hc : zOK cx gg cc own nL) {x : Int32} {off : Int} (tgt : Nat) (hd : decode cc pc = .ok (.ifCond .ne off, 3)) (ht : (pc : Int) + off = (tgt : Int)) (k1 : ¬ x = 0 → J cx gg Q σ tgt lv st) (k2 : x = 0 → J cx gg Q σ (pc + 3) lv st) : J cx gg Q σ pc lv (.int x :: st) :=
  fun H locs ls hP hS hl => lv_if_ne hc.1 hc.2.1 hd ht (fun h => k1 h H locs ls hP hS hl) (fun h => k2 h H locs ls hP hS hl)
theorem J_if_lt (hc : zOK cx gg cc own nL) {x : Int32} {off : Int} (tgt : Nat) (hd : decode cc pc = .ok (.ifCond .lt off, 3)) (ht : (pc : Int) + off = (tgt : Int)) (k1 : x < 0 → J cx gg Q σ tgt lv st) (k2 : ¬ x < 0 → J cx gg Q σ (pc + 3) lv st) : J cx gg Q σ pc lv (.int x :: st) :=
  fun H locs ls hP hS hl => lv_if_lt hc.1 hc.2.1 hd ht (fun h => k1 h H locs ls hP hS hl) (fun h => k2 h H locs ls hP hS hl)
theorem J_if_ge (hc : zOK cx gg cc own nL) {x : Int32} {off : Int} (tgt : Nat) (hd : decode cc pc = .ok (.ifCond .ge off, 3)) (ht : (pc : Int) + off = (tgt : Int)) (k1 : 0 ≤ x → J cx gg Q σ tgt lv st) (k2 : ¬ 0 ≤ x → J cx gg Q σ (pc + 3) lv st) : J cx gg Q σ pc lv (.int x :: st) :=
  fun H locs ls hP hS hl => lv_if_ge hc.1 hc.2.1 hd ht (fun h => k1 h H locs ls hP hS hl) (fun h => k2 h H locs ls hP hS hl)
theorem J_if_gt (hc : zOK cx gg cc own nL) {x : Int32} {off : Int} (tgt : Nat) (hd : decode cc pc = .ok (.ifCond .gt off, 3)) (ht : (pc : Int) + off = (tgt : Int)) (k1 : 0 < x → J cx gg Q σ tgt lv st) (k2 : ¬ 0 < x → J cx gg Q σ (pc + 3) lv st) : J cx gg Q σ pc lv (.int x :: st) :=
  fun H locs ls hP hS hl => lv_if_gt hc.1 hc.2.1 hd ht (fun h => k1 h H locs ls hP hS hl) (fun h => k2 h H locs ls hP hS hl)
theorem J_if_le (hc : zOK cx gg cc own nL) {x : Int32} {off : Int} (tgt : Nat) (hd : decode cc pc = .ok (.ifCond .le off, 3)) (ht : (pc : Int) + off = (tgt : Int)) (k1 : x ≤ 0 → J cx gg Q σ tgt lv st) (k2 : ¬ x ≤ 0 → J cx gg Q σ (pc + 3) lv st) : J cx gg Q σ pc lv (.int x :: st) :=
  fun H locs ls hP hS hl => lv_if_le hc.1 hc.2.1 hd ht (fun h => k1 h H locs ls hP hS hl) (fun h => k2 h H locs ls hP hS hl)
theorem J_icmp_eq (hc : zOK cx gg cc own nL) {x y : Int32} {off : Int} (tgt : Nat) (hd : decode cc pc = .ok (.if_icmp .eq off, 3)) (ht : (pc : Int) + off = (tgt : Int)) (k1 : x = y → J cx gg Q σ tgt lv st) (k2 : ¬ x = y → J cx gg Q σ (pc + 3) lv st) : J cx gg Q σ pc lv (.int y :: .int x :: st) :=
  fun H locs ls hP hS hl => lv_icmp_eq hc.1 hc.2.1 hd ht (fun h => k1 h H locs ls hP hS hl) (fun h => k2 h H locs ls hP hS hl)
theorem J_icmp_ne (hc : zOK cx gg cc own nL) {x y : Int32} {off : Int} (tgt : Nat) (hd : decode cc pc = .ok (.if_icmp .ne off, 3)) (ht : (pc : Int) + off = (tgt : Int)) (k1 : ¬ x = y → J cx gg Q σ tgt lv st) (k2 : x = y → J cx gg Q σ (pc + 3) lv st) : J cx gg Q σ pc lv (.int y :: .int x :: st) :=
  fun H locs ls hP hS hl => lv_icmp_ne hc.1 hc.2.1 hd ht (fun h => k1 h H locs ls hP hS hl) (fun h => k2 h H locs ls hP hS hl)
theorem J_icmp_lt (hc : zOK cx gg cc own nL) {x y : Int32} {off : Int} (tgt : Nat) (hd : decode cc pc = .ok (.if_icmp .lt off, 3)) (ht : (pc : Int) + off = (tgt : Int)) (k1 : x < y → J cx gg Q σ tgt lv st) (k2 : ¬ x < y → J cx gg Q σ (pc + 3) lv st) : J cx gg Q σ pc lv (.int y :: .int x :: st) :=
  fun H locs ls hP hS hl => lv_icmp_lt hc.1 hc.2.1 hd ht (fun h => k1 h H locs ls hP hS hl) (fun h => k2 h H locs ls hP hS hl)
theorem J_icmp_ge (hc : zOK cx gg cc own nL) {x y : Int32} {off : Int} (tgt : Nat) (hd : decode cc pc = .ok (.if_icmp .ge off, 3)) (ht : (pc : Int) + off = (tgt : Int)) (k1 : y ≤ x → J cx gg Q σ tgt lv st) (k2 : ¬ y ≤ x → J cx gg Q σ (pc + 3) lv st) : J cx gg Q σ pc lv (.int y :: .int x :: st) :=
  fun H locs ls hP hS hl => lv_icmp_ge hc.1 hc.2.1 hd ht (fun h => k1 h H locs ls hP hS hl) (fun h => k2 h H locs ls hP hS hl)
theorem J_icmp_gt (hc : zOK cx gg cc own nL) {x y : Int32} {off : Int} (tgt : Nat) (hd : decode cc pc = .ok (.if_icmp .gt off, 3)) (ht : (pc : Int) + off = (tgt : Int)) (k1 : y < x → J cx gg Q σ tgt lv st) (k2 : ¬ y < x → J cx gg Q σ (pc + 3) lv st) : J cx gg Q σ pc lv (.int y :: .int x :: st) :=
  fun H locs ls hP hS hl => lv_icmp_gt hc.1 hc.2.1 hd ht (fun h => k1 h H locs ls hP hS hl) (fun h => k2 h H locs ls hP hS hl)
theorem J_icmp_le (hc : zOK cx gg cc own nL) {x y : Int32} {off : Int} (tgt : Nat) (hd : decode cc pc = .ok (.if_icmp .le off, 3)) (ht : (pc : Int) + off = (tgt : Int)) (k1 : x ≤ y → J cx gg Q σ tgt lv st) (k2 : ¬ x ≤ y → J cx gg Q σ (pc + 3) lv st) : J cx gg Q σ pc lv (.int y :: .int x :: st) :=
  fun H locs ls hP hS hl => lv_icmp_le hc.1 hc.2.1 hd ht (fun h => k1 h H locs ls hP hS hl) (fun h => k2 h H locs ls hP hS hl)
theorem J_goto (hc : zOK cx gg cc own nL) {off : Int} (tgt : Nat) (hd : decode cc pc = .ok (.goto off, 3)) (ht : (pc : Int) + off = (tgt : Int)) (k : J cx gg Q σ tgt lv st) : J cx gg Q σ pc lv st :=
  fun H locs ls hP hS hl => lv_goto hc.1 hc.2.1 hd ht (k H locs ls hP hS hl)
theorem J_lcmp (hc : zOK cx gg cc own nL) {x y : Int64} (hd : decode cc pc = .ok (.lcmp, 1)) (k : J cx gg Q σ (pc + 1) lv (.int (lg_cmp x y) :: st)) : J cx gg Q σ pc lv (.long y :: .long x :: st) :=
  fun H locs ls hP hS hl => W.lcmp hc.1 hc.2.1 hd (k H locs ls hP hS hl)
theorem J_lcmp_eq (hc : zOK cx gg cc own nL) {x y : Int64} {off : Int} (tgt : Nat) (hd : decode cc pc = .ok (.lcmp, 1)) (hd2 : decode cc (pc + 1) = .ok (.ifCond .eq off, 3)) (ht : ((pc + 1 : Nat) : Int) + off = (tgt : Int)) (k1 : x = y → J cx gg Q σ tgt lv st) (k2 : ¬ x = y → J cx gg Q σ (pc + 4) lv st) : J cx gg Q σ pc lv (.long y :: .long x :: st) :=
  J_lcmp hc hd (J_if_eq hc tgt hd2 ht (fun h => k1 ((lg_cmp_eq x y).mp h)) (fun h => k2 (mt (lg_cmp_eq x y).mpr h)))
theorem J_lcmp_ne (hc : zOK cx gg cc own nL) {x y : Int64} {off : Int} (tgt : Nat) (hd : decode cc pc = .ok (.lcmp, 1)) (hd2 : decode cc (pc + 1) = .ok (.ifCond .ne off, 3)) (ht : ((pc + 1 : Nat) : Int) + off = (tgt : Int)) (k1 : ¬ x = y → J cx gg Q σ tgt lv st) (k2 : x = y → J cx gg Q σ (pc + 4) lv st) : J cx gg Q σ pc lv (.long y :: .long x :: st) :=
  J_lcmp hc hd (J_if_ne hc tgt hd2 ht (fun h => k1 (fun q => h ((lg_cmp_eq x y).mpr q))) (fun h => k2 ((lg_cmp_eq x y).mp h)))
theorem J_lcmp_lt (hc : zOK cx gg cc own nL) {x y : Int64} {off : Int} (tgt : Nat) (hd : decode cc pc = .ok (.lcmp, 1)) (hd2 : decode cc (pc + 1) = .ok (.ifCond .lt off, 3)) (ht : ((pc + 1 : Nat) : Int) + off = (tgt : Int)) (k1 : x < y → J cx gg Q σ tgt lv st) (k2 : ¬ x < y → J cx gg Q σ (pc + 4) lv st) : J cx gg Q σ pc lv (.long y :: .long x :: st) :=
  J_lcmp hc hd (J_if_lt hc tgt hd2 ht (fun h => k1 ((lg_cmp_lt x y).mp h)) (fun h => k2 (mt (lg_cmp_lt x y).mpr h)))
theorem J_lcmp_ge (hc : zOK cx gg cc own nL) {x y : Int64} {off : Int} (tgt : Nat) (hd : decode cc pc = .ok (.lcmp, 1)) (hd2 : decode cc (pc + 1) = .ok (.ifCond .ge off, 3)) (ht : ((pc + 1 : Nat) : Int) + off = (tgt : Int)) (k1 : y ≤ x → J cx gg Q σ tgt lv st) (k2 : ¬ y ≤ x → J cx gg Q σ (pc + 4) lv st) : J cx gg Q σ pc lv (.long y :: .long x :: st) :=
  J_lcmp hc hd (J_if_ge hc tgt hd2 ht (fun h => k1 ((lg_cmp_ge x y).mp h)) (fun h => k2 (mt (lg_cmp_ge x y).mpr h)))
theorem J_lcmp_gt (hc : zOK cx gg cc own nL) {x y : Int64} {off : Int} (tgt : Nat) (hd : decode cc pc = .ok (.lcmp, 1)) (hd2 : decode cc (pc + 1) = .ok (.ifCond .gt off, 3)) (ht : ((pc + 1 : Nat) : Int) + off = (tgt : Int)) (k1 : y < x → J cx gg Q σ tgt lv st) (k2 : ¬ y < x → J cx gg Q σ (pc + 4) lv st) : J cx gg Q σ pc lv (.long y :: .long x :: st) :=
  J_lcmp hc hd (J_if_gt hc tgt hd2 ht (fun h => k1 ((lg_cmp_gt x y).mp h)) (fun h => k2 (mt (lg_cmp_gt x y).mpr h)))
theorem J_lcmp_le (hc : zOK cx gg cc own nL) {x y : Int64} {off : Int} (tgt : Nat) (hd : decode cc pc = .ok (.lcmp, 1)) (hd2 : decode cc (pc + 1) = .ok (.ifCond .le off, 3)) (ht : ((pc + 1 : Nat) : Int) + off = (tgt : Int)) (k1 : x ≤ y → J cx gg Q σ tgt lv st) (k2 : ¬ x ≤ y → J cx gg Q σ (pc + 4) lv st) : J cx gg Q σ pc lv (.long y :: .long x :: st) :=
  J_lcmp hc hd (J_if_le hc tgt hd2 ht (fun h => k1 ((lg_cmp_le x y).mp h)) (fun h => k2 (mt (lg_cmp_le x y).mpr h)))
theorem J_iload_0 (hc : zOK cx gg cc own nL) {r : List (Option Value)} {v : Int32} (hd : decode cc pc = .ok (.iload 0, 2)) (k : J cx gg Q σ (pc + 2) (some (.int v) :: r) (.int v :: st)) : J cx gg Q σ pc (some (.int v) :: r) st :=
  fun H locs ls hP hS hl => lv_iload hc.1 hc.2.1 hd (hl.2.2 0 _ rfl) (k H locs ls hP hS hl)
theorem J_istore_0 (hc : zOK cx gg cc own nL) {y : Option Value} {r : List (Option Value)} {v : Int32} (hd : decode cc pc = .ok (.istore 0, 2)) (k : J cx gg Q σ (pc + 2) (some (.int v) :: r) st) : J cx gg Q σ pc (y :: r) (.int v :: st) :=
  fun H locs ls hP hS hl => lv_istore (i := 0) hc.1 hc.2.1 hd hl.has (by simp) rfl (fun ls' hl' => k H locs ls' hP hS (zL.set1 (by simp) (fun _ _ h => by omega) hl'))
theorem J_iloadn_0 (hc : zOK cx gg cc own nL) {r : List (Option Value)} {v : Int32} (hd : decode cc pc = .ok (.iload_n 0, 1)) (k : J cx gg Q σ (pc + 1) (some (.int v) :: r) (.int v :: st)) : J cx gg Q σ pc (some (.int v) :: r) st :=
  fun H locs ls hP hS hl => lv_iload_n hc.1 hc.2.1 hd rfl (hl.2.2 0 _ rfl) (k H locs ls hP hS hl)
theorem J_istoren_0 (hc : zOK cx gg cc own nL) {y : Option Value} {r : List (Option Value)} {v : Int32} (hd : decode cc pc = .ok (.istore_n 0, 1)) (k : J cx gg Q σ (pc + 1) (some (.int v) :: r) st) : J cx gg Q σ pc (y :: r) (.int v :: st) :=
  fun H locs ls hP hS hl => lv_istore_n (i := 0) hc.1 hc.2.1 hd rfl hl.has (by simp) rfl (fun ls' hl' => k H locs ls' hP hS (zL.set1 (by simp) (fun _ _ h => by omega) hl'))
theorem J_lload_0 (hc : zOK cx gg cc own nL) {r : List (Option Value)} {v : Int64} (hd : decode cc pc = .ok (.lload 0, 2)) (k : J cx gg Q σ (pc + 2) (some (.long v) :: r) (.long v :: st)) : J cx gg Q σ pc (some (.long v) :: r) st :=
  fun H locs ls hP hS hl => lv_lload hc.1 hc.2.1 hd (hl.2.2 0 _ rfl) (k H locs ls hP hS hl)
theorem J_lstore_0 (hc : zOK cx gg cc own nL) {y y2 : Option Value} {r : List (Option Value)} {v : Int64} (hd : decode cc pc = .ok (.lstore 0, 2)) (k : J cx gg Q σ (pc + 2) (some (.long v) :: none :: r) st) : J cx gg Q σ pc (y :: y2 :: r) (.long v :: st) :=
  fun H locs ls hP hS hl => lv_lstore (i := 0) hc.1 hc.2.1 hd hl.has (by simp) rfl (fun ls' hl' => k H locs ls' hP hS (zL.set2 (by simp) (fun _ _ h => by omega) hl'))
theorem J_lloadn_0 (hc : zOK cx gg cc own nL) {r : List (Option Value)} {v : Int64} (hd : decode cc pc = .ok (.lload_n 0, 1)) (k : J cx gg Q σ (pc + 1) (some (.long v) :: r) (.long v :: st)) : J cx gg Q σ pc (some (.long v) :: r) st :=
  fun H locs ls hP hS hl => lv_lload_n hc.1 hc.2.1 hd rfl (hl.2.2 0 _ rfl) (k H locs ls hP hS hl)
theorem J_lstoren_0 (hc : zOK cx gg cc own nL) {y y2 : Option Value} {r : List (Option Value)} {v : Int64} (hd : decode cc pc = .ok (.lstore_n 0, 1)) (k : J cx gg Q σ (pc + 1) (some (.long v) :: none :: r) st) : J cx gg Q σ pc (y :: y2 :: r) (.long v :: st) :=
  fun H locs ls hP hS hl => lv_lstore_n (i := 0) hc.1 hc.2.1 hd rfl hl.has (by simp) rfl (fun ls' hl' => k H locs ls' hP hS (zL.set2 (by simp) (fun _ _ h => by omega) hl'))
theorem J_aload_0 (hc : zOK cx gg cc own nL) {r : List (Option Value)} {v : Nat} (hd : decode cc pc = .ok (.aload 0, 2)) (k : J cx gg Q σ (pc + 2) (some (.ref v) :: r) (.ref v :: st)) : J cx gg Q σ pc (some (.ref v) :: r) st :=
  fun H locs ls hP hS hl => lv_aload hc.1 hc.2.1 hd (hl.2.2 0 _ rfl) (k H locs ls hP hS hl)
theorem J_astore_0 (hc : zOK cx gg cc own nL) {y : Option Value} {r : List (Option Value)} {v : Nat} (hd : decode cc pc = .ok (.astore 0, 2)) (k : J cx gg Q σ (pc + 2) (some (.ref v) :: r) st) : J cx gg Q σ pc (y :: r) (.ref v :: st) :=
  fun H locs ls hP hS hl => lv_astore (i := 0) hc.1 hc.2.1 hd hl.has (by simp) rfl (fun ls' hl' => k H locs ls' hP hS (zL.set1 (by simp) (fun _ _ h => by omega) hl'))
theorem J_aloadn_0 (hc : zOK cx gg cc own nL) {r : List (Option Value)} {v : Nat} (hd : decode cc pc = .ok (.aload_n 0, 1)) (k : J cx gg Q σ (pc + 1) (some (.ref v) :: r) (.ref v :: st)) : J cx gg Q σ pc (some (.ref v) :: r) st :=
  fun H locs ls hP hS hl => lv_aload_n hc.1 hc.2.1 hd rfl (hl.2.2 0 _ rfl) (k H locs ls hP hS hl)
theorem J_astoren_0 (hc : zOK cx gg cc own nL) {y : Option Value} {r : List (Option Value)} {v : Nat} (hd : decode cc pc = .ok (.astore_n 0, 1)) (k : J cx gg Q σ (pc + 1) (some (.ref v) :: r) st) : J cx gg Q σ pc (y :: r) (.ref v :: st) :=
  fun H locs ls hP hS hl => lv_astore_n (i := 0) hc.1 hc.2.1 hd rfl hl.has (by simp) rfl (fun ls' hl' => k H locs ls' hP hS (zL.set1 (by simp) (fun _ _ h => by omega) hl'))
theorem J_iinc_0 (hc : zOK cx gg cc own nL) {r : List (Option Value)} {v w : Int32} {n : Int} (hd : decode cc pc = .ok (.iinc 0 n, 3)) (hw : v + Int32.ofInt n = w) (k : J cx gg Q σ (pc + 3) (some (.int w) :: r) st) : J cx gg Q σ pc (some (.int v) :: r) st := by
  intro H locs ls hP hS hl
  obtain ⟨kk, hk⟩ := List.getElem?_of_mem ((zpairs_mem _ 0 (0, Value.int v)).mpr ⟨0, (rfl : (some (Value.int v) :: r)[0]? = _), rfl⟩)
  exact lv_iinc hc.1 hc.2.1 hd hl.has hk hw (by simp) rfl (fun ls' hl' => k H locs ls' hP hS (zL.set1 (by simp) (fun _ _ h => by omega) hl'))
theorem J_iload_1 (hc : zOK cx gg cc own nL) {x0 : Option Value} {r : List (Option Value)} {v : Int32} (hd : decode cc pc = .ok (.iload 1, 2)) (k : J cx gg Q σ (pc + 2) (x0 :: some (.int v) :: r) (.int v :: st)) : J cx gg Q σ pc (x0 :: some (.int v) :: r) st :=
  fun H locs ls hP hS hl => lv_iload hc.1 hc.2.1 hd (hl.2.2 1 _ rfl) (k H locs ls hP hS hl)
theorem J_istore_1 (hc : zOK cx gg cc own nL) {x0 : Option Value} {y : Option Value} {r : List (Option Value)} {v : Int32} (hd : decode cc pc = .ok (.istore 1, 2)) (hp : zc1 x0 = true) (k : J cx gg Q σ (pc + 2) (x0 :: some (.int v) :: r) st) : J cx gg Q σ pc (x0 :: y :: r) (.int v :: st) :=
  fun H locs ls hP hS hl => lv_istore (i := 1) hc.1 hc.2.1 hd hl.has (by simp) rfl (fun ls' hl' => k H locs ls' hP hS (zL.set1 (by simp) (zpre (i := 0) hp rfl) hl'))
theorem J_iloadn_1 (hc : zOK cx gg cc own nL) {x0 : Option Value} {r : List (Option Value)} {v : Int32} (hd : decode cc pc = .ok (.iload_n 1, 1)) (k : J cx gg Q σ (pc + 1) (x0 :: some (.int v) :: r) (.int v :: st)) : J cx gg Q σ pc (x0 :: some (.int v) :: r) st :=
  fun H locs ls hP hS hl => lv_iload_n hc.1 hc.2.1 hd rfl (hl.2.2 1 _ rfl) (k H locs ls hP hS hl)
theorem J_istoren_1 (hc : zOK cx gg cc own nL) {x0 : Option Value} {y : Option Value} {r : List (Option Value)} {v : Int32} (hd : decode cc pc = .ok (.istore_n 1, 1)) (hp : zc1 x0 = true) (k : J cx gg Q σ (pc + 1) (x0 :: some (.int v) :: r) st) : J cx gg Q σ pc (x0 :: y :: r) (.int v :: st) :=
  fun H locs ls hP hS hl => lv_istore_n (i := 1) hc.1 hc.2.1 hd rfl hl.has (by simp) rfl (fun ls' hl' => k H locs ls' hP hS (zL.set1 (by simp) (zpre (i := 0) hp rfl) hl'))
theorem J_lload_1 (hc : zOK cx gg cc own nL) {x0 : Option Value} {r : List (Option Value)} {v : Int64} (hd : decode cc pc = .ok (.lload 1, 2)) (k : J cx gg Q σ (pc + 2) (x0 :: some (.long v) :: r) (.long v :: st)) : J cx gg Q σ pc (x0 :: some (.long v) :: r) st :=
  fun H locs ls hP hS hl => lv_lload hc.1 hc.2.1 hd (hl.2.2 1 _ rfl) (k H locs ls hP hS hl)
theorem J_lstore_1 (hc : zOK cx gg cc own nL) {x0 : Option Value} {y y2 : Option Value} {r : List (Option Value)} {v : Int64} (hd : decode cc pc = .ok (.lstore 1, 2)) (hp : zc1 x0 = true) (k : J cx gg Q σ (pc + 2) (x0 :: some (.long v) :: none :: r) st) : J cx gg Q σ pc (x0 :: y :: y2 :: r) (.long v :: st) :=
  fun H locs ls hP hS hl => lv_lstore (i := 1) hc.1 hc.2.1 hd hl.has (by simp) rfl (fun ls' hl' => k H locs ls' hP hS (zL.set2 (by simp) (zpre (i := 0) hp rfl) hl'))
theorem J_lloadn_1 (hc : zOK cx gg cc own nL) {x0 : Option Value} {r : List (Option Value)} {v : Int64} (hd : decode cc pc = .ok (.lload_n 1, 1)) (k : J cx gg Q σ (pc + 1) (x0 :: some (.long v) :: r) (.long v :: st)) : J cx gg Q σ pc (x0 :: some (.long v) :: r) st :=
  fun H locs ls hP hS hl => lv_lload_n hc.1 hc.2.1 hd rfl (hl.2.2 1 _ rfl) (k H locs ls hP hS hl)
theorem J_lstoren_1 (hc : zOK cx gg cc own nL) {x0 : Option Value} {y y2 : Option Value} {r : List (Option Value)} {v : Int64} (hd : decode cc pc = .ok (.lstore_n 1, 1)) (hp : zc1 x0 = true) (k : J cx gg Q σ (pc + 1) (x0 :: some (.long v) :: none :: r) st) : J cx gg Q σ pc (x0 :: y :: y2 :: r) (.long v :: st) :=
  fun H locs ls hP hS hl => lv_lstore_n (i := 1) hc.1 hc.2.1 hd rfl hl.has (by simp) rfl (fun ls' hl' => k H locs ls' hP hS (zL.set2 (by simp) (zpre (i := 0) hp rfl) hl'))
theorem J_aload_1 (hc : zOK cx gg cc own nL) {x0 : Option Value} {r : List (Option Value)} {v : Nat} (hd : decode cc pc = .ok (.aload 1, 2)) (k : J cx gg Q σ (pc + 2) (x0 :: some (.ref v) :: r) (.ref v :: st)) : J cx gg Q σ pc (x0 :: some (.ref v) :: r) st :=
  fun H locs ls hP hS hl => lv_aload hc.1 hc.2.1 hd (hl.2.2 1 _ rfl) (k H locs ls hP hS hl)
theorem J_astore_1 (hc : zOK cx gg cc own nL) {x0 : Option Value} {y : Option Value} {r : List (Option Value)} {v : Nat} (hd : decode cc pc = .ok (.astore 1, 2)) (hp : zc1 x0 = true) (k : J cx gg Q σ (pc + 2) (x0 :: some (.ref v) :: r) st) : J cx gg Q σ pc (x0 :: y :: r) (.ref v :: st) :=
  fun H locs ls hP hS hl => lv_astore (i := 1) hc.1 hc.2.1 hd hl.has (by simp) rfl (fun ls' hl' => k H locs ls' hP hS (zL.set1 (by simp) (zpre (i := 0) hp rfl) hl'))
theorem J_aloadn_1 (hc : zOK cx gg cc own nL) {x0 : Option Value} {r : List (Option Value)} {v : Nat} (hd : decode cc pc = .ok (.aload_n 1, 1)) (k : J cx gg Q σ (pc + 1) (x0 :: some (.ref v) :: r) (.ref v :: st)) : J cx gg Q σ pc (x0 :: some (.ref v) :: r) st :=
  fun H locs ls hP hS hl => lv_aload_n hc.1 hc.2.1 hd rfl (hl.2.2 1 _ rfl) (k H locs ls hP hS hl)
theorem J_astoren_1 (hc : zOK cx gg cc own nL) {x0 : Option Value} {y : Option Value} {r : List (Option Value)} {v : Nat} (hd : decode cc pc = .ok (.astore_n 1, 1)) (hp : zc1 x0 = true) (k : J cx gg Q σ (pc + 1) (x0 :: some (.ref v) :: r) st) : J cx gg Q σ pc (x0 :: y :: r) (.ref v :: st) :=
  fun H locs ls hP hS hl => lv_astore_n (i := 1) hc.1 hc.2.1 hd rfl hl.has (by simp) rfl (fun ls' hl' => k H locs ls' hP hS (zL.set1 (by simp) (zpre (i := 0) hp rfl) hl'))
theorem J_iinc_1 (hc : zOK cx gg cc own nL) {x0 : Option Value} {r : List (Option Value)} {v w : Int32} {n : Int} (hd : decode cc pc = .ok (.iinc 1 n, 3)) (hw : v + Int32.ofInt n = w) (hp : zc1 x0 = true) (k : J cx gg Q σ (pc + 3) (x0 :: some (.int w) :: r) st) : J cx gg Q σ pc (x0 :: some (.int v) :: r) st := by
  intro H locs ls hP hS hl
  obtain ⟨kk, hk⟩ := List.getElem?_of_mem ((zpairs_mem _ 0 (1, Value.int v)).mpr ⟨1, (rfl : (x0 :: some (Value.int v) :: r)[1]? = _), rfl⟩)
  exact lv_iinc hc.1 hc.2.1 hd hl.has hk hw (by simp) rfl (fun ls' hl' => k H locs ls' hP hS (zL.set1 (by simp) (zpre (i := 0) hp rfl) hl'))
theorem J_iload_2 (hc : zOK cx gg cc own nL) {x0 x1 : Option Value} {r : List (Option Value)} {v : Int32} (hd : decode cc pc = .ok (.iload 2, 2)) (k : J cx gg Q σ (pc + 2) (x0 :: x1 :: some (.int v) :: r) (.int v :: st)) : J cx gg Q σ pc (x0 :: x1 :: some (.int v) :: r) st :=
  fun H locs ls hP hS hl => lv_iload hc.1 hc.2.1 hd (hl.2.2 2 _ rfl) (k H locs ls hP hS hl)
theorem J_istore_2 (hc : zOK cx gg cc own nL) {x0 x1 : Option Value} {y : Option Value} {r : List (Option Value)} {v : Int32} (hd : decode cc pc = .ok (.istore 2, 2)) (hp : zc1 x1 = true) (k : J cx gg Q σ (pc + 2) (x0 :: x1 :: some (.int v) :: r) st) : J cx gg Q σ pc (x0 :: x1 :: y :: r) (.int v :: st) :=
  fun H locs ls hP hS hl => lv_istore (i := 2) hc.1 hc.2.1 hd hl.has (by simp) rfl (fun ls' hl' => k H locs ls' hP hS (zL.set1 (by simp) (zpre (i := 1) hp rfl) hl'))
theorem J_iloadn_2 (hc : zOK cx gg cc own nL) {x0 x1 : Option Value} {r : List (Option Value)} {v : Int32} (hd : decode cc pc = .ok (.iload_n 2, 1)) (k : J cx gg Q σ (pc + 1) (x0 :: x1 :: some (.int v) :: r) (.int v :: st)) : J cx gg Q σ pc (x0 :: x1 :: some (.int v) :: r) st :=
  fun H locs ls hP hS hl => lv_iload_n hc.1 hc.2.1 hd rfl (hl.2.2 2 _ rfl) (k H locs ls hP hS hl)
theorem J_istoren_2 (hc : zOK cx gg cc own nL) {x0 x1 : Option Value} {y : Option Value} {r : List (Option Value)} {v : Int32} (hd : decode cc pc = .ok (.istore_n 2, 1)) (hp : zc1 x1 = true) (k : J cx gg Q σ (pc + 1) (x0 :: x1 :: some (.int v) :: r) st) : J cx gg Q σ pc (x0 :: x1 :: y :: r) (.int v :: st) :=
  fun H locs ls hP hS hl => lv_istore_n (i := 2) hc.1 hc.2.1 hd rfl hl.has (by simp) rfl (fun ls' hl' => k H locs ls' hP hS (zL.set1 (by simp) (zpre (i := 1) hp rfl) hl'))
theorem J_lload_2 (hc : zOK cx gg cc own nL) {x0 x1 : Option Value} {r : List (Option Value)} {v : Int64} (hd : decode cc pc = .ok (.lload 2, 2)) (k : J cx gg Q σ (pc + 2) (x0 :: x1 :: some (.long v) :: r) (.long v :: st)) : J cx gg Q σ pc (x0 :: x1 :: some (.long v) :: r) st :=
  fun H locs ls hP hS hl => lv_lload hc.1 hc.2.1 hd (hl.2.2 2 _ rfl) (k H locs ls hP hS hl)
theorem J_lstore_2 (hc : zOK cx gg cc own nL) {x0 x1 : Option Value} {y y2 : Option Value} {r : List (Option Value)} {v : Int64} (hd : decode cc pc = .ok (.lstore 2, 2)) (hp : zc1 x1 = true) (k : J cx gg Q σ (pc + 2) (x0 :: x1 :: some (.long v) :: none :: r) st) : J cx gg Q σ pc (x0 :: x1 :: y :: y2 :: r) (.long v :: st) :=
  fun H locs ls hP hS hl => lv_lstore (i := 2) hc.1 hc.2.1 hd hl.has (by simp) rfl (fun ls' hl' => k H locs ls' hP hS (zL.set2 (by simp) (zpre (i := 1) hp rfl) hl'))
theorem J_lloadn_2 (hc : zOK cx gg cc own nL) {x0 x1 : Option Value} {r : List (Option Value)} {v : Int64} (hd : decode cc pc = .ok (.lload_n 2, 1)) (k : J cx gg Q σ (pc + 1) (x0 :: x1 :: some (.long v) :: r) (.long v :: st)) : J cx gg Q σ pc (x0 :: x1 :: some (.long v) :: r) st :=
  fun H locs ls hP hS hl => lv_lload_n hc.1 hc.2.1 hd rfl (hl.2.2 2 _ rfl) (k H locs ls hP hS hl)
theorem J_lstoren_2 (hc : zOK cx gg cc own nL) {x0 x1 : Option Value} {y y2 : Option Value} {r : List (Option Value)} {v : Int64} (hd : decode cc pc = .ok (.lstore_n 2, 1)) (hp : zc1 x1 = true) (k : J cx gg Q σ (pc + 1) (x0 :: x1 :: some (.long v) :: none :: r) st) : J cx gg Q σ pc (x0 :: x1 :: y :: y2 :: r) (.long v :: st) :=
  fun H locs ls hP hS hl => lv_lstore_n (i := 2) hc.1 hc.2.1 hd rfl hl.has (by simp) rfl (fun ls' hl' => k H locs ls' hP hS (zL.set2 (by simp) (zpre (i := 1) hp rfl) hl'))
theorem J_aload_2 (hc : zOK cx gg cc own nL) {x0 x1 : Option Value} {r : List (Option Value)} {v : Nat} (hd : decode cc pc = .ok (.aload 2, 2)) (k : J cx gg Q σ (pc + 2) (x0 :: x1 :: some (.ref v) :: r) (.ref v :: st)) : J cx gg Q σ pc (x0 :: x1 :: some (.ref v) :: r) st :=
  fun H locs ls hP hS hl => lv_aload hc.1 hc.2.1 hd (hl.2.2 2 _ rfl) (k H locs ls hP hS hl)
theorem J_astore_2 (hc : zOK cx gg cc own nL) {x0 x1 : Option Value} {y : Option Value} {r : List (Option Value)} {v : Nat} (hd : decode cc pc = .ok (.astore 2, 2)) (hp : zc1 x1 = true) (k : J cx gg Q σ (pc + 2) (x0 :: x1 :: some (.ref v) :: r) st) : J cx gg Q σ pc (x0 :: x1 :: y :: r) (.ref v :: st) :=
  fun H locs ls hP hS hl => lv_astore (i := 2) hc.1 hc.2.1 hd hl.has (by simp) rfl (fun ls' hl' => k H locs ls' hP hS (zL.set1 (by simp) (zpre (i := 1) hp rfl) hl'))
theorem J_aloadn_2 (hc : zOK cx gg cc own nL) {x0 x1 : Option Value} {r : List (Option Value)} {v : Nat} (hd : decode cc pc = .ok (.aload_n 2, 1)) (k : J cx gg Q σ (pc + 1) (x0 :: x1 :: some (.ref v) :: r) (.ref v :: st)) : J cx gg Q σ pc (x0 :: x1 :: some (.ref v) :: r) st :=
  fun H locs ls hP hS hl => lv_aload_n hc.1 hc.2.1 hd rfl (hl.2.2 2 _ rfl) (k H locs ls hP hS hl)
theorem J_astoren_2 (hc : zOK cx gg cc own nL) {x0 x1 : Option Value} {y : Option Value} {r : List (Option Value)} {v : Nat} (hd : decode cc pc = .ok (.astore_n 2, 1)) (hp : zc1 x1 = true) (k : J cx gg Q σ (pc + 1) (x0 :: x1 :: some (.ref v) :: r) st) : J cx gg Q σ pc (x0 :: x1 :: y :: r) (.ref v :: st) :=
  fun H locs ls hP hS hl => lv_astore_n (i := 2) hc.1 hc.2.1 hd rfl hl.has (by simp) rfl (fun ls' hl' => k H locs ls' hP hS (zL.set1 (by simp) (zpre (i := 1) hp rfl) hl'))
theorem J_iinc_2 (hc : zOK cx gg cc own nL) {x0 x1 : Option Value} {r : List (Option Value)} {v w : Int32} {n : Int} (hd : decode cc pc = .ok (.iinc 2 n, 3)) (hw : v + Int32.ofInt n = w) (hp : zc1 x1 = true) (k : J cx gg Q σ (pc + 3) (x0 :: x1 :: some (.int w) :: r) st) : J cx gg Q σ pc (x0 :: x1 :: some (.int v) :: r) st := by
  intro H locs ls hP hS hl
  obtain ⟨kk, hk⟩ := List.getElem?_of_mem ((zpairs_mem _ 0 (2, Value.int v)).mpr ⟨2, (rfl : (x0 :: x1 :: some (Value.int v) :: r)[2]? = _), rfl⟩)
  exact lv_iinc hc.1 hc.2.1 hd hl.has hk hw (by simp) rfl (fun ls' hl' => k H locs ls' hP hS (zL.set1 (by simp) (zpre (i := 1) hp rfl) hl'))
theorem J_iload_3 (hc : zOK cx gg cc own nL) {x0 x1 x2 : Option Value} {r : List (Option Value)} {v : Int32} (hd : decode cc pc = .ok (.iload 3, 2)) (k : J cx gg Q σ (pc + 2) (x0 :: x1 :: x2 :: some (.int v) :: r) (.int v :: st)) : J cx gg Q σ pc (x0 :: x1 :: x2 :: some (.int v) :: r) st :=
  fun H locs ls hP hS hl => lv_iload hc.1 hc.2.1 hd (hl.2.2 3 _ rfl) (k H locs ls hP hS hl)
theorem J_istore_3 (hc : zOK cx gg cc own nL) {x0 x1 x2 : Option Value} {y : Option Value} {r : List (Option Value)} {v : Int32} (hd : decode cc pc = .ok (.istore 3, 2)) (hp : zc1 x2 = true) (k : J cx gg Q σ (pc + 2) (x0 :: x1 :: x2 :: some (.int v) :: r) st) : J cx gg Q σ pc (x0 :: x1 :: x2 :: y :: r) (.int v :: st) :=
  fun H locs ls hP hS hl => lv_istore (i := 3) hc.1 hc.2.1 hd hl.has (by simp) rfl (fun ls' hl' => k H locs ls' hP hS (zL.set1 (by simp) (zpre (i := 2) hp rfl) hl'))
theorem J_iloadn_3 (hc : zOK cx gg cc own nL) {x0 x1 x2 : Option Value} {r : List (Option Value)} {v : Int32} (hd : decode cc pc = .ok (.iload_n 3, 1)) (k : J cx gg Q σ (pc + 1) (x0 :: x1 :: x2 :: some (.int v) :: r) (.int v :: st)) : J cx gg Q σ pc (x0 :: x1 :: x2 :: some (.int v) :: r) st :=
  fun H locs ls hP hS hl => lv_iload_n hc.1 hc.2.1 hd rfl (hl.2.2 3 _ rfl) (k H locs ls hP hS hl)
theorem J_istoren_3 (hc : zOK cx gg cc own nL) {x0 x1 x2 : Option Value} {y : Option Value} {r : List (Option Value)} {v : Int32} (hd : decode cc pc = .ok (.istore_n 3, 1)) (hp : zc1 x2 = true) (k : J cx gg Q σ (pc + 1) (x0 :: x1 :: x2 :: some (.int v) :: r) st) : J cx gg Q σ pc (x0 :: x1 :: x2 :: y :: r) (.int v :: st) :=
  fun H locs ls hP hS hl => lv_istore_n (i := 3) hc.1 hc.2.1 hd rfl hl.has (by simp) rfl (fun ls' hl' => k H locs ls' hP hS (zL.set1 (by simp) (zpre (i := 2) hp rfl) hl'))
theorem J_lload_3 (hc : zOK cx gg cc own nL) {x0 x1 x2 : Option Value} {r : List (Option Value)} {v : Int64} (hd : decode cc pc = .ok (.lload 3, 2)) (k : J cx gg Q σ (pc + 2) (x0 :: x1 :: x2 :: some (.long v) :: r) (.long v :: st)) : J cx gg Q σ pc (x0 :: x1 :: x2 :: some (.long v) :: r) st :=
  fun H locs ls hP hS hl => lv_lload hc.1 hc.2.1 hd (hl.2.2 3 _ rfl) (k H locs ls hP hS hl)
theorem J_lstore_3 (hc : zOK cx gg cc own nL) {x0 x1 x2 : Option Value} {y y2 : Option Value} {r : List (Option Value)} {v : Int64} (hd : decode cc pc = .ok (.lstore 3, 2)) (hp : zc1 x2 = true) (k : J cx gg Q σ (pc + 2) (x0 :: x1 :: x2 :: some (.long v) :: none :: r) st) : J cx gg Q σ pc (x0 :: x1 :: x2 :: y :: y2 :: r) (.long v :: st) :=
  fun H locs ls hP hS hl => lv_lstore (i := 3) hc.1 hc.2.1 hd hl.has (by simp) rfl (fun ls' hl' => k H locs ls' hP hS (zL.set2 (by simp) (zpre (i := 2) hp rfl) hl'))
theorem J_lloadn_3 (hc : zOK cx gg cc own nL) {x0 x1 x2 : Option Value} {r : List (Option Value)} {v : Int64} (hd : decode cc pc = .ok (.lload_n 3, 1)) (k : J cx gg Q σ (pc + 1) (x0 :: x1 :: x2 :: some (.long v) :: r) (.long v :: st)) : J cx gg Q σ pc (x0 :: x1 :: x2 :: some (.long v) :: r) st :=
  fun H locs ls hP hS hl => lv_lload_n hc.1 hc.2.1 hd rfl (hl.2.2 3 _ rfl) (k H locs ls hP hS hl)
theorem J_lstoren_3 (hc : zOK cx gg cc own nL) {x0 x1 x2 : Option Value} {y y2 : Option Value} {r : List (Option Value)} {v : Int64} (hd : decode cc pc = .ok (.lstore_n 3, 1)) (hp : zc1 x2 = true) (k : J cx gg Q σ (pc + 1) (x0 :: x1 :: x2 :: some (.long v) :: none :: r) st) : J cx gg Q σ pc (x0 :: x1 :: x2 :: y :: y2 :: r) (.long v :: st) :=
  fun H locs ls hP hS hl => lv_lstore_n (i := 3) hc.1 hc.2.1 hd rfl hl.has (by simp) rfl (fun ls' hl' => k H locs ls' hP hS (zL.set2 (by simp) (zpre (i := 2) hp rfl) hl'))
theorem J_aload_3 (hc : zOK cx gg cc own nL) {x0 x1 x2 : Option Value} {r : List (Option Value)} {v : Nat} (hd : decode cc pc = .ok (.aload 3, 2)) (k : J cx gg Q σ (pc + 2) (x0 :: x1 :: x2 :: some (.ref v) :: r) (.ref v :: st)) : J cx gg Q σ pc (x0 :: x1 :: x2 :: some (.ref v) :: r) st :=
  fun H locs ls hP hS hl => lv_aload hc.1 hc.2.1 hd (hl.2.2 3 _ rfl) (k H locs ls hP hS hl)
theorem J_astore_3 (hc : zOK cx gg cc own nL) {x0 x1 x2 : Option Value} {y : Option Value} {r : List (Option Value)} {v : Nat} (hd : decode cc pc = .ok (.astore 3, 2)) (hp : zc1 x2 = true) (k : J cx gg Q σ (pc + 2) (x0 :: x1 :: x2 :: some (.ref v) :: r) st) : J cx gg Q σ pc (x0 :: x1 :: x2 :: y :: r) (.ref v :: st) :=
  fun H locs ls hP hS hl => lv_astore (i := 3) hc.1 hc.2.1 hd hl.has (by simp) rfl (fun ls' hl' => k H locs ls' hP hS (zL.set1 (by simp) (zpre (i := 2) hp rfl) hl'))
theorem J_aloadn_3 (hc : zOK cx gg cc own nL) {x0 x1 x2 : Option Value} {r : List (Option Value)} {v : Nat} (hd : decode cc pc = .ok (.aload_n 3, 1)) (k : J cx gg Q σ (pc + 1) (x0 :: x1 :: x2 :: some (.ref v) :: r) (.ref v :: st)) : J cx gg Q σ pc (x0 :: x1 :: x2 :: some (.ref v) :: r) st :=
  fun H locs ls hP hS hl => lv_aload_n hc.1 hc.2.1 hd rfl (hl.2.2 3 _ rfl) (k H locs ls hP hS hl)
theorem J_astoren_3 (hc : zOK cx gg cc own nL) {x0 x1 x2 : Option Value} {y : Option Value} {r : List (Option Value)} {v : Nat} (hd : decode cc pc = .ok (.astore_n 3, 1)) (hp : zc1 x2 = true) (k : J cx gg Q σ (pc + 1) (x0 :: x1 :: x2 :: some (.ref v) :: r) st) : J cx gg Q σ pc (x0 :: x1 :: x2 :: y :: r) (.ref v :: st) :=
  fun H locs ls hP hS hl => lv_astore_n (i := 3) hc.1 hc.2.1 hd rfl hl.has (by simp) rfl (fun ls' hl' => k H locs ls' hP hS (zL.set1 (by simp) (zpre (i := 2) hp rfl) hl'))
theorem J_iinc_3 (hc : zOK cx gg cc own nL) {x0 x1 x2 : Option Value} {r : List (Option Value)} {v w : Int32} {n : Int} (hd : decode cc pc = .ok (.iinc 3 n, 3)) (hw : v + Int32.ofInt n = w) (hp : zc1 x2 = true) (k : J cx gg Q σ (pc + 3) (x0 :: x1 :: x2 :: some (.int w) :: r) st) : J cx gg Q σ pc (x0 :: x1 :: x2 :: some (.int v) :: r) st := by
  intro H locs ls hP hS hl
  obtain ⟨kk, hk⟩ := List.getElem?_of_mem ((zpairs_mem _ 0 (3, Value.int v)).mpr ⟨3, (rfl : (x0 :: x1 :: x2 :: some (Value.int v) :: r)[3]? = _), rfl⟩)
  exact lv_iinc hc.1 hc.2.1 hd hl.has hk hw (by simp) rfl (fun ls' hl' => k H locs ls' hP hS (zL.set1 (by simp) (zpre (i := 2) hp rfl) hl'))
theorem J_iload_4 (hc : zOK cx gg cc own nL) {x0 x1 x2 x3 : Option Value} {r : List (Option Value)} {v : Int32} (hd : decode cc pc = .ok (.iload 4, 2)) (k : J cx gg Q σ (pc + 2) (x0 :: x1 :: x2 :: x3 :: some (.int v) :: r) (.int v :: st)) : J cx gg Q σ pc (x0 :: x1 :: x2 :: x3 :: some (.int v) :: r) st :=
  fun H locs ls hP hS hl => lv_iload hc.1 hc.2.1 hd (hl.2.2 4 _ rfl) (k H locs ls hP hS hl)
theorem J_istore_4 (hc : zOK cx gg cc own nL) {x0 x1 x2 x3 : Option Value} {y : Option Value} {r : List (Option Value)} {v : Int32} (hd : decode cc pc = .ok (.istore 4, 2)) (hp : zc1 x3 = true) (k : J cx gg Q σ (pc + 2) (x0 :: x1 :: x2 :: x3 :: some (.int v) :: r) st) : J cx gg Q σ pc (x0 :: x1 :: x2 :: x3 :: y :: r) (.int v :: st) :=
  fun H locs ls hP hS hl => lv_istore (i := 4) hc.1 hc.2.1 hd hl.has (by simp) rfl (fun ls' hl' => k H locs ls' hP hS (zL.set1 (by simp) (zpre (i := 3) hp rfl) hl'))
theorem J_lload_4 (hc : zOK cx gg cc own nL) {x0 x1 x2 x3 : Option Value} {r : List (Option Value)} {v : Int64} (hd : decode cc pc = .ok (.lload 4, 2)) (k : J cx gg Q σ (pc + 2) (x0 :: x1 :: x2 :: x3 :: some (.long v) :: r) (.long v :: st)) : J cx gg Q σ pc (x0 :: x1 :: x2 :: x3 :: some (.long v) :: r) st :=
  fun H locs ls hP hS hl => lv_lload hc.1 hc.2.1 hd (hl.2.2 4 _ rfl) (k H locs ls hP hS hl)
theorem J_lstore_4 (hc : zOK cx gg cc own nL) {x0 x1 x2 x3 : Option Value} {y y2 : Option Value} {r : List (Option Value)} {v : Int64} (hd : decode cc pc = .ok (.lstore 4, 2)) (hp : zc1 x3 = true) (k : J cx gg Q σ (pc + 2) (x0 :: x1 :: x2 :: x3 :: some (.long v) :: none :: r) st) : J cx gg Q σ pc (x0 :: x1 :: x2 :: x3 :: y :: y2 :: r) (.long v :: st) :=
  fun H locs ls hP hS hl => lv_lstore (i := 4) hc.1 hc.2.1 hd hl.has (by simp) rfl (fun ls' hl' => k H locs ls' hP hS (zL.set2 (by simp) (zpre (i := 3) hp rfl) hl'))
theorem J_aload_4 (hc : zOK cx gg cc own nL) {x0 x1 x2 x3 : Option Value} {r : List (Option Value)} {v : Nat} (hd : decode cc pc = .ok (.aload 4, 2)) (k : J cx gg Q σ (pc + 2) (x0 :: x1 :: x2 :: x3 :: some (.ref v) :: r) (.ref v :: st)) : J cx gg Q σ pc (x0 :: x1 :: x2 :: x3 :: some (.ref v) :: r) st :=
  fun H locs ls hP hS hl => lv_aload hc.1 hc.2.1 hd (hl.2.2 4 _ rfl) (k H locs ls hP hS hl)
theorem J_astore_4 (hc : zOK cx gg cc own nL) {x0 x1 x2 x3 : Option Value} {y : Option Value} {r : List (Option Value)} {v : Nat} (hd : decode cc pc = .ok (.astore 4, 2)) (hp : zc1 x3 = true) (k : J cx gg Q σ (pc + 2) (x0 :: x1 :: x2 :: x3 :: some (.ref v) :: r) st) : J cx gg Q σ pc (x0 :: x1 :: x2 :: x3 :: y :: r) (.ref v :: st) :=
  fun H locs ls hP hS hl => lv_astore (i := 4) hc.1 hc.2.1 hd hl.has (by simp) rfl (fun ls' hl' => k H locs ls' hP hS (zL.set1 (by simp) (zpre (i := 3) hp rfl) hl'))
theorem J_iinc_4 (hc : zOK cx gg cc own nL) {x0 x1 x2 x3 : Option Value} {r : List (Option Value)} {v w : Int32} {n : Int} (hd : decode cc pc = .ok (.iinc 4 n, 3)) (hw : v + Int32.ofInt n = w) (hp : zc1 x3 = true) (k : J cx gg Q σ (pc + 3) (x0 :: x1 :: x2 :: x3 :: some (.int w) :: r) st) : J cx gg Q σ pc (x0 :: x1 :: x2 :: x3 :: some (.int v) :: r) st := by
  intro H locs ls hP hS hl
  obtain ⟨kk, hk⟩ := List.getElem?_of_mem ((zpairs_mem _ 0 (4, Value.int v)).mpr ⟨4, (rfl : (x0 :: x1 :: x2 :: x3 :: some (Value.int v) :: r)[4]? = _), rfl⟩)
  exact lv_iinc hc.1 hc.2.1 hd hl.has hk hw (by simp) rfl (fun ls' hl' => k H locs ls' hP hS (zL.set1 (by simp) (zpre (i := 3) hp rfl) hl'))
theorem J_iload_5 (hc : zOK cx gg cc own nL) {x0 x1 x2 x3 x4 : Option Value} {r : List (Option Value)} {v : Int32} (hd : decode cc pc = .ok (.iload 5, 2)) (k : J cx gg Q σ (pc + 2) (x0 :: x1 :: x2 :: x3 :: x4 :: some (.int v) :: r) (.int v :: st)) : J cx gg Q σ pc (x0 :: x1 :: x2 :: x3 :: x4 :: some (.int v) :: r) st :=
  fun H locs ls hP hS hl => lv_iload hc.1 hc.2.1 hd (hl.2.2 5 _ rfl) (k H locs ls hP hS hl)
theorem J_istore_5 (hc : zOK cx gg cc own nL) {x0 x1 x2 x3 x4 : Option Value} {y : Option Value} {r : List (Option Value)} {v : Int32} (hd : decode cc pc = .ok (.istore 5, 2)) (hp : zc1 x4 = true) (k : J cx gg Q σ (pc + 2) (x0 :: x1 :: x2 :: x3 :: x4 :: some (.int v) :: r) st) : J cx gg Q σ pc (x0 :: x1 :: x2 :: x3 :: x4 :: y :: r) (.int v :: st) :=
  fun H locs ls hP hS hl => lv_istore (i := 5) hc.1 hc.2.1 hd hl.has (by simp) rfl (fun ls' hl' => k H locs ls' hP hS (zL.set1 (by simp) (zpre (i := 4) hp rfl) hl'))
theorem J_lload_5 (hc : zOK cx gg cc own nL) {x0 x1 x2 x3 x4 : Option Value} {r : List (Option Value)} {v : Int64} (hd : decode cc pc = .ok (.lload 5, 2)) (k : J cx gg Q σ (pc + 2) (x0 :: x1 :: x2 :: x3 :: x4 :: some (.long v) :: r) (.long v :: st)) : J cx gg Q σ pc (x0 :: x1 :: x2 :: x3 :: x4 :: some (.long v) :: r) st :=
  fun H locs ls hP hS hl => lv_lload hc.1 hc.2.1 hd (hl.2.2 5 _ rfl) (k H locs ls hP hS hl)
theorem J_lstore_5 (hc : zOK cx gg cc own nL) {x0 x1 x2 x3 x4 : Option Value} {y y2 : Option Value} {r : List (Option Value)} {v : Int64} (hd : decode cc pc = .ok (.lstore 5, 2)) (hp : zc1 x4 = true) (k : J cx gg Q σ (pc + 2) (x0 :: x1 :: x2 :: x3 :: x4 :: some (.long v) :: none :: r) st) : J cx gg Q σ pc (x0 :: x1 :: x2 :: x3 :: x4 :: y :: y2 :: r) (.long v :: st) :=
  fun H locs ls hP hS hl => lv_lstore (i := 5) hc.1 hc.2.1 hd hl.has (by simp) rfl (fun ls' hl' => k H locs ls' hP hS (zL.set2 (by simp) (zpre (i := 4) hp rfl) hl'))
theorem J_aload_5 (hc : zOK cx gg cc own nL) {x0 x1 x2 x3 x4 : Option Value} {r : List (Option Value)} {v : Nat} (hd : decode cc pc = .ok (.aload 5, 2)) (k : J cx gg Q σ (pc + 2) (x0 :: x1 :: x2 :: x3 :: x4 :: some (.ref v) :: r) (.ref v :: st)) : J cx gg Q σ pc (x0 :: x1 :: x2 :: x3 :: x4 :: some (.ref v) :: r) st :=
  fun H locs ls hP hS hl => lv_aload hc.1 hc.2.1 hd (hl.2.2 5 _ rfl) (k H locs ls hP hS hl)
theorem J_astore_5 (hc : zOK cx gg cc own nL) {x0 x1 x2 x3 x4 : Option Value} {y : Option Value} {r : List (Option Value)} {v : Nat} (hd : decode cc pc = .ok (.astore 5, 2)) (hp : zc1 x4 = true) (k : J cx gg Q σ (pc + 2) (x0 :: x1 :: x2 :: x3 :: x4 :: some (.ref v) :: r) st) : J cx gg Q σ pc (x0 :: x1 :: x2 :: x3 :: x4 :: y :: r) (.ref v :: st) :=
  fun H locs ls hP hS hl => lv_astore (i := 5) hc.1 hc.2.1 hd hl.has (by simp) rfl (fun ls' hl' => k H locs ls' hP hS (zL.set1 (by simp) (zpre (i := 4) hp rfl) hl'))
theorem J_iinc_5 (hc : zOK cx gg cc own nL) {x0 x1 x2 x3 x4 : Option Value} {r : List (Option Value)} {v w : Int32} {n : Int} (hd : decode cc pc = .ok (.iinc 5 n, 3)) (hw : v + Int32.ofInt n = w) (hp : zc1 x4 = true) (k : J cx gg Q σ (pc + 3) (x0 :: x1 :: x2 :: x3 :: x4 :: some (.int w) :: r) st) : J cx gg Q σ pc (x0 :: x1 :: x2 :: x3 :: x4 :: some (.int v) :: r) st := by
  intro H locs ls hP hS hl
  obtain ⟨kk, hk⟩ := List.getElem?_of_mem ((zpairs_mem _ 0 (5, Value.int v)).mpr ⟨5, (rfl : (x0 :: x1 :: x2 :: x3 :: x4 :: some (Value.int v) :: r)[5]? = _), rfl⟩)
  exact lv_iinc hc.1 hc.2.1 hd hl.has hk hw (by simp) rfl (fun ls' hl' => k H locs ls' hP hS (zL.set1 (by simp) (zpre (i := 4) hp rfl) hl'))
theorem J_iload_6 (hc : zOK cx gg cc own nL) {x0 x1 x2 x3 x4 x5 : Option Value} {r : List (Option Value)} {v : Int32} (hd : decode cc pc = .ok (.iload 6, 2)) (k : J cx gg Q σ (pc + 2) (x0 :: x1 :: x2 :: x3 :: x4 :: x5 :: some (.int v) :: r) (.int v :: st)) : J cx gg Q σ pc (x0 :: x1 :: x2 :: x3 :: x4 :: x5 :: some (.int v) :: r) st :=
  fun H locs ls hP hS hl => lv_iload hc.1 hc.2.1 hd (hl.2.2 6 _ rfl) (k H locs ls hP hS hl)
theorem J_istore_6 (hc : zOK cx gg cc own nL) {x0 x1 x2 x3 x4 x5 : Option Value} {y : Option Value} {r : List (Option Value)} {v : Int32} (hd : decode cc pc = .ok (.istore 6, 2)) (hp : zc1 x5 = true) (k : J cx gg Q σ (pc + 2) (x0 :: x1 :: x2 :: x3 :: x4 :: x5 :: some (.int v) :: r) st) : J cx gg Q σ pc (x0 :: x1 :: x2 :: x3 :: x4 :: x5 :: y :: r) (.int v :: st) :=
  fun H locs ls hP hS hl => lv_istore (i := 6) hc.1 hc.2.1 hd hl.has (by simp) rfl (fun ls' hl' => k H locs ls' hP hS (zL.set1 (by simp) (zpre (i := 5) hp rfl) hl'))
theorem J_lload_6 (hc : zOK cx gg cc own nL) {x0 x1 x2 x3 x4 x5 : Option Value} {r : List (Option Value)} {v : Int64} (hd : decode cc pc = .ok (.lload 6, 2)) (k : J cx gg Q σ (pc + 2) (x0 :: x1 :: x2 :: x3 :: x4 :: x5 :: some (.long v) :: r) (.long v :: st)) : J cx gg Q σ pc (x0 :: x1 :: x2 :: x3 :: x4 :: x5 :: some (.long v) :: r) st :=
  fun H locs ls hP hS hl => lv_lload hc.1 hc.2.1 hd (hl.2.2 6 _ rfl) (k H locs ls hP hS hl)
theorem J_lstore_6 (hc : zOK cx gg cc own nL) {x0 x1 x2 x3 x4 x5 : Option Value} {y y2 : Option Value} {r : List (Option Value)} {v : Int64} (hd : decode cc pc = .ok (.lstore 6, 2)) (hp : zc1 x5 = true) (k : J cx gg Q σ (pc + 2) (x0 :: x1 :: x2 :: x3 :: x4 :: x5 :: some (.long v) :: none :: r) st) : J cx gg Q σ pc (x0 :: x1 :: x2 :: x3 :: x4 :: x5 :: y :: y2 :: r) (.long v :: st) :=
  fun H locs ls hP hS hl => lv_lstore (i := 6) hc.1 hc.2.1 hd hl.has (by simp) rfl (fun ls' hl' => k H locs ls' hP hS (zL.set2 (by simp) (zpre (i := 5) hp rfl) hl'))
theorem J_aload_6 (hc : zOK cx gg cc own nL) {x0 x1 x2 x3 x4 x5 : Option Value} {r : List (Option Value)} {v : Nat} (hd : decode cc pc = .ok (.aload 6, 2)) (k : J cx gg Q σ (pc + 2) (x0 :: x1 :: x2 :: x3 :: x4 :: x5 :: some (.ref v) :: r) (.ref v :: st)) : J cx gg Q σ pc (x0 :: x1 :: x2 :: x3 :: x4 :: x5 :: some (.ref v) :: r) st :=
  fun H locs ls hP hS hl => lv_aload hc.1 hc.2.1 hd (hl.2.2 6 _ rfl) (k H locs ls hP hS hl)
theorem J_astore_6 (hc : zOK cx gg cc own nL) {x0 x1 x2 x3 x4 x5 : Option Value} {y : Option Value} {r : List (Option Value)} {v : Nat} (hd : decode cc pc = .ok (.astore 6, 2)) (hp : zc1 x5 = true) (k : J cx gg Q σ (pc + 2) (x0 :: x1 :: x2 :: x3 :: x4 :: x5 :: some (.ref v) :: r) st) : J cx gg Q σ pc (x0 :: x1 :: x2 :: x3 :: x4 :: x5 :: y :: r) (.ref v :: st) :=
  fun H locs ls hP hS hl => lv_astore (i := 6) hc.1 hc.2.1 hd hl.has (by simp) rfl (fun ls' hl' => k H locs ls' hP hS (zL.set1 (by simp) (zpre (i := 5) hp rfl) hl'))
theorem J_iinc_6 (hc : zOK cx gg cc own nL) {x0 x1 x2 x3 x4 x5 : Option Value} {r : List (Option Value)} {v w : Int32} {n : Int} (hd : decode cc pc = .ok (.iinc 6 n, 3)) (hw : v + Int32.ofInt n = w) (hp : zc1 x5 = true) (k : J cx gg Q σ (pc + 3) (x0 :: x1 :: x2 :: x3 :: x4 :: x5 :: some (.int w) :: r) st) : J cx gg Q σ pc (x0 :: x1 :: x2 :: x3 :: x4 :: x5 :: some (.int v) :: r) st := by
  intro H locs ls hP hS hl
  obtain ⟨kk, hk⟩ := List.getElem?_of_mem ((zpairs_mem _ 0 (6, Value.int v)).mpr ⟨6, (rfl : (x0 :: x1 :: x2 :: x3 :: x4 :: x5 :: some (Value.int v) :: r)[6]? = _), rfl⟩)
  exact lv_iinc hc.1 hc.2.1 hd hl.has hk hw (by simp) rfl (fun ls' hl' => k H locs ls' hP hS (zL.set1 (by simp) (zpre (i := 5) hp rfl) hl'))
theorem J_iload_7 (hc : zOK cx gg cc own nL) {x0 x1 x2 x3 x4 x5 x6 : Option Value} {r : List (Option Value)} {v : Int32} (hd : decode cc pc = .ok (.iload 7, 2)) (k : J cx gg Q σ (pc + 2) (x0 :: x1 :: x2 :: x3 :: x4 :: x5 :: x6 :: some (.int v) :: r) (.int v :: st)) : J cx gg Q σ pc (x0 :: x1 :: x2 :: x3 :: x4 :: x5 :: x6 :: some (.int v) :: r) st :=
  fun H locs ls hP hS hl => lv_iload hc.1 hc.2.1 hd (hl.2.2 7 _ rfl) (k H locs ls hP hS hl)
theorem J_istore_7 (hc : zOK cx gg cc own nL) {x0 x1 x2 x3 x4 x5 x6 : Option Value} {y : Option Value} {r : List (Option Value)} {v : Int32} (hd : decode cc pc = .ok (.istore 7, 2)) (hp : zc1 x6 = true) (k : J cx gg Q σ (pc + 2) (x0 :: x1 :: x2 :: x3 :: x4 :: x5 :: x6 :: some (.int v) :: r) st) : J cx gg Q σ pc (x0 :: x1 :: x2 :: x3 :: x4 :: x5 :: x6 :: y :: r) (.int v :: st) :=
  fun H locs ls hP hS hl => lv_istore (i := 7) hc.1 hc.2.1 hd hl.has (by simp) rfl (fun ls' hl' => k H locs ls' hP hS (zL.set1 (by simp) (zpre (i := 6) hp rfl) hl'))
theorem J_lload_7 (hc : zOK cx gg cc own nL) {x0 x1 x2 x3 x4 x5 x6 : Option Value} {r : List (Option Value)} {v : Int64} (hd : decode cc pc = .ok (.lload 7, 2)) (k : J cx gg Q σ (pc + 2) (x0 :: x1 :: x2 :: x3 :: x4 :: x5 :: x6 :: some (.long v) :: r) (.long v :: st)) : J cx gg Q σ pc (x0 :: x1 :: x2 :: x3 :: x4 :: x5 :: x6 :: some (.long v) :: r) st :=
  fun H locs ls hP hS hl => lv_lload hc.1 hc.2.1 hd (hl.2.2 7 _ rfl) (k H locs ls hP hS hl)
theorem J_lstore_7 (hc : zOK cx gg cc own nL) {x0 x1 x2 x3 x4 x5 x6 : Option Value} {y y2 : Option Value} {r : List (Option Value)} {v : Int64} (hd : decode cc pc = .ok (.lstore 7, 2)) (hp : zc1 x6 = true) (k : J cx gg Q σ (pc + 2) (x0 :: x1 :: x2 :: x3 :: x4 :: x5 :: x6 :: some (.long v) :: none :: r) st) : J cx gg Q σ pc (x0 :: x1 :: x2 :: x3 :: x4 :: x5 :: x6 :: y :: y2 :: r) (.long v :: st) :=
  fun H locs ls hP hS hl => lv_lstore (i := 7) hc.1 hc.2.1 hd hl.has (by simp) rfl (fun ls' hl' => k H locs ls' hP hS (zL.set2 (by simp) (zpre (i := 6) hp rfl) hl'))
theorem J_aload_7 (hc : zOK cx gg cc own nL) {x0 x1 x2 x3 x4 x5 x6 : Option Value} {r : List (Option Value)} {v : Nat} (hd : decode cc pc = .ok (.aload 7, 2)) (k : J cx gg Q σ (pc + 2) (x0 :: x1 :: x2 :: x3 :: x4 :: x5 :: x6 :: some (.ref v) :: r) (.ref v :: st)) : J cx gg Q σ pc (x0 :: x1 :: x2 :: x3 :: x4 :: x5 :: x6 :: some (.ref v) :: r) st :=
  fun H locs ls hP hS hl => lv_aload hc.1 hc.2.1 hd (hl.2.2 7 _ rfl) (k H locs ls hP hS hl)
theorem J_astore_7 (hc : zOK cx gg cc own nL) {x0 x1 x2 x3 x4 x5 x6 : Option Value} {y : Option Value} {r : List (Option Value)} {v : Nat} (hd : decode cc pc = .ok (.astore 7, 2)) (hp : zc1 x6 = true) (k : J cx gg Q σ (pc + 2) (x0 :: x1 :: x2 :: x3 :: x4 :: x5 :: x6 :: some (.ref v) :: r) st) : J cx gg Q σ pc (x0 :: x1 :: x2 :: x3 :: x4 :: x5 :: x6 :: y :: r) (.ref v :: st) :=
  fun H locs ls hP hS hl => lv_astore (i := 7) hc.1 hc.2.1 hd hl.has (by simp) rfl (fun ls' hl' => k H locs ls' hP hS (zL.set1 (by simp) (zpre (i := 6) hp rfl) hl'))
theorem J_iinc_7 (hc : zOK cx gg cc own nL) {x0 x1 x2 x3 x4 x5 x6 : Option Value} {r : List (Option Value)} {v w : Int32} {n : Int} (hd : decode cc pc = .ok (.iinc 7 n, 3)) (hw : v + Int32.ofInt n = w) (hp : zc1 x6 = true) (k : J cx gg Q σ (pc + 3) (x0 :: x1 :: x2 :: x3 :: x4 :: x5 :: x6 :: some (.int w) :: r) st) : J cx gg Q σ pc (x0 :: x1 :: x2 :: x3 :: x4 :: x5 :: x6 :: some (.int v) :: r) st := by
  intro H locs ls hP hS hl
  obtain ⟨kk, hk⟩ := List.getElem?_of_mem ((zpairs_mem _ 0 (7, Value.int v)).mpr ⟨7, (rfl : (x0 :: x1 :: x2 :: x3 :: x4 :: x5 :: x6 :: some (Value.int v) :: r)[7]? = _), rfl⟩)
  exact lv_iinc hc.1 hc.2.1 hd hl.has hk hw (by simp) rfl (fun ls' hl' => k H locs ls' hP hS (zL.set1 (by simp) (zpre (i := 6) hp rfl) hl'))
theorem J_iload_8 (hc : zOK cx gg cc own nL) {x0 x1 x2 x3 x4 x5 x6 x7 : Option Value} {r : List (Option Value)} {v : Int32} (hd : decode cc pc = .ok (.iload 8, 2)) (k : J cx gg Q σ (pc + 2) (x0 :: x1 :: x2 :: x3 :: x4 :: x5 :: x6 :: x7 :: some (.int v) :: r) (.int v :: st)) : J cx gg Q σ pc (x0 :: x1 :: x2 :: x3 :: x4 :: x5 :: x6 :: x7 :: some (.int v) :: r) st :=
  fun H locs ls hP hS hl => lv_iload hc.1 hc.2.1 hd (hl.2.2 8 _ rfl) (k H locs ls hP hS hl)
theorem J_istore_8 (hc : zOK cx gg cc own nL) {x0 x1 x2 x3 x4 x5 x6 x7 : Option Value} {y : Option Value} {r : List (Option Value)} {v : Int32} (hd : decode cc pc = .ok (.istore 8, 2)) (hp : zc1 x7 = true) (k : J cx gg Q σ (pc + 2) (x0 :: x1 :: x2 :: x3 :: x4 :: x5 :: x6 :: x7 :: some (.int v) :: r) st) : J cx gg Q σ pc (x0 :: x1 :: x2 :: x3 :: x4 :: x5 :: x6 :: x7 :: y :: r) (.int v :: st) :=
  fun H locs ls hP hS hl => lv_istore (i := 8) hc.1 hc.2.1 hd hl.has (by simp) rfl (fun ls' hl' => k H locs ls' hP hS (zL.set1 (by simp) (zpre (i := 7) hp rfl) hl'))
theorem J_lload_8 (hc : zOK cx gg cc own nL) {x0 x1 x2 x3 x4 x5 x6 x7 : Option Value} {r : List (Option Value)} {v : Int64} (hd : decode cc pc = .ok (.lload 8, 2)) (k : J cx gg Q σ (pc + 2) (x0 :: x1 :: x2 :: x3 :: x4 :: x5 :: x6 :: x7 :: some (.long v) :: r) (.long v :: st)) : J cx gg Q σ pc (x0 :: x1 :: x2 :: x3 :: x4 :: x5 :: x6 :: x7 :: some (.long v) :: r) st :=
  fun H locs ls hP hS hl => lv_lload hc.1 hc.2.1 hd (hl.2.2 8 _ rfl) (k H locs ls hP hS hl)
theorem J_lstore_8 (hc : zOK cx gg cc own nL) {x0 x1 x2 x3 x4 x5 x6 x7 : Option Value} {y y2 : Option Value} {r : List (Option Value)} {v : Int64} (hd : decode cc pc = .ok (.lstore 8, 2)) (hp : zc1 x7 = true) (k : J cx gg Q σ (pc + 2) (x0 :: x1 :: x2 :: x3 :: x4 :: x5 :: x6 :: x7 :: some (.long v) :: none :: r) st) : J cx gg Q σ pc (x0 :: x1 :: x2 :: x3 :: x4 :: x5 :: x6 :: x7 :: y :: y2 :: r) (.long v :: st) :=
  fun H locs ls hP hS hl => lv_lstore (i := 8) hc.1 hc.2.1 hd hl.has (by simp) rfl (fun ls' hl' => k H locs ls' hP hS (zL.set2 (by simp) (zpre (i := 7) hp rfl) hl'))
theorem J_aload_8 (hc : zOK cx gg cc own nL) {x0 x1 x2 x3 x4 x5 x6 x7 : Option Value} {r : List (Option Value)} {v : Nat} (hd : decode cc pc = .ok (.aload 8, 2)) (k : J cx gg Q σ (pc + 2) (x0 :: x1 :: x2 :: x3 :: x4 :: x5 :: x6 :: x7 :: some (.ref v) :: r) (.ref v :: st)) : J cx gg Q σ pc (x0 :: x1 :: x2 :: x3 :: x4 :: x5 :: x6 :: x7 :: some (.ref v) :: r) st :=
  fun H locs ls hP hS hl => lv_aload hc.1 hc.2.1 hd (hl.2.2 8 _ rfl) (k H locs ls hP hS hl)
theorem J_astore_8 (hc : zOK cx gg cc own nL) {x0 x1 x2 x3 x4 x5 x6 x7 : Option Value} {y : Option Value} {r : List (Option Value)} {v : Nat} (hd : decode cc pc = .ok (.astore 8, 2)) (hp : zc1 x7 = true) (k : J cx gg Q σ (pc + 2) (x0 :: x1 :: x2 :: x3 :: x4 :: x5 :: x6 :: x7 :: some (.ref v) :: r) st) : J cx gg Q σ pc (x0 :: x1 :: x2 :: x3 :: x4 :: x5 :: x6 :: x7 :: y :: r) (.ref v :: st) :=
  fun H locs ls hP hS hl => lv_astore (i := 8) hc.1 hc.2.1 hd hl.has (by simp) rfl (fun ls' hl' => k H locs ls' hP hS (zL.set1 (by simp) (zpre (i := 7) hp rfl) hl'))
theorem J_iinc_8 (hc : zOK cx gg cc own nL) {x0 x1 x2 x3 x4 x5 x6 x7 : Option Value} {r : List (Option Value)} {v w : Int32} {n : Int} (hd : decode cc pc = .ok (.iinc 8 n, 3)) (hw : v + Int32.ofInt n = w) (hp : zc1 x7 = true) (k : J cx gg Q σ (pc + 3) (x0 :: x1 :: x2 :: x3 :: x4 :: x5 :: x6 :: x7 :: some (.int w) :: r) st) : J cx gg Q σ pc (x0 :: x1 :: x2 :: x3 :: x4 :: x5 :: x6 :: x7 :: some (.int v) :: r) st := by
  intro H locs ls hP hS hl
  obtain ⟨kk, hk⟩ := List.getElem?_of_mem ((zpairs_mem _ 0 (8, Value.int v)).mpr ⟨8, (rfl : (x0 :: x1 :: x2 :: x3 :: x4 :: x5 :: x6 :: x7 :: some (Value.int v) :: r)[8]? = _), rfl⟩)
  exact lv_iinc hc.1 hc.2.1 hd hl.has hk hw (by simp) rfl (fun ls' hl' => k H locs ls' hP hS (zL.set1 (by simp) (zpre (i := 7) hp rfl) hl'))
theorem J_iload_9 (hc : zOK cx gg cc own nL) {x0 x1 x2 x3 x4 x5 x6 x7 x8 : Option Value} {r : List (Option Value)} {v : Int32} (hd : decode cc pc = .ok (.iload 9, 2)) (k : J cx gg Q σ (pc + 2) (x0 :: x1 :: x2 :: x3 :: x4 :: x5 :: x6 :: x7 :: x8 :: some (.int v) :: r) (.int v :: st)) : J cx gg Q σ pc (x0 :: x1 :: x2 :: x3 :: x4 :: x5 :: x6 :: x7 :: x8 :: some (.int v) :: r) st :=
  fun H locs ls hP hS hl => lv_iload hc.1 hc.2.1 hd (hl.2.2 9 _ rfl) (k H locs ls hP hS hl)
theorem J_istore_9 (hc : zOK cx gg cc own nL) {x0 x1 x2 x3 x4 x5 x6 x7 x8 : Option Value} {y : Option Value} {r : List (Option Value)} {v : Int32} (hd : decode cc pc = .ok (.istore 9, 2)) (hp : zc1 x8 = true) (k : J cx gg Q σ (pc + 2) (x0 :: x1 :: x2 :: x3 :: x4 :: x5 :: x6 :: x7 :: x8 :: some (.int v) :: r) st) : J cx gg Q σ pc (x0 :: x1 :: x2 :: x3 :: x4 :: x5 :: x6 :: x7 :: x8 :: y :: r) (.int v :: st) :=
  fun H locs ls hP hS hl => lv_istore (i := 9) hc.1 hc.2.1 hd hl.has (by simp) rfl (fun ls' hl' => k H locs ls' hP hS (zL.set1 (by simp) (zpre (i := 8) hp rfl) hl'))
theorem J_lload_9 (hc : zOK cx gg cc own nL) {x0 x1 x2 x3 x4 x5 x6 x7 x8 : Option Value} {r : List (Option Value)} {v : Int64} (hd : decode cc pc = .ok (.lload 9, 2)) (k : J cx gg Q σ (pc + 2) (x0 :: x1 :: x2 :: x3 :: x4 :: x5 :: x6 :: x7 :: x8 :: some (.long v) :: r) (.long v :: st)) : J cx gg Q σ pc (x0 :: x1 :: x2 :: x3 :: x4 :: x5 :: x6 :: x7 :: x8 :: some (.long v) :: r) st :=
  fun H locs ls hP hS hl => lv_lload hc.1 hc.2.1 hd (hl.2.2 9 _ rfl) (k H locs ls hP hS hl)
theorem J_lstore_9 (hc : zOK cx gg cc own nL) {x0 x1 x2 x3 x4 x5 x6 x7 x8 : Option Value} {y y2 : Option Value} {r : List (Option Value)} {v : Int64} (hd : decode cc pc = .ok (.lstore 9, 2)) (hp : zc1 x8 = true) (k : J cx gg Q σ (pc + 2) (x0 :: x1 :: x2 :: x3 :: x4 :: x5 :: x6 :: x7 :: x8 :: some (.long v) :: none :: r) st) : J cx gg Q σ pc (x0 :: x1 :: x2 :: x3 :: x4 :: x5 :: x6 :: x7 :: x8 :: y :: y2 :: r) (.long v :: st) :=
  fun H locs ls hP hS hl => lv_lstore (i := 9) hc.1 hc.2.1 hd hl.has (by simp) rfl (fun ls' hl' => k H locs ls' hP hS (zL.set2 (by simp) (zpre (i := 8) hp rfl) hl'))
theorem J_aload_9 (hc : zOK cx gg cc own nL) {x0 x1 x2 x3 x4 x5 x6 x7 x8 : Option Value} {r : List (Option Value)} {v : Nat} (hd : decode cc pc = .ok (.aload 9, 2)) (k : J cx gg Q σ (pc + 2) (x0 :: x1 :: x2 :: x3 :: x4 :: x5 :: x6 :: x7 :: x8 :: some (.ref v) :: r) (.ref v :: st)) : J cx gg Q σ pc (x0 :: x1 :: x2 :: x3 :: x4 :: x5 :: x6 :: x7 :: x8 :: some (.ref v) :: r) st :=
  fun H locs ls hP hS hl => lv_aload hc.1 hc.2.1 hd (hl.2.2 9 _ rfl) (k H locs ls hP hS hl)
theorem J_astore_9 (hc : zOK cx gg cc own nL) {x0 x1 x2 x3 x4 x5 x6 x7 x8 : Option Value} {y : Option Value} {r : List (Option Value)} {v : Nat} (hd : decode cc pc = .ok (.astore 9, 2)) (hp : zc1 x8 = true) (k : J cx gg Q σ (pc + 2) (x0 :: x1 :: x2 :: x3 :: x4 :: x5 :: x6 :: x7 :: x8 :: some (.ref v) :: r) st) : J cx gg Q σ pc (x0 :: x1 :: x2 :: x3 :: x4 :: x5 :: x6 :: x7 :: x8 :: y :: r) (.ref v :: st) :=
  fun H locs ls hP hS hl => lv_astore (i := 9) hc.1 hc.2.1 hd hl.has (by simp) rfl (fun ls' hl' => k H locs ls' hP hS (zL.set1 (by simp) (zpre (i := 8) hp rfl) hl'))
theorem J_iinc_9 (hc : zOK cx gg cc own nL) {x0 x1 x2 x3 x4 x5 x6 x7 x8 : Option Value} {r : List (Option Value)} {v w : Int32} {n : Int} (hd : decode cc pc = .ok (.iinc 9 n, 3)) (hw : v + Int32.ofInt n = w) (hp : zc1 x8 = true) (k : J cx gg Q σ (pc + 3) (x0 :: x1 :: x2 :: x3 :: x4 :: x5 :: x6 :: x7 :: x8 :: some (.int w) :: r) st) : J cx gg Q σ pc (x0 :: x1 :: x2 :: x3 :: x4 :: x5 :: x6 :: x7 :: x8 :: some (.int v) :: r) st := by
  intro H locs ls hP hS hl
  obtain ⟨kk, hk⟩ := List.getElem?_of_mem ((zpairs_mem _ 0 (9, Value.int v)).mpr ⟨9, (rfl : (x0 :: x1 :: x2 :: x3 :: x4 :: x5 :: x6 :: x7 :: x8 :: some (Value.int v) :: r)[9]? = _), rfl⟩)
  exact lv_iinc hc.1 hc.2.1 hd hl.has hk hw (by simp) rfl (fun ls' hl' => k H locs ls' hP hS (zL.set1 (by simp) (zpre (i := 8) hp rfl) hl'))
theorem J_iload_10 (hc : zOK cx gg cc own nL) {x0 x1 x2 x3 x4 x5 x6 x7 x8 x9 : Option Value} {r : List (Option Value)} {v : Int32} (hd : decode cc pc = .ok (.iload 10, 2)) (k : J cx gg Q σ (pc + 2) (x0 :: x1 :: x2 :: x3 :: x4 :: x5 :: x6 :: x7 :: x8 :: x9 :: some (.int v) :: r) (.int v :: st)) : J cx gg Q σ pc (x0 :: x1 :: x2 :: x3 :: x4 :: x5 :: x6 :: x7 :: x8 :: x9 :: some (.int v) :: r) st :=
  fun H locs ls hP hS hl => lv_iload hc.1 hc.2.1 hd (hl.2.2 10 _ rfl) (k H locs ls hP hS hl)
theorem J_istore_10 (hc : zOK cx gg cc own nL) {x0 x1 x2 x3 x4 x5 x6 x7 x8 x9 : Option Value} {y : Option Value} {r : List (Option Value)} {v : Int32} (hd : decode cc pc = .ok (.istore 10, 2)) (hp : zc1 x9 = true) (k : J cx gg Q σ (pc + 2) (x0 :: x1 :: x2 :: x3 :: x4 :: x5 :: x6 :: x7 :: x8 :: x9 :: some (.int v) :: r) st) : J cx gg Q σ pc (x0 :: x1 :: x2 :: x3 :: x4 :: x5 :: x6 :: x7 :: x8 :: x9 :: y :: r) (.int v :: st) :=
  fun H locs ls hP hS hl => lv_istore (i := 10) hc.1 hc.2.1 hd hl.has (by simp) rfl (fun ls' hl' => k H locs ls' hP hS (zL.set1 (by simp) (zpre (i := 9) hp rfl) hl'))
theorem J_lload_10 (hc : zOK cx gg cc own nL) {x0 x1 x2 x3 x4 x5 x6 x7 x8 x9 : Option Value} {r : List (Option Value)} {v : Int64} (hd : decode cc pc = .ok (.lload 10, 2)) (k : J cx gg Q σ (pc + 2) (x0 :: x1 :: x2 :: x3 :: x4 :: x5 :: x6 :: x7 :: x8 :: x9 :: some (.long v) :: r) (.long v :: st)) : J cx gg Q σ pc (x0 :: x1 :: x2 :: x3 :: x4 :: x5 :: x6 :: x7 :: x8 :: x9 :: some (.long v) :: r) st :=
  fun H locs ls hP hS hl => lv_lload hc.1 hc.2.1 hd (hl.2.2 10 _ rfl) (k H locs ls hP hS hl)
theorem J_lstore_10 (hc : zOK cx gg cc own nL) {x0 x1 x2 x3 x4 x5 x6 x7 x8 x9 : Option Value} {y y2 : Option Value} {r : List (Option Value)} {v : Int64} (hd : decode cc pc = .ok (.lstore 10, 2)) (hp : zc1 x9 = true) (k : J cx gg Q σ (pc + 2) (x0 :: x1 :: x2 :: x3 :: x4 :: x5 :: x6 :: x7 :: x8 :: x9 :: some (.long v) :: none :: r) st) : J cx gg Q σ pc (x0 :: x1 :: x2 :: x3 :: x4 :: x5 :: x6 :: x7 :: x8 :: x9 :: y :: y2 :: r) (.long v :: st) :=
  fun H locs ls hP hS hl => lv_lstore (i := 10) hc.1 hc.2.1 hd hl.has (by simp) rfl (fun ls' hl' => k H locs ls' hP hS (zL.set2 (by simp) (zpre (i := 9) hp rfl) hl'))
theorem J_aload_10 (hc : zOK cx gg cc own nL) {x0 x1 x2 x3 x4 x5 x6 x7 x8 x9 : Option Value} {r : List (Option Value)} {v : Nat} (hd : decode cc pc = .ok (.aload 10, 2)) (k : J cx gg Q σ (pc + 2) (x0 :: x1 :: x2 :: x3 :: x4 :: x5 :: x6 :: x7 :: x8 :: x9 :: some (.ref v) :: r) (.ref v :: st)) : J cx gg Q σ pc (x0 :: x1 :: x2 :: x3 :: x4 :: x5 :: x6 :: x7 :: x8 :: x9 :: some (.ref v) :: r) st :=
  fun H locs ls hP hS hl => lv_aload hc.1 hc.2.1 hd (hl.2.2 10 _ rfl) (k H locs ls hP hS hl)
theorem J_astore_10 (hc : zOK cx gg cc own nL) {x0 x1 x2 x3 x4 x5 x6 x7 x8 x9 : Option Value} {y : Option Value} {r : List (Option Value)} {v : Nat} (hd : decode cc pc = .ok (.astore 10, 2)) (hp : zc1 x9 = true) (k : J cx gg Q σ (pc + 2) (x0 :: x1 :: x2 :: x3 :: x4 :: x5 :: x6 :: x7 :: x8 :: x9 :: some (.ref v) :: r) st) : J cx gg Q σ pc (x0 :: x1 :: x2 :: x3 :: x4 :: x5 :: x6 :: x7 :: x8 :: x9 :: y :: r) (.ref v :: st) :=
  fun H locs ls hP hS hl => lv_astore (i := 10) hc.1 hc.2.1 hd hl.has (by simp) rfl (fun ls' hl' => k H locs ls' hP hS (zL.set1 (by simp) (zpre (i := 9) hp rfl) hl'))
theorem J_iinc_10 (hc : zOK cx gg cc own nL) {x0 x1 x2 x3 x4 x5 x6 x7 x8 x9 : Option Value} {r : List (Option Value)} {v w : Int32} {n : Int} (hd : decode cc pc = .ok (.iinc 10 n, 3)) (hw : v + Int32.ofInt n = w) (hp : zc1 x9 = true) (k : J cx gg Q σ (pc + 3) (x0 :: x1 :: x2 :: x3 :: x4 :: x5 :: x6 :: x7 :: x8 :: x9 :: some (.int w) :: r) st) : J cx gg Q σ pc (x0 :: x1 :: x2 :: x3 :: x4 :: x5 :: x6 :: x7 :: x8 :: x9 :: some (.int v) :: r) st := by
  intro H locs ls hP hS hl
  obtain ⟨kk, hk⟩ := List.getElem?_of_mem ((zpairs_mem _ 0 (10, Value.int v)).mpr ⟨10, (rfl : (x0 :: x1 :: x2 :: x3 :: x4 :: x5 :: x6 :: x7 :: x8 :: x9 :: some (Value.int v) :: r)[10]? = _), rfl⟩)
  exact lv_iinc hc.1 hc.2.1 hd hl.has hk hw (by simp) rfl (fun ls' hl' => k H locs ls' hP hS (zL.set1 (by simp) (zpre (i := 9) hp rfl) hl'))
theorem J_iload_11 (hc : zOK cx gg cc own nL) {x0 x1 x2 x3 x4 x5 x6 x7 x8 x9 x10 : Option Value} {r : List (Option Value)} {v : Int32} (hd : decode cc pc = .ok (.iload 11, 2)) (k : J cx gg Q σ (pc + 2) (x0 :: x1 :: x2 :: x3 :: x4 :: x5 :: x6 :: x7 :: x8 :: x9 :: x10 :: some (.int v) :: r) (.int v :: st)) : J cx gg Q σ pc (x0 :: x1 :: x2 :: x3 :: x4 :: x5 :: x6 :: x7 :: x8 :: x9 :: x10 :: some (.int v) :: r) st :=
  fun H locs ls hP hS hl => lv_iload hc.1 hc.2.1 hd (hl.2.2 11 _ rfl) (k H locs ls hP hS hl)
theorem J_istore_11 (hc : zOK cx gg cc own nL) {x0 x1 x2 x3 x4 x5 x6 x7 x8 x9 x10 : Option Value} {y : Option Value} {r : List (Option Value)} {v : Int32} (hd : decode cc pc = .ok (.istore 11, 2)) (hp : zc1 x10 = true) (k : J cx gg Q σ (pc + 2) (x0 :: x1 :: x2 :: x3 :: x4 :: x5 :: x6 :: x7 :: x8 :: x9 :: x10 :: some (.int v) :: r) st) : J cx gg Q σ pc (x0 :: x1 :: x2 :: x3 :: x4 :: x5 :: x6 :: x7 :: x8 :: x9 :: x10 :: y :: r) (.int v :: st) :=
  fun H locs ls hP hS hl => lv_istore (i := 11) hc.1 hc.2.1 hd hl.has (by simp) rfl (fun ls' hl' => k H locs ls' hP hS (zL.set1 (by simp) (zpre (i := 10) hp rfl) hl'))
theorem J_lload_11 (hc : zOK cx gg cc own nL) {x0 x1 x2 x3 x4 x5 x6 x7 x8 x9 x10 : Option Value} {r : List (Option Value)} {v : Int64} (hd : decode cc pc = .ok (.lload 11, 2)) (k : J cx gg Q σ (pc + 2) (x0 :: x1 :: x2 :: x3 :: x4 :: x5 :: x6 :: x7 :: x8 :: x9 :: x10 :: some (.long v) :: r) (.long v :: st)) : J cx gg Q σ pc (x0 :: x1 :: x2 :: x3 :: x4 :: x5 :: x6 :: x7 :: x8 :: x9 :: x10 :: some (.long v) :: r) st :=
  fun H locs ls hP hS hl => lv_lload hc.1 hc.2.1 hd (hl.2.2 11 _ rfl) (k H locs ls hP hS hl)
theorem J_lstore_11 (hc : zOK cx gg cc own nL) {x0 x1 x2 x3 x4 x5 x6 x7 x8 x9 x10 : Option Value} {y y2 : Option Value} {r : List (Option Value)} {v : Int64} (hd : decode cc pc = .ok (.lstore 11, 2)) (hp : zc1 x10 = true) (k : J cx gg Q σ (pc + 2) (x0 :: x1 :: x2 :: x3 :: x4 :: x5 :: x6 :: x7 :: x8 :: x9 :: x10 :: some (.long v) :: none :: r) st) : J cx gg Q σ pc (x0 :: x1 :: x2 :: x3 :: x4 :: x5 :: x6 :: x7 :: x8 :: x9 :: x10 :: y :: y2 :: r) (.long v :: st) :=
  fun H locs ls hP hS hl => lv_lstore (i := 11) hc.1 hc.2.1 hd hl.has (by simp) rfl (fun ls' hl' => k H locs ls' hP hS (zL.set2 (by simp) (zpre (i := 10) hp rfl) hl'))
theorem J_aload_11 (hc : zOK cx gg cc own nL) {x0 x1 x2 x3 x4 x5 x6 x7 x8 x9 x10 : Option Value} {r : List (Option Value)} {v : Nat} (hd : decode cc pc = .ok (.aload 11, 2)) (k : J cx gg Q σ (pc + 2) (x0 :: x1 :: x2 :: x3 :: x4 :: x5 :: x6 :: x7 :: x8 :: x9 :: x10 :: some (.ref v) :: r) (.ref v :: st)) : J cx gg Q σ pc (x0 :: x1 :: x2 :: x3 :: x4 :: x5 :: x6 :: x7 :: x8 :: x9 :: x10 :: some (.ref v) :: r) st :=
  fun H locs ls hP hS hl => lv_aload hc.1 hc.2.1 hd (hl.2.2 11 _ rfl) (k H locs ls hP hS hl)
theorem J_astore_11 (hc : zOK cx gg cc own nL) {x0 x1 x2 x3 x4 x5 x6 x7 x8 x9 x10 : Option Value} {y : Option Value} {r : List (Option Value)} {v : Nat} (hd : decode cc pc = .ok (.astore 11, 2)) (hp : zc1 x10 = true) (k : J cx gg Q σ (pc + 2) (x0 :: x1 :: x2 :: x3 :: x4 :: x5 :: x6 :: x7 :: x8 :: x9 :: x10 :: some (.ref v) :: r) st) : J cx gg Q σ pc (x0 :: x1 :: x2 :: x3 :: x4 :: x5 :: x6 :: x7 :: x8 :: x9 :: x10 :: y :: r) (.ref v :: st) :=
  fun H locs ls hP hS hl => lv_astore (i := 11) hc.1 hc.2.1 hd hl.has (by simp) rfl (fun ls' hl' => k H locs ls' hP hS (zL.set1 (by simp) (zpre (i := 10) hp rfl) hl'))
theorem J_iinc_11 (hc : zOK cx gg cc own nL) {x0 x1 x2 x3 x4 x5 x6 x7 x8 x9 x10 : Option Value} {r : List (Option Value)} {v w : Int32} {n : Int} (hd : decode cc pc = .ok (.iinc 11 n, 3)) (hw : v + Int32.ofInt n = w) (hp : zc1 x10 = true) (k : J cx gg Q σ (pc + 3) (x0 :: x1 :: x2 :: x3 :: x4 :: x5 :: x6 :: x7 :: x8 :: x9 :: x10 :: some (.int w) :: r) st) : J cx gg Q σ pc (x0 :: x1 :: x2 :: x3 :: x4 :: x5 :: x6 :: x7 :: x8 :: x9 :: x10 :: some (.int v) :: r) st := by
  intro H locs ls hP hS hl
  obtain ⟨kk, hk⟩ := List.getElem?_of_mem ((zpairs_mem _ 0 (11, Value.int v)).mpr ⟨11, (rfl : (x0 :: x1 :: x2 :: x3 :: x4 :: x5 :: x6 :: x7 :: x8 :: x9 :: x10 :: some (Value.int v) :: r)[11]? = _), rfl⟩)
  exact lv_iinc hc.1 hc.2.1 hd hl.has hk hw (by simp) rfl (fun ls' hl' => k H locs ls' hP hS (zL.set1 (by simp) (zpre (i := 10) hp rfl) hl'))
theorem J_iload_12 (hc : zOK cx gg cc own nL) {x0 x1 x2 x3 x4 x5 x6 x7 x8 x9 x10 x11 : Option Value} {r : List (Option Value)} {v : Int32} (hd : decode cc pc = .ok (.iload 12, 2)) (k : J cx gg Q σ (pc + 2) (x0 :: x1 :: x2 :: x3 :: x4 :: x5 :: x6 :: x7 :: x8 :: x9 :: x10 :: x11 :: some (.int v) :: r) (.int v :: st)) : J cx gg Q σ pc (x0 :: x1 :: x2 :: x3 :: x4 :: x5 :: x6 :: x7 :: x8 :: x9 :: x10 :: x11 :: some (.int v) :: r) st :=
  fun H locs ls hP hS hl => lv_iload hc.1 hc.2.1 hd (hl.2.2 12 _ rfl) (k H locs ls hP hS hl)
theorem J_istore_12 (hc : zOK cx gg cc own nL) {x0 x1 x2 x3 x4 x5 x6 x7 x8 x9 x10 x11 : Option Value} {y : Option Value} {r : List (Option Value)} {v : Int32} (hd : decode cc pc = .ok (.istore 12, 2)) (hp : zc1 x11 = true) (k : J cx gg Q σ (pc + 2) (x0 :: x1 :: x2 :: x3 :: x4 :: x5 :: x6 :: x7 :: x8 :: x9 :: x10 :: x11 :: some (.int v) :: r) st) : J cx gg Q σ pc (x0 :: x1 :: x2 :: x3 :: x4 :: x5 :: x6 :: x7 :: x8 :: x9 :: x10 :: x11 :: y :: r) (.int v :: st) :=
  fun H locs ls hP hS hl => lv_istore (i := 12) hc.1 hc.2.1 hd hl.has (by simp) rfl (fun ls' hl' => k H locs ls' hP hS (zL.set1 (by simp) (zpre (i := 11) hp rfl) hl'))
theorem J_lload_12 (hc : zOK cx gg cc own nL) {x0 x1 x2 x3 x4 x5 x6 x7 x8 x9 x10 x11 : Option Value} {r : List (Option Value)} {v : Int64} (hd : decode cc pc = .ok (.lload 12, 2)) (k : J cx gg Q σ (pc + 2) (x0 :: x1 :: x2 :: x3 :: x4 :: x5 :: x6 :: x7 :: x8 :: x9 :: x10 :: x11 :: some (.long v) :: r) (.long v :: st)) : J cx gg Q σ pc (x0 :: x1 :: x2 :: x3 :: x4 :: x5 :: x6 :: x7 :: x8 :: x9 :: x10 :: x11 :: some (.long v) :: r) st :=
  fun H locs ls hP hS hl => lv_lload hc.1 hc.2.1 hd (hl.2.2 12 _ rfl) (k H locs ls hP hS hl)
theorem J_lstore_12 (hc : zOK cx gg cc own nL) {x0 x1 x2 x3 x4 x5 x6 x7 x8 x9 x10 x11 : Option Value} {y y2 : Option Value} {r : List (Option Value)} {v : Int64} (hd : decode cc pc = .ok (.lstore 12, 2)) (hp : zc1 x11 = true) (k : J cx gg Q σ (pc + 2) (x0 :: x1 :: x2 :: x3 :: x4 :: x5 :: x6 :: x7 :: x8 :: x9 :: x10 :: x11 :: some (.long v) :: none :: r) st) : J cx gg Q σ pc (x0 :: x1 :: x2 :: x3 :: x4 :: x5 :: x6 :: x7 :: x8 :: x9 :: x10 :: x11 :: y :: y2 :: r) (.long v :: st) :=
  fun H locs ls hP hS hl => lv_lstore (i := 12) hc.1 hc.2.1 hd hl.has (by simp) rfl (fun ls' hl' => k H locs ls' hP hS (zL.set2 (by simp) (zpre (i := 11) hp rfl) hl'))
theorem J_aload_12 (hc : zOK cx gg cc own nL) {x0 x1 x2 x3 x4 x5 x6 x7 x8 x9 x10 x11 : Option Value} {r : List (Option Value)} {v : Nat} (hd : decode cc pc = .ok (.aload 12, 2)) (k : J cx gg Q σ (pc + 2) (x0 :: x1 :: x2 :: x3 :: x4 :: x5 :: x6 :: x7 :: x8 :: x9 :: x10 :: x11 :: some (.ref v) :: r) (.ref v :: st)) : J cx gg Q σ pc (x0 :: x1 :: x2 :: x3 :: x4 :: x5 :: x6 :: x7 :: x8 :: x9 :: x10 :: x11 :: some (.ref v) :: r) st :=
  fun H locs ls hP hS hl => lv_aload hc.1 hc.2.1 hd (hl.2.2 12 _ rfl) (k H locs ls hP hS hl)
theorem J_astore_12 (hc : zOK cx gg cc own nL) {x0 x1 x2 x3 x4 x5 x6 x7 x8 x9 x10 x11 : Option Value} {y : Option Value} {r : List (Option Value)} {v : Nat} (hd : decode cc pc = .ok (.astore 12, 2)) (hp : zc1 x11 = true) (k : J cx gg Q σ (pc + 2) (x0 :: x1 :: x2 :: x3 :: x4 :: x5 :: x6 :: x7 :: x8 :: x9 :: x10 :: x11 :: some (.ref v) :: r) st) : J cx gg Q σ pc (x0 :: x1 :: x2 :: x3 :: x4 :: x5 :: x6 :: x7 :: x8 :: x9 :: x10 :: x11 :: y :: r) (.ref v :: st) :=
  fun H locs ls hP hS hl => lv_astore (i := 12) hc.1 hc.2.1 hd hl.has (by simp) rfl (fun ls' hl' => k H locs ls' hP hS (zL.set1 (by simp) (zpre (i := 11) hp rfl) hl'))
theorem J_iinc_12 (hc : zOK cx gg cc own nL) {x0 x1 x2 x3 x4 x5 x6 x7 x8 x9 x10 x11 : Option Value} {r : List (Option Value)} {v w : Int32} {n : Int} (hd : decode cc pc = .ok (.iinc 12 n, 3)) (hw : v + Int32.ofInt n = w) (hp : zc1 x11 = true) (k : J cx gg Q σ (pc + 3) (x0 :: x1 :: x2 :: x3 :: x4 :: x5 :: x6 :: x7 :: x8 :: x9 :: x10 :: x11 :: some (.int w) :: r) st) : J cx gg Q σ pc (x0 :: x1 :: x2 :: x3 :: x4 :: x5 :: x6 :: x7 :: x8 :: x9 :: x10 :: x11 :: some (.int v) :: r) st := by
  intro H locs ls hP hS hl
  obtain ⟨kk, hk⟩ := List.getElem?_of_mem ((zpairs_mem _ 0 (12, Value.int v)).mpr ⟨12, (rfl : (x0 :: x1 :: x2 :: x3 :: x4 :: x5 :: x6 :: x7 :: x8 :: x9 :: x10 :: x11 :: some (Value.int v) :: r)[12]? = _), rfl⟩)
  exact lv_iinc hc.1 hc.2.1 hd hl.has hk hw (by simp) rfl (fun ls' hl' => k H locs ls' hP hS (zL.set1 (by simp) (zpre (i := 11) hp rfl) hl'))
end ZJ
