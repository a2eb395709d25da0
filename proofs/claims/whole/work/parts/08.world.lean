theorem zT_good {w : Cond} (h : w ∈ zT) : goodWord w = true := (List.mem_filter.mp h).2
theorem zgood (y : MethodName) (cc : ByteArray) (maxL : Nat) (ret : Option FieldType) (h : Cond.code y cc maxL ret ∈ zT) : GoodIn zT (Cond.code y cc maxL ret :: zT) := by
  intro w hw
  rcases List.mem_cons.mp hw with rfl | hw
  · exact ⟨h, good_of_word (zT_good h)⟩
  · exact ⟨hw, good_of_word (zT_good hw)⟩
def zoi (k : Nat) : Nat := if k < 7 then 2 + k else if k = 7 then 0 else if k = 8 then 42 else if k < 11 then 43 else 44
theorem zE_ui (gg : zG) (σ : zS) {k j : Nat} (v : Int32) (hk : k < 14) (hj : j < 45) (h : ¬ j = zoi k) : zE gg (ui σ k v) j = zE gg σ j := by
  unfold zoi at h
  unfold zE
  simp only [si_ui, sl_ui, sa_ui, sm_ui]
  by_cases h1 : j < 9
  · rw [if_pos h1, if_pos h1]
    by_cases h2 : j = 0
    · rw [if_pos h2, if_pos h2]
      have : ¬ 7 = k := by intro e; subst e; exact h (by rw [h2]; decide)
      rw [if_neg this]
    · rw [if_neg h2, if_neg h2]
      by_cases h3 : j = 1
      · rw [if_pos h3, if_pos h3]
      · rw [if_neg h3, if_neg h3]
        have : ¬ j - 2 = k := by
          intro e
          refine h ?_
          rw [if_pos (by omega)]
          omega
        rw [if_neg this]
  · rw [if_neg h1, if_neg h1]
    by_cases h2 : j < 39
    · rw [if_pos h2, if_pos h2]
    · rw [if_neg h2, if_neg h2]
      by_cases h3 : j < 42
      · rw [if_pos h3, if_pos h3]
      · rw [if_neg h3, if_neg h3]
        by_cases h4 : j = 42
        · rw [if_pos h4, if_pos h4]
          have : ¬ 8 = k := by intro e; subst e; exact h (by rw [h4]; decide)
          rw [if_neg this]
        · rw [if_neg h4, if_neg h4]
          by_cases h5 : j = 43
          · rw [if_pos h5, if_pos h5]
            have a1 : ¬ 9 = k := by intro e; subst e; exact h (by rw [h5]; decide)
            have a2 : ¬ 10 = k := by intro e; subst e; exact h (by rw [h5]; decide)
            rw [if_neg a1, if_neg a2]
          · rw [if_neg h5, if_neg h5]
            have h6 : j = 44 := by omega
            have a1 : ¬ 11 = k := by intro e; subst e; exact h (by rw [h6]; decide)
            have a2 : ¬ 12 = k := by intro e; subst e; exact h (by rw [h6]; decide)
            have a3 : ¬ 13 = k := by intro e; subst e; exact h (by rw [h6]; decide)
            rw [if_neg a1, if_neg a2, if_neg a3]
theorem zE_ul (gg : zG) (σ : zS) {k j : Nat} (v : Int64) (h : ¬ j = 42) : zE gg (ul σ k v) j = zE gg σ j := by
  unfold zE
  simp only [si_ul, sa_ul, sm_ul, if_neg h]
theorem zE_ua (gg : zG) (σ : zS) {k j : Nat} (f : Nat → Int32) (h : ¬ j = 9 + k) : zE gg (ua σ k f) j = zE gg σ j := by
  unfold zE
  simp only [si_ua, sl_ua, sa_ua, sm_ua]
  by_cases h1 : j < 9
  · rw [if_pos h1, if_pos h1]
  · rw [if_neg h1, if_neg h1]
    by_cases h2 : j < 39
    · rw [if_pos h2, if_pos h2, if_neg (by omega)]
    · rw [if_neg h2, if_neg h2]
theorem zE_um (gg : zG) (σ : zS) {k j : Nat} (f : Nat → Int64) (h : ¬ j = 39 + k) : zE gg (um σ k f) j = zE gg σ j := by
  unfold zE
  simp only [si_um, sl_um, sa_um, sm_um]
  by_cases h1 : j < 9
  · rw [if_pos h1, if_pos h1]
  · rw [if_neg h1, if_neg h1]
    by_cases h2 : j < 39
    · rw [if_pos h2, if_pos h2]
    · rw [if_neg h2, if_neg h2]
      by_cases h3 : j < 42
      · rw [if_pos h3, if_pos h3, if_neg (by omega)]
      · rw [if_neg h3, if_neg h3]
/-! THE CONTRACTS -/
def zPre (gg : zG) (σ : zS) (U : State) : Prop := zK gg U ∧ va_P (zD gg) vwCl (zW gg σ) U.heap
def zB (gg : zG) (σ : zS) (t : State) : Prop := va_P (zD gg) vwCl (zW gg σ) t.heap
def zMv (l : Launch) (gg : zG) (y : MethodName) (cc : ByteArray) (maxL fr lo : Nat) (as : List Value) (σ : zS) (post : zS → Prop) : Prop :=
  Met l y (Cond.code y cc maxL none :: zT) { frames := fr, cells := 0, slots := 0, locals := lo } (va_Pc as (zPre gg σ)) (va_Qv post (zB gg) (zA gg)) 0 0 (zA gg)
def zMi (l : Launch) (gg : zG) (y : MethodName) (cc : ByteArray) (ret : FieldType) (maxL fr lo : Nat) (as : List Value) (σ : zS) (post : Int32 → zS → Prop) : Prop :=
  Met l y (Cond.code y cc maxL (some ret) :: zT) { frames := fr, cells := 0, slots := 0, locals := lo } (va_Pc as (zPre gg σ)) (va_Qi post (zB gg) (zA gg)) 0 0 (zA gg)
def zMl (l : Launch) (gg : zG) (y : MethodName) (cc : ByteArray) (maxL fr lo : Nat) (as : List Value) (σ : zS) (post : Int64 → zS → Prop) : Prop :=
  Met l y (Cond.code y cc maxL (some .long) :: zT) { frames := fr, cells := 0, slots := 0, locals := lo } (va_Pc as (zPre gg σ)) (va_Ql post (zB gg) (zA gg)) 0 0 (zA gg)
def zR (cx : zX) (fr lo : Nat) : Prop := fr ≤ cx.1.2.2.2.frames ∧ lo ≤ cx.1.2.2.2.locals ∧ cx.2.2.1.2.2.1 ≤ cx.1.2.2.2.cells ∧ cx.2.2.1.2.2.2 ≤ cx.1.2.2.2.slots
def zIn (cx : zX) (gg : zG) (ret : Option FieldType) : Prop := cx.2.2.1.1.sig.returnType = ret ∧ cx.2.2.2 = zA gg
def zQv (cx : zX) (gg : zG) (post : zS → Prop) : State → Prop := MQ cx.2.1.2.2.2 (va_Qv post (zB gg) (zA gg)) cx.2.1.2.2.1 cx.2.1.1 cx.2.2.1.2.2.1 cx.2.2.1.2.2.2 (zA gg)
def zQi (cx : zX) (gg : zG) (post : Int32 → zS → Prop) : State → Prop := MQ cx.2.1.2.2.2 (va_Qi post (zB gg) (zA gg)) cx.2.1.2.2.1 cx.2.1.1 cx.2.2.1.2.2.1 cx.2.2.1.2.2.2 (zA gg)
def zQl (cx : zX) (gg : zG) (post : Int64 → zS → Prop) : State → Prop := MQ cx.2.1.2.2.2 (va_Ql post (zB gg) (zA gg)) cx.2.1.2.2.1 cx.2.1.1 cx.2.2.1.2.2.1 cx.2.2.1.2.2.2 (zA gg)
def zargs : List Value → List (Option Value)
  | [] => []
  | v :: t => if v.category = 2 then some v :: none :: zargs t else some v :: zargs t
theorem zargs_len : ∀ (vs : List Value), (zargs vs).length = (lg_sl vs).length
  | [] => rfl
  | v :: t => by
    have ih := zargs_len t
    unfold lg_sl at ih
    by_cases h : v.category = 2 <;> simp [zargs, lg_sl, h, ih] <;> omega
theorem zargs_at : ∀ (vs : List Value) (n i k : Nat) (v : Value), (zargs vs ++ List.replicate n none)[k]? = some (some v) → (i + k, v) ∈ lv_args i vs
  | [], n, i, k, v, h => by
    rw [zargs, List.nil_append, List.getElem?_replicate] at h
    split at h <;> simp at h
  | w :: t, n, i, k, v, h => by
    by_cases hw : w.category = 2
    · rw [lv_args, if_pos hw]
      rw [zargs, if_pos hw] at h
      match k, h with
      | 0, h =>
        have : w = v := by simpa using h
        subst this
        exact List.mem_cons_self
      | 1, h => simp at h
      | k + 2, h =>
        have h' : (zargs t ++ List.replicate n none)[k]? = some (some v) := by simpa using h
        have := zargs_at t n (i + 2) k v h'
        exact List.mem_cons_of_mem _ (by rw [show i + (k + 2) = i + 2 + k by omega]; exact this)
    · rw [lv_args, if_neg hw]
      rw [zargs, if_neg hw] at h
      match k, h with
      | 0, h =>
        have : w = v := by simpa using h
        subst this
        exact List.mem_cons_self
      | k + 1, h =>
        have h' : (zargs t ++ List.replicate n none)[k]? = some (some v) := by simpa using h
        have := zargs_at t n (i + 1) k v h'
        exact List.mem_cons_of_mem _ (by rw [show i + (k + 1) = i + 1 + k by omega]; exact this)
theorem zL_entry (vs : List Value) {n : Nat} {lv : List (Option Value)} (h : (lg_sl vs).length ≤ n) (hlv : zargs vs ++ List.replicate (n - (zargs vs).length) none = lv) : zL ((lg_sl vs ++ List.replicate (n - (lg_sl vs).length) Slot.unset).toArray) lv := by
  obtain ⟨h1, h2, h3⟩ := lv_entry vs h
  refine ⟨?_, h2, fun i v hi => ?_⟩
  · rw [h1, ← hlv, List.length_append, List.length_replicate, zargs_len]
    omega
  · rw [← hlv] at hi
    have := h3 _ (zargs_at vs _ 0 i v hi)
    simpa using this
theorem zPre.blind {gg : zG} {σ : zS} {as : List Value} : FrameBlind (va_Pc as (zPre gg σ)) := fun _ _ _ _ q => ⟨q.1, zK.calling q.2.1, q.2.2⟩
theorem zM_v {l : Launch} {gg : zG} {y : MethodName} {cc : ByteArray} {maxL fr lo : Nat} {as : List Value} {σ : zS} {post : zS → Prop} {own : String} {lv : List (Option Value)} (hy : plainName y.cls = true) (ho : y.cls = own) (hle : (lg_sl as).length ≤ maxL) (hlv : zargs as ++ List.replicate (maxL - (zargs as).length) none = lv)
    (body : ∀ cx : zX, zOK cx gg cc own maxL → zR cx fr lo → zIn cx gg none → J cx gg (zQv cx gg post) σ 0 lv []) : zMv l gg y cc maxL fr lo as σ post := by
  refine Met.ofW (cc := cc) (maxL := maxL) (ret := none) hy rfl ?_
  intro p e s m args below meth c s₁ B hml hv
  obtain ⟨rfl, hK, hP⟩ := hv
  have hts := atoms_spec (ws := Cond.code y cc maxL none :: zT) B.pre
  rw [lg_entry_eq]
  subst ho
  exact body ((p, l, e, { frames := fr, cells := 0, slots := 0, locals := lo }), (s, m, as.toArray, below), (meth, c, 0, 0), zA gg) ⟨B.exec, B.bytes, hml, findClass_of_methodNamed B.named, fun w hw => hts w (List.mem_cons_of_mem _ hw), hK, fun i hi => ⟨i, hi, rfl⟩, B.notSynchronized⟩ ⟨Nat.le_refl _, Nat.le_refl _, Nat.zero_le _, Nat.zero_le _⟩ ⟨B.returns, rfl⟩ s.heap [] _ hP va_S.rf (zL_entry as hle hlv)
theorem zM_i {l : Launch} {gg : zG} {y : MethodName} {cc : ByteArray} {ret : FieldType} {maxL fr lo : Nat} {as : List Value} {σ : zS} {post : Int32 → zS → Prop} {own : String} {lv : List (Option Value)} (hy : plainName y.cls = true) (ho : y.cls = own) (hle : (lg_sl as).length ≤ maxL) (hlv : zargs as ++ List.replicate (maxL - (zargs as).length) none = lv)
    (body : ∀ cx : zX, zOK cx gg cc own maxL → zR cx fr lo → zIn cx gg (some ret) → J cx gg (zQi cx gg post) σ 0 lv []) : zMi l gg y cc ret maxL fr lo as σ post := by
  refine Met.ofW (cc := cc) (maxL := maxL) (ret := (some ret)) hy rfl ?_
  intro p e s m args below meth c s₁ B hml hv
  obtain ⟨rfl, hK, hP⟩ := hv
  have hts := atoms_spec (ws := Cond.code y cc maxL (some ret) :: zT) B.pre
  rw [lg_entry_eq]
  subst ho
  exact body ((p, l, e, { frames := fr, cells := 0, slots := 0, locals := lo }), (s, m, as.toArray, below), (meth, c, 0, 0), zA gg) ⟨B.exec, B.bytes, hml, findClass_of_methodNamed B.named, fun w hw => hts w (List.mem_cons_of_mem _ hw), hK, fun i hi => ⟨i, hi, rfl⟩, B.notSynchronized⟩ ⟨Nat.le_refl _, Nat.le_refl _, Nat.zero_le _, Nat.zero_le _⟩ ⟨B.returns, rfl⟩ s.heap [] _ hP va_S.rf (zL_entry as hle hlv)
theorem zM_l {l : Launch} {gg : zG} {y : MethodName} {cc : ByteArray} {maxL fr lo : Nat} {as : List Value} {σ : zS} {post : Int64 → zS → Prop} {own : String} {lv : List (Option Value)} (hy : plainName y.cls = true) (ho : y.cls = own) (hle : (lg_sl as).length ≤ maxL) (hlv : zargs as ++ List.replicate (maxL - (zargs as).length) none = lv)
    (body : ∀ cx : zX, zOK cx gg cc own maxL → zR cx fr lo → zIn cx gg (some .long) → J cx gg (zQl cx gg post) σ 0 lv []) : zMl l gg y cc maxL fr lo as σ post := by
  refine Met.ofW (cc := cc) (maxL := maxL) (ret := (some .long)) hy rfl ?_
  intro p e s m args below meth c s₁ B hml hv
  obtain ⟨rfl, hK, hP⟩ := hv
  have hts := atoms_spec (ws := Cond.code y cc maxL (some .long) :: zT) B.pre
  rw [lg_entry_eq]
  subst ho
  exact body ((p, l, e, { frames := fr, cells := 0, slots := 0, locals := lo }), (s, m, as.toArray, below), (meth, c, 0, 0), zA gg) ⟨B.exec, B.bytes, hml, findClass_of_methodNamed B.named, fun w hw => hts w (List.mem_cons_of_mem _ hw), hK, fun i hi => ⟨i, hi, rfl⟩, B.notSynchronized⟩ ⟨Nat.le_refl _, Nat.le_refl _, Nat.zero_le _, Nat.zero_le _⟩ ⟨B.returns, rfl⟩ s.heap [] _ hP va_S.rf (zL_entry as hle hlv)
section ZW
variable {cx : zX} {gg : zG} {Q : State → Prop} {σ : zS} {pc : Nat} {lv : List (Option Value)} {st : List Value} {cc : ByteArray} {own : String} {nL : Nat}
theorem J_vret {post : zS → Prop} (hc : zOK cx gg cc own nL) (hI : zIn cx gg none) (hd : decode cc pc = .ok (.return_, 1)) (hp : post σ) : J cx gg (zQv cx gg post) σ pc lv [] :=
  fun H locs ls hP hS hl => W.vret hc.1 hc.2.1 hI.1 (fun t ht hW => ⟨⟨σ, rfl, hp, by show va_P _ _ _ t.heap; rw [ht]; exact hP⟩, by rw [← hI.2]; exact hS.F ht⟩) (by rw [← hI.2]; exact hS.2.2) hd hc.2.2.2.2.2.2.2
theorem J_iret {post : Int32 → zS → Prop} {v : Int32} (hc : zOK cx gg cc own nL) (hI : zIn cx gg (some .int)) (hd : decode cc pc = .ok (.ireturn, 1)) (hp : post v σ) : J cx gg (zQi cx gg post) σ pc lv [.int v] :=
  fun H locs ls hP hS hl => W.iret hc.1 hc.2.1 hI.1 (fun t ht hW => ⟨⟨v, σ, rfl, hp, by show va_P _ _ _ t.heap; rw [ht]; exact hP⟩, by rw [← hI.2]; exact hS.F ht⟩) (by rw [← hI.2]; exact hS.2.2) hd hc.2.2.2.2.2.2.2
theorem J_zret {post : Int32 → zS → Prop} {v : Int32} (hc : zOK cx gg cc own nL) (hI : zIn cx gg (some .boolean)) (hd : decode cc pc = .ok (.ireturn, 1)) (hn : narrow .boolean (.int v) = .int v) (hp : post v σ) : J cx gg (zQi cx gg post) σ pc lv [.int v] :=
  fun H locs ls hP hS hl => W.zret hc.1 hc.2.1 hI.1 hn (fun t ht hW => ⟨⟨v, σ, rfl, hp, by show va_P _ _ _ t.heap; rw [ht]; exact hP⟩, by rw [← hI.2]; exact hS.F ht⟩) (by rw [← hI.2]; exact hS.2.2) hd hc.2.2.2.2.2.2.2
theorem J_lret {post : Int64 → zS → Prop} {v : Int64} (hc : zOK cx gg cc own nL) (hI : zIn cx gg (some .long)) (hd : decode cc pc = .ok (.lreturn, 1)) (hp : post v σ) : J cx gg (zQl cx gg post) σ pc lv [.long v] :=
  fun H locs ls hP hS hl => W.lret hc.1 hc.2.1 hI.1 (fun t ht hW => ⟨⟨v, σ, rfl, hp, by show va_P _ _ _ t.heap; rw [ht]; exact hP⟩, by rw [← hI.2]; exact hS.F ht⟩) (by rw [← hI.2]; exact hS.2.2) hd hc.2.2.2.2.2.2.2
theorem znb0 : narrow .boolean (.int 0) = .int 0 := by decide
theorem znb1 : narrow .boolean (.int 1) = .int 1 := by decide
theorem J_ldc (hc : zOK cx gg cc own nL) {index : Nat} {v : Int32} (hw : Cond.constant own index v ∈ zT) (hd : decode cc pc = .ok (.ldc index, 2)) (k : J cx gg Q σ (pc + 2) lv (.int v :: st)) : J cx gg Q σ pc lv st :=
  fun H locs ls hP hS hl => lv_ldc hc.1 hc.2.1 hc.2.2.2.1 (hc.2.2.2.2.1 _ hw) hd (k H locs ls hP hS hl)
theorem J_ldc2 (hc : zOK cx gg cc own nL) {index : Nat} {v : Int64} (hw : Cond.constantLong own index v ∈ zT) (hd : decode cc pc = .ok (.ldc2_w index, 3)) (k : J cx gg Q σ (pc + 3) lv (.long v :: st)) : J cx gg Q σ pc lv st :=
  fun H locs ls hP hS hl => lv_ldc2 hc.1 hc.2.1 hc.2.2.2.1 (hc.2.2.2.2.1 _ hw) hd (k H locs ls hP hS hl)
theorem J_getg (hc : zOK cx gg cc own nL) {i ci index : Nat} {fs : List Value} {C : String} {T : u_T} {N : Nat} {v : Value} {a : Nat} (ha : a = zad gg i) (hi : i < 45) (he : zE gg σ i = .inr (ci, fs)) (hcl : vwCl[ci]? = some (C, T, N)) (hin : ∀ w ∈ u_ws C T N, w ∈ zT) (k : Nat) (hk : k < N) (hlink : Cond.fieldLink own index (T k).1 (T k).2.1 (T k).2.2.1 ∈ zT) (hv : fs[k]? = some v) (hd : decode cc pc = .ok (.getfield index, 3)) (kk : J cx gg Q σ (pc + 3) lv (v :: st)) : J cx gg Q σ pc lv (.ref a :: st) := by
  subst ha
  exact fun H locs ls hP hS hl => va_get (D := zD gg) hc.1 hc.2.1 hc.2.2.2.2.1 hin hc.2.2.2.1 hc.2.2.2.2.2.1.1 hP i (by rw [zW_get gg σ hi, he]) hcl k hk (hc.2.2.2.2.1 _ hlink) (fun _ h => h) hv hd (kk H locs ls hP hS hl)
theorem J_getN (hc : zOK cx gg cc own nL) {i ci index : Nat} {fs : List Value} {C host : String} {T : u_T} {N : Nat} {v : Value} {a : Nat} (ha : a = zad gg i) (hi : i < 45) (he : zE gg σ i = .inr (ci, fs)) (hcl : vwCl[ci]? = some (C, T, N)) (hin : ∀ w ∈ u_ws C T N, w ∈ zT) (k : Nat) (hk : k < N) (hlink : Cond.fieldLinkNest own index (T k).1 (T k).2.1 (T k).2.2.1 host ∈ zN) (hv : fs[k]? = some v) (hd : decode cc pc = .ok (.getfield index, 3)) (kk : J cx gg Q σ (pc + 3) lv (v :: st)) : J cx gg Q σ pc lv (.ref a :: st) := by
  subst ha
  exact fun H locs ls hP hS hl => va_getN (D := zD gg) hc.1 hc.2.1 hc.2.2.2.2.1 hin hc.2.2.2.1 hc.2.2.2.2.2.1.1 hP i (by rw [zW_get gg σ hi, he]) hcl k hk (va_Nw.use rfl (hc.2.2.2.2.2.1.2.1 _ hlink)) (fun _ h => h) hv hd (kk H locs ls hP hS hl)
theorem J_putg (hc : zOK cx gg cc own nL) {i ci index : Nat} {fs : List Value} {C : String} {T : u_T} {N : Nat} {v : Value} {a : Nat} {σ' : zS} {ty : FieldType} (ha : a = zad gg i) (hi : i < 45) (he : zE gg σ i = .inr (ci, fs)) (hcl : vwCl[ci]? = some (C, T, N)) (hin : ∀ w ∈ u_ws C T N, w ∈ zT) (ty0 : Nat → FieldType) (hty : ∀ k, k < N → parseFieldDescriptor (T k).2.2.1 = some (ty0 k)) (hnm : ∀ a, a < N → ∀ b, b < N → a ≠ b → (T a).2.1 ≠ (T b).2.1) (k : Nat) (hk : k < N) (hlink : Cond.fieldLink own index (T k).1 (T k).2.1 (T k).2.2.1 ∈ zT) (hfin : (T k).2.2.2 = false) (hdsc : parseFieldDescriptor (T k).2.2.1 = some ty) (hn : narrow ty v = v) (hfit : fits ty v = true) (hl : k < fs.length)
    (h1 : zE gg σ' i = .inr (ci, fs.set k v)) (h2 : ∀ j, j < 45 → ¬ j = i → zE gg σ' j = zE gg σ j) (hd : decode cc pc = .ok (.putfield index, 3)) (kk : J cx gg Q σ' (pc + 3) lv st) : J cx gg Q σ pc lv (v :: .ref a :: st) := by
  subst ha
  intro H locs ls hP hS hl'
  refine va_put (D := zD gg) hc.1 hc.2.1 hc.2.2.2.2.1 hin ty0 hty hnm hc.2.2.2.1 hc.2.2.2.2.2.1.1 hP (zD_of hc.2.2.2.2.2.1.2.2 hc.2.2.2.2.2.2.1) hS i (by rw [zW_get gg σ hi, he]) hcl k hk (hc.2.2.2.2.1 _ hlink) (fun _ h => h) hfin hdsc hn hfit hl hd (fun H1 locs1 hP1 hD1 hS1 => ?_)
  rw [zW_set hi h1 h2] at hP1
  exact kk H1 locs1 ls hP1 hS1 hl'
theorem J_iald (hc : zOK cx gg cc own nL) {j n : Nat} {i : Int32} (L : Nat) (hj : j < 30) (hL : zlen j = L) (hd : decode cc pc = .ok (.iaload, 1)) (hi : i = nI n) (hn : n < L) (kk : J cx gg Q σ (pc + 1) lv (.int (sa σ j n) :: st)) : J cx gg Q σ pc lv (.int i :: .ref (zr gg j) :: st) := by
  subst hi; subst hL
  have hlt := zlen_lt j
  intro H locs ls hP hS hl
  refine va_iald (D := zD gg) hc.1 hc.2.1 hc.2.2.2.2.2.1.1 hP (9 + j) 0 (by rw [zW_get gg σ (by omega), zE_r gg σ hj]; rfl) rfl (vp_in_nI hn hlt) hd ?_
  rw [nI_clamp (by omega)]
  exact kk H locs ls hP hS hl
theorem J_lald (hc : zOK cx gg cc own nL) {j n : Nat} {i : Int32} (hj : j < 3) (hd : decode cc pc = .ok (.laload, 1)) (hi : i = nI n) (hn : n < 16) (kk : J cx gg Q σ (pc + 1) lv (.long (sm σ j n) :: st)) : J cx gg Q σ pc lv (.int i :: .ref (zm gg j) :: st) := by
  subst hi
  intro H locs ls hP hS hl
  refine va_lald (D := zD gg) hc.1 hc.2.1 hc.2.2.2.2.2.1.1 hP (39 + j) 1 (by rw [zW_get gg σ (by omega), zE_m gg σ hj]; rfl) rfl (vp_in_nI hn (by omega)) hd ?_
  rw [nI_clamp (by omega)]
  exact kk H locs ls hP hS hl
theorem J_iast (hc : zOK cx gg cc own nL) {j n : Nat} {i x : Int32} (L : Nat) (hj : j < 30) (hL : zlen j = L) (hd : decode cc pc = .ok (.iastore, 1)) (hi : i = nI n) (hn : n < L) (kk : J cx gg Q (ua σ j (upd (sa σ j) n x)) (pc + 1) lv st) : J cx gg Q σ pc lv (.int x :: .int i :: .ref (zr gg j) :: st) := by
  subst hi; subst hL
  have hlt := zlen_lt j
  intro H locs ls hP hS hl
  refine va_iast (D := zD gg) hc.1 hc.2.1 hc.2.2.2.2.2.1.1 hP (zD_of hc.2.2.2.2.2.1.2.2 hc.2.2.2.2.2.2.1) hS (9 + j) 0 (by rw [zW_get gg σ (by omega), zE_r gg σ hj]; rfl) rfl (vp_in_nI hn hlt) hd (fun H1 locs1 hP1 _ hS1 => ?_)
  rw [nI_clamp (by omega)] at hP1
  have e := zW_set (gg := gg) (σ := σ) (σ' := ua σ j (upd (sa σ j) n x)) (i := 9 + j) (by omega) (zE_r gg _ hj) (fun j' _ h => zE_ua gg σ _ h)
  rw [sa_ua_s] at e
  exact kk H1 locs1 ls (e ▸ hP1) hS1 hl
theorem J_last (hc : zOK cx gg cc own nL) {j n : Nat} {i : Int32} {x : Int64} (hj : j < 3) (hd : decode cc pc = .ok (.lastore, 1)) (hi : i = nI n) (hn : n < 16) (kk : J cx gg Q (um σ j (vp_updL (sm σ j) n x)) (pc + 1) lv st) : J cx gg Q σ pc lv (.long x :: .int i :: .ref (zm gg j) :: st) := by
  subst hi
  intro H locs ls hP hS hl
  refine va_last (D := zD gg) hc.1 hc.2.1 hc.2.2.2.2.2.1.1 hP (zD_of hc.2.2.2.2.2.1.2.2 hc.2.2.2.2.2.2.1) hS (39 + j) 1 (by rw [zW_get gg σ (by omega), zE_m gg σ hj]; rfl) rfl (vp_in_nI hn (by omega)) hd (fun H1 locs1 hP1 _ hS1 => ?_)
  rw [nI_clamp (by omega)] at hP1
  have e := zW_set (gg := gg) (σ := σ) (σ' := um σ j (vp_updL (sm σ j) n x)) (i := 39 + j) (by omega) (zE_m gg _ hj) (fun j' _ h => zE_um gg σ _ h)
  rw [sm_um_s] at e
  exact kk H1 locs1 ls (e ▸ hP1) hS1 hl
theorem J_aald (hc : zOK cx gg cc own nL) {n : Nat} {i : Int32} (hd : decode cc pc = .ok (.aaload, 1)) (hi : i = nI n) (hn : n < 6) (kk : J cx gg Q σ (pc + 1) lv (.ref (zc gg n) :: st)) : J cx gg Q σ pc lv (.int i :: .ref (zv gg) :: st) := by
  subst hi
  intro H locs ls hP hS hl
  refine va_aldq (D := zD gg) hc.1 hc.2.1 hc.2.2.2.2.2.1.1 hP 1 2 (by rw [zW_get gg σ (by omega)]; rfl) rfl (vp_in_nI hn (by omega)) hd ?_
  rw [nI_clamp (by omega)]
  exact kk H locs ls hP hS hl
theorem zrecv (hc : zOK cx gg cc own nL) {i ci : Nat} {fs : List Value} {q : vw_C} {H : Heap} (hi : i < 45) (he : zE gg σ i = .inr (ci, fs)) (hcl : vwCl[ci]? = some q) (hP : va_P (zD gg) vwCl (zW gg σ) H) : ∃ cell : Cell, H[zad gg i]? = some cell ∧ cell.vm.isStatics = false ∧ cx.2.1.1.vm.findClass q.1 = some cell.cls :=
  va_recv hc.2.2.2.2.2.1.1 hP hcl (q0 := i) (by rw [zW_get gg σ hi, he])
theorem J_cVv (hc : zOK cx gg cc own nL) {f0 l0 : Nat} (hR : zR cx f0 l0) {y : MethodName} {bytes : ByteArray} {maxL fr lo n index : Nat} {As rest : List Value} {post : zS → Prop} {i ci b : Nat} {fs : List Value} {q : vw_C} (hlink : Cond.methodLink own index y ∈ zT) (hinst : Cond.instanceMethod y ∈ zT) (hsel : Cond.selects y.cls y y ∈ zT) (hini : Cond.initialized y.cls ∈ zT) (hcode : Cond.code y bytes maxL none ∈ zT) (hy : y.cls ≠ "java/lang/invoke/MethodHandle" ∧ y.cls ≠ "java/lang/invoke/VarHandle" ∧ (parseMethodDescriptor y.desc).map (fun d => d.parameters.length) = some n) (hb : b = zad gg i) (hi : i < 45) (he : zE gg σ i = .inr (ci, fs)) (hcl : vwCl[ci]? = some q) (hq : q.1 = y.cls) (hd : decode cc pc = .ok (.invokevirtual index, 3))
    (hM : zMv cx.1.2.1 gg y bytes maxL fr lo (.ref b :: As) σ post) (hr : fr + 1 ≤ f0 ∧ 8 + (maxL + 11) + lo ≤ l0) (hn : As.length = n) (hst : st = As.reverse ++ .ref b :: rest) (hs : (rest.map fun v => v.category).sum ≤ 8) (hlen : lv.length = nL) (kk : ∀ u : zS, post u → J cx gg Q u (pc + 3) lv rest) : J cx gg Q σ pc lv st := by
  subst hst; subst hb
  intro H locs ls hP hS hl
  have hts := hc.2.2.2.2.1
  have hrv := zrecv hc hi he hcl hP
  rw [hq] at hrv
  refine va_callv (va_runV (C := y.cls) (As := As) (rest := rest) ⟨hc.1, hc.2.1, hc.2.2.1, hc.2.2.2.1, hts⟩ hM (⟨callB_of n hts (zgood _ _ _ _ hcode) rfl rfl rfl (hts _ hini) (hts _ hlink) hy ⟨Nat.le_trans hr.1 hR.1, Nat.le_trans hr.2 hR.2.1⟩, hts _ hinst, hts _ hsel⟩) ⟨zPre.blind, hrv, fun U hU hW => ⟨rfl, hc.2.2.2.2.2.1.moved hW, by rw [hU]; exact hP⟩⟩ rfl hn (hl.1.trans ?_) rfl (lv_room hs) hd ⟨hR.2.2.1, hR.2.2.2⟩) hS (fun q _ h => ?_) (fun q h => ?_) (fun u t H1 locs1 ht _ hw hB _ _ hS1 => kk u hw H1 locs1 ls (by rw [← ht]; exact hB) hS1 hl)
  · exact hlen
  · obtain ⟨i', h1, rfl⟩ := h; exact hc.2.2.2.2.2.2.1 i' h1
  · obtain ⟨i', h1, rfl⟩ := h; exact hc.2.2.2.2.2.2.1 i' h1
theorem J_cSv (hc : zOK cx gg cc own nL) {f0 l0 : Nat} (hR : zR cx f0 l0) {y : MethodName} {bytes : ByteArray} {maxL fr lo n index : Nat} {As rest : List Value} {post : zS → Prop} (hlink : Cond.methodLink own index y ∈ zT) (hstat : Cond.static y ∈ zT) (hini : Cond.initialized y.cls ∈ zT) (hcode : Cond.code y bytes maxL none ∈ zT) (hy : y.cls ≠ "java/lang/invoke/MethodHandle" ∧ y.cls ≠ "java/lang/invoke/VarHandle" ∧ (parseMethodDescriptor y.desc).map (fun d => d.parameters.length) = some n) (hd : decode cc pc = .ok (.invokestatic index, 3))
    (hM : zMv cx.1.2.1 gg y bytes maxL fr lo As σ post) (hr : fr + 1 ≤ f0 ∧ 8 + (maxL + 11) + lo ≤ l0) (hn : As.length = n) (hst : st = As.reverse ++ rest) (hs : (rest.map fun v => v.category).sum ≤ 8) (hlen : lv.length = nL) (kk : ∀ u : zS, post u → J cx gg Q u (pc + 3) lv rest) : J cx gg Q σ pc lv st := by
  subst hst
  intro H locs ls hP hS hl
  have hts := hc.2.2.2.2.1
  refine va_callv (va_runS (As := As) (rest := rest) ⟨hc.1, hc.2.1, hc.2.2.1, hc.2.2.2.1, hts⟩ hM (⟨callB_of n hts (zgood _ _ _ _ hcode) rfl rfl rfl (hts _ hini) (hts _ hlink) hy ⟨Nat.le_trans hr.1 hR.1, Nat.le_trans hr.2 hR.2.1⟩, hts _ hstat⟩) ⟨zPre.blind, fun U hU hW => ⟨rfl, hc.2.2.2.2.2.1.moved hW, by rw [hU]; exact hP⟩⟩ rfl hn (hl.1.trans ?_) rfl (lv_room hs) hd ⟨hR.2.2.1, hR.2.2.2⟩) hS (fun q _ h => ?_) (fun q h => ?_) (fun u t H1 locs1 ht _ hw hB _ _ hS1 => kk u hw H1 locs1 ls (by rw [← ht]; exact hB) hS1 hl)
  · exact hlen
  · obtain ⟨i', h1, rfl⟩ := h; exact hc.2.2.2.2.2.2.1 i' h1
  · obtain ⟨i', h1, rfl⟩ := h; exact hc.2.2.2.2.2.2.1 i' h1
theorem J_cVNv (hc : zOK cx gg cc own nL) {f0 l0 : Nat} (hR : zR cx f0 l0) {y : MethodName} {bytes : ByteArray} {maxL fr lo n index : Nat} {As rest : List Value} {post : zS → Prop} {host : String} {i ci b : Nat} {fs : List Value} {q : vw_C} (hlink : Cond.methodLinkNest own index y host ∈ zN) (hinst : Cond.instanceMethod y ∈ zT) (hsel : Cond.selects y.cls y y ∈ zT) (hini : Cond.initialized y.cls ∈ zT) (hcode : Cond.code y bytes maxL none ∈ zT) (hy : y.cls ≠ "java/lang/invoke/MethodHandle" ∧ y.cls ≠ "java/lang/invoke/VarHandle" ∧ (parseMethodDescriptor y.desc).map (fun d => d.parameters.length) = some n) (hb : b = zad gg i) (hi : i < 45) (he : zE gg σ i = .inr (ci, fs)) (hcl : vwCl[ci]? = some q) (hq : q.1 = y.cls) (hd : decode cc pc = .ok (.invokevirtual index, 3))
    (hM : zMv cx.1.2.1 gg y bytes maxL fr lo (.ref b :: As) σ post) (hr : fr + 1 ≤ f0 ∧ 8 + (maxL + 11) + lo ≤ l0) (hn : As.length = n) (hst : st = As.reverse ++ .ref b :: rest) (hs : (rest.map fun v => v.category).sum ≤ 8) (hlen : lv.length = nL) (kk : ∀ u : zS, post u → J cx gg Q u (pc + 3) lv rest) : J cx gg Q σ pc lv st := by
  subst hst; subst hb
  intro H locs ls hP hS hl
  have hts := hc.2.2.2.2.1
  have hrv := zrecv hc hi he hcl hP
  rw [hq] at hrv
  refine va_callv (va_runVN (C := y.cls) (As := As) (rest := rest) ⟨hc.1, hc.2.1, hc.2.2.1, hc.2.2.2.1, hts⟩ hM (⟨va_cnB n hts (zgood _ _ _ _ hcode) rfl rfl rfl (hc.2.2.2.2.2.1.2.1 _ hlink) (hts _ hini) hy ⟨Nat.le_trans hr.1 hR.1, Nat.le_trans hr.2 hR.2.1⟩, hts _ hinst, hts _ hsel⟩) ⟨zPre.blind, hrv, fun U hU hW => ⟨rfl, hc.2.2.2.2.2.1.moved hW, by rw [hU]; exact hP⟩⟩ rfl hn (hl.1.trans ?_) rfl (lv_room hs) hd ⟨hR.2.2.1, hR.2.2.2⟩) hS (fun q _ h => ?_) (fun q h => ?_) (fun u t H1 locs1 ht _ hw hB _ _ hS1 => kk u hw H1 locs1 ls (by rw [← ht]; exact hB) hS1 hl)
  · exact hlen
  · obtain ⟨i', h1, rfl⟩ := h; exact hc.2.2.2.2.2.2.1 i' h1
  · obtain ⟨i', h1, rfl⟩ := h; exact hc.2.2.2.2.2.2.1 i' h1
theorem J_cSNv (hc : zOK cx gg cc own nL) {f0 l0 : Nat} (hR : zR cx f0 l0) {y : MethodName} {bytes : ByteArray} {maxL fr lo n index : Nat} {As rest : List Value} {post : zS → Prop} {host : String} (hlink : Cond.methodLinkNest own index y host ∈ zN) (hstat : Cond.static y ∈ zT) (hini : Cond.initialized y.cls ∈ zT) (hcode : Cond.code y bytes maxL none ∈ zT) (hy : y.cls ≠ "java/lang/invoke/MethodHandle" ∧ y.cls ≠ "java/lang/invoke/VarHandle" ∧ (parseMethodDescriptor y.desc).map (fun d => d.parameters.length) = some n) (hd : decode cc pc = .ok (.invokestatic index, 3))
    (hM : zMv cx.1.2.1 gg y bytes maxL fr lo As σ post) (hr : fr + 1 ≤ f0 ∧ 8 + (maxL + 11) + lo ≤ l0) (hn : As.length = n) (hst : st = As.reverse ++ rest) (hs : (rest.map fun v => v.category).sum ≤ 8) (hlen : lv.length = nL) (kk : ∀ u : zS, post u → J cx gg Q u (pc + 3) lv rest) : J cx gg Q σ pc lv st := by
  subst hst
  intro H locs ls hP hS hl
  have hts := hc.2.2.2.2.1
  refine va_callv (va_runSN (As := As) (rest := rest) ⟨hc.1, hc.2.1, hc.2.2.1, hc.2.2.2.1, hts⟩ hM (⟨va_cnB n hts (zgood _ _ _ _ hcode) rfl rfl rfl (hc.2.2.2.2.2.1.2.1 _ hlink) (hts _ hini) hy ⟨Nat.le_trans hr.1 hR.1, Nat.le_trans hr.2 hR.2.1⟩, hts _ hstat, trivial⟩) ⟨zPre.blind, fun U hU hW => ⟨rfl, hc.2.2.2.2.2.1.moved hW, by rw [hU]; exact hP⟩⟩ rfl hn (hl.1.trans ?_) rfl (lv_room hs) hd ⟨hR.2.2.1, hR.2.2.2⟩) hS (fun q _ h => ?_) (fun q h => ?_) (fun u t H1 locs1 ht _ hw hB _ _ hS1 => kk u hw H1 locs1 ls (by rw [← ht]; exact hB) hS1 hl)
  · exact hlen
  · obtain ⟨i', h1, rfl⟩ := h; exact hc.2.2.2.2.2.2.1 i' h1
  · obtain ⟨i', h1, rfl⟩ := h; exact hc.2.2.2.2.2.2.1 i' h1
theorem J_cVi (hc : zOK cx gg cc own nL) {f0 l0 : Nat} (hR : zR cx f0 l0) {y : MethodName} {bytes : ByteArray} {ret : FieldType} {maxL fr lo n index : Nat} {As rest : List Value} {post : Int32 → zS → Prop} {i ci b : Nat} {fs : List Value} {q : vw_C} (hlink : Cond.methodLink own index y ∈ zT) (hinst : Cond.instanceMethod y ∈ zT) (hsel : Cond.selects y.cls y y ∈ zT) (hini : Cond.initialized y.cls ∈ zT) (hcode : Cond.code y bytes maxL (some ret) ∈ zT) (hy : y.cls ≠ "java/lang/invoke/MethodHandle" ∧ y.cls ≠ "java/lang/invoke/VarHandle" ∧ (parseMethodDescriptor y.desc).map (fun d => d.parameters.length) = some n) (hb : b = zad gg i) (hi : i < 45) (he : zE gg σ i = .inr (ci, fs)) (hcl : vwCl[ci]? = some q) (hq : q.1 = y.cls) (hd : decode cc pc = .ok (.invokevirtual index, 3))
    (hM : zMi cx.1.2.1 gg y bytes ret maxL fr lo (.ref b :: As) σ post) (hr : fr + 1 ≤ f0 ∧ 8 + (maxL + 11) + lo ≤ l0) (hn : As.length = n) (hst : st = As.reverse ++ .ref b :: rest) (hs : (rest.map fun v => v.category).sum ≤ 8) (hlen : lv.length = nL) (kk : ∀ (r : Int32) (u : zS), post r u → J cx gg Q u (pc + 3) lv (.int r :: rest)) : J cx gg Q σ pc lv st := by
  subst hst; subst hb
  intro H locs ls hP hS hl
  have hts := hc.2.2.2.2.1
  have hrv := zrecv hc hi he hcl hP
  rw [hq] at hrv
  refine va_calli (va_runV (C := y.cls) (As := As) (rest := rest) ⟨hc.1, hc.2.1, hc.2.2.1, hc.2.2.2.1, hts⟩ hM (⟨callB_of n hts (zgood _ _ _ _ hcode) rfl rfl rfl (hts _ hini) (hts _ hlink) hy ⟨Nat.le_trans hr.1 hR.1, Nat.le_trans hr.2 hR.2.1⟩, hts _ hinst, hts _ hsel⟩) ⟨zPre.blind, hrv, fun U hU hW => ⟨rfl, hc.2.2.2.2.2.1.moved hW, by rw [hU]; exact hP⟩⟩ rfl hn (hl.1.trans ?_) rfl (lv_room hs) hd ⟨hR.2.2.1, hR.2.2.2⟩) hS (fun q _ h => ?_) (fun q h => ?_) (fun r u t H1 locs1 ht _ hw hB _ _ hS1 => kk r u hw H1 locs1 ls (by rw [← ht]; exact hB) hS1 hl)
  · exact hlen
  · obtain ⟨i', h1, rfl⟩ := h; exact hc.2.2.2.2.2.2.1 i' h1
  · obtain ⟨i', h1, rfl⟩ := h; exact hc.2.2.2.2.2.2.1 i' h1
theorem J_cSi (hc : zOK cx gg cc own nL) {f0 l0 : Nat} (hR : zR cx f0 l0) {y : MethodName} {bytes : ByteArray} {ret : FieldType} {maxL fr lo n index : Nat} {As rest : List Value} {post : Int32 → zS → Prop} (hlink : Cond.methodLink own index y ∈ zT) (hstat : Cond.static y ∈ zT) (hini : Cond.initialized y.cls ∈ zT) (hcode : Cond.code y bytes maxL (some ret) ∈ zT) (hy : y.cls ≠ "java/lang/invoke/MethodHandle" ∧ y.cls ≠ "java/lang/invoke/VarHandle" ∧ (parseMethodDescriptor y.desc).map (fun d => d.parameters.length) = some n) (hd : decode cc pc = .ok (.invokestatic index, 3))
    (hM : zMi cx.1.2.1 gg y bytes ret maxL fr lo As σ post) (hr : fr + 1 ≤ f0 ∧ 8 + (maxL + 11) + lo ≤ l0) (hn : As.length = n) (hst : st = As.reverse ++ rest) (hs : (rest.map fun v => v.category).sum ≤ 8) (hlen : lv.length = nL) (kk : ∀ (r : Int32) (u : zS), post r u → J cx gg Q u (pc + 3) lv (.int r :: rest)) : J cx gg Q σ pc lv st := by
  subst hst
  intro H locs ls hP hS hl
  have hts := hc.2.2.2.2.1
  refine va_calli (va_runS (As := As) (rest := rest) ⟨hc.1, hc.2.1, hc.2.2.1, hc.2.2.2.1, hts⟩ hM (⟨callB_of n hts (zgood _ _ _ _ hcode) rfl rfl rfl (hts _ hini) (hts _ hlink) hy ⟨Nat.le_trans hr.1 hR.1, Nat.le_trans hr.2 hR.2.1⟩, hts _ hstat⟩) ⟨zPre.blind, fun U hU hW => ⟨rfl, hc.2.2.2.2.2.1.moved hW, by rw [hU]; exact hP⟩⟩ rfl hn (hl.1.trans ?_) rfl (lv_room hs) hd ⟨hR.2.2.1, hR.2.2.2⟩) hS (fun q _ h => ?_) (fun q h => ?_) (fun r u t H1 locs1 ht _ hw hB _ _ hS1 => kk r u hw H1 locs1 ls (by rw [← ht]; exact hB) hS1 hl)
  · exact hlen
  · obtain ⟨i', h1, rfl⟩ := h; exact hc.2.2.2.2.2.2.1 i' h1
  · obtain ⟨i', h1, rfl⟩ := h; exact hc.2.2.2.2.2.2.1 i' h1
theorem J_cVNi (hc : zOK cx gg cc own nL) {f0 l0 : Nat} (hR : zR cx f0 l0) {y : MethodName} {bytes : ByteArray} {ret : FieldType} {maxL fr lo n index : Nat} {As rest : List Value} {post : Int32 → zS → Prop} {host : String} {i ci b : Nat} {fs : List Value} {q : vw_C} (hlink : Cond.methodLinkNest own index y host ∈ zN) (hinst : Cond.instanceMethod y ∈ zT) (hsel : Cond.selects y.cls y y ∈ zT) (hini : Cond.initialized y.cls ∈ zT) (hcode : Cond.code y bytes maxL (some ret) ∈ zT) (hy : y.cls ≠ "java/lang/invoke/MethodHandle" ∧ y.cls ≠ "java/lang/invoke/VarHandle" ∧ (parseMethodDescriptor y.desc).map (fun d => d.parameters.length) = some n) (hb : b = zad gg i) (hi : i < 45) (he : zE gg σ i = .inr (ci, fs)) (hcl : vwCl[ci]? = some q) (hq : q.1 = y.cls) (hd : decode cc pc = .ok (.invokevirtual index, 3))
    (hM : zMi cx.1.2.1 gg y bytes ret maxL fr lo (.ref b :: As) σ post) (hr : fr + 1 ≤ f0 ∧ 8 + (maxL + 11) + lo ≤ l0) (hn : As.length = n) (hst : st = As.reverse ++ .ref b :: rest) (hs : (rest.map fun v => v.category).sum ≤ 8) (hlen : lv.length = nL) (kk : ∀ (r : Int32) (u : zS), post r u → J cx gg Q u (pc + 3) lv (.int r :: rest)) : J cx gg Q σ pc lv st := by
  subst hst; subst hb
  intro H locs ls hP hS hl
  have hts := hc.2.2.2.2.1
  have hrv := zrecv hc hi he hcl hP
  rw [hq] at hrv
  refine va_calli (va_runVN (C := y.cls) (As := As) (rest := rest) ⟨hc.1, hc.2.1, hc.2.2.1, hc.2.2.2.1, hts⟩ hM (⟨va_cnB n hts (zgood _ _ _ _ hcode) rfl rfl rfl (hc.2.2.2.2.2.1.2.1 _ hlink) (hts _ hini) hy ⟨Nat.le_trans hr.1 hR.1, Nat.le_trans hr.2 hR.2.1⟩, hts _ hinst, hts _ hsel⟩) ⟨zPre.blind, hrv, fun U hU hW => ⟨rfl, hc.2.2.2.2.2.1.moved hW, by rw [hU]; exact hP⟩⟩ rfl hn (hl.1.trans ?_) rfl (lv_room hs) hd ⟨hR.2.2.1, hR.2.2.2⟩) hS (fun q _ h => ?_) (fun q h => ?_) (fun r u t H1 locs1 ht _ hw hB _ _ hS1 => kk r u hw H1 locs1 ls (by rw [← ht]; exact hB) hS1 hl)
  · exact hlen
  · obtain ⟨i', h1, rfl⟩ := h; exact hc.2.2.2.2.2.2.1 i' h1
  · obtain ⟨i', h1, rfl⟩ := h; exact hc.2.2.2.2.2.2.1 i' h1
theorem J_cSNi (hc : zOK cx gg cc own nL) {f0 l0 : Nat} (hR : zR cx f0 l0) {y : MethodName} {bytes : ByteArray} {ret : FieldType} {maxL fr lo n index : Nat} {As rest : List Value} {post : Int32 → zS → Prop} {host : String} (hlink : Cond.methodLinkNest own index y host ∈ zN) (hstat : Cond.static y ∈ zT) (hini : Cond.initialized y.cls ∈ zT) (hcode : Cond.code y bytes maxL (some ret) ∈ zT) (hy : y.cls ≠ "java/lang/invoke/MethodHandle" ∧ y.cls ≠ "java/lang/invoke/VarHandle" ∧ (parseMethodDescriptor y.desc).map (fun d => d.parameters.length) = some n) (hd : decode cc pc = .ok (.invokestatic index, 3))
    (hM : zMi cx.1.2.1 gg y bytes ret maxL fr lo As σ post) (hr : fr + 1 ≤ f0 ∧ 8 + (maxL + 11) + lo ≤ l0) (hn : As.length = n) (hst : st = As.reverse ++ rest) (hs : (rest.map fun v => v.category).sum ≤ 8) (hlen : lv.length = nL) (kk : ∀ (r : Int32) (u : zS), post r u → J cx gg Q u (pc + 3) lv (.int r :: rest)) : J cx gg Q σ pc lv st := by
  subst hst
  intro H locs ls hP hS hl
  have hts := hc.2.2.2.2.1
  refine va_calli (va_runSN (As := As) (rest := rest) ⟨hc.1, hc.2.1, hc.2.2.1, hc.2.2.2.1, hts⟩ hM (⟨va_cnB n hts (zgood _ _ _ _ hcode) rfl rfl rfl (hc.2.2.2.2.2.1.2.1 _ hlink) (hts _ hini) hy ⟨Nat.le_trans hr.1 hR.1, Nat.le_trans hr.2 hR.2.1⟩, hts _ hstat, trivial⟩) ⟨zPre.blind, fun U hU hW => ⟨rfl, hc.2.2.2.2.2.1.moved hW, by rw [hU]; exact hP⟩⟩ rfl hn (hl.1.trans ?_) rfl (lv_room hs) hd ⟨hR.2.2.1, hR.2.2.2⟩) hS (fun q _ h => ?_) (fun q h => ?_) (fun r u t H1 locs1 ht _ hw hB _ _ hS1 => kk r u hw H1 locs1 ls (by rw [← ht]; exact hB) hS1 hl)
  · exact hlen
  · obtain ⟨i', h1, rfl⟩ := h; exact hc.2.2.2.2.2.2.1 i' h1
  · obtain ⟨i', h1, rfl⟩ := h; exact hc.2.2.2.2.2.2.1 i' h1
theorem J_cVl (hc : zOK cx gg cc own nL) {f0 l0 : Nat} (hR : zR cx f0 l0) {y : MethodName} {bytes : ByteArray} {maxL fr lo n index : Nat} {As rest : List Value} {post : Int64 → zS → Prop} {i ci b : Nat} {fs : List Value} {q : vw_C} (hlink : Cond.methodLink own index y ∈ zT) (hinst : Cond.instanceMethod y ∈ zT) (hsel : Cond.selects y.cls y y ∈ zT) (hini : Cond.initialized y.cls ∈ zT) (hcode : Cond.code y bytes maxL (some .long) ∈ zT) (hy : y.cls ≠ "java/lang/invoke/MethodHandle" ∧ y.cls ≠ "java/lang/invoke/VarHandle" ∧ (parseMethodDescriptor y.desc).map (fun d => d.parameters.length) = some n) (hb : b = zad gg i) (hi : i < 45) (he : zE gg σ i = .inr (ci, fs)) (hcl : vwCl[ci]? = some q) (hq : q.1 = y.cls) (hd : decode cc pc = .ok (.invokevirtual index, 3))
    (hM : zMl cx.1.2.1 gg y bytes maxL fr lo (.ref b :: As) σ post) (hr : fr + 1 ≤ f0 ∧ 8 + (maxL + 11) + lo ≤ l0) (hn : As.length = n) (hst : st = As.reverse ++ .ref b :: rest) (hs : (rest.map fun v => v.category).sum ≤ 8) (hlen : lv.length = nL) (kk : ∀ (r : Int64) (u : zS), post r u → J cx gg Q u (pc + 3) lv (.long r :: rest)) : J cx gg Q σ pc lv st := by
  subst hst; subst hb
  intro H locs ls hP hS hl
  have hts := hc.2.2.2.2.1
  have hrv := zrecv hc hi he hcl hP
  rw [hq] at hrv
  refine va_calll (va_runV (C := y.cls) (As := As) (rest := rest) ⟨hc.1, hc.2.1, hc.2.2.1, hc.2.2.2.1, hts⟩ hM (⟨callB_of n hts (zgood _ _ _ _ hcode) rfl rfl rfl (hts _ hini) (hts _ hlink) hy ⟨Nat.le_trans hr.1 hR.1, Nat.le_trans hr.2 hR.2.1⟩, hts _ hinst, hts _ hsel⟩) ⟨zPre.blind, hrv, fun U hU hW => ⟨rfl, hc.2.2.2.2.2.1.moved hW, by rw [hU]; exact hP⟩⟩ rfl hn (hl.1.trans ?_) rfl (lv_room hs) hd ⟨hR.2.2.1, hR.2.2.2⟩) hS (fun q _ h => ?_) (fun q h => ?_) (fun r u t H1 locs1 ht _ hw hB _ _ hS1 => kk r u hw H1 locs1 ls (by rw [← ht]; exact hB) hS1 hl)
  · exact hlen
  · obtain ⟨i', h1, rfl⟩ := h; exact hc.2.2.2.2.2.2.1 i' h1
  · obtain ⟨i', h1, rfl⟩ := h; exact hc.2.2.2.2.2.2.1 i' h1
theorem J_cSl (hc : zOK cx gg cc own nL) {f0 l0 : Nat} (hR : zR cx f0 l0) {y : MethodName} {bytes : ByteArray} {maxL fr lo n index : Nat} {As rest : List Value} {post : Int64 → zS → Prop} (hlink : Cond.methodLink own index y ∈ zT) (hstat : Cond.static y ∈ zT) (hini : Cond.initialized y.cls ∈ zT) (hcode : Cond.code y bytes maxL (some .long) ∈ zT) (hy : y.cls ≠ "java/lang/invoke/MethodHandle" ∧ y.cls ≠ "java/lang/invoke/VarHandle" ∧ (parseMethodDescriptor y.desc).map (fun d => d.parameters.length) = some n) (hd : decode cc pc = .ok (.invokestatic index, 3))
    (hM : zMl cx.1.2.1 gg y bytes maxL fr lo As σ post) (hr : fr + 1 ≤ f0 ∧ 8 + (maxL + 11) + lo ≤ l0) (hn : As.length = n) (hst : st = As.reverse ++ rest) (hs : (rest.map fun v => v.category).sum ≤ 8) (hlen : lv.length = nL) (kk : ∀ (r : Int64) (u : zS), post r u → J cx gg Q u (pc + 3) lv (.long r :: rest)) : J cx gg Q σ pc lv st := by
  subst hst
  intro H locs ls hP hS hl
  have hts := hc.2.2.2.2.1
  refine va_calll (va_runS (As := As) (rest := rest) ⟨hc.1, hc.2.1, hc.2.2.1, hc.2.2.2.1, hts⟩ hM (⟨callB_of n hts (zgood _ _ _ _ hcode) rfl rfl rfl (hts _ hini) (hts _ hlink) hy ⟨Nat.le_trans hr.1 hR.1, Nat.le_trans hr.2 hR.2.1⟩, hts _ hstat⟩) ⟨zPre.blind, fun U hU hW => ⟨rfl, hc.2.2.2.2.2.1.moved hW, by rw [hU]; exact hP⟩⟩ rfl hn (hl.1.trans ?_) rfl (lv_room hs) hd ⟨hR.2.2.1, hR.2.2.2⟩) hS (fun q _ h => ?_) (fun q h => ?_) (fun r u t H1 locs1 ht _ hw hB _ _ hS1 => kk r u hw H1 locs1 ls (by rw [← ht]; exact hB) hS1 hl)
  · exact hlen
  · obtain ⟨i', h1, rfl⟩ := h; exact hc.2.2.2.2.2.2.1 i' h1
  · obtain ⟨i', h1, rfl⟩ := h; exact hc.2.2.2.2.2.2.1 i' h1
theorem J_cVNl (hc : zOK cx gg cc own nL) {f0 l0 : Nat} (hR : zR cx f0 l0) {y : MethodName} {bytes : ByteArray} {maxL fr lo n index : Nat} {As rest : List Value} {post : Int64 → zS → Prop} {host : String} {i ci b : Nat} {fs : List Value} {q : vw_C} (hlink : Cond.methodLinkNest own index y host ∈ zN) (hinst : Cond.instanceMethod y ∈ zT) (hsel : Cond.selects y.cls y y ∈ zT) (hini : Cond.initialized y.cls ∈ zT) (hcode : Cond.code y bytes maxL (some .long) ∈ zT) (hy : y.cls ≠ "java/lang/invoke/MethodHandle" ∧ y.cls ≠ "java/lang/invoke/VarHandle" ∧ (parseMethodDescriptor y.desc).map (fun d => d.parameters.length) = some n) (hb : b = zad gg i) (hi : i < 45) (he : zE gg σ i = .inr (ci, fs)) (hcl : vwCl[ci]? = some q) (hq : q.1 = y.cls) (hd : decode cc pc = .ok (.invokevirtual index, 3))
    (hM : zMl cx.1.2.1 gg y bytes maxL fr lo (.ref b :: As) σ post) (hr : fr + 1 ≤ f0 ∧ 8 + (maxL + 11) + lo ≤ l0) (hn : As.length = n) (hst : st = As.reverse ++ .ref b :: rest) (hs : (rest.map fun v => v.category).sum ≤ 8) (hlen : lv.length = nL) (kk : ∀ (r : Int64) (u : zS), post r u → J cx gg Q u (pc + 3) lv (.long r :: rest)) : J cx gg Q σ pc lv st := by
  subst hst; subst hb
  intro H locs ls hP hS hl
  have hts := hc.2.2.2.2.1
  have hrv := zrecv hc hi he hcl hP
  rw [hq] at hrv
  refine va_calll (va_runVN (C := y.cls) (As := As) (rest := rest) ⟨hc.1, hc.2.1, hc.2.2.1, hc.2.2.2.1, hts⟩ hM (⟨va_cnB n hts (zgood _ _ _ _ hcode) rfl rfl rfl (hc.2.2.2.2.2.1.2.1 _ hlink) (hts _ hini) hy ⟨Nat.le_trans hr.1 hR.1, Nat.le_trans hr.2 hR.2.1⟩, hts _ hinst, hts _ hsel⟩) ⟨zPre.blind, hrv, fun U hU hW => ⟨rfl, hc.2.2.2.2.2.1.moved hW, by rw [hU]; exact hP⟩⟩ rfl hn (hl.1.trans ?_) rfl (lv_room hs) hd ⟨hR.2.2.1, hR.2.2.2⟩) hS (fun q _ h => ?_) (fun q h => ?_) (fun r u t H1 locs1 ht _ hw hB _ _ hS1 => kk r u hw H1 locs1 ls (by rw [← ht]; exact hB) hS1 hl)
  · exact hlen
  · obtain ⟨i', h1, rfl⟩ := h; exact hc.2.2.2.2.2.2.1 i' h1
  · obtain ⟨i', h1, rfl⟩ := h; exact hc.2.2.2.2.2.2.1 i' h1
theorem J_cSNl (hc : zOK cx gg cc own nL) {f0 l0 : Nat} (hR : zR cx f0 l0) {y : MethodName} {bytes : ByteArray} {maxL fr lo n index : Nat} {As rest : List Value} {post : Int64 → zS → Prop} {host : String} (hlink : Cond.methodLinkNest own index y host ∈ zN) (hstat : Cond.static y ∈ zT) (hini : Cond.initialized y.cls ∈ zT) (hcode : Cond.code y bytes maxL (some .long) ∈ zT) (hy : y.cls ≠ "java/lang/invoke/MethodHandle" ∧ y.cls ≠ "java/lang/invoke/VarHandle" ∧ (parseMethodDescriptor y.desc).map (fun d => d.parameters.length) = some n) (hd : decode cc pc = .ok (.invokestatic index, 3))
    (hM : zMl cx.1.2.1 gg y bytes maxL fr lo As σ post) (hr : fr + 1 ≤ f0 ∧ 8 + (maxL + 11) + lo ≤ l0) (hn : As.length = n) (hst : st = As.reverse ++ rest) (hs : (rest.map fun v => v.category).sum ≤ 8) (hlen : lv.length = nL) (kk : ∀ (r : Int64) (u : zS), post r u → J cx gg Q u (pc + 3) lv (.long r :: rest)) : J cx gg Q σ pc lv st := by
  subst hst
  intro H locs ls hP hS hl
  have hts := hc.2.2.2.2.1
  refine va_calll (va_runSN (As := As) (rest := rest) ⟨hc.1, hc.2.1, hc.2.2.1, hc.2.2.2.1, hts⟩ hM (⟨va_cnB n hts (zgood _ _ _ _ hcode) rfl rfl rfl (hc.2.2.2.2.2.1.2.1 _ hlink) (hts _ hini) hy ⟨Nat.le_trans hr.1 hR.1, Nat.le_trans hr.2 hR.2.1⟩, hts _ hstat, trivial⟩) ⟨zPre.blind, fun U hU hW => ⟨rfl, hc.2.2.2.2.2.1.moved hW, by rw [hU]; exact hP⟩⟩ rfl hn (hl.1.trans ?_) rfl (lv_room hs) hd ⟨hR.2.2.1, hR.2.2.2⟩) hS (fun q _ h => ?_) (fun q h => ?_) (fun r u t H1 locs1 ht _ hw hB _ _ hS1 => kk r u hw H1 locs1 ls (by rw [← ht]; exact hB) hS1 hl)
  · exact hlen
  · obtain ⟨i', h1, rfl⟩ := h; exact hc.2.2.2.2.2.2.1 i' h1
  · obtain ⟨i', h1, rfl⟩ := h; exact hc.2.2.2.2.2.2.1 i' h1
end ZW
