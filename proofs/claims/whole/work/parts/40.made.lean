/-! CONSTRUCTORS: worlds that grow -/
def zKc (gg : zG) (U : State) : Prop := va_K (zD gg) vwCl (zt gg) U ∧ (∀ w ∈ zN, va_Nw w U) ∧ va_AO RX0 U
theorem zKc.moved {gg : zG} {u U : State} (hW : u.WarmedH U.vm) (h : zKc gg u) : zKc gg U := by
  refine ⟨va_K.moved hW.alike h.1, fun w hw => ?_, va_AO.moved hW.alike h.2.2⟩
  have h1 := h.2.1 w hw
  have h2 := (List.mem_filter.mp hw).2
  cases w <;> first | exact va_Nw.warmF hW h1 | exact va_Nw.warmM hW h1 | exact absurd h2 Bool.false_ne_true
theorem zKc.calling {gg : zG} {U : State} {g : JFrame} {mk : MethodId} {a : Array Value} (h : zKc gg U) : zKc gg (U.calling g mk a) := by
  refine ⟨va_K.moved (u := U) (U := U.calling g mk a) (Vm.Alike.refl U.vm) h.1, fun w hw => ?_, va_AO.moved (u := U) (U := U.calling g mk a) (Vm.Alike.refl U.vm) h.2.2⟩
  have h1 := h.2.1 w hw
  have h2 := (List.mem_filter.mp hw).2
  have h3 : w.onTables = true := by cases w <;> first | rfl | exact absurd h2 Bool.false_ne_true
  exact va_Nw.same (u := U) h3 rfl h1
def Jc (cx : zX) (gg : zG) (Q : State → Prop) (ws : va_W) (kc ks pc : Nat) (lv : List (Option Value)) (st : List Value) : Prop :=
  ∀ (H : Heap) (locs : List Loc) (ls : Array Slot), va_P (zD gg) vwCl ws H → va_D cx.2.2.2 ws → va_S cx.2.2.2 cx.2.1.1.heap H locs → zL ls lv →
    W cx.1.1 cx.1.2.1 cx.1.2.2.1 cx.1.2.2.2 cx.2.1.1 cx.2.1.2.1 cx.2.1.2.2.1 cx.2.1.2.2.2 cx.2.2.1.1 cx.2.2.1.2.1 H locs kc ks Q (F0 cx.2.1.2.1 pc ls st)
def zOC (cx : zX) (gg : zG) (cc : ByteArray) (own : String) (nL : Nat) : Prop :=
  cx.1.1.tables.exec = Jvm.exec ∧ cx.2.2.1.2.1.code = cc ∧ cx.2.2.1.2.1.maxLocals = nL ∧ cx.2.1.1.vm.findClass own = some cx.2.1.2.1.cls ∧ (∀ w ∈ zT, w.before cx.2.1.2.2.1 cx.2.1.1 = true) ∧ zKc gg cx.2.1.1 ∧ (∀ q, cx.2.1.1.heap.size ≤ q → cx.2.2.2 q) ∧ cx.2.2.1.1.locks = false
def zBc {S : Type} (gg : zG) (A : Nat → Prop) (B : S → va_W) (u : S) (t : State) : Prop := va_P (zD gg) vwCl (B u) t.heap ∧ va_D A (B u)
def zQc {S : Type} (cx : zX) (gg : zG) (B : S → va_W) (mc ms : Nat) : State → Prop := MQ cx.2.1.2.2.2 (va_Qv (fun _ : S => True) (zBc gg cx.2.2.2 B) cx.2.2.2) cx.2.1.2.2.1 cx.2.1.1 mc ms cx.2.2.2
/-- a constructor's contract -/
def zMc {S : Type} (l : Launch) (gg : zG) (y : MethodName) (cc : ByteArray) (maxL fr lo mc ms : Nat) (h0 : Nat) (e0 : va_E) (B : S → va_W) : Prop :=
  ∀ sz : Nat, Met l y (Cond.code y cc maxL none :: zT) { frames := fr, cells := mc, slots := ms, locals := lo } (va_Pc [.ref h0] (fun U => U.heap.size = sz ∧ va_P (zD gg) vwCl [(h0, e0)] U.heap ∧ zKc gg U)) (va_Qv (fun _ : S => True) (zBc gg (va_A [(h0, e0)] sz) B) (va_A [(h0, e0)] sz)) mc ms (va_A [(h0, e0)] sz)
theorem zD1 (A : Nat → Prop) {a : Nat} {e : va_E} (h : A a) : va_D A [(a, e)] := by
  refine ⟨fun i j p q hi hj _ => ?_, fun k q hk => ?_⟩
  · have := (List.getElem?_eq_some_iff.mp hi).1
    have := (List.getElem?_eq_some_iff.mp hj).1
    simp at *
    omega
  · have h1 := (List.getElem?_eq_some_iff.mp hk).1
    have h2 : k = 0 := by simp at h1; omega
    subst h2
    cases hk
    exact h
theorem zMc_of {S : Type} {l : Launch} {gg : zG} {y : MethodName} {cc : ByteArray} {maxL fr lo mc ms h0 : Nat} {e0 : va_E} {B : S → va_W} {own : String} {lv : List (Option Value)} (hy : plainName y.cls = true) (ho : y.cls = own) (hn : y.name = "<init>") (hle : (lg_sl [.ref h0]).length ≤ maxL) (hlv : zargs [.ref h0] ++ List.replicate (maxL - (zargs [.ref h0]).length) none = lv)
    (body : ∀ cx : zX, zOC cx gg cc own maxL → cx.1.2.2.2 = { frames := fr, cells := mc, slots := ms, locals := lo } → cx.2.2.1.1.name = "<init>" → cx.2.2.1.1.sig.returnType = none → cx.1.2.1 = l → Jc cx gg (zQc cx gg B mc ms) [(h0, e0)] 0 0 0 lv []) : zMc l gg y cc maxL fr lo mc ms h0 e0 B := by
  intro sz
  refine Met.ofW (cc := cc) (maxL := maxL) (ret := none) hy rfl ?_
  intro p e s m args below meth c s₁ Bo hml hv
  obtain ⟨rfl, hsz, hP, hK⟩ := hv
  have hts := atoms_spec (ws := Cond.code y cc maxL none :: zT) Bo.pre
  rw [lg_entry_eq]
  subst ho
  subst hsz
  exact body ((p, l, e, { frames := fr, cells := mc, slots := ms, locals := lo }), (s, m, [Value.ref h0].toArray, below), (meth, c, 0, 0), va_A [(h0, e0)] s.heap.size) ⟨Bo.exec, Bo.bytes, hml, findClass_of_methodNamed Bo.named, fun w hw => hts w (List.mem_cons_of_mem _ hw), hK, fun q h => Or.inr h, Bo.notSynchronized⟩ rfl ((name_of_methodNamed Bo.named Bo.method).1.trans hn) Bo.returns rfl s.heap [] _ hP (zD1 _ (va_A.in (ws := [(h0, e0)]) (k := 0) (q := (h0, e0)) rfl)) va_S.rf (zL_entry [.ref h0] hle hlv)
theorem zfm {α β : Type} {f : α → Option β} : ∀ {l : List α} {w : List β}, l.map f = w.map some → l.filterMap f = w
  | [], [], _ => rfl
  | [], b :: w, h => by simp at h
  | a :: l, [], h => by simp at h
  | a :: l, b :: w, h => by
    rw [List.map_cons, List.map_cons, List.cons.injEq] at h
    rw [List.filterMap_cons_some h.1, zfm h.2]
section ZJC
variable {cx : zX} {gg : zG} {Q : State → Prop} {ws : va_W} {kc ks pc : Nat} {lv : List (Option Value)} {st : List Value} {cc : ByteArray} {own : String} {nL : Nat}
theorem Jc_w (ws' : va_W) (hw : ws = ws') (k : Jc cx gg Q ws' kc ks pc lv st) : Jc cx gg Q ws kc ks pc lv st := hw ▸ k
theorem Jc_n (a b : Nat) (ha : kc = a) (hb : ks = b) (k : Jc cx gg Q ws a b pc lv st) : Jc cx gg Q ws kc ks pc lv st := by subst ha; subst hb; exact k
theorem Jc_ret {S : Type} {B : S → va_W} (hc : zOC cx gg cc own nL) (hr : cx.2.2.1.1.sig.returnType = none) (hd : decode cc pc = .ok (.return_, 1)) (u : S) (hu : B u = ws) : Jc cx gg (zQc cx gg B kc ks) ws kc ks pc lv [] :=
  fun H locs ls hP hD hS hl => W.vret hc.1 hc.2.1 hr (fun t ht hW => ⟨⟨u, rfl, trivial, by rw [hu]; show va_P _ _ _ t.heap; rw [ht]; exact hP, by rw [hu]; exact hD⟩, hS.F ht⟩) hS.2.2 hd hc.2.2.2.2.2.2.2
theorem Jc_aload0 (hc : zOC cx gg cc own nL) {r : List (Option Value)} {v : Nat} (hd : decode cc pc = .ok (.aload_n 0, 1)) (k : Jc cx gg Q ws kc ks (pc + 1) (some (.ref v) :: r) (.ref v :: st)) : Jc cx gg Q ws kc ks pc (some (.ref v) :: r) st :=
  fun H locs ls hP hD hS hl => lv_aload_n hc.1 hc.2.1 hd rfl (hl.2.2 0 _ rfl) (k H locs ls hP hD hS hl)
theorem Jc_dup (hc : zOC cx gg cc own nL) {a : Value} (hd : decode cc pc = .ok (.dup, 1)) (ha : a.category = 1) (k : Jc cx gg Q ws kc ks (pc + 1) lv (a :: a :: st)) : Jc cx gg Q ws kc ks pc lv (a :: st) :=
  fun H locs ls hP hD hS hl => lv_dup hc.1 hc.2.1 hd ha (k H locs ls hP hD hS hl)
theorem Jc_iconst (hc : zOC cx gg cc own nL) {n : Int} {v : Int32} (hd : decode cc pc = .ok (.iconst n, 1)) (hv : Int32.ofInt n = v) (k : Jc cx gg Q ws kc ks (pc + 1) lv (.int v :: st)) : Jc cx gg Q ws kc ks pc lv st :=
  fun H locs ls hP hD hS hl => lv_iconst hc.1 hc.2.1 hd hv (k H locs ls hP hD hS hl)
theorem Jc_bipush (hc : zOC cx gg cc own nL) {n : Int} {v : Int32} (hd : decode cc pc = .ok (.bipush n, 2)) (hv : (Int8.ofInt n).toInt32 = v) (k : Jc cx gg Q ws kc ks (pc + 2) lv (.int v :: st)) : Jc cx gg Q ws kc ks pc lv st :=
  fun H locs ls hP hD hS hl => lv_bipush hc.1 hc.2.1 hd hv (k H locs ls hP hD hS hl)
theorem Jc_lconst (hc : zOC cx gg cc own nL) {n : Fin 2} {v : Int64} (hd : decode cc pc = .ok (.lconst n, 1)) (hv : Int64.ofNat (n : Nat) = v) (k : Jc cx gg Q ws kc ks (pc + 1) lv (.long v :: st)) : Jc cx gg Q ws kc ks pc lv st :=
  fun H locs ls hP hD hS hl => lv_lconst hc.1 hc.2.1 hd hv (k H locs ls hP hD hS hl)
theorem Jc_istore1 (hc : zOC cx gg cc own nL) {x0 y : Option Value} {r : List (Option Value)} {v : Int32} (hd : decode cc pc = .ok (.istore_n 1, 1)) (hp : zc1 x0 = true) (k : Jc cx gg Q ws kc ks (pc + 1) (x0 :: some (.int v) :: r) st) : Jc cx gg Q ws kc ks pc (x0 :: y :: r) (.int v :: st) :=
  fun H locs ls hP hD hS hl => lv_istore_n (i := 1) hc.1 hc.2.1 hd rfl hl.has (by simp) rfl (fun ls' hl' => k H locs ls' hP hD hS (zL.set1 (by simp) (zpre (i := 0) hp rfl) hl'))
theorem Jc_iload1 (hc : zOC cx gg cc own nL) {x0 : Option Value} {r : List (Option Value)} {v : Int32} (hd : decode cc pc = .ok (.iload_n 1, 1)) (k : Jc cx gg Q ws kc ks (pc + 1) (x0 :: some (.int v) :: r) (.int v :: st)) : Jc cx gg Q ws kc ks pc (x0 :: some (.int v) :: r) st :=
  fun H locs ls hP hD hS hl => lv_iload_n hc.1 hc.2.1 hd rfl (hl.2.2 1 _ rfl) (k H locs ls hP hD hS hl)
theorem Jc_iinc1 (hc : zOC cx gg cc own nL) {x0 : Option Value} {r : List (Option Value)} {v w : Int32} {n : Int} (hd : decode cc pc = .ok (.iinc 1 n, 3)) (hw : v + Int32.ofInt n = w) (hp : zc1 x0 = true) (k : Jc cx gg Q ws kc ks (pc + 3) (x0 :: some (.int w) :: r) st) : Jc cx gg Q ws kc ks pc (x0 :: some (.int v) :: r) st := by
  intro H locs ls hP hD hS hl
  obtain ⟨kk, hk⟩ := List.getElem?_of_mem ((zpairs_mem _ 0 (1, Value.int v)).mpr ⟨1, (rfl : (x0 :: some (Value.int v) :: r)[1]? = _), rfl⟩)
  exact lv_iinc hc.1 hc.2.1 hd hl.has hk hw (by simp) rfl (fun ls' hl' => k H locs ls' hP hD hS (zL.set1 (by simp) (zpre (i := 0) hp rfl) hl'))
theorem Jc_ge (hc : zOC cx gg cc own nL) {x y : Int32} {off : Int} (tgt : Nat) (hd : decode cc pc = .ok (.if_icmp .ge off, 3)) (ht : (pc : Int) + off = (tgt : Int)) (k1 : y ≤ x → Jc cx gg Q ws kc ks tgt lv st) (k2 : ¬ y ≤ x → Jc cx gg Q ws kc ks (pc + 3) lv st) : Jc cx gg Q ws kc ks pc lv (.int y :: .int x :: st) :=
  fun H locs ls hP hD hS hl => lv_icmp_ge hc.1 hc.2.1 hd ht (fun h => k1 h H locs ls hP hD hS hl) (fun h => k2 h H locs ls hP hD hS hl)
theorem Jc_goto (hc : zOC cx gg cc own nL) {off : Int} (tgt : Nat) (hd : decode cc pc = .ok (.goto off, 3)) (ht : (pc : Int) + off = (tgt : Int)) (k : Jc cx gg Q ws kc ks tgt lv st) : Jc cx gg Q ws kc ks pc lv st :=
  fun H locs ls hP hD hS hl => lv_goto hc.1 hc.2.1 hd ht (k H locs ls hP hD hS hl)
theorem zobj1 : Cond.instanceMethod Lib.objectInit ∈ zT := by decide +kernel
theorem zobj2 : Cond.code Lib.objectInit ⟨#[0xb1]⟩ 1 none ∈ zT := by decide +kernel
theorem zarrI : Cond.arrayClass .int ∈ zT := by decide +kernel
theorem zarrJ : Cond.arrayClass .long ∈ zT := by decide +kernel
theorem Jc_obj (hc : zOC cx gg cc own nL) {idx a : Nat} (hlink : Cond.methodLink own idx Lib.objectInit ∈ zT) (hd : decode cc pc = .ok (.invokespecial idx, 3)) (hlen : lv.length = nL) (hR : 1 ≤ cx.1.2.2.2.frames ∧ 12 ≤ cx.1.2.2.2.locals) (k : Jc cx gg Q ws kc ks (pc + 3) lv []) : Jc cx gg Q ws kc ks pc lv [.ref a] := by
  intro H locs ls hP hD hS hl
  have hts := hc.2.2.2.2.1
  refine W.objInit hc.1 hc.2.1 hc.2.2.2.1 (hts _ hlink) (hts _ zobj1) (hts _ zobj2) rfl (by rw [hc.2.2.1]; exact hl.1.trans hlen) rfl hd hR.1 hR.2 ?_
  exact k H locs ls hP hD hS hl
theorem Jc_newI (hc : zOC cx gg cc own nL) {x : Int32} {N : Nat} (hn : ¬ x < 0) (hN : x.toNatClampNeg = N) (hb : N * componentBytes .int ≤ 536870912) (hk : kc + 1 ≤ cx.1.2.2.2.cells) (hs : ks + N ≤ cx.1.2.2.2.slots) (hd : decode cc pc = .ok (.newarray .int, 2)) (k : ∀ q : Nat, Jc cx gg Q (ws ++ [(q, .inl (zI gg, N, .inl (fun _ => 0)))]) (kc + 1) (ks + N) (pc + 2) lv (.ref q :: st)) : Jc cx gg Q ws kc ks pc lv (.int x :: st) := by
  intro H locs ls hP hD hS hl
  refine va_newa (atype := .int) (ty := .int) (a0 := (N, .inl (fun _ => 0))) hc.1 hc.2.1 (hc.2.2.2.2.1 _ zarrI) rfl hc.2.2.2.2.2.1.1 hP hD hS hc.2.2.2.2.2.2.1 (fun cA => rfl) hn hN hb hk hs hd (fun q cA H1 hK1 hP1 hD1 hS1 => ?_)
  have h1 : cx.2.1.1.vm.findClass ("[" ++ FieldType.int.toString) = some cA := (hK1.2 3 _ rfl).2
  have h2 : cx.2.1.1.vm.findClass ("[" ++ FieldType.int.toString) = some (zI gg) := (hK1.2 0 _ rfl).2
  have e : cA = zI gg := Option.some.inj (h1.symm.trans h2)
  subst e
  exact k q H1 locs ls hP1 hD1 hS1 hl
theorem Jc_newL (hc : zOC cx gg cc own nL) {x : Int32} {N : Nat} (hn : ¬ x < 0) (hN : x.toNatClampNeg = N) (hb : N * componentBytes .long ≤ 536870912) (hk : kc + 1 ≤ cx.1.2.2.2.cells) (hs : ks + N ≤ cx.1.2.2.2.slots) (hd : decode cc pc = .ok (.newarray .long, 2)) (k : ∀ q : Nat, Jc cx gg Q (ws ++ [(q, .inl (zJ gg, N, .inr (.inl (fun _ => 0))))]) (kc + 1) (ks + N) (pc + 2) lv (.ref q :: st)) : Jc cx gg Q ws kc ks pc lv (.int x :: st) := by
  intro H locs ls hP hD hS hl
  refine va_newa (atype := .long) (ty := .long) (a0 := (N, .inr (.inl (fun _ => 0)))) hc.1 hc.2.1 (hc.2.2.2.2.1 _ zarrJ) rfl hc.2.2.2.2.2.1.1 hP hD hS hc.2.2.2.2.2.2.1 (fun cA => rfl) hn hN hb hk hs hd (fun q cA H1 hK1 hP1 hD1 hS1 => ?_)
  have h1 : cx.2.1.1.vm.findClass ("[" ++ FieldType.long.toString) = some cA := (hK1.2 3 _ rfl).2
  have h2 : cx.2.1.1.vm.findClass ("[" ++ FieldType.long.toString) = some (zJ gg) := (hK1.2 1 _ rfl).2
  have e : cA = zJ gg := Option.some.inj (h1.symm.trans h2)
  subst e
  exact k q H1 locs ls hP1 hD1 hS1 hl
theorem Jc_newQ (hc : zOC cx gg cc own nL) {idx : Nat} {x : Int32} {N : Nat} (hlink : Cond.classLink own idx RX0 ∈ zT) (hn : ¬ x < 0) (hN : x.toNatClampNeg = N) (hb : N * 4 ≤ 536870912) (hk : kc + 1 ≤ cx.1.2.2.2.cells) (hs : ks + N ≤ cx.1.2.2.2.slots) (hd : decode cc pc = .ok (.anewarray idx, 3)) (k : ∀ q : Nat, Jc cx gg Q (ws ++ [(q, .inl (zQ gg, N, .inr (.inr (.inr (.inr (fun _ => none))))))]) (kc + 1) (ks + N) (pc + 3) lv (.ref q :: st)) : Jc cx gg Q ws kc ks pc lv (.int x :: st) := by
  intro H locs ls hP hD hS hl
  refine va_newq hc.1 hc.2.1 hc.2.2.2.1 (hc.2.2.2.2.1 _ hlink) hc.2.2.2.2.2.1.2.2 hc.2.2.2.2.2.1.1 hP hD hS hc.2.2.2.2.2.2.1 hn hN hb hk hs hd (fun q cA H1 hK1 hP1 hD1 hS1 => ?_)
  obtain ⟨_, _, _, _, _, h1⟩ := (hK1.2 3 _ rfl).2
  obtain ⟨_, _, _, _, _, h2⟩ := (hK1.2 2 _ rfl).2
  have e : cA = zQ gg := Option.some.inj (h1.symm.trans h2)
  subst e
  exact k q H1 locs ls hP1 hD1 hS1 hl
theorem Jc_new (hc : zOC cx gg cc own nL) {idx ci N : Nat} {C : String} {T : u_T} (fs : List Value) (hcl : vwCl[ci]? = some (C, T, N)) (hin : ∀ w ∈ u_ws C T N, w ∈ zT) (ty : Nat → FieldType) (hty : ∀ k, k < N → parseFieldDescriptor (T k).2.2.1 = some (ty k)) (hlink : Cond.classLink own idx C ∈ zT) (hinst : Cond.instantiable C N ∈ zT) (hini : Cond.initialized C ∈ zT) (hfs : ∀ j, j < N → defaultValue (ty j) = vp_V fs j) (hk : kc + 1 ≤ cx.1.2.2.2.cells) (hs : ks + N ≤ cx.1.2.2.2.slots) (hd : decode cc pc = .ok (.new idx, 3)) (k : ∀ q : Nat, Jc cx gg Q (ws ++ [(q, .inr (ci, fs))]) (kc + 1) (ks + N) (pc + 3) lv (.ref q :: st)) : Jc cx gg Q ws kc ks pc lv st := by
  intro H locs ls hP hD hS hl
  have hts := hc.2.2.2.2.1
  exact va_new hc.1 hc.2.1 hts hin ty hty hc.2.2.2.1 (hts _ hlink) (hts _ hinst) (hts _ hini) hc.2.2.2.2.2.1.1 hP hD hS hc.2.2.2.2.2.2.1 hcl hfs hk hs hd (fun q H1 hP1 hD1 hS1 => k q H1 locs ls hP1 hD1 hS1 hl)
theorem Jc_putF (hc : zOC cx gg cc own nL) (hm : cx.2.2.1.1.name = "<init>") {idx ci N a : Nat} {T : u_T} {fs : List Value} {v : Value} {ty : FieldType} (q0 : Nat) (he : ws[q0]? = some (a, .inr (ci, fs))) (hcl : vwCl[ci]? = some (own, T, N)) (hin : ∀ w ∈ u_ws own T N, w ∈ zT) (ty0 : Nat → FieldType) (hty : ∀ k, k < N → parseFieldDescriptor (T k).2.2.1 = some (ty0 k)) (hnm : ∀ a, a < N → ∀ b, b < N → a ≠ b → (T a).2.1 ≠ (T b).2.1) (i : Nat) (hi : i < N) (hlink : Cond.fieldLink own idx own (T i).2.1 (T i).2.2.1 ∈ zT) (hfin : (T i).2.2.2 = true) (hdecl : (T i).1 = own) (hdsc : parseFieldDescriptor (T i).2.2.1 = some ty) (hn : narrow ty v = v) (hfit : fits ty v = true) (hl0 : i < fs.length) (hd : decode cc pc = .ok (.putfield idx, 3)) (k : Jc cx gg Q (ws.set q0 (a, .inr (ci, fs.set i v))) kc ks (pc + 3) lv st) : Jc cx gg Q ws kc ks pc lv (v :: .ref a :: st) := by
  intro H locs ls hP hD hS hl
  have hts := hc.2.2.2.2.1
  exact va_putF (D := zD gg) hc.1 hc.2.1 hts hin ty0 hty hnm hc.2.2.2.1 hc.2.2.2.2.2.1.1 hP hD hS q0 he hcl i hi (hts _ hlink) (fun x hx => by rw [hdecl] at hx; exact hx) hfin hm hdecl hdsc hn hfit hl0 hd (fun H1 locs1 hP1 hD1 hS1 => k H1 locs1 ls hP1 hD1 hS1 hl)
theorem Jc_put (hc : zOC cx gg cc own nL) {idx ci N a : Nat} {T : u_T} {fs : List Value} {v : Value} {ty : FieldType} (q0 : Nat) (he : ws[q0]? = some (a, .inr (ci, fs))) (hcl : vwCl[ci]? = some (own, T, N)) (hin : ∀ w ∈ u_ws own T N, w ∈ zT) (ty0 : Nat → FieldType) (hty : ∀ k, k < N → parseFieldDescriptor (T k).2.2.1 = some (ty0 k)) (hnm : ∀ a, a < N → ∀ b, b < N → a ≠ b → (T a).2.1 ≠ (T b).2.1) (i : Nat) (hi : i < N) (hlink : Cond.fieldLink own idx own (T i).2.1 (T i).2.2.1 ∈ zT) (hfin : (T i).2.2.2 = false) (hdecl : (T i).1 = own) (hdsc : parseFieldDescriptor (T i).2.2.1 = some ty) (hn : narrow ty v = v) (hfit : fits ty v = true) (hl0 : i < fs.length) (hd : decode cc pc = .ok (.putfield idx, 3)) (k : Jc cx gg Q (ws.set q0 (a, .inr (ci, fs.set i v))) kc ks (pc + 3) lv st) : Jc cx gg Q ws kc ks pc lv (v :: .ref a :: st) := by
  intro H locs ls hP hD hS hl
  have hts := hc.2.2.2.2.1
  exact va_put (D := zD gg) hc.1 hc.2.1 hts hin ty0 hty hnm hc.2.2.2.1 hc.2.2.2.2.2.1.1 hP hD hS q0 he hcl i hi (hts _ hlink) (fun x hx => by rw [hdecl] at hx; exact hx) hfin hdsc hn hfit hl0 hd (fun H1 locs1 hP1 hD1 hS1 => k H1 locs1 ls hP1 hD1 hS1 hl)
theorem Jc_get (hc : zOC cx gg cc own nL) {idx ci N a : Nat} {T : u_T} {fs : List Value} {v : Value} (q0 : Nat) (he : ws[q0]? = some (a, .inr (ci, fs))) (hcl : vwCl[ci]? = some (own, T, N)) (hin : ∀ w ∈ u_ws own T N, w ∈ zT) (i : Nat) (hi : i < N) (hlink : Cond.fieldLink own idx own (T i).2.1 (T i).2.2.1 ∈ zT) (hdecl : (T i).1 = own) (hv : fs[i]? = some v) (hd : decode cc pc = .ok (.getfield idx, 3)) (k : Jc cx gg Q ws kc ks (pc + 3) lv (v :: st)) : Jc cx gg Q ws kc ks pc lv (.ref a :: st) := by
  intro H locs ls hP hD hS hl
  have hts := hc.2.2.2.2.1
  exact va_get (D := zD gg) hc.1 hc.2.1 hts hin hc.2.2.2.1 hc.2.2.2.2.2.1.1 hP q0 he hcl i hi (hts _ hlink) (fun x hx => by rw [hdecl] at hx; exact hx) hv hd (k H locs ls hP hD hS hl)
theorem Jc_iast (hc : zOC cx gg cc own nL) {a N j : Nat} {f : Nat → Int32} {i x : Int32} (q0 : Nat) (he : ws[q0]? = some (a, .inl (zI gg, N, .inl f))) (hin : vp_in i N) (hj : i.toNatClampNeg = j) (hd : decode cc pc = .ok (.iastore, 1)) (k : Jc cx gg Q (ws.set q0 (a, .inl (zI gg, N, .inl (upd f j x)))) kc ks (pc + 1) lv st) : Jc cx gg Q ws kc ks pc lv (.int x :: .int i :: .ref a :: st) := by
  intro H locs ls hP hD hS hl
  subst hj
  exact va_iast (D := zD gg) hc.1 hc.2.1 hc.2.2.2.2.2.1.1 hP hD hS q0 0 he rfl hin hd (fun H1 locs1 hP1 hD1 hS1 => k H1 locs1 ls hP1 hD1 hS1 hl)
theorem Jc_astq (hc : zOC cx gg cc own nL) {a N j v : Nat} {vs : List Value} {f : Nat → Option Nat} {i : Int32} (q0 qk : Nat) (he : ws[q0]? = some (a, .inl (zQ gg, N, .inr (.inr (.inr (.inr f)))))) (hv : ws[qk]? = some (v, .inr (0, vs))) (hin : vp_in i N) (hj : i.toNatClampNeg = j) (hd : decode cc pc = .ok (.aastore, 1)) (k : Jc cx gg Q (ws.set q0 (a, .inl (zQ gg, N, .inr (.inr (.inr (.inr (va_up f j (some v)))))))) kc ks (pc + 1) lv st) : Jc cx gg Q ws kc ks pc lv (.ref v :: .int i :: .ref a :: st) := by
  intro H locs ls hP hD hS hl
  subst hj
  exact va_astq (D := zD gg) (r := (RX0, TX0, 4)) hc.1 hc.2.1 hc.2.2.2.2.2.1.1 hP hD hS q0 2 qk 0 he rfl hv rfl hin hd (fun H1 locs1 hP1 hD1 hS1 => k H1 locs1 ls hP1 hD1 hS1 hl)
theorem Jc_call (hc : zOC cx gg cc own nL) {S : Type} {y : MethodName} {bytes : ByteArray} {maxL fr lo mc ms idx b : Nat} {e0 : va_E} {B : S → va_W} {rest : List Value} {wr : va_W} (isC isR : List Nat) (hC : isC.map (fun i => ws[i]?) = [(b, e0)].map some) (hW : isR.map (fun i => ws[i]?) = wr.map some) (hnd : va_nd isR = true) (hdis : ∀ i ∈ isR, i ∉ isC) (hini : Cond.initialized y.cls ∈ zT) (hlink : Cond.methodLink own idx y ∈ zT) (hinst : Cond.instanceMethod y ∈ zT) (hcode : Cond.code y bytes maxL none ∈ zT) (hy : y.name = "<init>") (hy2 : y.cls ≠ "java/lang/invoke/MethodHandle" ∧ y.cls ≠ "java/lang/invoke/VarHandle" ∧ (parseMethodDescriptor y.desc).map (fun d => d.parameters.length) = some 0) (hM : zMc cx.1.2.1 gg y bytes maxL fr lo mc ms b e0 B) (hr : fr + 1 ≤ cx.1.2.2.2.frames ∧ 8 + (maxL + 11) + lo ≤ cx.1.2.2.2.locals) (hf : kc + mc ≤ cx.1.2.2.2.cells ∧ ks + ms ≤ cx.1.2.2.2.slots) (hs : (rest.map fun v => v.category).sum ≤ 8) (hlen : lv.length = nL) (hd : decode cc pc = .ok (.invokespecial idx, 3)) (k : ∀ u : S, Jc cx gg Q (wr ++ B u) (kc + mc) (ks + ms) (pc + 3) lv rest) : Jc cx gg Q ws kc ks pc lv (.ref b :: rest) := by
  intro H locs ls hP hD hS hl
  have hts := hc.2.2.2.2.1
  have hPc := hP.sub (ws' := [(b, e0)]) isC (zfm hC)
  have hFc := va_free (wc := [(b, e0)]) hD hS hc.2.2.2.2.2.2.1 isC hC
  refine va_callv (va_runI (As := []) (rest := rest) ⟨hc.1, hc.2.1, hc.2.2.1, hc.2.2.2.1, hts⟩ (hM H.size) (cwI 0 hts (zgood _ _ _ _ hcode) rfl rfl rfl (hts _ hini) (hts _ hlink) (hts _ hinst) hy hy2 hr) ⟨fun a U g mk q => by obtain ⟨q0, q1, qP, qK⟩ := q; exact ⟨q0, q1, qP, zKc.calling qK⟩, fun U hU hW => ⟨rfl, by rw [hU], by rw [hU]; exact hPc, hc.2.2.2.2.2.1.moved hW⟩⟩ rfl rfl (hl.1.trans hlen) rfl (lv_room hs) hd hf) hS (fun q _ h => hFc q h) hFc (fun u t H1 locs1 ht hvm hw hB hz1 hk1 hS1 => ?_)
  obtain ⟨hP1, hD1⟩ := hB
  rw [ht] at hP1
  obtain ⟨hP2, hD2⟩ := va_join (wr := wr) (w1 := B u) hP hD isC isR hC hW hnd hdis hk1 hFc hP1 hD1
  exact k u H1 locs1 ls hP2 hD2 hS1 hl
theorem Jc_callN (hc : zOC cx gg cc own nL) {S : Type} {y : MethodName} {host : String} {bytes : ByteArray} {maxL fr lo mc ms idx b : Nat} {e0 : va_E} {B : S → va_W} {rest : List Value} {wr : va_W} (isC isR : List Nat) (hC : isC.map (fun i => ws[i]?) = [(b, e0)].map some) (hW : isR.map (fun i => ws[i]?) = wr.map some) (hnd : va_nd isR = true) (hdis : ∀ i ∈ isR, i ∉ isC) (hini : Cond.initialized y.cls ∈ zT) (hlink : Cond.methodLinkNest own idx y host ∈ zN) (hinst : Cond.instanceMethod y ∈ zT) (hcode : Cond.code y bytes maxL none ∈ zT) (hy : y.name = "<init>") (hy2 : y.cls ≠ "java/lang/invoke/MethodHandle" ∧ y.cls ≠ "java/lang/invoke/VarHandle" ∧ (parseMethodDescriptor y.desc).map (fun d => d.parameters.length) = some 0) (hM : zMc cx.1.2.1 gg y bytes maxL fr lo mc ms b e0 B) (hr : fr + 1 ≤ cx.1.2.2.2.frames ∧ 8 + (maxL + 11) + lo ≤ cx.1.2.2.2.locals) (hf : kc + mc ≤ cx.1.2.2.2.cells ∧ ks + ms ≤ cx.1.2.2.2.slots) (hs : (rest.map fun v => v.category).sum ≤ 8) (hlen : lv.length = nL) (hd : decode cc pc = .ok (.invokespecial idx, 3)) (k : ∀ u : S, Jc cx gg Q (wr ++ B u) (kc + mc) (ks + ms) (pc + 3) lv rest) : Jc cx gg Q ws kc ks pc lv (.ref b :: rest) := by
  intro H locs ls hP hD hS hl
  have hts := hc.2.2.2.2.1
  have hPc := hP.sub (ws' := [(b, e0)]) isC (zfm hC)
  have hFc := va_free (wc := [(b, e0)]) hD hS hc.2.2.2.2.2.2.1 isC hC
  refine va_callv (va_runIN (As := []) (rest := rest) ⟨hc.1, hc.2.1, hc.2.2.1, hc.2.2.2.1, hts⟩ (hM H.size) ⟨va_cnB 0 hts (zgood _ _ _ _ hcode) rfl rfl rfl (hc.2.2.2.2.2.1.2.1 _ hlink) (hts _ hini) hy2 hr, hy, hts _ hinst⟩ ⟨fun a U g mk q => by obtain ⟨q0, q1, qP, qK⟩ := q; exact ⟨q0, q1, qP, zKc.calling qK⟩, fun U hU hW => ⟨rfl, by rw [hU], by rw [hU]; exact hPc, hc.2.2.2.2.2.1.moved hW⟩⟩ rfl rfl (hl.1.trans hlen) rfl (lv_room hs) hd hf) hS (fun q _ h => hFc q h) hFc (fun u t H1 locs1 ht hvm hw hB hz1 hk1 hS1 => ?_)
  obtain ⟨hP1, hD1⟩ := hB
  rw [ht] at hP1
  obtain ⟨hP2, hD2⟩ := va_join (wr := wr) (w1 := B u) hP hD isC isR hC hW hnd hdis hk1 hFc hP1 hD1
  exact k u H1 locs1 ls hP2 hD2 hS1 hl
end ZJC
