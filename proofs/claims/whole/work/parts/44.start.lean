/-! the law's own rows for what it makes -/
section ZJD
variable {cx : zX} {gg : zG} {Q : State → Prop} {ws : va_W} {kc ks pc : Nat} {lv : List (Option Value)} {st : List Value} {cc : ByteArray} {own : String} {nL : Nat}
theorem Jc_astore1 (hc : zOC cx gg cc own nL) {x0 y : Option Value} {r : List (Option Value)} {v : Nat} (hd : decode cc pc = .ok (.astore_n 1, 1)) (hp : zc1 x0 = true) (k : Jc cx gg Q ws kc ks (pc + 1) (x0 :: some (.ref v) :: r) st) : Jc cx gg Q ws kc ks pc (x0 :: y :: r) (.ref v :: st) :=
  fun H locs ls hP hD hS hl => lv_astore_n (i := 1) hc.1 hc.2.1 hd rfl hl.has (by simp) rfl (fun ls' hl' => k H locs ls' hP hD hS (zL.set1 (by simp) (zpre (i := 0) hp rfl) hl'))
theorem Jc_astore2 (hc : zOC cx gg cc own nL) {x0 x1 y : Option Value} {r : List (Option Value)} {v : Nat} (hd : decode cc pc = .ok (.astore_n 2, 1)) (hp : zc1 x1 = true) (k : Jc cx gg Q ws kc ks (pc + 1) (x0 :: x1 :: some (.ref v) :: r) st) : Jc cx gg Q ws kc ks pc (x0 :: x1 :: y :: r) (.ref v :: st) :=
  fun H locs ls hP hD hS hl => lv_astore_n (i := 2) hc.1 hc.2.1 hd rfl hl.has (by simp) rfl (fun ls' hl' => k H locs ls' hP hD hS (zL.set1 (by simp) (zpre (i := 1) hp rfl) hl'))
theorem Jc_istore3 (hc : zOC cx gg cc own nL) {x0 x1 x2 y : Option Value} {r : List (Option Value)} {v : Int32} (hd : decode cc pc = .ok (.istore_n 3, 1)) (hp : zc1 x2 = true) (k : Jc cx gg Q ws kc ks (pc + 1) (x0 :: x1 :: x2 :: some (.int v) :: r) st) : Jc cx gg Q ws kc ks pc (x0 :: x1 :: x2 :: y :: r) (.int v :: st) :=
  fun H locs ls hP hD hS hl => lv_istore_n (i := 3) hc.1 hc.2.1 hd rfl hl.has (by simp) rfl (fun ls' hl' => k H locs ls' hP hD hS (zL.set1 (by simp) (zpre (i := 2) hp rfl) hl'))
end ZJD
/-! the state at the start -/
def zs0 : zS := (fun k => if k < 7 then 1 else 0, fun _ => 0, fun k => if k = 23 then (upd (upd (upd (upd (upd (upd (fun _ => 0) 0 1) 1 1) 2 1) 3 1) 4 1) 5 1) else fun _ => 0, fun _ _ => 0)
theorem zs0_a {j : Nat} (h : ¬ j = 23) : sa zs0 j = fun _ => 0 := if_neg h
theorem zcf00 : zcf 0 := by unfold zcf; decide
theorem zs0_cp : zCP zs0 (fun _ => 1) 0 := by
  refine ⟨fun p hp => ⟨Nat.le_refl 1, Nat.le_of_ble_eq_true rfl, ?_, fun i hi => ?_⟩, fun p hp => ⟨Nat.le_refl 1, Nat.le_of_ble_eq_true rfl, ?_, fun i hi => ?_⟩, fun p hp i hi => ?_, by decide, by decide, by decide, fun i hi => absurd hi (Nat.not_lt_zero i)⟩
  · show (if p < 7 then (1 : Int32) else 0) = nI 1
    rw [if_pos (by omega)]
    decide
  · unfold zbdP
    rw [zs0_a (j := p) (by omega), zs0_a (j := 7 + p) (by omega), zs0_a (j := 14 + p) (by omega)]
    exact ⟨zcf00, zcf00, zcf00⟩
  · rcases (show p = 0 ∨ p = 1 ∨ p = 2 ∨ p = 3 ∨ p = 4 ∨ p = 5 by omega) with rfl | rfl | rfl | rfl | rfl | rfl <;> decide
  · rw [zs0_a (j := 24) (by omega), zs0_a (j := 25) (by omega), zs0_a (j := 26) (by omega)]
    exact ⟨zcf00, zcf00, zcf00⟩
  · rw [zs0_a (j := 24) (by omega), zs0_a (j := 25) (by omega), zs0_a (j := 26) (by omega), zs0_a (j := p) (by omega), zs0_a (j := 7 + p) (by omega), zs0_a (j := 14 + p) (by omega)]
    exact ⟨rfl, rfl, rfl⟩
theorem va_P_re {D : va_G} {cl : List vw_C} {ws : va_W} {H : Heap} {i a : Nat} {e e2 : va_E} (hP : va_P D cl ws H) (hi : ws[i]? = some (a, e)) (he : va_at D cl (a, e) H → va_at D cl (a, e2) H) : va_P D cl (ws.set i (a, e2)) H := by
  intro k q hk
  rw [List.getElem?_set] at hk
  by_cases h : i = k
  · subst h
    rw [if_pos rfl, if_pos (List.getElem?_eq_some_iff.mp hi).1] at hk
    cases hk
    exact he (hP i _ hi)
  · rw [if_neg h] at hk
    exact hP k q hk
theorem zrefs {D : va_G} {cl : List vw_C} {a : Nat} {cA : ClassId} {n : Nat} {f g : Nat → Option Nat} {H : Heap} (h : ∀ j, j < n → f j = g j) (hP : va_at D cl (a, .inl (cA, n, .inr (.inr (.inr (.inr f))))) H) : va_at D cl (a, .inl (cA, n, .inr (.inr (.inr (.inr g))))) H := by
  have e : vp_cell cA (n, .inr (.inr (.inr (.inr f)))) = vp_cell cA (n, .inr (.inr (.inr (.inr g)))) := by
    rw [vp_cell_q, vp_cell_q]
    unfold arrV
    congr 2
    funext j
    show va_rf (f j.val) = va_rf (g j.val)
    rw [h j.val j.isLt]
  have hP : H[a]? = some (vp_cell cA (n, .inr (.inr (.inr (.inr f))))) := hP
  show H[a]? = some (vp_cell cA (n, .inr (.inr (.inr (.inr g)))))
  rw [← e]
  exact hP
/-- the places of the cells that the law has made -/
def zg1 (gg : zG) (q0 q1 : Nat) (u w : Nat → Nat) : zG := (gg.1, gg.2.1, gg.2.2.1, fun i => [q0, u 0, u 9, u 13, u 17, u 21, u 25, u 29, u 1, u 10, u 14, u 18, u 22, u 26, u 30, u 2, u 11, u 15, u 19, u 23, u 27, u 31, u 3, u 12, u 16, u 20, u 24, u 28, u 32, u 4, u 8, u 6, w 0, w 1, w 2, w 3, w 4, w 8, w 9, w 5, w 6, w 7, u 5, u 7, q1].getD i 0)
set_option maxRecDepth 100000 in
set_option maxHeartbeats 4000000 in
theorem zworld {gg : zG} {q0 q1 : Nat} {u w : Nat → Nat} {A : Nat → Prop} {H : Heap} (hP : va_P (zD gg) vwCl (zB3 gg q0 u ++ zB4 gg q1 w) H) (hD : va_D A (zB3 gg q0 u ++ zB4 gg q1 w)) : va_P (zD gg) vwCl (zW (zg1 gg q0 q1 u w) zs0) H ∧ va_D A (zW (zg1 gg q0 q1 u w) zs0) := by
  have hC : [0, 1, 10, 14, 18, 22, 26, 30, 2, 11, 15, 19, 23, 27, 31, 3, 12, 16, 20, 24, 28, 32, 4, 13, 17, 21, 25, 29, 33, 5, 9, 7, 35, 36, 37, 38, 39, 43, 44, 40, 41, 42, 6, 8, 34].map (fun i => (zB3 gg q0 u ++ zB4 gg q1 w)[i]?) = ((zW (zg1 gg q0 q1 u w) zs0).set 1 ((u 0), .inl (zQ gg, 6, .inr (.inr (.inr (.inr (va_up (va_up (va_up (va_up (va_up (va_up (fun _ => none) 0 (some (u 9))) 1 (some (u 13))) 2 (some (u 17))) 3 (some (u 21))) 4 (some (u 25))) 5 (some (u 29))))))))).map some := rfl
  have hP2 := hP.sub [0, 1, 10, 14, 18, 22, 26, 30, 2, 11, 15, 19, 23, 27, 31, 3, 12, 16, 20, 24, 28, 32, 4, 13, 17, 21, 25, 29, 33, 5, 9, 7, 35, 36, 37, 38, 39, 43, 44, 40, 41, 42, 6, 8, 34] (zfm hC)
  have hD2 := hD.sub [0, 1, 10, 14, 18, 22, 26, 30, 2, 11, 15, 19, 23, 27, 31, 3, 12, 16, 20, 24, 28, 32, 4, 13, 17, 21, 25, 29, 33, 5, 9, 7, 35, 36, 37, 38, 39, 43, 44, 40, 41, 42, 6, 8, 34] (by decide) hC
  have hP3 := va_P_re (i := 1) (e2 := .inl (zQ gg, 6, .inr (.inr (.inr (.inr (fun j => some (zc (zg1 gg q0 q1 u w) j))))))) hP2 rfl (zrefs (fun j hj => by
    rcases (show j = 0 ∨ j = 1 ∨ j = 2 ∨ j = 3 ∨ j = 4 ∨ j = 5 by omega) with rfl | rfl | rfl | rfl | rfl | rfl <;> rfl))
  have hD3 := hD2.set (p := 1) (e := .inl (zQ gg, 6, .inr (.inr (.inr (.inr (fun j => some (zc (zg1 gg q0 q1 u w) j))))))) rfl
  exact ⟨hP3, hD3⟩
