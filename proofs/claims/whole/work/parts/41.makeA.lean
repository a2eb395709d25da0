/-! the constructors -/
def zB0 (gg : zG) (h : Nat) (u : Nat × Nat × Nat) : va_W := [(h, .inr (0, [.ref u.1, .ref u.2.1, .ref u.2.2, .int 1])), (u.1, .inl (zI gg, 16, .inl (fun _ => 0))), (u.2.1, .inl (zI gg, 16, .inl (fun _ => 0))), (u.2.2, .inl (zI gg, 16, .inl (fun _ => 0)))]
theorem hfX0 : ∀ j, j < 4 → defaultValue (tyX0 j) = vp_V [.null, .null, .null, .int 0] j := by decide +kernel
set_option maxRecDepth 100000 in
set_option maxHeartbeats 4000000 in
theorem c_X0_init {l : Launch} {gg : zG} {h0 : Nat} : zMc l gg yX0_init cX0_init 1 1 12 3 48 h0 (.inr (0, [.null, .null, .null, .int 0])) (zB0 gg h0) := by
  refine zMc_of (own := RX0) (lv := [some (.ref h0)]) (by decide +kernel) rfl rfl (Nat.le_of_ble_eq_true rfl) rfl (fun cx hc hR hm hr hl => ?_)
  refine Jc_aload0 (pc := 0) hc dX0_init_0 ?_
  refine Jc_obj (pc := 1) hc (by decide +kernel) dX0_init_1 rfl (by rw [hR]; exact ⟨by decide, by decide⟩) ?_
  refine Jc_aload0 (pc := 4) hc dX0_init_4 ?_
  refine Jc_bipush (pc := 5) hc dX0_init_5 (v := 16) (by decide) ?_
  refine Jc_newI (pc := 7) (N := 16) hc (by decide) (by decide) (by decide) (by rw [hR]; decide) (by rw [hR]; decide) dX0_init_7 (fun q1 => ?_)
  refine Jc_w [(h0, .inr (0, [.null, .null, .null, .int 0])), (q1, .inl (zI gg, 16, .inl (fun _ => 0)))] rfl ?_
  refine Jc_n 1 16 rfl rfl ?_
  refine Jc_putF (pc := 9) (v := .ref q1) (ty := .array .int) hc hm 0 rfl rfl zinX0 tyX0 tyX0_ok nmX0 0 (by decide) (by decide +kernel) rfl rfl (by decide +kernel) rfl rfl (Nat.le_of_ble_eq_true rfl) dX0_init_9 ?_
  refine Jc_w [(h0, .inr (0, [.ref q1, .null, .null, .int 0])), (q1, .inl (zI gg, 16, .inl (fun _ => 0)))] rfl ?_
  refine Jc_n 1 16 rfl rfl ?_
  refine Jc_aload0 (pc := 12) hc dX0_init_12 ?_
  refine Jc_bipush (pc := 13) hc dX0_init_13 (v := 16) (by decide) ?_
  refine Jc_newI (pc := 15) (N := 16) hc (by decide) (by decide) (by decide) (by rw [hR]; decide) (by rw [hR]; decide) dX0_init_15 (fun q2 => ?_)
  refine Jc_w [(h0, .inr (0, [.ref q1, .null, .null, .int 0])), (q1, .inl (zI gg, 16, .inl (fun _ => 0))), (q2, .inl (zI gg, 16, .inl (fun _ => 0)))] rfl ?_
  refine Jc_n 2 32 rfl rfl ?_
  refine Jc_putF (pc := 17) (v := .ref q2) (ty := .array .int) hc hm 0 rfl rfl zinX0 tyX0 tyX0_ok nmX0 1 (by decide) (by decide +kernel) rfl rfl (by decide +kernel) rfl rfl (Nat.le_of_ble_eq_true rfl) dX0_init_17 ?_
  refine Jc_w [(h0, .inr (0, [.ref q1, .ref q2, .null, .int 0])), (q1, .inl (zI gg, 16, .inl (fun _ => 0))), (q2, .inl (zI gg, 16, .inl (fun _ => 0)))] rfl ?_
  refine Jc_n 2 32 rfl rfl ?_
  refine Jc_aload0 (pc := 20) hc dX0_init_20 ?_
  refine Jc_bipush (pc := 21) hc dX0_init_21 (v := 16) (by decide) ?_
  refine Jc_newI (pc := 23) (N := 16) hc (by decide) (by decide) (by decide) (by rw [hR]; decide) (by rw [hR]; decide) dX0_init_23 (fun q3 => ?_)
  refine Jc_w [(h0, .inr (0, [.ref q1, .ref q2, .null, .int 0])), (q1, .inl (zI gg, 16, .inl (fun _ => 0))), (q2, .inl (zI gg, 16, .inl (fun _ => 0))), (q3, .inl (zI gg, 16, .inl (fun _ => 0)))] rfl ?_
  refine Jc_n 3 48 rfl rfl ?_
  refine Jc_putF (pc := 25) (v := .ref q3) (ty := .array .int) hc hm 0 rfl rfl zinX0 tyX0 tyX0_ok nmX0 2 (by decide) (by decide +kernel) rfl rfl (by decide +kernel) rfl rfl (Nat.le_of_ble_eq_true rfl) dX0_init_25 ?_
  refine Jc_w [(h0, .inr (0, [.ref q1, .ref q2, .ref q3, .int 0])), (q1, .inl (zI gg, 16, .inl (fun _ => 0))), (q2, .inl (zI gg, 16, .inl (fun _ => 0))), (q3, .inl (zI gg, 16, .inl (fun _ => 0)))] rfl ?_
  refine Jc_n 3 48 rfl rfl ?_
  refine Jc_aload0 (pc := 28) hc dX0_init_28 ?_
  refine Jc_iconst (pc := 29) hc dX0_init_29 (v := 1) (by decide) ?_
  refine Jc_put (pc := 30) (v := .int 1) (ty := .int) hc 0 rfl rfl zinX0 tyX0 tyX0_ok nmX0 3 (by decide) (by decide +kernel) rfl rfl (by decide +kernel) rfl rfl (Nat.le_of_ble_eq_true rfl) dX0_init_30 ?_
  refine Jc_w [(h0, .inr (0, [.ref q1, .ref q2, .ref q3, .int 1])), (q1, .inl (zI gg, 16, .inl (fun _ => 0))), (q2, .inl (zI gg, 16, .inl (fun _ => 0))), (q3, .inl (zI gg, 16, .inl (fun _ => 0)))] rfl ?_
  refine Jc_n 3 48 rfl rfl ?_
  exact Jc_ret (pc := 33) hc hr dX0_init_33 (q1, q2, q3) rfl
def zB1 (gg : zG) (h : Nat) (u : Unit) : va_W := [(h, .inr (1, [.int 0, .int 0]))]
theorem hfX1 : ∀ j, j < 2 → defaultValue (tyX1 j) = vp_V [.int 0, .int 0] j := by decide +kernel
set_option maxRecDepth 100000 in
set_option maxHeartbeats 4000000 in
theorem c_X1_init {l : Launch} {gg : zG} {h0 : Nat} : zMc l gg yX1_init cX1_init 1 1 12 0 0 h0 (.inr (1, [.int 0, .int 0])) (zB1 gg h0) := by
  refine zMc_of (own := RX1) (lv := [some (.ref h0)]) (by decide +kernel) rfl rfl (Nat.le_of_ble_eq_true rfl) rfl (fun cx hc hR hm hr hl => ?_)
  refine Jc_aload0 (pc := 0) hc dX1_init_0 ?_
  refine Jc_obj (pc := 1) hc (by decide +kernel) dX1_init_1 rfl (by rw [hR]; exact ⟨by decide, by decide⟩) ?_
  refine Jc_aload0 (pc := 4) hc dX1_init_4 ?_
  refine Jc_iconst (pc := 5) hc dX1_init_5 (v := 0) (by decide) ?_
  refine Jc_put (pc := 6) (v := .int 0) (ty := .int) hc 0 rfl rfl zinX1 tyX1 tyX1_ok nmX1 0 (by decide) (by decide +kernel) rfl rfl (by decide +kernel) rfl rfl (Nat.le_of_ble_eq_true rfl) dX1_init_6 ?_
  refine Jc_w [(h0, .inr (1, [.int 0, .int 0]))] rfl ?_
  refine Jc_n 0 0 rfl rfl ?_
  refine Jc_aload0 (pc := 9) hc dX1_init_9 ?_
  refine Jc_iconst (pc := 10) hc dX1_init_10 (v := 0) (by decide) ?_
  refine Jc_put (pc := 11) (v := .int 0) (ty := .int) hc 0 rfl rfl zinX1 tyX1 tyX1_ok nmX1 1 (by decide) (by decide +kernel) rfl rfl (by decide +kernel) rfl rfl (Nat.le_of_ble_eq_true rfl) dX1_init_11 ?_
  refine Jc_w [(h0, .inr (1, [.int 0, .int 0]))] rfl ?_
  refine Jc_n 0 0 rfl rfl ?_
  exact Jc_ret (pc := 14) hc hr dX1_init_14 () rfl
def zB2 (gg : zG) (h : Nat) (u : Nat) : va_W := [(h, .inr (2, [.ref u, .int 0, .long 0, .long 0, .long 0])), (u, .inl (zI gg, 32, .inl (fun _ => 0)))]
theorem hfX2 : ∀ j, j < 5 → defaultValue (tyX2 j) = vp_V [.null, .int 0, .long 0, .long 0, .long 0] j := by decide +kernel
set_option maxRecDepth 100000 in
set_option maxHeartbeats 4000000 in
theorem c_X2_init {l : Launch} {gg : zG} {h0 : Nat} : zMc l gg yX2_init cX2_init 1 1 12 1 32 h0 (.inr (2, [.null, .int 0, .long 0, .long 0, .long 0])) (zB2 gg h0) := by
  refine zMc_of (own := RX2) (lv := [some (.ref h0)]) (by decide +kernel) rfl rfl (Nat.le_of_ble_eq_true rfl) rfl (fun cx hc hR hm hr hl => ?_)
  refine Jc_aload0 (pc := 0) hc dX2_init_0 ?_
  refine Jc_obj (pc := 1) hc (by decide +kernel) dX2_init_1 rfl (by rw [hR]; exact ⟨by decide, by decide⟩) ?_
  refine Jc_aload0 (pc := 4) hc dX2_init_4 ?_
  refine Jc_bipush (pc := 5) hc dX2_init_5 (v := 32) (by decide) ?_
  refine Jc_newI (pc := 7) (N := 32) hc (by decide) (by decide) (by decide) (by rw [hR]; decide) (by rw [hR]; decide) dX2_init_7 (fun q1 => ?_)
  refine Jc_w [(h0, .inr (2, [.null, .int 0, .long 0, .long 0, .long 0])), (q1, .inl (zI gg, 32, .inl (fun _ => 0)))] rfl ?_
  refine Jc_n 1 32 rfl rfl ?_
  refine Jc_putF (pc := 9) (v := .ref q1) (ty := .array .int) hc hm 0 rfl rfl zinX2 tyX2 tyX2_ok nmX2 0 (by decide) (by decide +kernel) rfl rfl (by decide +kernel) rfl rfl (Nat.le_of_ble_eq_true rfl) dX2_init_9 ?_
  refine Jc_w [(h0, .inr (2, [.ref q1, .int 0, .long 0, .long 0, .long 0])), (q1, .inl (zI gg, 32, .inl (fun _ => 0)))] rfl ?_
  refine Jc_n 1 32 rfl rfl ?_
  refine Jc_aload0 (pc := 12) hc dX2_init_12 ?_
  refine Jc_iconst (pc := 13) hc dX2_init_13 (v := 0) (by decide) ?_
  refine Jc_put (pc := 14) (v := .int 0) (ty := .int) hc 0 rfl rfl zinX2 tyX2 tyX2_ok nmX2 1 (by decide) (by decide +kernel) rfl rfl (by decide +kernel) rfl rfl (Nat.le_of_ble_eq_true rfl) dX2_init_14 ?_
  refine Jc_w [(h0, .inr (2, [.ref q1, .int 0, .long 0, .long 0, .long 0])), (q1, .inl (zI gg, 32, .inl (fun _ => 0)))] rfl ?_
  refine Jc_n 1 32 rfl rfl ?_
  refine Jc_aload0 (pc := 17) hc dX2_init_17 ?_
  refine Jc_lconst (pc := 18) hc dX2_init_18 (v := 0) (by decide) ?_
  refine Jc_put (pc := 19) (v := .long 0) (ty := .long) hc 0 rfl rfl zinX2 tyX2 tyX2_ok nmX2 2 (by decide) (by decide +kernel) rfl rfl (by decide +kernel) rfl rfl (Nat.le_of_ble_eq_true rfl) dX2_init_19 ?_
  refine Jc_w [(h0, .inr (2, [.ref q1, .int 0, .long 0, .long 0, .long 0])), (q1, .inl (zI gg, 32, .inl (fun _ => 0)))] rfl ?_
  refine Jc_n 1 32 rfl rfl ?_
  refine Jc_aload0 (pc := 22) hc dX2_init_22 ?_
  refine Jc_lconst (pc := 23) hc dX2_init_23 (v := 0) (by decide) ?_
  refine Jc_put (pc := 24) (v := .long 0) (ty := .long) hc 0 rfl rfl zinX2 tyX2 tyX2_ok nmX2 3 (by decide) (by decide +kernel) rfl rfl (by decide +kernel) rfl rfl (Nat.le_of_ble_eq_true rfl) dX2_init_24 ?_
  refine Jc_w [(h0, .inr (2, [.ref q1, .int 0, .long 0, .long 0, .long 0])), (q1, .inl (zI gg, 32, .inl (fun _ => 0)))] rfl ?_
  refine Jc_n 1 32 rfl rfl ?_
  refine Jc_aload0 (pc := 27) hc dX2_init_27 ?_
  refine Jc_lconst (pc := 28) hc dX2_init_28 (v := 0) (by decide) ?_
  refine Jc_put (pc := 29) (v := .long 0) (ty := .long) hc 0 rfl rfl zinX2 tyX2 tyX2_ok nmX2 4 (by decide) (by decide +kernel) rfl rfl (by decide +kernel) rfl rfl (Nat.le_of_ble_eq_true rfl) dX2_init_29 ?_
  refine Jc_w [(h0, .inr (2, [.ref q1, .int 0, .long 0, .long 0, .long 0])), (q1, .inl (zI gg, 32, .inl (fun _ => 0)))] rfl ?_
  refine Jc_n 1 32 rfl rfl ?_
  exact Jc_ret (pc := 32) hc hr dX2_init_32 q1 rfl
def zB4 (gg : zG) (h : Nat) (u : Nat → Nat) : va_W := [(h, .inr (4, [.ref (u 0), .ref (u 1), .ref (u 2), .ref (u 3), .int 0, .ref (u 4), .int 0, .ref (u 5), .ref (u 6), .ref (u 7), .int 0, .ref (u 8), .ref (u 9)])), ((u 0), .inl (zI gg, 6, .inl (upd (upd (upd (upd (upd (upd (fun _ => 0) 0 1) 1 1) 2 1) 3 1) 4 1) 5 1))), ((u 1), .inl (zI gg, 96, .inl (fun _ => 0))), ((u 2), .inl (zI gg, 96, .inl (fun _ => 0))), ((u 3), .inl (zI gg, 96, .inl (fun _ => 0))), ((u 4), .inl (zI gg, 17, .inl (fun _ => 0))), ((u 5), .inl (zJ gg, 16, .inr (.inl (fun _ => 0)))), ((u 6), .inl (zJ gg, 16, .inr (.inl (fun _ => 0)))), ((u 7), .inl (zJ gg, 16, .inr (.inl (fun _ => 0)))), ((u 8), .inl (zI gg, 40, .inl (fun _ => 0))), ((u 9), .inl (zI gg, 17, .inl (fun _ => 0)))]
theorem hfX4 : ∀ j, j < 13 → defaultValue (tyX4 j) = vp_V [.null, .null, .null, .null, .int 0, .null, .int 0, .null, .null, .null, .int 0, .null, .null] j := by decide +kernel
set_option maxRecDepth 100000 in
set_option maxHeartbeats 4000000 in
theorem c_X4_init {l : Launch} {gg : zG} {h0 : Nat} : zMc l gg yX4_init cX4_init 2 1 12 10 416 h0 (.inr (4, [.null, .null, .null, .null, .int 0, .null, .int 0, .null, .null, .null, .int 0, .null, .null])) (zB4 gg h0) := by
  refine zMc_of (own := RX4) (lv := [some (.ref h0), none]) (by decide +kernel) rfl rfl (Nat.le_of_ble_eq_true rfl) rfl (fun cx hc hR hm hr hl => ?_)
  refine Jc_aload0 (pc := 0) hc dX4_init_0 ?_
  refine Jc_obj (pc := 1) hc (by decide +kernel) dX4_init_1 rfl (by rw [hR]; exact ⟨by decide, by decide⟩) ?_
  refine Jc_aload0 (pc := 4) hc dX4_init_4 ?_
  refine Jc_bipush (pc := 5) hc dX4_init_5 (v := 6) (by decide) ?_
  refine Jc_newI (pc := 7) (N := 6) hc (by decide) (by decide) (by decide) (by rw [hR]; decide) (by rw [hR]; decide) dX4_init_7 (fun q1 => ?_)
  refine Jc_w [(h0, .inr (4, [.null, .null, .null, .null, .int 0, .null, .int 0, .null, .null, .null, .int 0, .null, .null])), (q1, .inl (zI gg, 6, .inl (fun _ => 0)))] rfl ?_
  refine Jc_n 1 6 rfl rfl ?_
  refine Jc_putF (pc := 9) (v := .ref q1) (ty := .array .int) hc hm 0 rfl rfl zinX4 tyX4 tyX4_ok nmX4 0 (by decide) (by decide +kernel) rfl rfl (by decide +kernel) rfl rfl (Nat.le_of_ble_eq_true rfl) dX4_init_9 ?_
  refine Jc_w [(h0, .inr (4, [.ref q1, .null, .null, .null, .int 0, .null, .int 0, .null, .null, .null, .int 0, .null, .null])), (q1, .inl (zI gg, 6, .inl (fun _ => 0)))] rfl ?_
  refine Jc_n 1 6 rfl rfl ?_
  refine Jc_aload0 (pc := 12) hc dX4_init_12 ?_
  refine Jc_bipush (pc := 13) hc dX4_init_13 (v := 96) (by decide) ?_
  refine Jc_newI (pc := 15) (N := 96) hc (by decide) (by decide) (by decide) (by rw [hR]; decide) (by rw [hR]; decide) dX4_init_15 (fun q2 => ?_)
  refine Jc_w [(h0, .inr (4, [.ref q1, .null, .null, .null, .int 0, .null, .int 0, .null, .null, .null, .int 0, .null, .null])), (q1, .inl (zI gg, 6, .inl (fun _ => 0))), (q2, .inl (zI gg, 96, .inl (fun _ => 0)))] rfl ?_
  refine Jc_n 2 102 rfl rfl ?_
  refine Jc_putF (pc := 17) (v := .ref q2) (ty := .array .int) hc hm 0 rfl rfl zinX4 tyX4 tyX4_ok nmX4 1 (by decide) (by decide +kernel) rfl rfl (by decide +kernel) rfl rfl (Nat.le_of_ble_eq_true rfl) dX4_init_17 ?_
  refine Jc_w [(h0, .inr (4, [.ref q1, .ref q2, .null, .null, .int 0, .null, .int 0, .null, .null, .null, .int 0, .null, .null])), (q1, .inl (zI gg, 6, .inl (fun _ => 0))), (q2, .inl (zI gg, 96, .inl (fun _ => 0)))] rfl ?_
  refine Jc_n 2 102 rfl rfl ?_
  refine Jc_aload0 (pc := 20) hc dX4_init_20 ?_
  refine Jc_bipush (pc := 21) hc dX4_init_21 (v := 96) (by decide) ?_
  refine Jc_newI (pc := 23) (N := 96) hc (by decide) (by decide) (by decide) (by rw [hR]; decide) (by rw [hR]; decide) dX4_init_23 (fun q3 => ?_)
  refine Jc_w [(h0, .inr (4, [.ref q1, .ref q2, .null, .null, .int 0, .null, .int 0, .null, .null, .null, .int 0, .null, .null])), (q1, .inl (zI gg, 6, .inl (fun _ => 0))), (q2, .inl (zI gg, 96, .inl (fun _ => 0))), (q3, .inl (zI gg, 96, .inl (fun _ => 0)))] rfl ?_
  refine Jc_n 3 198 rfl rfl ?_
  refine Jc_putF (pc := 25) (v := .ref q3) (ty := .array .int) hc hm 0 rfl rfl zinX4 tyX4 tyX4_ok nmX4 2 (by decide) (by decide +kernel) rfl rfl (by decide +kernel) rfl rfl (Nat.le_of_ble_eq_true rfl) dX4_init_25 ?_
  refine Jc_w [(h0, .inr (4, [.ref q1, .ref q2, .ref q3, .null, .int 0, .null, .int 0, .null, .null, .null, .int 0, .null, .null])), (q1, .inl (zI gg, 6, .inl (fun _ => 0))), (q2, .inl (zI gg, 96, .inl (fun _ => 0))), (q3, .inl (zI gg, 96, .inl (fun _ => 0)))] rfl ?_
  refine Jc_n 3 198 rfl rfl ?_
  refine Jc_aload0 (pc := 28) hc dX4_init_28 ?_
  refine Jc_bipush (pc := 29) hc dX4_init_29 (v := 96) (by decide) ?_
  refine Jc_newI (pc := 31) (N := 96) hc (by decide) (by decide) (by decide) (by rw [hR]; decide) (by rw [hR]; decide) dX4_init_31 (fun q4 => ?_)
  refine Jc_w [(h0, .inr (4, [.ref q1, .ref q2, .ref q3, .null, .int 0, .null, .int 0, .null, .null, .null, .int 0, .null, .null])), (q1, .inl (zI gg, 6, .inl (fun _ => 0))), (q2, .inl (zI gg, 96, .inl (fun _ => 0))), (q3, .inl (zI gg, 96, .inl (fun _ => 0))), (q4, .inl (zI gg, 96, .inl (fun _ => 0)))] rfl ?_
  refine Jc_n 4 294 rfl rfl ?_
  refine Jc_putF (pc := 33) (v := .ref q4) (ty := .array .int) hc hm 0 rfl rfl zinX4 tyX4 tyX4_ok nmX4 3 (by decide) (by decide +kernel) rfl rfl (by decide +kernel) rfl rfl (Nat.le_of_ble_eq_true rfl) dX4_init_33 ?_
  refine Jc_w [(h0, .inr (4, [.ref q1, .ref q2, .ref q3, .ref q4, .int 0, .null, .int 0, .null, .null, .null, .int 0, .null, .null])), (q1, .inl (zI gg, 6, .inl (fun _ => 0))), (q2, .inl (zI gg, 96, .inl (fun _ => 0))), (q3, .inl (zI gg, 96, .inl (fun _ => 0))), (q4, .inl (zI gg, 96, .inl (fun _ => 0)))] rfl ?_
  refine Jc_n 4 294 rfl rfl ?_
  refine Jc_aload0 (pc := 36) hc dX4_init_36 ?_
  refine Jc_bipush (pc := 37) hc dX4_init_37 (v := 17) (by decide) ?_
  refine Jc_newI (pc := 39) (N := 17) hc (by decide) (by decide) (by decide) (by rw [hR]; decide) (by rw [hR]; decide) dX4_init_39 (fun q5 => ?_)
  refine Jc_w [(h0, .inr (4, [.ref q1, .ref q2, .ref q3, .ref q4, .int 0, .null, .int 0, .null, .null, .null, .int 0, .null, .null])), (q1, .inl (zI gg, 6, .inl (fun _ => 0))), (q2, .inl (zI gg, 96, .inl (fun _ => 0))), (q3, .inl (zI gg, 96, .inl (fun _ => 0))), (q4, .inl (zI gg, 96, .inl (fun _ => 0))), (q5, .inl (zI gg, 17, .inl (fun _ => 0)))] rfl ?_
  refine Jc_n 5 311 rfl rfl ?_
  refine Jc_putF (pc := 41) (v := .ref q5) (ty := .array .int) hc hm 0 rfl rfl zinX4 tyX4 tyX4_ok nmX4 5 (by decide) (by decide +kernel) rfl rfl (by decide +kernel) rfl rfl (Nat.le_of_ble_eq_true rfl) dX4_init_41 ?_
  refine Jc_w [(h0, .inr (4, [.ref q1, .ref q2, .ref q3, .ref q4, .int 0, .ref q5, .int 0, .null, .null, .null, .int 0, .null, .null])), (q1, .inl (zI gg, 6, .inl (fun _ => 0))), (q2, .inl (zI gg, 96, .inl (fun _ => 0))), (q3, .inl (zI gg, 96, .inl (fun _ => 0))), (q4, .inl (zI gg, 96, .inl (fun _ => 0))), (q5, .inl (zI gg, 17, .inl (fun _ => 0)))] rfl ?_
  refine Jc_n 5 311 rfl rfl ?_
  refine Jc_aload0 (pc := 44) hc dX4_init_44 ?_
  refine Jc_bipush (pc := 45) hc dX4_init_45 (v := 16) (by decide) ?_
  refine Jc_newL (pc := 47) (N := 16) hc (by decide) (by decide) (by decide) (by rw [hR]; decide) (by rw [hR]; decide) dX4_init_47 (fun q6 => ?_)
  refine Jc_w [(h0, .inr (4, [.ref q1, .ref q2, .ref q3, .ref q4, .int 0, .ref q5, .int 0, .null, .null, .null, .int 0, .null, .null])), (q1, .inl (zI gg, 6, .inl (fun _ => 0))), (q2, .inl (zI gg, 96, .inl (fun _ => 0))), (q3, .inl (zI gg, 96, .inl (fun _ => 0))), (q4, .inl (zI gg, 96, .inl (fun _ => 0))), (q5, .inl (zI gg, 17, .inl (fun _ => 0))), (q6, .inl (zJ gg, 16, .inr (.inl (fun _ => 0))))] rfl ?_
  refine Jc_n 6 327 rfl rfl ?_
  refine Jc_putF (pc := 49) (v := .ref q6) (ty := .array .long) hc hm 0 rfl rfl zinX4 tyX4 tyX4_ok nmX4 7 (by decide) (by decide +kernel) rfl rfl (by decide +kernel) rfl rfl (Nat.le_of_ble_eq_true rfl) dX4_init_49 ?_
  refine Jc_w [(h0, .inr (4, [.ref q1, .ref q2, .ref q3, .ref q4, .int 0, .ref q5, .int 0, .ref q6, .null, .null, .int 0, .null, .null])), (q1, .inl (zI gg, 6, .inl (fun _ => 0))), (q2, .inl (zI gg, 96, .inl (fun _ => 0))), (q3, .inl (zI gg, 96, .inl (fun _ => 0))), (q4, .inl (zI gg, 96, .inl (fun _ => 0))), (q5, .inl (zI gg, 17, .inl (fun _ => 0))), (q6, .inl (zJ gg, 16, .inr (.inl (fun _ => 0))))] rfl ?_
  refine Jc_n 6 327 rfl rfl ?_
  refine Jc_aload0 (pc := 52) hc dX4_init_52 ?_
  refine Jc_bipush (pc := 53) hc dX4_init_53 (v := 16) (by decide) ?_
  refine Jc_newL (pc := 55) (N := 16) hc (by decide) (by decide) (by decide) (by rw [hR]; decide) (by rw [hR]; decide) dX4_init_55 (fun q7 => ?_)
  refine Jc_w [(h0, .inr (4, [.ref q1, .ref q2, .ref q3, .ref q4, .int 0, .ref q5, .int 0, .ref q6, .null, .null, .int 0, .null, .null])), (q1, .inl (zI gg, 6, .inl (fun _ => 0))), (q2, .inl (zI gg, 96, .inl (fun _ => 0))), (q3, .inl (zI gg, 96, .inl (fun _ => 0))), (q4, .inl (zI gg, 96, .inl (fun _ => 0))), (q5, .inl (zI gg, 17, .inl (fun _ => 0))), (q6, .inl (zJ gg, 16, .inr (.inl (fun _ => 0)))), (q7, .inl (zJ gg, 16, .inr (.inl (fun _ => 0))))] rfl ?_
  refine Jc_n 7 343 rfl rfl ?_
  refine Jc_putF (pc := 57) (v := .ref q7) (ty := .array .long) hc hm 0 rfl rfl zinX4 tyX4 tyX4_ok nmX4 8 (by decide) (by decide +kernel) rfl rfl (by decide +kernel) rfl rfl (Nat.le_of_ble_eq_true rfl) dX4_init_57 ?_
  refine Jc_w [(h0, .inr (4, [.ref q1, .ref q2, .ref q3, .ref q4, .int 0, .ref q5, .int 0, .ref q6, .ref q7, .null, .int 0, .null, .null])), (q1, .inl (zI gg, 6, .inl (fun _ => 0))), (q2, .inl (zI gg, 96, .inl (fun _ => 0))), (q3, .inl (zI gg, 96, .inl (fun _ => 0))), (q4, .inl (zI gg, 96, .inl (fun _ => 0))), (q5, .inl (zI gg, 17, .inl (fun _ => 0))), (q6, .inl (zJ gg, 16, .inr (.inl (fun _ => 0)))), (q7, .inl (zJ gg, 16, .inr (.inl (fun _ => 0))))] rfl ?_
  refine Jc_n 7 343 rfl rfl ?_
  refine Jc_aload0 (pc := 60) hc dX4_init_60 ?_
  refine Jc_bipush (pc := 61) hc dX4_init_61 (v := 16) (by decide) ?_
  refine Jc_newL (pc := 63) (N := 16) hc (by decide) (by decide) (by decide) (by rw [hR]; decide) (by rw [hR]; decide) dX4_init_63 (fun q8 => ?_)
  refine Jc_w [(h0, .inr (4, [.ref q1, .ref q2, .ref q3, .ref q4, .int 0, .ref q5, .int 0, .ref q6, .ref q7, .null, .int 0, .null, .null])), (q1, .inl (zI gg, 6, .inl (fun _ => 0))), (q2, .inl (zI gg, 96, .inl (fun _ => 0))), (q3, .inl (zI gg, 96, .inl (fun _ => 0))), (q4, .inl (zI gg, 96, .inl (fun _ => 0))), (q5, .inl (zI gg, 17, .inl (fun _ => 0))), (q6, .inl (zJ gg, 16, .inr (.inl (fun _ => 0)))), (q7, .inl (zJ gg, 16, .inr (.inl (fun _ => 0)))), (q8, .inl (zJ gg, 16, .inr (.inl (fun _ => 0))))] rfl ?_
  refine Jc_n 8 359 rfl rfl ?_
  refine Jc_putF (pc := 65) (v := .ref q8) (ty := .array .long) hc hm 0 rfl rfl zinX4 tyX4 tyX4_ok nmX4 9 (by decide) (by decide +kernel) rfl rfl (by decide +kernel) rfl rfl (Nat.le_of_ble_eq_true rfl) dX4_init_65 ?_
  refine Jc_w [(h0, .inr (4, [.ref q1, .ref q2, .ref q3, .ref q4, .int 0, .ref q5, .int 0, .ref q6, .ref q7, .ref q8, .int 0, .null, .null])), (q1, .inl (zI gg, 6, .inl (fun _ => 0))), (q2, .inl (zI gg, 96, .inl (fun _ => 0))), (q3, .inl (zI gg, 96, .inl (fun _ => 0))), (q4, .inl (zI gg, 96, .inl (fun _ => 0))), (q5, .inl (zI gg, 17, .inl (fun _ => 0))), (q6, .inl (zJ gg, 16, .inr (.inl (fun _ => 0)))), (q7, .inl (zJ gg, 16, .inr (.inl (fun _ => 0)))), (q8, .inl (zJ gg, 16, .inr (.inl (fun _ => 0))))] rfl ?_
  refine Jc_n 8 359 rfl rfl ?_
  refine Jc_aload0 (pc := 68) hc dX4_init_68 ?_
  refine Jc_bipush (pc := 69) hc dX4_init_69 (v := 40) (by decide) ?_
  refine Jc_newI (pc := 71) (N := 40) hc (by decide) (by decide) (by decide) (by rw [hR]; decide) (by rw [hR]; decide) dX4_init_71 (fun q9 => ?_)
  refine Jc_w [(h0, .inr (4, [.ref q1, .ref q2, .ref q3, .ref q4, .int 0, .ref q5, .int 0, .ref q6, .ref q7, .ref q8, .int 0, .null, .null])), (q1, .inl (zI gg, 6, .inl (fun _ => 0))), (q2, .inl (zI gg, 96, .inl (fun _ => 0))), (q3, .inl (zI gg, 96, .inl (fun _ => 0))), (q4, .inl (zI gg, 96, .inl (fun _ => 0))), (q5, .inl (zI gg, 17, .inl (fun _ => 0))), (q6, .inl (zJ gg, 16, .inr (.inl (fun _ => 0)))), (q7, .inl (zJ gg, 16, .inr (.inl (fun _ => 0)))), (q8, .inl (zJ gg, 16, .inr (.inl (fun _ => 0)))), (q9, .inl (zI gg, 40, .inl (fun _ => 0)))] rfl ?_
  refine Jc_n 9 399 rfl rfl ?_
  refine Jc_putF (pc := 73) (v := .ref q9) (ty := .array .int) hc hm 0 rfl rfl zinX4 tyX4 tyX4_ok nmX4 11 (by decide) (by decide +kernel) rfl rfl (by decide +kernel) rfl rfl (Nat.le_of_ble_eq_true rfl) dX4_init_73 ?_
  refine Jc_w [(h0, .inr (4, [.ref q1, .ref q2, .ref q3, .ref q4, .int 0, .ref q5, .int 0, .ref q6, .ref q7, .ref q8, .int 0, .ref q9, .null])), (q1, .inl (zI gg, 6, .inl (fun _ => 0))), (q2, .inl (zI gg, 96, .inl (fun _ => 0))), (q3, .inl (zI gg, 96, .inl (fun _ => 0))), (q4, .inl (zI gg, 96, .inl (fun _ => 0))), (q5, .inl (zI gg, 17, .inl (fun _ => 0))), (q6, .inl (zJ gg, 16, .inr (.inl (fun _ => 0)))), (q7, .inl (zJ gg, 16, .inr (.inl (fun _ => 0)))), (q8, .inl (zJ gg, 16, .inr (.inl (fun _ => 0)))), (q9, .inl (zI gg, 40, .inl (fun _ => 0)))] rfl ?_
  refine Jc_n 9 399 rfl rfl ?_
  refine Jc_aload0 (pc := 76) hc dX4_init_76 ?_
  refine Jc_bipush (pc := 77) hc dX4_init_77 (v := 17) (by decide) ?_
  refine Jc_newI (pc := 79) (N := 17) hc (by decide) (by decide) (by decide) (by rw [hR]; decide) (by rw [hR]; decide) dX4_init_79 (fun q10 => ?_)
  refine Jc_w [(h0, .inr (4, [.ref q1, .ref q2, .ref q3, .ref q4, .int 0, .ref q5, .int 0, .ref q6, .ref q7, .ref q8, .int 0, .ref q9, .null])), (q1, .inl (zI gg, 6, .inl (fun _ => 0))), (q2, .inl (zI gg, 96, .inl (fun _ => 0))), (q3, .inl (zI gg, 96, .inl (fun _ => 0))), (q4, .inl (zI gg, 96, .inl (fun _ => 0))), (q5, .inl (zI gg, 17, .inl (fun _ => 0))), (q6, .inl (zJ gg, 16, .inr (.inl (fun _ => 0)))), (q7, .inl (zJ gg, 16, .inr (.inl (fun _ => 0)))), (q8, .inl (zJ gg, 16, .inr (.inl (fun _ => 0)))), (q9, .inl (zI gg, 40, .inl (fun _ => 0))), (q10, .inl (zI gg, 17, .inl (fun _ => 0)))] rfl ?_
  refine Jc_n 10 416 rfl rfl ?_
  refine Jc_putF (pc := 81) (v := .ref q10) (ty := .array .int) hc hm 0 rfl rfl zinX4 tyX4 tyX4_ok nmX4 12 (by decide) (by decide +kernel) rfl rfl (by decide +kernel) rfl rfl (Nat.le_of_ble_eq_true rfl) dX4_init_81 ?_
  refine Jc_w [(h0, .inr (4, [.ref q1, .ref q2, .ref q3, .ref q4, .int 0, .ref q5, .int 0, .ref q6, .ref q7, .ref q8, .int 0, .ref q9, .ref q10])), (q1, .inl (zI gg, 6, .inl (fun _ => 0))), (q2, .inl (zI gg, 96, .inl (fun _ => 0))), (q3, .inl (zI gg, 96, .inl (fun _ => 0))), (q4, .inl (zI gg, 96, .inl (fun _ => 0))), (q5, .inl (zI gg, 17, .inl (fun _ => 0))), (q6, .inl (zJ gg, 16, .inr (.inl (fun _ => 0)))), (q7, .inl (zJ gg, 16, .inr (.inl (fun _ => 0)))), (q8, .inl (zJ gg, 16, .inr (.inl (fun _ => 0)))), (q9, .inl (zI gg, 40, .inl (fun _ => 0))), (q10, .inl (zI gg, 17, .inl (fun _ => 0)))] rfl ?_
  refine Jc_n 10 416 rfl rfl ?_
  refine Jc_iconst (pc := 84) hc dX4_init_84 (v := 0) (by decide) ?_
  refine Jc_istore1 (pc := 85) hc dX4_init_85 rfl ?_
  refine Jc_iload1 (pc := 86) hc dX4_init_86 ?_
  refine Jc_bipush (pc := 87) hc dX4_init_87 (v := 6) (by decide) ?_
  refine Jc_ge (pc := 89) hc 105 dX4_init_89 (by decide) (fun h => absurd h (by decide)) (fun _ => ?_)
  refine Jc_aload0 (pc := 92) hc dX4_init_92 ?_
  refine Jc_get (pc := 93) (v := .ref q1) hc 0 rfl rfl zinX4 0 (by decide) (by decide +kernel) rfl rfl dX4_init_93 ?_
  refine Jc_iload1 (pc := 96) hc dX4_init_96 ?_
  refine Jc_iconst (pc := 97) hc dX4_init_97 (v := 1) (by decide) ?_
  refine Jc_iast (pc := 98) (j := 0) hc 1 rfl (by unfold vp_in; decide) (by decide) dX4_init_98 ?_
  refine Jc_w [(h0, .inr (4, [.ref q1, .ref q2, .ref q3, .ref q4, .int 0, .ref q5, .int 0, .ref q6, .ref q7, .ref q8, .int 0, .ref q9, .ref q10])), (q1, .inl (zI gg, 6, .inl (upd (fun _ => 0) 0 1))), (q2, .inl (zI gg, 96, .inl (fun _ => 0))), (q3, .inl (zI gg, 96, .inl (fun _ => 0))), (q4, .inl (zI gg, 96, .inl (fun _ => 0))), (q5, .inl (zI gg, 17, .inl (fun _ => 0))), (q6, .inl (zJ gg, 16, .inr (.inl (fun _ => 0)))), (q7, .inl (zJ gg, 16, .inr (.inl (fun _ => 0)))), (q8, .inl (zJ gg, 16, .inr (.inl (fun _ => 0)))), (q9, .inl (zI gg, 40, .inl (fun _ => 0))), (q10, .inl (zI gg, 17, .inl (fun _ => 0)))] rfl ?_
  refine Jc_n 10 416 rfl rfl ?_
  refine Jc_iinc1 (pc := 99) (w := 1) hc dX4_init_99 (by decide) rfl ?_
  refine Jc_goto (pc := 102) hc 86 dX4_init_102 (by decide) ?_
  refine Jc_iload1 (pc := 86) hc dX4_init_86 ?_
  refine Jc_bipush (pc := 87) hc dX4_init_87 (v := 6) (by decide) ?_
  refine Jc_ge (pc := 89) hc 105 dX4_init_89 (by decide) (fun h => absurd h (by decide)) (fun _ => ?_)
  refine Jc_aload0 (pc := 92) hc dX4_init_92 ?_
  refine Jc_get (pc := 93) (v := .ref q1) hc 0 rfl rfl zinX4 0 (by decide) (by decide +kernel) rfl rfl dX4_init_93 ?_
  refine Jc_iload1 (pc := 96) hc dX4_init_96 ?_
  refine Jc_iconst (pc := 97) hc dX4_init_97 (v := 1) (by decide) ?_
  refine Jc_iast (pc := 98) (j := 1) hc 1 rfl (by unfold vp_in; decide) (by decide) dX4_init_98 ?_
  refine Jc_w [(h0, .inr (4, [.ref q1, .ref q2, .ref q3, .ref q4, .int 0, .ref q5, .int 0, .ref q6, .ref q7, .ref q8, .int 0, .ref q9, .ref q10])), (q1, .inl (zI gg, 6, .inl (upd (upd (fun _ => 0) 0 1) 1 1))), (q2, .inl (zI gg, 96, .inl (fun _ => 0))), (q3, .inl (zI gg, 96, .inl (fun _ => 0))), (q4, .inl (zI gg, 96, .inl (fun _ => 0))), (q5, .inl (zI gg, 17, .inl (fun _ => 0))), (q6, .inl (zJ gg, 16, .inr (.inl (fun _ => 0)))), (q7, .inl (zJ gg, 16, .inr (.inl (fun _ => 0)))), (q8, .inl (zJ gg, 16, .inr (.inl (fun _ => 0)))), (q9, .inl (zI gg, 40, .inl (fun _ => 0))), (q10, .inl (zI gg, 17, .inl (fun _ => 0)))] rfl ?_
  refine Jc_n 10 416 rfl rfl ?_
  refine Jc_iinc1 (pc := 99) (w := 2) hc dX4_init_99 (by decide) rfl ?_
  refine Jc_goto (pc := 102) hc 86 dX4_init_102 (by decide) ?_
  refine Jc_iload1 (pc := 86) hc dX4_init_86 ?_
  refine Jc_bipush (pc := 87) hc dX4_init_87 (v := 6) (by decide) ?_
  refine Jc_ge (pc := 89) hc 105 dX4_init_89 (by decide) (fun h => absurd h (by decide)) (fun _ => ?_)
  refine Jc_aload0 (pc := 92) hc dX4_init_92 ?_
  refine Jc_get (pc := 93) (v := .ref q1) hc 0 rfl rfl zinX4 0 (by decide) (by decide +kernel) rfl rfl dX4_init_93 ?_
  refine Jc_iload1 (pc := 96) hc dX4_init_96 ?_
  refine Jc_iconst (pc := 97) hc dX4_init_97 (v := 1) (by decide) ?_
  refine Jc_iast (pc := 98) (j := 2) hc 1 rfl (by unfold vp_in; decide) (by decide) dX4_init_98 ?_
  refine Jc_w [(h0, .inr (4, [.ref q1, .ref q2, .ref q3, .ref q4, .int 0, .ref q5, .int 0, .ref q6, .ref q7, .ref q8, .int 0, .ref q9, .ref q10])), (q1, .inl (zI gg, 6, .inl (upd (upd (upd (fun _ => 0) 0 1) 1 1) 2 1))), (q2, .inl (zI gg, 96, .inl (fun _ => 0))), (q3, .inl (zI gg, 96, .inl (fun _ => 0))), (q4, .inl (zI gg, 96, .inl (fun _ => 0))), (q5, .inl (zI gg, 17, .inl (fun _ => 0))), (q6, .inl (zJ gg, 16, .inr (.inl (fun _ => 0)))), (q7, .inl (zJ gg, 16, .inr (.inl (fun _ => 0)))), (q8, .inl (zJ gg, 16, .inr (.inl (fun _ => 0)))), (q9, .inl (zI gg, 40, .inl (fun _ => 0))), (q10, .inl (zI gg, 17, .inl (fun _ => 0)))] rfl ?_
  refine Jc_n 10 416 rfl rfl ?_
  refine Jc_iinc1 (pc := 99) (w := 3) hc dX4_init_99 (by decide) rfl ?_
  refine Jc_goto (pc := 102) hc 86 dX4_init_102 (by decide) ?_
  refine Jc_iload1 (pc := 86) hc dX4_init_86 ?_
  refine Jc_bipush (pc := 87) hc dX4_init_87 (v := 6) (by decide) ?_
  refine Jc_ge (pc := 89) hc 105 dX4_init_89 (by decide) (fun h => absurd h (by decide)) (fun _ => ?_)
  refine Jc_aload0 (pc := 92) hc dX4_init_92 ?_
  refine Jc_get (pc := 93) (v := .ref q1) hc 0 rfl rfl zinX4 0 (by decide) (by decide +kernel) rfl rfl dX4_init_93 ?_
  refine Jc_iload1 (pc := 96) hc dX4_init_96 ?_
  refine Jc_iconst (pc := 97) hc dX4_init_97 (v := 1) (by decide) ?_
  refine Jc_iast (pc := 98) (j := 3) hc 1 rfl (by unfold vp_in; decide) (by decide) dX4_init_98 ?_
  refine Jc_w [(h0, .inr (4, [.ref q1, .ref q2, .ref q3, .ref q4, .int 0, .ref q5, .int 0, .ref q6, .ref q7, .ref q8, .int 0, .ref q9, .ref q10])), (q1, .inl (zI gg, 6, .inl (upd (upd (upd (upd (fun _ => 0) 0 1) 1 1) 2 1) 3 1))), (q2, .inl (zI gg, 96, .inl (fun _ => 0))), (q3, .inl (zI gg, 96, .inl (fun _ => 0))), (q4, .inl (zI gg, 96, .inl (fun _ => 0))), (q5, .inl (zI gg, 17, .inl (fun _ => 0))), (q6, .inl (zJ gg, 16, .inr (.inl (fun _ => 0)))), (q7, .inl (zJ gg, 16, .inr (.inl (fun _ => 0)))), (q8, .inl (zJ gg, 16, .inr (.inl (fun _ => 0)))), (q9, .inl (zI gg, 40, .inl (fun _ => 0))), (q10, .inl (zI gg, 17, .inl (fun _ => 0)))] rfl ?_
  refine Jc_n 10 416 rfl rfl ?_
  refine Jc_iinc1 (pc := 99) (w := 4) hc dX4_init_99 (by decide) rfl ?_
  refine Jc_goto (pc := 102) hc 86 dX4_init_102 (by decide) ?_
  refine Jc_iload1 (pc := 86) hc dX4_init_86 ?_
  refine Jc_bipush (pc := 87) hc dX4_init_87 (v := 6) (by decide) ?_
  refine Jc_ge (pc := 89) hc 105 dX4_init_89 (by decide) (fun h => absurd h (by decide)) (fun _ => ?_)
  refine Jc_aload0 (pc := 92) hc dX4_init_92 ?_
  refine Jc_get (pc := 93) (v := .ref q1) hc 0 rfl rfl zinX4 0 (by decide) (by decide +kernel) rfl rfl dX4_init_93 ?_
  refine Jc_iload1 (pc := 96) hc dX4_init_96 ?_
  refine Jc_iconst (pc := 97) hc dX4_init_97 (v := 1) (by decide) ?_
  refine Jc_iast (pc := 98) (j := 4) hc 1 rfl (by unfold vp_in; decide) (by decide) dX4_init_98 ?_
  refine Jc_w [(h0, .inr (4, [.ref q1, .ref q2, .ref q3, .ref q4, .int 0, .ref q5, .int 0, .ref q6, .ref q7, .ref q8, .int 0, .ref q9, .ref q10])), (q1, .inl (zI gg, 6, .inl (upd (upd (upd (upd (upd (fun _ => 0) 0 1) 1 1) 2 1) 3 1) 4 1))), (q2, .inl (zI gg, 96, .inl (fun _ => 0))), (q3, .inl (zI gg, 96, .inl (fun _ => 0))), (q4, .inl (zI gg, 96, .inl (fun _ => 0))), (q5, .inl (zI gg, 17, .inl (fun _ => 0))), (q6, .inl (zJ gg, 16, .inr (.inl (fun _ => 0)))), (q7, .inl (zJ gg, 16, .inr (.inl (fun _ => 0)))), (q8, .inl (zJ gg, 16, .inr (.inl (fun _ => 0)))), (q9, .inl (zI gg, 40, .inl (fun _ => 0))), (q10, .inl (zI gg, 17, .inl (fun _ => 0)))] rfl ?_
  refine Jc_n 10 416 rfl rfl ?_
  refine Jc_iinc1 (pc := 99) (w := 5) hc dX4_init_99 (by decide) rfl ?_
  refine Jc_goto (pc := 102) hc 86 dX4_init_102 (by decide) ?_
  refine Jc_iload1 (pc := 86) hc dX4_init_86 ?_
  refine Jc_bipush (pc := 87) hc dX4_init_87 (v := 6) (by decide) ?_
  refine Jc_ge (pc := 89) hc 105 dX4_init_89 (by decide) (fun h => absurd h (by decide)) (fun _ => ?_)
  refine Jc_aload0 (pc := 92) hc dX4_init_92 ?_
  refine Jc_get (pc := 93) (v := .ref q1) hc 0 rfl rfl zinX4 0 (by decide) (by decide +kernel) rfl rfl dX4_init_93 ?_
  refine Jc_iload1 (pc := 96) hc dX4_init_96 ?_
  refine Jc_iconst (pc := 97) hc dX4_init_97 (v := 1) (by decide) ?_
  refine Jc_iast (pc := 98) (j := 5) hc 1 rfl (by unfold vp_in; decide) (by decide) dX4_init_98 ?_
  refine Jc_w [(h0, .inr (4, [.ref q1, .ref q2, .ref q3, .ref q4, .int 0, .ref q5, .int 0, .ref q6, .ref q7, .ref q8, .int 0, .ref q9, .ref q10])), (q1, .inl (zI gg, 6, .inl (upd (upd (upd (upd (upd (upd (fun _ => 0) 0 1) 1 1) 2 1) 3 1) 4 1) 5 1))), (q2, .inl (zI gg, 96, .inl (fun _ => 0))), (q3, .inl (zI gg, 96, .inl (fun _ => 0))), (q4, .inl (zI gg, 96, .inl (fun _ => 0))), (q5, .inl (zI gg, 17, .inl (fun _ => 0))), (q6, .inl (zJ gg, 16, .inr (.inl (fun _ => 0)))), (q7, .inl (zJ gg, 16, .inr (.inl (fun _ => 0)))), (q8, .inl (zJ gg, 16, .inr (.inl (fun _ => 0)))), (q9, .inl (zI gg, 40, .inl (fun _ => 0))), (q10, .inl (zI gg, 17, .inl (fun _ => 0)))] rfl ?_
  refine Jc_n 10 416 rfl rfl ?_
  refine Jc_iinc1 (pc := 99) (w := 6) hc dX4_init_99 (by decide) rfl ?_
  refine Jc_goto (pc := 102) hc 86 dX4_init_102 (by decide) ?_
  refine Jc_iload1 (pc := 86) hc dX4_init_86 ?_
  refine Jc_bipush (pc := 87) hc dX4_init_87 (v := 6) (by decide) ?_
  refine Jc_ge (pc := 89) hc 105 dX4_init_89 (by decide) (fun _ => ?_) (fun h => absurd (by decide) h)
  exact Jc_ret (pc := 105) hc hr dX4_init_105 (fun j => [q1, q2, q3, q4, q5, q6, q7, q8, q9, q10].getD j 0) rfl
