def zt1 (σ : zS) (k i : Nat) : zS := zc3 σ 0 (fun d => sa σ 24 (16 * k + (i + d))) (fun d => sa σ 25 (16 * k + (i + d))) (fun d => sa σ 26 (16 * k + (i + d)))
theorem zt1_b {σ : zS} {k i n : Nat} (h : ∀ e, e < n → zcf (sa σ 24 (16 * k + e)) ∧ zcf (sa σ 25 (16 * k + e)) ∧ zcf (sa σ 26 (16 * k + e))) {d : Nat} (hd : i + d < n) : zbdP (zt1 σ k i) 0 d := h (i + d) hd
theorem zwn_e (σ : zS) (k i V R : Nat) : zwn σ k i V R = zvn (zt1 σ k i) 0 0 V R := by
  show (sa σ 24 (16 * k + i)).toInt64 * (nI V).toInt64 * (nI V).toInt64 + (sa σ 25 (16 * k + i)).toInt64 * (nI R).toInt64 * (nI V).toInt64 + (sa σ 26 (16 * k + i)).toInt64 * (nI R).toInt64 * (nI R).toInt64 = ((sa σ 24 (16 * k + i)).toInt64 * (nI V).toInt64 + (sa σ 25 (16 * k + i)).toInt64 * (nI R).toInt64) * (nI V).toInt64 + (sa σ 26 (16 * k + i)).toInt64 * (nI R).toInt64 * (nI R).toInt64
  grind
theorem zas_e (σ : zS) (k i : Nat) : ∀ d, zas σ k i d = zar (zt1 σ k i) 0 0 d
  | 0 => rfl
  | d + 1 => by
    rw [zas, zar, zas_e σ k i d, Nat.zero_add]
    rfl
def zen (t x y z : Int64) : Int64 :=
  if z < 0 ∧ 0 < y ∧ y < -2 * z then
    (if (if (if t < x then x else t) < x + y + z then x + y + z else (if t < x then x else t)) < x + (y * y + -4 * z - 1) / (-4 * z) then x + (y * y + -4 * z - 1) / (-4 * z) else (if (if t < x then x else t) < x + y + z then x + y + z else (if t < x then x else t)))
  else (if (if t < x then x else t) < x + y + z then x + y + z else (if t < x then x else t))
def zeb (S : zS) (g : Int64) : Nat → Int64
  | 0 => g * sm S 0 0
  | i + 1 => zen (zeb S g i) (g * sm S 0 i) (g * sm S 1 i) (g * sm S 2 i)
theorem z4n {c : Int64} (h : -1000000 ≤ c.toInt) (h2 : ¬ 0 ≤ c) : ¬ -4 * c = 0 := by
  rw [zl_le, z0L] at h2
  rw [zl_eq, Int64.toInt_mul, show (-4 : Int64).toInt = -4 by decide, Int.bmod_eq_of_le (by omega) (by omega), z0L]
  omega
theorem znle64 {x y : Int64} (h : ¬ y ≤ x) : x < y := by rw [zl_le] at h; rw [zl_lt]; omega
theorem znlt64 {x y : Int64} (h : y ≤ x) : ¬ x < y := by rw [zl_le] at h; rw [zl_lt]; omega
theorem zg_b {g : Int64} {c : Int32} (hg : g = 1 ∨ g = -1) (h : zcf c) : -1000000 ≤ (g * c.toInt64).toInt := by
  have h1 : zbd g.toInt 1 := by rcases hg with rfl | rfl <;> (unfold zbd; decide)
  have h2 : zbd c.toInt64.toInt 100000 := by rw [Int32.toInt_toInt64]; exact h.b
  rw [zLm h1 h2 (by decide)]
  have := (h1.mul h2).lo
  omega
set_option maxRecDepth 100000 in
set_option maxHeartbeats 4000000 in
theorem c_X4_value {l : Launch} {gg : zG} {σ : zS} {x y v w : Int32} {N : Nat → Nat} (hz : zRv σ N) : zMl l gg yX4_value cX4_value 9 2 55 [.ref (zM gg), .int x, .int y, .int v, .int w] σ (fun r u => u = σ ∧ ((¬ (∃ k V U, zvOK N x y v w k V U) ∧ r = -9223372036854775808) ∨ (∃ k V U, zvOK N x y v w k V U ∧ r = (if w = 0 then zwn σ k (min (U / V) (N k - 1)) V (U - (min (U / V) (N k - 1)) * V) else lN (V * V)) / lN (Nat.gcd (zwn σ k (min (U / V) (N k - 1)) V (U - (min (U / V) (N k - 1)) * V)).toInt.natAbs (V * V))))) := by
  refine zM_l (own := RX4) (lv := [some (.ref (zM gg)), some (.int x), some (.int y), some (.int v), some (.int w), none, none, none, none]) (by decide +kernel) rfl (Nat.le_of_ble_eq_true rfl) rfl (fun cx hc hR hI => ?_)
  refine J_iloadn_1 (pc := 0) hc dX4_value_0 ?_
  refine kX4_51 (pc := 1) hc hR dX4_value_1 (c_X4_isPlace) (by decide) (Nat.le_of_ble_eq_true rfl) rfl (fun r u hu => ?_)
  have hr := hu.1
  refine J_eq hu.2 ?_
  refine J_if_eq (pc := 4) hc 48 dX4_value_4 (by decide) (fun bq4 => ?_) (fun bq4 => ?_)
  · skip
    have hn1 := hr.f bq4
    refine nX4_74 (pc := 48) hc dX4_value_48 ?_
    exact J_lret (pc := 51) hc hI dX4_value_51 ⟨rfl, Or.inl ⟨fun ⟨k2, V2, U2, h⟩ => by obtain ⟨g1, g2, g3, g4, g5, g6, g7, g8⟩ := h; first | exact hn1 (by rw [g2]; exact zpl_k g1) | (rw [g5, nI_toInt (by omega)] at hn2; omega) | (have e1 : k = k2 := (nI_eq (by omega) (by omega)).mp (hxk.symm.trans g2); subst e1; have e2 : V = V2 := (nI_eq (by omega) (by omega)).mp g5; subst e2; first | omega | (rw [g7, nI_toInt (by omega)] at hn3; omega)), rfl⟩⟩
  · skip
    obtain ⟨k, hk, hxk⟩ := zpl_nI (hr.t bq4)
    have hzk := hz k hk
    refine J_iloadn_3 (pc := 7) hc dX4_value_7 ?_
    refine J_i2l (pc := 8) hc dX4_value_8 ?_
    refine J_lconst (pc := 9) hc dX4_value_9 (v := 1) (by decide) ?_
    refine nX4_72 (pc := 10) hc dX4_value_10 ?_
    refine kX4_43 (pc := 13) hc hR dX4_value_13 (c_X4_in) (by decide) (Nat.le_of_ble_eq_true rfl) rfl (fun r u hu => ?_)
    have hr := hu.1
    refine J_eq hu.2 ?_
    refine J_if_eq (pc := 16) hc 48 dX4_value_16 (by decide) (fun bq16 => ?_) (fun bq16 => ?_)
    · skip
      have hn2 := (zin1 hr (show (1 : Int64).toInt = 1 from rfl) (show (64 : Int64).toInt = 64 from rfl)).f bq16
      refine nX4_74 (pc := 48) hc dX4_value_48 ?_
      exact J_lret (pc := 51) hc hI dX4_value_51 ⟨rfl, Or.inl ⟨fun ⟨k2, V2, U2, h⟩ => by obtain ⟨g1, g2, g3, g4, g5, g6, g7, g8⟩ := h; first | exact hn1 (by rw [g2]; exact zpl_k g1) | (rw [g5, nI_toInt (by omega)] at hn2; omega) | (have e1 : k = k2 := (nI_eq (by omega) (by omega)).mp (hxk.symm.trans g2); subst e1; have e2 : V = V2 := (nI_eq (by omega) (by omega)).mp g5; subst e2; first | omega | (rw [g7, nI_toInt (by omega)] at hn3; omega)), rfl⟩⟩
    · skip
      obtain ⟨V, hV1, hV2, hvV⟩ := zvI (x := v) (n := 64) ((zin1 hr rfl (show (64 : Int64).toInt = 64 from rfl)).t bq16) (by omega)
      subst hvV
      have hNV : N k * V ≤ 1024 := Nat.mul_le_mul (show N k ≤ 16 by omega) hV2
      refine J_iloadn_2 (pc := 19) hc dX4_value_19 ?_
      refine J_i2l (pc := 20) hc dX4_value_20 ?_
      refine J_lconst (pc := 21) hc dX4_value_21 (v := 0) (by decide) ?_
      refine J_aloadn_0 (pc := 22) hc dX4_value_22 ?_
      refine gX4_7 (pc := 23) hc dX4_value_23 ?_
      refine J_iloadn_1 (pc := 26) hc dX4_value_26 ?_
      refine J_iald (pc := 27) hc 6 (by omega) rfl dX4_value_27 hxk (by omega) ?_
      refine J_iloadn_3 (pc := 28) hc dX4_value_28 ?_
      refine J_imul (pc := 29) hc dX4_value_29 ?_
      refine J_topi (y := nI (N k * V)) (by rw [hzk.2.2.1, pk_mul]) ?_
      refine J_i2l (pc := 30) hc dX4_value_30 ?_
      refine kX4_43 (pc := 31) hc hR dX4_value_31 (c_X4_in) (by decide) (Nat.le_of_ble_eq_true rfl) rfl (fun r u hu => ?_)
      have hr := hu.1
      refine J_eq hu.2 ?_
      refine J_if_eq (pc := 34) hc 48 dX4_value_34 (by decide) (fun bq34 => ?_) (fun bq34 => ?_)
      · skip
        have hn3 := (zin1 hr (show (0 : Int64).toInt = 0 from rfl) (zN64 (m := N k * V) (by omega))).f bq34
        refine nX4_74 (pc := 48) hc dX4_value_48 ?_
        exact J_lret (pc := 51) hc hI dX4_value_51 ⟨rfl, Or.inl ⟨fun ⟨k2, V2, U2, h⟩ => by obtain ⟨g1, g2, g3, g4, g5, g6, g7, g8⟩ := h; first | exact hn1 (by rw [g2]; exact zpl_k g1) | (rw [g5, nI_toInt (by omega)] at hn2; omega) | (have e1 : k = k2 := (nI_eq (by omega) (by omega)).mp (hxk.symm.trans g2); subst e1; have e2 : V = V2 := (nI_eq (by omega) (by omega)).mp g5; subst e2; first | omega | (rw [g7, nI_toInt (by omega)] at hn3; omega)), rfl⟩⟩
      · skip
        have hyr := (zin1 hr (show (0 : Int64).toInt = 0 from rfl) (zN64 (m := N k * V) (by omega))).t bq34
        obtain ⟨U, hU, hyU⟩ := zof_nat (x := y) (n := N k * V + 1) hyr.1 (by omega) (by omega)
        subst hyU
        refine J_iload_4 (pc := 37) hc dX4_value_37 ?_
        refine J_i2l (pc := 39) hc dX4_value_39 ?_
        refine J_lconst (pc := 40) hc dX4_value_40 (v := 0) (by decide) ?_
        refine J_lconst (pc := 41) hc dX4_value_41 (v := 1) (by decide) ?_
        refine kX4_43 (pc := 42) hc hR dX4_value_42 (c_X4_in) (by decide) (Nat.le_of_ble_eq_true rfl) rfl (fun r u hu => ?_)
        have hr := hu.1
        refine J_eq hu.2 ?_
        refine J_if_ne (pc := 45) hc 52 dX4_value_45 (by decide) (fun bq45 => ?_) (fun bq45 => ?_)
        · skip
          have hw := (zin1 hr (show (0 : Int64).toInt = 0 from rfl) (show (1 : Int64).toInt = 1 from rfl)).t bq45
          have hix := zix (U := U) (V := V) (n := N k) (by omega) (by omega) (by omega)
          obtain ⟨I, hIe⟩ : ∃ I, I = (min (U / V) (N k - 1)) := ⟨_, rfl⟩
          rw [← hIe] at hix
          have hI1 := hix.1
          have hVV : V * V ≤ 4096 := Nat.mul_le_mul hV2 hV2
          have hVV0 : 0 < V * V := Nat.mul_pos (by omega) (by omega)
          have hUV : U / V ≤ 1024 := (by have := Nat.div_le_self U V; omega)
          refine J_iloadn_2 (pc := 52) hc dX4_value_52 ?_
          refine J_iloadn_3 (pc := 53) hc dX4_value_53 ?_
          refine J_idiv (pc := 54) hc dX4_value_54 (nI_ne0 (by omega) (by omega)) ?_
          refine J_topi (pk_div (by omega) (by omega) (by omega)) ?_
          refine J_aloadn_0 (pc := 55) hc dX4_value_55 ?_
          refine gX4_7 (pc := 56) hc dX4_value_56 ?_
          refine J_iloadn_1 (pc := 59) hc dX4_value_59 ?_
          refine J_iald (pc := 60) hc 6 (by omega) rfl dX4_value_60 hxk (by omega) ?_
          refine J_icmp_ge (pc := 61) hc 70 dX4_value_61 (by decide) (fun bq61 => ?_) (fun bq61 => ?_)
          · skip
            have bq61 := (zge rfl hzk.2.2.1 (by omega) (by omega)).mp bq61
            refine J_aloadn_0 (pc := 70) hc dX4_value_70 ?_
            refine gX4_7 (pc := 71) hc dX4_value_71 ?_
            refine J_iloadn_1 (pc := 74) hc dX4_value_74 ?_
            refine J_iald (pc := 75) hc 6 (by omega) rfl dX4_value_75 hxk (by omega) ?_
            refine J_iconst (pc := 76) hc dX4_value_76 (v := 1) (by decide) ?_
            refine J_isub (pc := 77) hc dX4_value_77 ?_
            refine J_topi (y := nI I) (by first | (rw [hzk.2.2.1, zm1 (by omega), hIe, Nat.min_eq_right (by omega)]) | (rw [pk_div (by omega) (by omega) (by omega), hIe, Nat.min_eq_left (by omega)])) ?_
            refine J_istore_5 (pc := 78) hc dX4_value_78 rfl ?_
            refine J_iloadn_2 (pc := 80) hc dX4_value_80 ?_
            refine J_iload_5 (pc := 81) hc dX4_value_81 ?_
            refine J_iloadn_3 (pc := 83) hc dX4_value_83 ?_
            refine J_imul (pc := 84) hc dX4_value_84 ?_
            refine J_isub (pc := 85) hc dX4_value_85 ?_
            refine J_topi (y := nI (U - I * V)) (by rw [pk_mul, pk_sub hix.2.1]) ?_
            refine J_i2l (pc := 86) hc dX4_value_86 ?_
            refine J_lstore_6 (pc := 87) hc dX4_value_87 rfl ?_
            refine J_bipush (pc := 89) hc dX4_value_89 (v := 16) (by decide) ?_
            refine J_iloadn_1 (pc := 91) hc dX4_value_91 ?_
            refine J_imul (pc := 92) hc dX4_value_92 ?_
            refine J_iload_5 (pc := 93) hc dX4_value_93 ?_
            refine J_iadd (pc := 95) hc dX4_value_95 ?_
            refine J_topi (y := nI (16 * k + I)) (by rw [hxk]; exact z16 k I) ?_
            refine J_istore_8 (pc := 96) hc dX4_value_96 rfl ?_
            refine J_aloadn_0 (pc := 98) hc dX4_value_98 ?_
            refine gX4_13 (pc := 99) hc dX4_value_99 ?_
            refine J_iload_8 (pc := 102) hc dX4_value_102 ?_
            refine J_iald (pc := 104) hc 96 (by omega) rfl dX4_value_104 (by first | with_reducible exact rfl | with_reducible exact nI_1 _ | with_reducible exact z16 _ _ | with_reducible exact zm1 (by omega) | assumption | exact rfl) (by omega) ?_
            refine J_i2l (pc := 105) hc dX4_value_105 ?_
            refine J_iloadn_3 (pc := 106) hc dX4_value_106 ?_
            refine J_i2l (pc := 107) hc dX4_value_107 ?_
            refine J_lmul (pc := 108) hc dX4_value_108 ?_
            refine J_iloadn_3 (pc := 109) hc dX4_value_109 ?_
            refine J_i2l (pc := 110) hc dX4_value_110 ?_
            refine J_lmul (pc := 111) hc dX4_value_111 ?_
            refine J_aloadn_0 (pc := 112) hc dX4_value_112 ?_
            refine gX4_16 (pc := 113) hc dX4_value_113 ?_
            refine J_iload_8 (pc := 116) hc dX4_value_116 ?_
            refine J_iald (pc := 118) hc 96 (by omega) rfl dX4_value_118 (by first | with_reducible exact rfl | with_reducible exact nI_1 _ | with_reducible exact z16 _ _ | with_reducible exact zm1 (by omega) | assumption | exact rfl) (by omega) ?_
            refine J_i2l (pc := 119) hc dX4_value_119 ?_
            refine J_lload_6 (pc := 120) hc dX4_value_120 ?_
            refine J_lmul (pc := 122) hc dX4_value_122 ?_
            refine J_iloadn_3 (pc := 123) hc dX4_value_123 ?_
            refine J_i2l (pc := 124) hc dX4_value_124 ?_
            refine J_lmul (pc := 125) hc dX4_value_125 ?_
            refine J_ladd (pc := 126) hc dX4_value_126 ?_
            refine J_aloadn_0 (pc := 127) hc dX4_value_127 ?_
            refine gX4_19 (pc := 128) hc dX4_value_128 ?_
            refine J_iload_8 (pc := 131) hc dX4_value_131 ?_
            refine J_iald (pc := 133) hc 96 (by omega) rfl dX4_value_133 (by first | with_reducible exact rfl | with_reducible exact nI_1 _ | with_reducible exact z16 _ _ | with_reducible exact zm1 (by omega) | assumption | exact rfl) (by omega) ?_
            refine J_i2l (pc := 134) hc dX4_value_134 ?_
            refine J_lload_6 (pc := 135) hc dX4_value_135 ?_
            refine J_lmul (pc := 137) hc dX4_value_137 ?_
            refine J_lload_6 (pc := 138) hc dX4_value_138 ?_
            refine J_lmul (pc := 140) hc dX4_value_140 ?_
            refine J_ladd (pc := 141) hc dX4_value_141 ?_
            refine J_topl (y := zwn σ k I V (U - I * V)) rfl ?_
            refine J_iloadn_3 (pc := 142) hc dX4_value_142 ?_
            refine J_i2l (pc := 143) hc dX4_value_143 ?_
            refine J_iloadn_3 (pc := 144) hc dX4_value_144 ?_
            refine J_i2l (pc := 145) hc dX4_value_145 ?_
            refine J_lmul (pc := 146) hc dX4_value_146 ?_
            refine J_topl (y := lN (V * V)) (by rw [nI_l (by omega), lN_mul]) ?_
            refine J_iload_4 (pc := 147) hc dX4_value_147 ?_
            refine kX4_76 (pc := 149) hc hR dX4_value_149 (c_X4_told (by rw [zwn_e]; exact (zvn_t (zt1_b hzk.2.2.2 (d := 0) (by omega)) hV2 (by omega)).2.le (by decide)) hVV0 (by omega)) (by decide) (Nat.le_of_ble_eq_true rfl) rfl (fun r u hu => ?_)
            refine J_eq hu.2 (J_topl hu.1 ?_)
            exact J_lret (pc := 152) hc hI dX4_value_152 ⟨rfl, Or.inr ⟨k, V, U, ⟨hk, hxk, hV1, hV2, rfl, by omega, rfl, by omega⟩, by rw [← hIe]⟩⟩
          · skip
            have bq61 := mt (zge rfl hzk.2.2.1 (by omega) (by omega)).mpr bq61
            refine J_iloadn_2 (pc := 64) hc dX4_value_64 ?_
            refine J_iloadn_3 (pc := 65) hc dX4_value_65 ?_
            refine J_idiv (pc := 66) hc dX4_value_66 (nI_ne0 (by omega) (by omega)) ?_
            refine J_goto (pc := 67) hc 78 dX4_value_67 (by decide) ?_
            refine J_topi (y := nI I) (by first | (rw [hzk.2.2.1, zm1 (by omega), hIe, Nat.min_eq_right (by omega)]) | (rw [pk_div (by omega) (by omega) (by omega), hIe, Nat.min_eq_left (by omega)])) ?_
            refine J_istore_5 (pc := 78) hc dX4_value_78 rfl ?_
            refine J_iloadn_2 (pc := 80) hc dX4_value_80 ?_
            refine J_iload_5 (pc := 81) hc dX4_value_81 ?_
            refine J_iloadn_3 (pc := 83) hc dX4_value_83 ?_
            refine J_imul (pc := 84) hc dX4_value_84 ?_
            refine J_isub (pc := 85) hc dX4_value_85 ?_
            refine J_topi (y := nI (U - I * V)) (by rw [pk_mul, pk_sub hix.2.1]) ?_
            refine J_i2l (pc := 86) hc dX4_value_86 ?_
            refine J_lstore_6 (pc := 87) hc dX4_value_87 rfl ?_
            refine J_bipush (pc := 89) hc dX4_value_89 (v := 16) (by decide) ?_
            refine J_iloadn_1 (pc := 91) hc dX4_value_91 ?_
            refine J_imul (pc := 92) hc dX4_value_92 ?_
            refine J_iload_5 (pc := 93) hc dX4_value_93 ?_
            refine J_iadd (pc := 95) hc dX4_value_95 ?_
            refine J_topi (y := nI (16 * k + I)) (by rw [hxk]; exact z16 k I) ?_
            refine J_istore_8 (pc := 96) hc dX4_value_96 rfl ?_
            refine J_aloadn_0 (pc := 98) hc dX4_value_98 ?_
            refine gX4_13 (pc := 99) hc dX4_value_99 ?_
            refine J_iload_8 (pc := 102) hc dX4_value_102 ?_
            refine J_iald (pc := 104) hc 96 (by omega) rfl dX4_value_104 (by first | with_reducible exact rfl | with_reducible exact nI_1 _ | with_reducible exact z16 _ _ | with_reducible exact zm1 (by omega) | assumption | exact rfl) (by omega) ?_
            refine J_i2l (pc := 105) hc dX4_value_105 ?_
            refine J_iloadn_3 (pc := 106) hc dX4_value_106 ?_
            refine J_i2l (pc := 107) hc dX4_value_107 ?_
            refine J_lmul (pc := 108) hc dX4_value_108 ?_
            refine J_iloadn_3 (pc := 109) hc dX4_value_109 ?_
            refine J_i2l (pc := 110) hc dX4_value_110 ?_
            refine J_lmul (pc := 111) hc dX4_value_111 ?_
            refine J_aloadn_0 (pc := 112) hc dX4_value_112 ?_
            refine gX4_16 (pc := 113) hc dX4_value_113 ?_
            refine J_iload_8 (pc := 116) hc dX4_value_116 ?_
            refine J_iald (pc := 118) hc 96 (by omega) rfl dX4_value_118 (by first | with_reducible exact rfl | with_reducible exact nI_1 _ | with_reducible exact z16 _ _ | with_reducible exact zm1 (by omega) | assumption | exact rfl) (by omega) ?_
            refine J_i2l (pc := 119) hc dX4_value_119 ?_
            refine J_lload_6 (pc := 120) hc dX4_value_120 ?_
            refine J_lmul (pc := 122) hc dX4_value_122 ?_
            refine J_iloadn_3 (pc := 123) hc dX4_value_123 ?_
            refine J_i2l (pc := 124) hc dX4_value_124 ?_
            refine J_lmul (pc := 125) hc dX4_value_125 ?_
            refine J_ladd (pc := 126) hc dX4_value_126 ?_
            refine J_aloadn_0 (pc := 127) hc dX4_value_127 ?_
            refine gX4_19 (pc := 128) hc dX4_value_128 ?_
            refine J_iload_8 (pc := 131) hc dX4_value_131 ?_
            refine J_iald (pc := 133) hc 96 (by omega) rfl dX4_value_133 (by first | with_reducible exact rfl | with_reducible exact nI_1 _ | with_reducible exact z16 _ _ | with_reducible exact zm1 (by omega) | assumption | exact rfl) (by omega) ?_
            refine J_i2l (pc := 134) hc dX4_value_134 ?_
            refine J_lload_6 (pc := 135) hc dX4_value_135 ?_
            refine J_lmul (pc := 137) hc dX4_value_137 ?_
            refine J_lload_6 (pc := 138) hc dX4_value_138 ?_
            refine J_lmul (pc := 140) hc dX4_value_140 ?_
            refine J_ladd (pc := 141) hc dX4_value_141 ?_
            refine J_topl (y := zwn σ k I V (U - I * V)) rfl ?_
            refine J_iloadn_3 (pc := 142) hc dX4_value_142 ?_
            refine J_i2l (pc := 143) hc dX4_value_143 ?_
            refine J_iloadn_3 (pc := 144) hc dX4_value_144 ?_
            refine J_i2l (pc := 145) hc dX4_value_145 ?_
            refine J_lmul (pc := 146) hc dX4_value_146 ?_
            refine J_topl (y := lN (V * V)) (by rw [nI_l (by omega), lN_mul]) ?_
            refine J_iload_4 (pc := 147) hc dX4_value_147 ?_
            refine kX4_76 (pc := 149) hc hR dX4_value_149 (c_X4_told (by rw [zwn_e]; exact (zvn_t (zt1_b hzk.2.2.2 (d := 0) (by omega)) hV2 (by omega)).2.le (by decide)) hVV0 (by omega)) (by decide) (Nat.le_of_ble_eq_true rfl) rfl (fun r u hu => ?_)
            refine J_eq hu.2 (J_topl hu.1 ?_)
            exact J_lret (pc := 152) hc hI dX4_value_152 ⟨rfl, Or.inr ⟨k, V, U, ⟨hk, hxk, hV1, hV2, rfl, by omega, rfl, by omega⟩, by rw [← hIe]⟩⟩
        · skip
          have hn4 := (zin1 hr (show (0 : Int64).toInt = 0 from rfl) (show (1 : Int64).toInt = 1 from rfl)).f bq45
          refine nX4_74 (pc := 48) hc dX4_value_48 ?_
          exact J_lret (pc := 51) hc hI dX4_value_51 ⟨rfl, Or.inl ⟨fun ⟨k2, V2, U2, h⟩ => by obtain ⟨g1, g2, g3, g4, g5, g6, g7, g8⟩ := h; first | exact hn1 (by rw [g2]; exact zpl_k g1) | (rw [g5, nI_toInt (by omega)] at hn2; omega) | (have e1 : k = k2 := (nI_eq (by omega) (by omega)).mp (hxk.symm.trans g2); subst e1; have e2 : V = V2 := (nI_eq (by omega) (by omega)).mp g5; subst e2; first | omega | (rw [g7, nI_toInt (by omega)] at hn3; omega)), rfl⟩⟩
set_option maxRecDepth 100000 in
set_option maxHeartbeats 4000000 in
theorem c_X4_area {l : Launch} {gg : zG} {σ : zS} {x y z w : Int32} {N : Nat → Nat} (hz : zRv σ N) : zMl l gg yX4_area cX4_area 8 2 55 [.ref (zM gg), .int x, .int y, .int z, .int w] σ (fun r u => u = σ ∧ ((¬ (∃ kq eq fq, zaOK N x y z w kq eq fq) ∧ r = -9223372036854775808) ∨ (∃ kq eq fq, zaOK N x y z w kq eq fq ∧ r = (if w = 0 then zas σ kq eq (fq - eq) else lN 6) / lN (Nat.gcd (zas σ kq eq (fq - eq)).toInt.natAbs 6)))) := by
  refine zM_l (own := RX4) (lv := [some (.ref (zM gg)), some (.int x), some (.int y), some (.int z), some (.int w), none, none, none]) (by decide +kernel) rfl (Nat.le_of_ble_eq_true rfl) rfl (fun cx hc hR hI => ?_)
  refine J_iloadn_1 (pc := 0) hc dX4_area_0 ?_
  refine kX4_51 (pc := 1) hc hR dX4_area_1 (c_X4_isPlace) (by decide) (Nat.le_of_ble_eq_true rfl) rfl (fun r u hu => ?_)
  have hr := hu.1
  refine J_eq hu.2 ?_
  refine J_if_eq (pc := 4) hc 51 dX4_area_4 (by decide) (fun bq4 => ?_) (fun bq4 => ?_)
  · skip
    have hn1 := hr.f bq4
    refine nX4_74 (pc := 51) hc dX4_area_51 ?_
    exact J_lret (pc := 54) hc hI dX4_area_54 ⟨rfl, Or.inl ⟨fun ⟨k2, i2, j2, h⟩ => by obtain ⟨g1, g2, g3, g4, g5, g6, g7⟩ := h; first | exact hn1 (by rw [g2]; exact zpl_k g1) | (have e1 : k = k2 := (nI_eq (by omega) (by omega)).mp (hxk.symm.trans g2); subst e1; first | omega | (rw [g3, nI_toInt (by omega)] at hn2; omega) | (rw [g3, g4, nI_toInt (by omega), nI_toInt (by omega)] at hn3; omega)), rfl⟩⟩
  · skip
    obtain ⟨k, hk, hxk⟩ := zpl_nI (hr.t bq4)
    have hzk := hz k hk
    refine J_iloadn_2 (pc := 7) hc dX4_area_7 ?_
    refine J_i2l (pc := 8) hc dX4_area_8 ?_
    refine J_lconst (pc := 9) hc dX4_area_9 (v := 0) (by decide) ?_
    refine J_aloadn_0 (pc := 10) hc dX4_area_10 ?_
    refine gX4_7 (pc := 11) hc dX4_area_11 ?_
    refine J_iloadn_1 (pc := 14) hc dX4_area_14 ?_
    refine J_iald (pc := 15) hc 6 (by omega) rfl dX4_area_15 hxk (by omega) ?_
    refine J_topi hzk.2.2.1 ?_
    refine J_i2l (pc := 16) hc dX4_area_16 ?_
    refine kX4_43 (pc := 17) hc hR dX4_area_17 (c_X4_in) (by decide) (Nat.le_of_ble_eq_true rfl) rfl (fun r u hu => ?_)
    have hr := hu.1
    refine J_eq hu.2 ?_
    refine J_if_eq (pc := 20) hc 51 dX4_area_20 (by decide) (fun bq20 => ?_) (fun bq20 => ?_)
    · skip
      have hn2 := (zin1 hr (show (0 : Int64).toInt = 0 from rfl) (zN64 (m := N k) (by omega))).f bq20
      refine nX4_74 (pc := 51) hc dX4_area_51 ?_
      exact J_lret (pc := 54) hc hI dX4_area_54 ⟨rfl, Or.inl ⟨fun ⟨k2, i2, j2, h⟩ => by obtain ⟨g1, g2, g3, g4, g5, g6, g7⟩ := h; first | exact hn1 (by rw [g2]; exact zpl_k g1) | (have e1 : k = k2 := (nI_eq (by omega) (by omega)).mp (hxk.symm.trans g2); subst e1; first | omega | (rw [g3, nI_toInt (by omega)] at hn2; omega) | (rw [g3, g4, nI_toInt (by omega), nI_toInt (by omega)] at hn3; omega)), rfl⟩⟩
    · skip
      have hyr := (zin1 hr (show (0 : Int64).toInt = 0 from rfl) (zN64 (m := N k) (by omega))).t bq20
      refine J_iloadn_3 (pc := 23) hc dX4_area_23 ?_
      refine J_i2l (pc := 24) hc dX4_area_24 ?_
      refine J_iloadn_2 (pc := 25) hc dX4_area_25 ?_
      refine J_i2l (pc := 26) hc dX4_area_26 ?_
      refine J_aloadn_0 (pc := 27) hc dX4_area_27 ?_
      refine gX4_7 (pc := 28) hc dX4_area_28 ?_
      refine J_iloadn_1 (pc := 31) hc dX4_area_31 ?_
      refine J_iald (pc := 32) hc 6 (by omega) rfl dX4_area_32 hxk (by omega) ?_
      refine J_topi hzk.2.2.1 ?_
      refine J_i2l (pc := 33) hc dX4_area_33 ?_
      refine kX4_43 (pc := 34) hc hR dX4_area_34 (c_X4_in) (by decide) (Nat.le_of_ble_eq_true rfl) rfl (fun r u hu => ?_)
      have hr := hu.1
      refine J_eq hu.2 ?_
      refine J_if_eq (pc := 37) hc 51 dX4_area_37 (by decide) (fun bq37 => ?_) (fun bq37 => ?_)
      · skip
        have hn3 := (zin1 hr (Int32.toInt_toInt64 y) (zN64 (m := N k) (by omega))).f bq37
        refine nX4_74 (pc := 51) hc dX4_area_51 ?_
        exact J_lret (pc := 54) hc hI dX4_area_54 ⟨rfl, Or.inl ⟨fun ⟨k2, i2, j2, h⟩ => by obtain ⟨g1, g2, g3, g4, g5, g6, g7⟩ := h; first | exact hn1 (by rw [g2]; exact zpl_k g1) | (have e1 : k = k2 := (nI_eq (by omega) (by omega)).mp (hxk.symm.trans g2); subst e1; first | omega | (rw [g3, nI_toInt (by omega)] at hn2; omega) | (rw [g3, g4, nI_toInt (by omega), nI_toInt (by omega)] at hn3; omega)), rfl⟩⟩
      · skip
        have hzr := (zin1 hr (Int32.toInt_toInt64 y) (zN64 (m := N k) (by omega))).t bq37
        refine J_iload_4 (pc := 40) hc dX4_area_40 ?_
        refine J_i2l (pc := 42) hc dX4_area_42 ?_
        refine J_lconst (pc := 43) hc dX4_area_43 (v := 0) (by decide) ?_
        refine J_lconst (pc := 44) hc dX4_area_44 (v := 1) (by decide) ?_
        refine kX4_43 (pc := 45) hc hR dX4_area_45 (c_X4_in) (by decide) (Nat.le_of_ble_eq_true rfl) rfl (fun r u hu => ?_)
        have hr := hu.1
        refine J_eq hu.2 ?_
        refine J_if_ne (pc := 48) hc 55 dX4_area_48 (by decide) (fun bq48 => ?_) (fun bq48 => ?_)
        · skip
          have hw := (zin1 hr (show (0 : Int64).toInt = 0 from rfl) (show (1 : Int64).toInt = 1 from rfl)).t bq48
          obtain ⟨i, hi, hyi⟩ := zof_nat (x := y) (n := N k + 1) hyr.1 (by omega) (by omega)
          obtain ⟨j, hj, hzj⟩ := zof_nat (x := z) (n := N k + 1) (by omega) (by omega) (by omega)
          subst hyi
          subst hzj
          have hij : i ≤ j := by rw [nI_toInt (by omega), nI_toInt (by omega)] at hzr; omega
          refine J_lconst (pc := 55) hc dX4_area_55 (v := 0) (by decide) ?_
          refine J_lstore_5 (pc := 56) hc dX4_area_56 rfl ?_
          refine J_iloadn_2 (pc := 58) hc dX4_area_58 ?_
          refine J_istore_7 (pc := 59) hc dX4_area_59 rfl ?_
          have hL61 : ∀ (μ : Nat) (d : Nat), (j - i) - d = μ → d ≤ j - i → J cx gg (zQl cx gg (fun r u => u = σ ∧ ((¬ (∃ kq eq fq, zaOK N x (nI i) (nI j) w kq eq fq) ∧ r = -9223372036854775808) ∨ (∃ kq eq fq, zaOK N x (nI i) (nI j) w kq eq fq ∧ r = (if w = 0 then zas σ kq eq (fq - eq) else lN 6) / lN (Nat.gcd (zas σ kq eq (fq - eq)).toInt.natAbs 6))))) σ 61 [some (.ref (zM gg)), some (.int x), some (.int (nI i)), some (.int (nI j)), some (.int w), some (.long (zas σ k i d)), none, some (.int (nI (i + d)))] [] := by
            intro μ
            induction μ using Nat.strongRecOn with
            | ind μ ih61 =>
              intro d hμ hd
              refine J_iload_7 (pc := 61) hc dX4_area_61 ?_
              refine J_iloadn_3 (pc := 63) hc dX4_area_63 ?_
              refine J_icmp_ge (pc := 64) hc 131 dX4_area_64 (by decide) (fun bq64 => ?_) (fun bq64 => ?_)
              · skip
                have bq64 := (zge rfl rfl (by omega) (by omega)).mp bq64
                refine J_lload_5 (pc := 131) hc dX4_area_131 ?_
                refine nX4_123 (pc := 133) hc dX4_area_133 ?_
                refine J_iload_4 (pc := 136) hc dX4_area_136 ?_
                refine kX4_76 (pc := 138) hc hR dX4_area_138 (c_X4_told (D := 6) (by rw [zas_e]; exact (zar_t (by omega) (fun e he => by rw [Nat.zero_add]; exact zt1_b hzk.2.2.2 (by omega))).1.le (by omega)) (by decide) (by decide)) (by decide) (Nat.le_of_ble_eq_true rfl) rfl (fun r u hu => ?_)
                refine J_eq hu.2 (J_topl hu.1 ?_)
                exact J_lret (pc := 141) hc hI dX4_area_141 ⟨rfl, Or.inr ⟨k, i, j, ⟨hk, hxk, rfl, rfl, hij, by omega, by omega⟩, by rw [← show d = j - i by omega]⟩⟩
              · skip
                have bq64 := mt (zge rfl rfl (by omega) (by omega)).mpr bq64
                refine J_lload_5 (pc := 67) hc dX4_area_67 ?_
                refine nX4_123 (pc := 69) hc dX4_area_69 ?_
                refine J_aloadn_0 (pc := 72) hc dX4_area_72 ?_
                refine gX4_13 (pc := 73) hc dX4_area_73 ?_
                refine J_bipush (pc := 76) hc dX4_area_76 (v := 16) (by decide) ?_
                refine J_iloadn_1 (pc := 78) hc dX4_area_78 ?_
                refine J_imul (pc := 79) hc dX4_area_79 ?_
                refine J_iload_7 (pc := 80) hc dX4_area_80 ?_
                refine J_iadd (pc := 82) hc dX4_area_82 ?_
                refine J_iald (pc := 83) hc 96 (by omega) rfl dX4_area_83 (by rw [hxk]; exact z16 k (i + d)) (by omega) ?_
                refine J_i2l (pc := 84) hc dX4_area_84 ?_
                refine J_lmul (pc := 85) hc dX4_area_85 ?_
                refine nX4_125 (pc := 86) hc dX4_area_86 ?_
                refine J_aloadn_0 (pc := 89) hc dX4_area_89 ?_
                refine gX4_16 (pc := 90) hc dX4_area_90 ?_
                refine J_bipush (pc := 93) hc dX4_area_93 (v := 16) (by decide) ?_
                refine J_iloadn_1 (pc := 95) hc dX4_area_95 ?_
                refine J_imul (pc := 96) hc dX4_area_96 ?_
                refine J_iload_7 (pc := 97) hc dX4_area_97 ?_
                refine J_iadd (pc := 99) hc dX4_area_99 ?_
                refine J_iald (pc := 100) hc 96 (by omega) rfl dX4_area_100 (by rw [hxk]; exact z16 k (i + d)) (by omega) ?_
                refine J_i2l (pc := 101) hc dX4_area_101 ?_
                refine J_lmul (pc := 102) hc dX4_area_102 ?_
                refine J_ladd (pc := 103) hc dX4_area_103 ?_
                refine nX4_61 (pc := 104) hc dX4_area_104 ?_
                refine J_aloadn_0 (pc := 107) hc dX4_area_107 ?_
                refine gX4_19 (pc := 108) hc dX4_area_108 ?_
                refine J_bipush (pc := 111) hc dX4_area_111 (v := 16) (by decide) ?_
                refine J_iloadn_1 (pc := 113) hc dX4_area_113 ?_
                refine J_imul (pc := 114) hc dX4_area_114 ?_
                refine J_iload_7 (pc := 115) hc dX4_area_115 ?_
                refine J_iadd (pc := 117) hc dX4_area_117 ?_
                refine J_iald (pc := 118) hc 96 (by omega) rfl dX4_area_118 (by rw [hxk]; exact z16 k (i + d)) (by omega) ?_
                refine J_i2l (pc := 119) hc dX4_area_119 ?_
                refine J_lmul (pc := 120) hc dX4_area_120 ?_
                refine J_ladd (pc := 121) hc dX4_area_121 ?_
                refine J_ladd (pc := 122) hc dX4_area_122 ?_
                refine J_lstore_5 (pc := 123) hc dX4_area_123 rfl ?_
                refine J_iinc_7 (pc := 125) hc dX4_area_125 (by first | exact nI_1 _ | exact rfl) rfl ?_
                refine J_goto (pc := 128) hc 61 dX4_area_128 (by decide) ?_
                exact J_weak (by repeat (first | exact zle_nil | apply zle_s | apply zle_n)) (ih61 _ (by omega) (d + 1) rfl (by omega))
          exact J_weak (by repeat (first | exact zle_nil | apply zle_s | apply zle_n)) (hL61 _ 0 rfl (by omega))
        · skip
          have hn4 := (zin1 hr (show (0 : Int64).toInt = 0 from rfl) (show (1 : Int64).toInt = 1 from rfl)).f bq48
          refine nX4_74 (pc := 51) hc dX4_area_51 ?_
          exact J_lret (pc := 54) hc hI dX4_area_54 ⟨rfl, Or.inl ⟨fun ⟨k2, i2, j2, h⟩ => by obtain ⟨g1, g2, g3, g4, g5, g6, g7⟩ := h; first | exact hn1 (by rw [g2]; exact zpl_k g1) | (have e1 : k = k2 := (nI_eq (by omega) (by omega)).mp (hxk.symm.trans g2); subst e1; first | omega | (rw [g3, nI_toInt (by omega)] at hn2; omega) | (rw [g3, g4, nI_toInt (by omega), nI_toInt (by omega)] at hn3; omega)), rfl⟩⟩
set_option maxRecDepth 100000 in
set_option maxHeartbeats 4000000 in
theorem c_X4_count {l : Launch} {gg : zG} {σ : zS} {x w : Int32} {N : Nat → Nat} (hz : zRv σ N) : zMi l gg yX4_count cX4_count .int 5 2 45 [.ref (zM gg), .int x, .int w] σ (fun r u => (¬ zpl x ∧ r = -2 ∧ u = σ) ∨ (∃ k, k < 6 ∧ x = nI k ∧ ((¬ (0 ≤ w.toInt ∧ w.toInt ≤ 2) ∧ r = -3 ∧ u = σ) ∨ ((0 ≤ w.toInt ∧ w.toInt ≤ 2) ∧ u = (zlk σ k (N k)) ∧ r = (if w = 0 then nI (N k) else nI (zct (fun i => 1 ≤ i ∧ zjm (zlk σ k (N k)) i = (if w = 1 then -1 else 2)) (N k))))))) := by
  refine zM_i (own := RX4) (lv := [some (.ref (zM gg)), some (.int x), some (.int w), none, none]) (by decide +kernel) rfl (Nat.le_of_ble_eq_true rfl) rfl (fun cx hc hR hI => ?_)
  refine J_iloadn_1 (pc := 0) hc dX4_count_0 ?_
  refine kX4_51 (pc := 1) hc hR dX4_count_1 (c_X4_isPlace) (by decide) (Nat.le_of_ble_eq_true rfl) rfl (fun r u hu => ?_)
  have hr := hu.1
  refine J_eq hu.2 ?_
  refine J_if_ne (pc := 4) hc 10 dX4_count_4 (by decide) (fun bq4 => ?_) (fun bq4 => ?_)
  · skip
    obtain ⟨k, hk, hxk⟩ := zpl_nI (hr.t bq4)
    have hzk := hz k hk
    refine J_iloadn_2 (pc := 10) hc dX4_count_10 ?_
    refine J_i2l (pc := 11) hc dX4_count_11 ?_
    refine J_lconst (pc := 12) hc dX4_count_12 (v := 0) (by decide) ?_
    refine nX4_61 (pc := 13) hc dX4_count_13 ?_
    refine kX4_43 (pc := 16) hc hR dX4_count_16 (c_X4_in) (by decide) (Nat.le_of_ble_eq_true rfl) rfl (fun r u hu => ?_)
    have hr := hu.1
    refine J_eq hu.2 ?_
    refine J_if_ne (pc := 19) hc 25 dX4_count_19 (by decide) (fun bq19 => ?_) (fun bq19 => ?_)
    · skip
      have hw := (zin1 hr (show (0 : Int64).toInt = 0 from rfl) (show (2 : Int64).toInt = 2 from rfl)).t bq19
      refine J_aloadn_0 (pc := 25) hc dX4_count_25 ?_
      refine J_iloadn_1 (pc := 26) hc dX4_count_26 ?_
      refine kX4_80 (pc := 27) hc hR dX4_count_27 (c_X4_look hk hxk hzk.2.2.1 hzk.2.1) (by decide) (Nat.le_of_ble_eq_true rfl) rfl (fun u hu => ?_)
      refine J_eq hu ?_
      refine J_iconst (pc := 30) hc dX4_count_30 (v := 0) (by decide) ?_
      refine J_istoren_3 (pc := 31) hc dX4_count_31 rfl ?_
      refine J_iconst (pc := 32) hc dX4_count_32 (v := 1) (by decide) ?_
      refine J_istore_4 (pc := 33) hc dX4_count_33 rfl ?_
      have hL35 : ∀ (μ : Nat) (i : Nat), N k - i = μ → 1 ≤ i → i ≤ N k → J cx gg (zQi cx gg (fun r u => (¬ zpl x ∧ r = -2 ∧ u = σ) ∨ (∃ k, k < 6 ∧ x = nI k ∧ ((¬ (0 ≤ w.toInt ∧ w.toInt ≤ 2) ∧ r = -3 ∧ u = σ) ∨ ((0 ≤ w.toInt ∧ w.toInt ≤ 2) ∧ u = (zlk σ k (N k)) ∧ r = (if w = 0 then nI (N k) else nI (zct (fun i => 1 ≤ i ∧ zjm (zlk σ k (N k)) i = (if w = 1 then -1 else 2)) (N k)))))))) (zlk σ k (N k)) 35 [some (.ref (zM gg)), some (.int x), some (.int w), some (.int (nI (zct (fun i => 1 ≤ i ∧ zjm (zlk σ k (N k)) i = (if w = 1 then -1 else 2)) i))), some (.int (nI i))] [] := by
        intro μ
        induction μ using Nat.strongRecOn with
        | ind μ ih35 =>
          intro i hμ hi1 hi
          refine J_iload_4 (pc := 35) hc dX4_count_35 ?_
          refine J_aloadn_0 (pc := 37) hc dX4_count_37 ?_
          refine gX4_64 (pc := 38) hc dX4_count_38 ?_
          refine J_icmp_ge (pc := 41) hc 77 dX4_count_41 (by decide) (fun bq41 => ?_) (fun bq41 => ?_)
          · skip
            have bq41 := (zge rfl rfl (by omega) (by omega)).mp bq41
            refine J_iloadn_2 (pc := 77) hc dX4_count_77 ?_
            refine J_if_ne (pc := 78) hc 88 dX4_count_78 (by decide) (fun bq78 => ?_) (fun bq78 => ?_)
            · skip
              refine J_iloadn_3 (pc := 88) hc dX4_count_88 ?_
              exact J_iret (pc := 89) hc hI dX4_count_89 (Or.inr ⟨k, hk, hxk, Or.inr ⟨hw, rfl, by first | exact (if_pos bq78).symm | (rw [if_neg bq78, show i = N k by omega])⟩⟩)
            · skip
              refine J_aloadn_0 (pc := 81) hc dX4_count_81 ?_
              refine gX4_64 (pc := 82) hc dX4_count_82 ?_
              refine J_goto (pc := 85) hc 89 dX4_count_85 (by decide) ?_
              exact J_iret (pc := 89) hc hI dX4_count_89 (Or.inr ⟨k, hk, hxk, Or.inr ⟨hw, rfl, by first | exact (if_pos bq78).symm | (rw [if_neg bq78, show i = N k by omega])⟩⟩)
          · skip
            have bq41 := mt (zge rfl rfl (by omega) (by omega)).mpr bq41
            refine J_iloadn_3 (pc := 44) hc dX4_count_44 ?_
            refine J_aloadn_0 (pc := 45) hc dX4_count_45 ?_
            refine J_iload_4 (pc := 46) hc dX4_count_46 ?_
            refine kX4_84 (pc := 48) hc hR dX4_count_48 (c_X4_joinOf rfl (by omega) (by omega)) (by decide) (Nat.le_of_ble_eq_true rfl) rfl (fun r u hu => ?_)
            refine J_eq hu.2 (J_topi hu.1 ?_)
            refine J_iloadn_2 (pc := 51) hc dX4_count_51 ?_
            refine J_iconst (pc := 52) hc dX4_count_52 (v := 1) (by decide) ?_
            refine J_icmp_ne (pc := 53) hc 60 dX4_count_53 (by decide) (fun bq53 => ?_) (fun bq53 => ?_)
            · skip
              refine J_iconst (pc := 60) hc dX4_count_60 (v := 2) (by decide) ?_
              refine J_icmp_ne (pc := 61) hc 68 dX4_count_61 (by decide) (fun bq61 => ?_) (fun bq61 => ?_)
              · skip
                refine J_iconst (pc := 68) hc dX4_count_68 (v := 0) (by decide) ?_
                refine J_iadd (pc := 69) hc dX4_count_69 ?_
                refine J_topi (y := nI (zct (fun i => 1 ≤ i ∧ zjm (zlk σ k (N k)) i = (if w = 1 then -1 else 2)) (i + 1))) (by first | (rw [zct_t (p := (fun i => 1 ≤ i ∧ zjm (zlk σ k (N k)) i = (if w = 1 then -1 else 2))) (n := i) ⟨hi1, by rw [if_pos bq53]; exact bq61⟩, nI_1]) | (rw [zct_t (p := (fun i => 1 ≤ i ∧ zjm (zlk σ k (N k)) i = (if w = 1 then -1 else 2))) (n := i) ⟨hi1, by rw [if_neg bq53]; exact bq61⟩, nI_1]) | (rw [zct_f (p := (fun i => 1 ≤ i ∧ zjm (zlk σ k (N k)) i = (if w = 1 then -1 else 2))) (n := i) (fun h => bq61 (by have h2 := h.2; rw [if_pos bq53] at h2; exact h2))]; exact Int32.add_zero _) | (rw [zct_f (p := (fun i => 1 ≤ i ∧ zjm (zlk σ k (N k)) i = (if w = 1 then -1 else 2))) (n := i) (fun h => bq61 (by have h2 := h.2; rw [if_neg bq53] at h2; exact h2))]; exact Int32.add_zero _)) ?_
                refine J_istoren_3 (pc := 70) hc dX4_count_70 rfl ?_
                refine J_iinc_4 (pc := 71) hc dX4_count_71 (by first | exact nI_1 _ | exact rfl) rfl ?_
                refine J_goto (pc := 74) hc 35 dX4_count_74 (by decide) ?_
                exact J_weak (by repeat (first | exact zle_nil | apply zle_s | apply zle_n)) (ih35 _ (by omega) (i + 1) rfl (by omega) (by omega))
              · skip
                refine J_iconst (pc := 64) hc dX4_count_64 (v := 1) (by decide) ?_
                refine J_goto (pc := 65) hc 69 dX4_count_65 (by decide) ?_
                refine J_iadd (pc := 69) hc dX4_count_69 ?_
                refine J_topi (y := nI (zct (fun i => 1 ≤ i ∧ zjm (zlk σ k (N k)) i = (if w = 1 then -1 else 2)) (i + 1))) (by first | (rw [zct_t (p := (fun i => 1 ≤ i ∧ zjm (zlk σ k (N k)) i = (if w = 1 then -1 else 2))) (n := i) ⟨hi1, by rw [if_pos bq53]; exact bq61⟩, nI_1]) | (rw [zct_t (p := (fun i => 1 ≤ i ∧ zjm (zlk σ k (N k)) i = (if w = 1 then -1 else 2))) (n := i) ⟨hi1, by rw [if_neg bq53]; exact bq61⟩, nI_1]) | (rw [zct_f (p := (fun i => 1 ≤ i ∧ zjm (zlk σ k (N k)) i = (if w = 1 then -1 else 2))) (n := i) (fun h => bq61 (by have h2 := h.2; rw [if_pos bq53] at h2; exact h2))]; exact Int32.add_zero _) | (rw [zct_f (p := (fun i => 1 ≤ i ∧ zjm (zlk σ k (N k)) i = (if w = 1 then -1 else 2))) (n := i) (fun h => bq61 (by have h2 := h.2; rw [if_neg bq53] at h2; exact h2))]; exact Int32.add_zero _)) ?_
                refine J_istoren_3 (pc := 70) hc dX4_count_70 rfl ?_
                refine J_iinc_4 (pc := 71) hc dX4_count_71 (by first | exact nI_1 _ | exact rfl) rfl ?_
                refine J_goto (pc := 74) hc 35 dX4_count_74 (by decide) ?_
                exact J_weak (by repeat (first | exact zle_nil | apply zle_s | apply zle_n)) (ih35 _ (by omega) (i + 1) rfl (by omega) (by omega))
            · skip
              refine J_iconst (pc := 56) hc dX4_count_56 (v := -1) (by decide) ?_
              refine J_goto (pc := 57) hc 61 dX4_count_57 (by decide) ?_
              refine J_icmp_ne (pc := 61) hc 68 dX4_count_61 (by decide) (fun bq61 => ?_) (fun bq61 => ?_)
              · skip
                refine J_iconst (pc := 68) hc dX4_count_68 (v := 0) (by decide) ?_
                refine J_iadd (pc := 69) hc dX4_count_69 ?_
                refine J_topi (y := nI (zct (fun i => 1 ≤ i ∧ zjm (zlk σ k (N k)) i = (if w = 1 then -1 else 2)) (i + 1))) (by first | (rw [zct_t (p := (fun i => 1 ≤ i ∧ zjm (zlk σ k (N k)) i = (if w = 1 then -1 else 2))) (n := i) ⟨hi1, by rw [if_pos bq53]; exact bq61⟩, nI_1]) | (rw [zct_t (p := (fun i => 1 ≤ i ∧ zjm (zlk σ k (N k)) i = (if w = 1 then -1 else 2))) (n := i) ⟨hi1, by rw [if_neg bq53]; exact bq61⟩, nI_1]) | (rw [zct_f (p := (fun i => 1 ≤ i ∧ zjm (zlk σ k (N k)) i = (if w = 1 then -1 else 2))) (n := i) (fun h => bq61 (by have h2 := h.2; rw [if_pos bq53] at h2; exact h2))]; exact Int32.add_zero _) | (rw [zct_f (p := (fun i => 1 ≤ i ∧ zjm (zlk σ k (N k)) i = (if w = 1 then -1 else 2))) (n := i) (fun h => bq61 (by have h2 := h.2; rw [if_neg bq53] at h2; exact h2))]; exact Int32.add_zero _)) ?_
                refine J_istoren_3 (pc := 70) hc dX4_count_70 rfl ?_
                refine J_iinc_4 (pc := 71) hc dX4_count_71 (by first | exact nI_1 _ | exact rfl) rfl ?_
                refine J_goto (pc := 74) hc 35 dX4_count_74 (by decide) ?_
                exact J_weak (by repeat (first | exact zle_nil | apply zle_s | apply zle_n)) (ih35 _ (by omega) (i + 1) rfl (by omega) (by omega))
              · skip
                refine J_iconst (pc := 64) hc dX4_count_64 (v := 1) (by decide) ?_
                refine J_goto (pc := 65) hc 69 dX4_count_65 (by decide) ?_
                refine J_iadd (pc := 69) hc dX4_count_69 ?_
                refine J_topi (y := nI (zct (fun i => 1 ≤ i ∧ zjm (zlk σ k (N k)) i = (if w = 1 then -1 else 2)) (i + 1))) (by first | (rw [zct_t (p := (fun i => 1 ≤ i ∧ zjm (zlk σ k (N k)) i = (if w = 1 then -1 else 2))) (n := i) ⟨hi1, by rw [if_pos bq53]; exact bq61⟩, nI_1]) | (rw [zct_t (p := (fun i => 1 ≤ i ∧ zjm (zlk σ k (N k)) i = (if w = 1 then -1 else 2))) (n := i) ⟨hi1, by rw [if_neg bq53]; exact bq61⟩, nI_1]) | (rw [zct_f (p := (fun i => 1 ≤ i ∧ zjm (zlk σ k (N k)) i = (if w = 1 then -1 else 2))) (n := i) (fun h => bq61 (by have h2 := h.2; rw [if_pos bq53] at h2; exact h2))]; exact Int32.add_zero _) | (rw [zct_f (p := (fun i => 1 ≤ i ∧ zjm (zlk σ k (N k)) i = (if w = 1 then -1 else 2))) (n := i) (fun h => bq61 (by have h2 := h.2; rw [if_neg bq53] at h2; exact h2))]; exact Int32.add_zero _)) ?_
                refine J_istoren_3 (pc := 70) hc dX4_count_70 rfl ?_
                refine J_iinc_4 (pc := 71) hc dX4_count_71 (by first | exact nI_1 _ | exact rfl) rfl ?_
                refine J_goto (pc := 74) hc 35 dX4_count_74 (by decide) ?_
                exact J_weak (by repeat (first | exact zle_nil | apply zle_s | apply zle_n)) (ih35 _ (by omega) (i + 1) rfl (by omega) (by omega))
      exact J_weak (by repeat (first | exact zle_nil | apply zle_s | apply zle_n)) (hL35 _ 1 rfl (by omega) (by omega))
    · skip
      have hnw := (zin1 hr (show (0 : Int64).toInt = 0 from rfl) (show (2 : Int64).toInt = 2 from rfl)).f bq19
      refine J_bipush (pc := 22) hc dX4_count_22 (v := -3) (by decide) ?_
      exact J_iret (pc := 24) hc hI dX4_count_24 (Or.inr ⟨k, hk, hxk, Or.inl ⟨hnw, rfl, rfl⟩⟩)
  · skip
    have hnp := hr.f bq4
    refine J_bipush (pc := 7) hc dX4_count_7 (v := -2) (by decide) ?_
    exact J_iret (pc := 9) hc hI dX4_count_9 (Or.inl ⟨hnp, rfl, rfl⟩)
set_option maxRecDepth 100000 in
set_option maxHeartbeats 4000000 in
theorem c_X4_same {l : Launch} {gg : zG} {σ : zS} {x y : Int32} {N : Nat → Nat} (hz : zRv σ N) : zMi l gg yX4_same cX4_same .int 5 2 45 [.ref (zM gg), .int x, .int y] σ (fun r u => u = σ ∧ ((¬ (zpl x ∧ zpl y) ∧ r = -2) ∨ (∃ k j, k < 6 ∧ x = nI k ∧ j < 6 ∧ y = nI j ∧ zb r (N k = N j ∧ ∀ i, i < N k → zeqm σ k j i)))) := by
  refine zM_i (own := RX4) (lv := [some (.ref (zM gg)), some (.int x), some (.int y), none, none]) (by decide +kernel) rfl (Nat.le_of_ble_eq_true rfl) rfl (fun cx hc hR hI => ?_)
  refine J_iloadn_1 (pc := 0) hc dX4_same_0 ?_
  refine kX4_51 (pc := 1) hc hR dX4_same_1 (c_X4_isPlace) (by decide) (Nat.le_of_ble_eq_true rfl) rfl (fun r u hu => ?_)
  have hr := hu.1
  refine J_eq hu.2 ?_
  refine J_if_eq (pc := 4) hc 14 dX4_same_4 (by decide) (fun bq4 => ?_) (fun bq4 => ?_)
  · skip
    have hnp := hr.f bq4
    refine J_bipush (pc := 14) hc dX4_same_14 (v := -2) (by decide) ?_
    exact J_iret (pc := 16) hc hI dX4_same_16 ⟨rfl, Or.inl ⟨by first | exact (fun h => hnq h.2) | exact (fun h => hnp h.1), rfl⟩⟩
  · skip
    obtain ⟨k, hk, hxk⟩ := zpl_nI (hr.t bq4)
    have hzk := hz k hk
    refine J_iloadn_2 (pc := 7) hc dX4_same_7 ?_
    refine kX4_51 (pc := 8) hc hR dX4_same_8 (c_X4_isPlace) (by decide) (Nat.le_of_ble_eq_true rfl) rfl (fun r u hu => ?_)
    have hr := hu.1
    refine J_eq hu.2 ?_
    refine J_if_ne (pc := 11) hc 17 dX4_same_11 (by decide) (fun bq11 => ?_) (fun bq11 => ?_)
    · skip
      obtain ⟨j, hj, hxj⟩ := zpl_nI (hr.t bq11)
      have hzj := hz j hj
      refine J_aloadn_0 (pc := 17) hc dX4_same_17 ?_
      refine gX4_7 (pc := 18) hc dX4_same_18 ?_
      refine J_iloadn_1 (pc := 21) hc dX4_same_21 ?_
      refine J_iald (pc := 22) hc 6 (by omega) rfl dX4_same_22 hxk (by omega) ?_
      refine J_aloadn_0 (pc := 23) hc dX4_same_23 ?_
      refine gX4_7 (pc := 24) hc dX4_same_24 ?_
      refine J_iloadn_2 (pc := 27) hc dX4_same_27 ?_
      refine J_iald (pc := 28) hc 6 (by omega) rfl dX4_same_28 hxj (by omega) ?_
      refine J_icmp_ne (pc := 29) hc 36 dX4_same_29 (by decide) (fun bq29 => ?_) (fun bq29 => ?_)
      · skip
        rw [hzk.2.2.1, hzj.2.2.1, nI_eq (by omega) (by omega)] at bq29
        refine J_iconst (pc := 36) hc dX4_same_36 (v := 0) (by decide) ?_
        refine J_istoren_3 (pc := 37) hc dX4_same_37 rfl ?_
        refine J_iconst (pc := 38) hc dX4_same_38 (v := 0) (by decide) ?_
        refine J_istore_4 (pc := 39) hc dX4_same_39 rfl ?_
        have hL41 : ∀ (μ : Nat) (i : Nat) (b : Int32), N k - i = μ → i ≤ N k → zb b (N k = N j ∧ ∀ e, e < i → zeqm σ k j e) → J cx gg (zQi cx gg (fun r u => u = σ ∧ ((¬ (zpl x ∧ zpl y) ∧ r = -2) ∨ (∃ k j, k < 6 ∧ x = nI k ∧ j < 6 ∧ y = nI j ∧ zb r (N k = N j ∧ ∀ i, i < N k → zeqm σ k j i))))) σ 41 [some (.ref (zM gg)), some (.int x), some (.int y), some (.int b), some (.int (nI i))] [] := by
          intro μ
          induction μ using Nat.strongRecOn with
          | ind μ ih41 =>
            intro i b hμ hi hb
            refine J_iload_4 (pc := 41) hc dX4_same_41 ?_
            refine J_aloadn_0 (pc := 43) hc dX4_same_43 ?_
            refine gX4_7 (pc := 44) hc dX4_same_44 ?_
            refine J_iloadn_1 (pc := 47) hc dX4_same_47 ?_
            refine J_iald (pc := 48) hc 6 (by omega) rfl dX4_same_48 hxk (by omega) ?_
            refine J_icmp_ge (pc := 49) hc 149 dX4_same_49 (by decide) (fun bq49 => ?_) (fun bq49 => ?_)
            · skip
              have bq49 := (zge rfl hzk.2.2.1 (by omega) (by omega)).mp bq49
              refine J_iloadn_3 (pc := 149) hc dX4_same_149 ?_
              refine J_if_eq (pc := 150) hc 157 dX4_same_150 (by decide) (fun bq150 => ?_) (fun bq150 => ?_)
              · skip
                refine J_iconst (pc := 157) hc dX4_same_157 (v := 0) (by decide) ?_
                exact J_iret (pc := 158) hc hI dX4_same_158 ⟨rfl, Or.inr ⟨k, j, hk, hxk, hj, hxj, by first | exact absurd bq53 bq150 | exact zb_0 (fun h => hb.f bq150 ⟨h.1, fun e he => h.2 e (by omega)⟩) | exact zb_1 ⟨(hb.t bq150).1, fun e he => (hb.t bq150).2 e (by omega)⟩⟩⟩
              · skip
                refine J_iconst (pc := 153) hc dX4_same_153 (v := 1) (by decide) ?_
                refine J_goto (pc := 154) hc 158 dX4_same_154 (by decide) ?_
                exact J_iret (pc := 158) hc hI dX4_same_158 ⟨rfl, Or.inr ⟨k, j, hk, hxk, hj, hxj, by first | exact absurd bq53 bq150 | exact zb_0 (fun h => hb.f bq150 ⟨h.1, fun e he => h.2 e (by omega)⟩) | exact zb_1 ⟨(hb.t bq150).1, fun e he => (hb.t bq150).2 e (by omega)⟩⟩⟩
            · skip
              have bq49 := mt (zge rfl hzk.2.2.1 (by omega) (by omega)).mpr bq49
              refine J_iloadn_3 (pc := 52) hc dX4_same_52 ?_
              refine J_if_eq (pc := 53) hc 149 dX4_same_53 (by decide) (fun bq53 => ?_) (fun bq53 => ?_)
              · skip
                refine J_iloadn_3 (pc := 149) hc dX4_same_149 ?_
                refine J_if_eq (pc := 150) hc 157 dX4_same_150 (by decide) (fun bq150 => ?_) (fun bq150 => ?_)
                · skip
                  refine J_iconst (pc := 157) hc dX4_same_157 (v := 0) (by decide) ?_
                  exact J_iret (pc := 158) hc hI dX4_same_158 ⟨rfl, Or.inr ⟨k, j, hk, hxk, hj, hxj, by first | exact absurd bq53 bq150 | exact zb_0 (fun h => hb.f bq150 ⟨h.1, fun e he => h.2 e (by omega)⟩) | exact zb_1 ⟨(hb.t bq150).1, fun e he => (hb.t bq150).2 e (by omega)⟩⟩⟩
                · skip
                  refine J_iconst (pc := 153) hc dX4_same_153 (v := 1) (by decide) ?_
                  refine J_goto (pc := 154) hc 158 dX4_same_154 (by decide) ?_
                  exact J_iret (pc := 158) hc hI dX4_same_158 ⟨rfl, Or.inr ⟨k, j, hk, hxk, hj, hxj, by first | exact absurd bq53 bq150 | exact zb_0 (fun h => hb.f bq150 ⟨h.1, fun e he => h.2 e (by omega)⟩) | exact zb_1 ⟨(hb.t bq150).1, fun e he => (hb.t bq150).2 e (by omega)⟩⟩⟩
              · skip
                refine J_aloadn_0 (pc := 56) hc dX4_same_56 ?_
                refine gX4_13 (pc := 57) hc dX4_same_57 ?_
                refine J_bipush (pc := 60) hc dX4_same_60 (v := 16) (by decide) ?_
                refine J_iloadn_1 (pc := 62) hc dX4_same_62 ?_
                refine J_imul (pc := 63) hc dX4_same_63 ?_
                refine J_iload_4 (pc := 64) hc dX4_same_64 ?_
                refine J_iadd (pc := 66) hc dX4_same_66 ?_
                refine J_iald (pc := 67) hc 96 (by omega) rfl dX4_same_67 (by rw [hxk]; exact z16 k i) (by omega) ?_
                refine J_aloadn_0 (pc := 68) hc dX4_same_68 ?_
                refine gX4_13 (pc := 69) hc dX4_same_69 ?_
                refine J_bipush (pc := 72) hc dX4_same_72 (v := 16) (by decide) ?_
                refine J_iloadn_2 (pc := 74) hc dX4_same_74 ?_
                refine J_imul (pc := 75) hc dX4_same_75 ?_
                refine J_iload_4 (pc := 76) hc dX4_same_76 ?_
                refine J_iadd (pc := 78) hc dX4_same_78 ?_
                refine J_iald (pc := 79) hc 96 (by omega) rfl dX4_same_79 (by rw [hxj]; exact z16 j i) (by omega) ?_
                refine J_icmp_ne (pc := 80) hc 141 dX4_same_80 (by decide) (fun bq80 => ?_) (fun bq80 => ?_)
                · skip
                  refine J_iconst (pc := 141) hc dX4_same_141 (v := 0) (by decide) ?_
                  refine J_istoren_3 (pc := 142) hc dX4_same_142 rfl ?_
                  refine J_iinc_4 (pc := 143) hc dX4_same_143 (by first | exact nI_1 _ | exact rfl) rfl ?_
                  refine J_goto (pc := 146) hc 41 dX4_same_146 (by decide) ?_
                  have hb1 := hb.t bq53
                  first | exact J_weak (by repeat (first | exact zle_nil | apply zle_s | apply zle_n)) (ih41 _ (by omega) (i + 1) 1 rfl (by omega) (zb_1 ⟨hb1.1, lt_s hb1.2 ⟨bq80, bq107, bq134⟩⟩)) | exact J_weak (by repeat (first | exact zle_nil | apply zle_s | apply zle_n)) (ih41 _ (by omega) (i + 1) 0 rfl (by omega) (zb_0 (fun h => bq134 (h.2 i (by omega)).2.2))) | exact J_weak (by repeat (first | exact zle_nil | apply zle_s | apply zle_n)) (ih41 _ (by omega) (i + 1) 0 rfl (by omega) (zb_0 (fun h => bq107 (h.2 i (by omega)).2.1))) | exact J_weak (by repeat (first | exact zle_nil | apply zle_s | apply zle_n)) (ih41 _ (by omega) (i + 1) 0 rfl (by omega) (zb_0 (fun h => bq80 (h.2 i (by omega)).1)))
                · skip
                  refine J_aloadn_0 (pc := 83) hc dX4_same_83 ?_
                  refine gX4_16 (pc := 84) hc dX4_same_84 ?_
                  refine J_bipush (pc := 87) hc dX4_same_87 (v := 16) (by decide) ?_
                  refine J_iloadn_1 (pc := 89) hc dX4_same_89 ?_
                  refine J_imul (pc := 90) hc dX4_same_90 ?_
                  refine J_iload_4 (pc := 91) hc dX4_same_91 ?_
                  refine J_iadd (pc := 93) hc dX4_same_93 ?_
                  refine J_iald (pc := 94) hc 96 (by omega) rfl dX4_same_94 (by rw [hxk]; exact z16 k i) (by omega) ?_
                  refine J_aloadn_0 (pc := 95) hc dX4_same_95 ?_
                  refine gX4_16 (pc := 96) hc dX4_same_96 ?_
                  refine J_bipush (pc := 99) hc dX4_same_99 (v := 16) (by decide) ?_
                  refine J_iloadn_2 (pc := 101) hc dX4_same_101 ?_
                  refine J_imul (pc := 102) hc dX4_same_102 ?_
                  refine J_iload_4 (pc := 103) hc dX4_same_103 ?_
                  refine J_iadd (pc := 105) hc dX4_same_105 ?_
                  refine J_iald (pc := 106) hc 96 (by omega) rfl dX4_same_106 (by rw [hxj]; exact z16 j i) (by omega) ?_
                  refine J_icmp_ne (pc := 107) hc 141 dX4_same_107 (by decide) (fun bq107 => ?_) (fun bq107 => ?_)
                  · skip
                    refine J_iconst (pc := 141) hc dX4_same_141 (v := 0) (by decide) ?_
                    refine J_istoren_3 (pc := 142) hc dX4_same_142 rfl ?_
                    refine J_iinc_4 (pc := 143) hc dX4_same_143 (by first | exact nI_1 _ | exact rfl) rfl ?_
                    refine J_goto (pc := 146) hc 41 dX4_same_146 (by decide) ?_
                    have hb1 := hb.t bq53
                    first | exact J_weak (by repeat (first | exact zle_nil | apply zle_s | apply zle_n)) (ih41 _ (by omega) (i + 1) 1 rfl (by omega) (zb_1 ⟨hb1.1, lt_s hb1.2 ⟨bq80, bq107, bq134⟩⟩)) | exact J_weak (by repeat (first | exact zle_nil | apply zle_s | apply zle_n)) (ih41 _ (by omega) (i + 1) 0 rfl (by omega) (zb_0 (fun h => bq134 (h.2 i (by omega)).2.2))) | exact J_weak (by repeat (first | exact zle_nil | apply zle_s | apply zle_n)) (ih41 _ (by omega) (i + 1) 0 rfl (by omega) (zb_0 (fun h => bq107 (h.2 i (by omega)).2.1))) | exact J_weak (by repeat (first | exact zle_nil | apply zle_s | apply zle_n)) (ih41 _ (by omega) (i + 1) 0 rfl (by omega) (zb_0 (fun h => bq80 (h.2 i (by omega)).1)))
                  · skip
                    refine J_aloadn_0 (pc := 110) hc dX4_same_110 ?_
                    refine gX4_19 (pc := 111) hc dX4_same_111 ?_
                    refine J_bipush (pc := 114) hc dX4_same_114 (v := 16) (by decide) ?_
                    refine J_iloadn_1 (pc := 116) hc dX4_same_116 ?_
                    refine J_imul (pc := 117) hc dX4_same_117 ?_
                    refine J_iload_4 (pc := 118) hc dX4_same_118 ?_
                    refine J_iadd (pc := 120) hc dX4_same_120 ?_
                    refine J_iald (pc := 121) hc 96 (by omega) rfl dX4_same_121 (by rw [hxk]; exact z16 k i) (by omega) ?_
                    refine J_aloadn_0 (pc := 122) hc dX4_same_122 ?_
                    refine gX4_19 (pc := 123) hc dX4_same_123 ?_
                    refine J_bipush (pc := 126) hc dX4_same_126 (v := 16) (by decide) ?_
                    refine J_iloadn_2 (pc := 128) hc dX4_same_128 ?_
                    refine J_imul (pc := 129) hc dX4_same_129 ?_
                    refine J_iload_4 (pc := 130) hc dX4_same_130 ?_
                    refine J_iadd (pc := 132) hc dX4_same_132 ?_
                    refine J_iald (pc := 133) hc 96 (by omega) rfl dX4_same_133 (by rw [hxj]; exact z16 j i) (by omega) ?_
                    refine J_icmp_ne (pc := 134) hc 141 dX4_same_134 (by decide) (fun bq134 => ?_) (fun bq134 => ?_)
                    · skip
                      refine J_iconst (pc := 141) hc dX4_same_141 (v := 0) (by decide) ?_
                      refine J_istoren_3 (pc := 142) hc dX4_same_142 rfl ?_
                      refine J_iinc_4 (pc := 143) hc dX4_same_143 (by first | exact nI_1 _ | exact rfl) rfl ?_
                      refine J_goto (pc := 146) hc 41 dX4_same_146 (by decide) ?_
                      have hb1 := hb.t bq53
                      first | exact J_weak (by repeat (first | exact zle_nil | apply zle_s | apply zle_n)) (ih41 _ (by omega) (i + 1) 1 rfl (by omega) (zb_1 ⟨hb1.1, lt_s hb1.2 ⟨bq80, bq107, bq134⟩⟩)) | exact J_weak (by repeat (first | exact zle_nil | apply zle_s | apply zle_n)) (ih41 _ (by omega) (i + 1) 0 rfl (by omega) (zb_0 (fun h => bq134 (h.2 i (by omega)).2.2))) | exact J_weak (by repeat (first | exact zle_nil | apply zle_s | apply zle_n)) (ih41 _ (by omega) (i + 1) 0 rfl (by omega) (zb_0 (fun h => bq107 (h.2 i (by omega)).2.1))) | exact J_weak (by repeat (first | exact zle_nil | apply zle_s | apply zle_n)) (ih41 _ (by omega) (i + 1) 0 rfl (by omega) (zb_0 (fun h => bq80 (h.2 i (by omega)).1)))
                    · skip
                      refine J_iconst (pc := 137) hc dX4_same_137 (v := 1) (by decide) ?_
                      refine J_goto (pc := 138) hc 142 dX4_same_138 (by decide) ?_
                      refine J_istoren_3 (pc := 142) hc dX4_same_142 rfl ?_
                      refine J_iinc_4 (pc := 143) hc dX4_same_143 (by first | exact nI_1 _ | exact rfl) rfl ?_
                      refine J_goto (pc := 146) hc 41 dX4_same_146 (by decide) ?_
                      have hb1 := hb.t bq53
                      first | exact J_weak (by repeat (first | exact zle_nil | apply zle_s | apply zle_n)) (ih41 _ (by omega) (i + 1) 1 rfl (by omega) (zb_1 ⟨hb1.1, lt_s hb1.2 ⟨bq80, bq107, bq134⟩⟩)) | exact J_weak (by repeat (first | exact zle_nil | apply zle_s | apply zle_n)) (ih41 _ (by omega) (i + 1) 0 rfl (by omega) (zb_0 (fun h => bq134 (h.2 i (by omega)).2.2))) | exact J_weak (by repeat (first | exact zle_nil | apply zle_s | apply zle_n)) (ih41 _ (by omega) (i + 1) 0 rfl (by omega) (zb_0 (fun h => bq107 (h.2 i (by omega)).2.1))) | exact J_weak (by repeat (first | exact zle_nil | apply zle_s | apply zle_n)) (ih41 _ (by omega) (i + 1) 0 rfl (by omega) (zb_0 (fun h => bq80 (h.2 i (by omega)).1)))
        first | exact J_weak (by repeat (first | exact zle_nil | apply zle_s | apply zle_n)) (hL41 _ 0 0 rfl (by omega) (zb_0 (fun h => bq29 h.1))) | exact J_weak (by repeat (first | exact zle_nil | apply zle_s | apply zle_n)) (hL41 _ 0 1 rfl (by omega) (zb_1 ⟨bq29, lt_0⟩))
      · skip
        rw [hzk.2.2.1, hzj.2.2.1, nI_eq (by omega) (by omega)] at bq29
        refine J_iconst (pc := 32) hc dX4_same_32 (v := 1) (by decide) ?_
        refine J_goto (pc := 33) hc 37 dX4_same_33 (by decide) ?_
        refine J_istoren_3 (pc := 37) hc dX4_same_37 rfl ?_
        refine J_iconst (pc := 38) hc dX4_same_38 (v := 0) (by decide) ?_
        refine J_istore_4 (pc := 39) hc dX4_same_39 rfl ?_
        have hL41 : ∀ (μ : Nat) (i : Nat) (b : Int32), N k - i = μ → i ≤ N k → zb b (N k = N j ∧ ∀ e, e < i → zeqm σ k j e) → J cx gg (zQi cx gg (fun r u => u = σ ∧ ((¬ (zpl x ∧ zpl y) ∧ r = -2) ∨ (∃ k j, k < 6 ∧ x = nI k ∧ j < 6 ∧ y = nI j ∧ zb r (N k = N j ∧ ∀ i, i < N k → zeqm σ k j i))))) σ 41 [some (.ref (zM gg)), some (.int x), some (.int y), some (.int b), some (.int (nI i))] [] := by
          intro μ
          induction μ using Nat.strongRecOn with
          | ind μ ih41 =>
            intro i b hμ hi hb
            refine J_iload_4 (pc := 41) hc dX4_same_41 ?_
            refine J_aloadn_0 (pc := 43) hc dX4_same_43 ?_
            refine gX4_7 (pc := 44) hc dX4_same_44 ?_
            refine J_iloadn_1 (pc := 47) hc dX4_same_47 ?_
            refine J_iald (pc := 48) hc 6 (by omega) rfl dX4_same_48 hxk (by omega) ?_
            refine J_icmp_ge (pc := 49) hc 149 dX4_same_49 (by decide) (fun bq49 => ?_) (fun bq49 => ?_)
            · skip
              have bq49 := (zge rfl hzk.2.2.1 (by omega) (by omega)).mp bq49
              refine J_iloadn_3 (pc := 149) hc dX4_same_149 ?_
              refine J_if_eq (pc := 150) hc 157 dX4_same_150 (by decide) (fun bq150 => ?_) (fun bq150 => ?_)
              · skip
                refine J_iconst (pc := 157) hc dX4_same_157 (v := 0) (by decide) ?_
                exact J_iret (pc := 158) hc hI dX4_same_158 ⟨rfl, Or.inr ⟨k, j, hk, hxk, hj, hxj, by first | exact absurd bq53 bq150 | exact zb_0 (fun h => hb.f bq150 ⟨h.1, fun e he => h.2 e (by omega)⟩) | exact zb_1 ⟨(hb.t bq150).1, fun e he => (hb.t bq150).2 e (by omega)⟩⟩⟩
              · skip
                refine J_iconst (pc := 153) hc dX4_same_153 (v := 1) (by decide) ?_
                refine J_goto (pc := 154) hc 158 dX4_same_154 (by decide) ?_
                exact J_iret (pc := 158) hc hI dX4_same_158 ⟨rfl, Or.inr ⟨k, j, hk, hxk, hj, hxj, by first | exact absurd bq53 bq150 | exact zb_0 (fun h => hb.f bq150 ⟨h.1, fun e he => h.2 e (by omega)⟩) | exact zb_1 ⟨(hb.t bq150).1, fun e he => (hb.t bq150).2 e (by omega)⟩⟩⟩
            · skip
              have bq49 := mt (zge rfl hzk.2.2.1 (by omega) (by omega)).mpr bq49
              refine J_iloadn_3 (pc := 52) hc dX4_same_52 ?_
              refine J_if_eq (pc := 53) hc 149 dX4_same_53 (by decide) (fun bq53 => ?_) (fun bq53 => ?_)
              · skip
                refine J_iloadn_3 (pc := 149) hc dX4_same_149 ?_
                refine J_if_eq (pc := 150) hc 157 dX4_same_150 (by decide) (fun bq150 => ?_) (fun bq150 => ?_)
                · skip
                  refine J_iconst (pc := 157) hc dX4_same_157 (v := 0) (by decide) ?_
                  exact J_iret (pc := 158) hc hI dX4_same_158 ⟨rfl, Or.inr ⟨k, j, hk, hxk, hj, hxj, by first | exact absurd bq53 bq150 | exact zb_0 (fun h => hb.f bq150 ⟨h.1, fun e he => h.2 e (by omega)⟩) | exact zb_1 ⟨(hb.t bq150).1, fun e he => (hb.t bq150).2 e (by omega)⟩⟩⟩
                · skip
                  refine J_iconst (pc := 153) hc dX4_same_153 (v := 1) (by decide) ?_
                  refine J_goto (pc := 154) hc 158 dX4_same_154 (by decide) ?_
                  exact J_iret (pc := 158) hc hI dX4_same_158 ⟨rfl, Or.inr ⟨k, j, hk, hxk, hj, hxj, by first | exact absurd bq53 bq150 | exact zb_0 (fun h => hb.f bq150 ⟨h.1, fun e he => h.2 e (by omega)⟩) | exact zb_1 ⟨(hb.t bq150).1, fun e he => (hb.t bq150).2 e (by omega)⟩⟩⟩
              · skip
                refine J_aloadn_0 (pc := 56) hc dX4_same_56 ?_
                refine gX4_13 (pc := 57) hc dX4_same_57 ?_
                refine J_bipush (pc := 60) hc dX4_same_60 (v := 16) (by decide) ?_
                refine J_iloadn_1 (pc := 62) hc dX4_same_62 ?_
                refine J_imul (pc := 63) hc dX4_same_63 ?_
                refine J_iload_4 (pc := 64) hc dX4_same_64 ?_
                refine J_iadd (pc := 66) hc dX4_same_66 ?_
                refine J_iald (pc := 67) hc 96 (by omega) rfl dX4_same_67 (by rw [hxk]; exact z16 k i) (by omega) ?_
                refine J_aloadn_0 (pc := 68) hc dX4_same_68 ?_
                refine gX4_13 (pc := 69) hc dX4_same_69 ?_
                refine J_bipush (pc := 72) hc dX4_same_72 (v := 16) (by decide) ?_
                refine J_iloadn_2 (pc := 74) hc dX4_same_74 ?_
                refine J_imul (pc := 75) hc dX4_same_75 ?_
                refine J_iload_4 (pc := 76) hc dX4_same_76 ?_
                refine J_iadd (pc := 78) hc dX4_same_78 ?_
                refine J_iald (pc := 79) hc 96 (by omega) rfl dX4_same_79 (by rw [hxj]; exact z16 j i) (by omega) ?_
                refine J_icmp_ne (pc := 80) hc 141 dX4_same_80 (by decide) (fun bq80 => ?_) (fun bq80 => ?_)
                · skip
                  refine J_iconst (pc := 141) hc dX4_same_141 (v := 0) (by decide) ?_
                  refine J_istoren_3 (pc := 142) hc dX4_same_142 rfl ?_
                  refine J_iinc_4 (pc := 143) hc dX4_same_143 (by first | exact nI_1 _ | exact rfl) rfl ?_
                  refine J_goto (pc := 146) hc 41 dX4_same_146 (by decide) ?_
                  have hb1 := hb.t bq53
                  first | exact J_weak (by repeat (first | exact zle_nil | apply zle_s | apply zle_n)) (ih41 _ (by omega) (i + 1) 1 rfl (by omega) (zb_1 ⟨hb1.1, lt_s hb1.2 ⟨bq80, bq107, bq134⟩⟩)) | exact J_weak (by repeat (first | exact zle_nil | apply zle_s | apply zle_n)) (ih41 _ (by omega) (i + 1) 0 rfl (by omega) (zb_0 (fun h => bq134 (h.2 i (by omega)).2.2))) | exact J_weak (by repeat (first | exact zle_nil | apply zle_s | apply zle_n)) (ih41 _ (by omega) (i + 1) 0 rfl (by omega) (zb_0 (fun h => bq107 (h.2 i (by omega)).2.1))) | exact J_weak (by repeat (first | exact zle_nil | apply zle_s | apply zle_n)) (ih41 _ (by omega) (i + 1) 0 rfl (by omega) (zb_0 (fun h => bq80 (h.2 i (by omega)).1)))
                · skip
                  refine J_aloadn_0 (pc := 83) hc dX4_same_83 ?_
                  refine gX4_16 (pc := 84) hc dX4_same_84 ?_
                  refine J_bipush (pc := 87) hc dX4_same_87 (v := 16) (by decide) ?_
                  refine J_iloadn_1 (pc := 89) hc dX4_same_89 ?_
                  refine J_imul (pc := 90) hc dX4_same_90 ?_
                  refine J_iload_4 (pc := 91) hc dX4_same_91 ?_
                  refine J_iadd (pc := 93) hc dX4_same_93 ?_
                  refine J_iald (pc := 94) hc 96 (by omega) rfl dX4_same_94 (by rw [hxk]; exact z16 k i) (by omega) ?_
                  refine J_aloadn_0 (pc := 95) hc dX4_same_95 ?_
                  refine gX4_16 (pc := 96) hc dX4_same_96 ?_
                  refine J_bipush (pc := 99) hc dX4_same_99 (v := 16) (by decide) ?_
                  refine J_iloadn_2 (pc := 101) hc dX4_same_101 ?_
                  refine J_imul (pc := 102) hc dX4_same_102 ?_
                  refine J_iload_4 (pc := 103) hc dX4_same_103 ?_
                  refine J_iadd (pc := 105) hc dX4_same_105 ?_
                  refine J_iald (pc := 106) hc 96 (by omega) rfl dX4_same_106 (by rw [hxj]; exact z16 j i) (by omega) ?_
                  refine J_icmp_ne (pc := 107) hc 141 dX4_same_107 (by decide) (fun bq107 => ?_) (fun bq107 => ?_)
                  · skip
                    refine J_iconst (pc := 141) hc dX4_same_141 (v := 0) (by decide) ?_
                    refine J_istoren_3 (pc := 142) hc dX4_same_142 rfl ?_
                    refine J_iinc_4 (pc := 143) hc dX4_same_143 (by first | exact nI_1 _ | exact rfl) rfl ?_
                    refine J_goto (pc := 146) hc 41 dX4_same_146 (by decide) ?_
                    have hb1 := hb.t bq53
                    first | exact J_weak (by repeat (first | exact zle_nil | apply zle_s | apply zle_n)) (ih41 _ (by omega) (i + 1) 1 rfl (by omega) (zb_1 ⟨hb1.1, lt_s hb1.2 ⟨bq80, bq107, bq134⟩⟩)) | exact J_weak (by repeat (first | exact zle_nil | apply zle_s | apply zle_n)) (ih41 _ (by omega) (i + 1) 0 rfl (by omega) (zb_0 (fun h => bq134 (h.2 i (by omega)).2.2))) | exact J_weak (by repeat (first | exact zle_nil | apply zle_s | apply zle_n)) (ih41 _ (by omega) (i + 1) 0 rfl (by omega) (zb_0 (fun h => bq107 (h.2 i (by omega)).2.1))) | exact J_weak (by repeat (first | exact zle_nil | apply zle_s | apply zle_n)) (ih41 _ (by omega) (i + 1) 0 rfl (by omega) (zb_0 (fun h => bq80 (h.2 i (by omega)).1)))
                  · skip
                    refine J_aloadn_0 (pc := 110) hc dX4_same_110 ?_
                    refine gX4_19 (pc := 111) hc dX4_same_111 ?_
                    refine J_bipush (pc := 114) hc dX4_same_114 (v := 16) (by decide) ?_
                    refine J_iloadn_1 (pc := 116) hc dX4_same_116 ?_
                    refine J_imul (pc := 117) hc dX4_same_117 ?_
                    refine J_iload_4 (pc := 118) hc dX4_same_118 ?_
                    refine J_iadd (pc := 120) hc dX4_same_120 ?_
                    refine J_iald (pc := 121) hc 96 (by omega) rfl dX4_same_121 (by rw [hxk]; exact z16 k i) (by omega) ?_
                    refine J_aloadn_0 (pc := 122) hc dX4_same_122 ?_
                    refine gX4_19 (pc := 123) hc dX4_same_123 ?_
                    refine J_bipush (pc := 126) hc dX4_same_126 (v := 16) (by decide) ?_
                    refine J_iloadn_2 (pc := 128) hc dX4_same_128 ?_
                    refine J_imul (pc := 129) hc dX4_same_129 ?_
                    refine J_iload_4 (pc := 130) hc dX4_same_130 ?_
                    refine J_iadd (pc := 132) hc dX4_same_132 ?_
                    refine J_iald (pc := 133) hc 96 (by omega) rfl dX4_same_133 (by rw [hxj]; exact z16 j i) (by omega) ?_
                    refine J_icmp_ne (pc := 134) hc 141 dX4_same_134 (by decide) (fun bq134 => ?_) (fun bq134 => ?_)
                    · skip
                      refine J_iconst (pc := 141) hc dX4_same_141 (v := 0) (by decide) ?_
                      refine J_istoren_3 (pc := 142) hc dX4_same_142 rfl ?_
                      refine J_iinc_4 (pc := 143) hc dX4_same_143 (by first | exact nI_1 _ | exact rfl) rfl ?_
                      refine J_goto (pc := 146) hc 41 dX4_same_146 (by decide) ?_
                      have hb1 := hb.t bq53
                      first | exact J_weak (by repeat (first | exact zle_nil | apply zle_s | apply zle_n)) (ih41 _ (by omega) (i + 1) 1 rfl (by omega) (zb_1 ⟨hb1.1, lt_s hb1.2 ⟨bq80, bq107, bq134⟩⟩)) | exact J_weak (by repeat (first | exact zle_nil | apply zle_s | apply zle_n)) (ih41 _ (by omega) (i + 1) 0 rfl (by omega) (zb_0 (fun h => bq134 (h.2 i (by omega)).2.2))) | exact J_weak (by repeat (first | exact zle_nil | apply zle_s | apply zle_n)) (ih41 _ (by omega) (i + 1) 0 rfl (by omega) (zb_0 (fun h => bq107 (h.2 i (by omega)).2.1))) | exact J_weak (by repeat (first | exact zle_nil | apply zle_s | apply zle_n)) (ih41 _ (by omega) (i + 1) 0 rfl (by omega) (zb_0 (fun h => bq80 (h.2 i (by omega)).1)))
                    · skip
                      refine J_iconst (pc := 137) hc dX4_same_137 (v := 1) (by decide) ?_
                      refine J_goto (pc := 138) hc 142 dX4_same_138 (by decide) ?_
                      refine J_istoren_3 (pc := 142) hc dX4_same_142 rfl ?_
                      refine J_iinc_4 (pc := 143) hc dX4_same_143 (by first | exact nI_1 _ | exact rfl) rfl ?_
                      refine J_goto (pc := 146) hc 41 dX4_same_146 (by decide) ?_
                      have hb1 := hb.t bq53
                      first | exact J_weak (by repeat (first | exact zle_nil | apply zle_s | apply zle_n)) (ih41 _ (by omega) (i + 1) 1 rfl (by omega) (zb_1 ⟨hb1.1, lt_s hb1.2 ⟨bq80, bq107, bq134⟩⟩)) | exact J_weak (by repeat (first | exact zle_nil | apply zle_s | apply zle_n)) (ih41 _ (by omega) (i + 1) 0 rfl (by omega) (zb_0 (fun h => bq134 (h.2 i (by omega)).2.2))) | exact J_weak (by repeat (first | exact zle_nil | apply zle_s | apply zle_n)) (ih41 _ (by omega) (i + 1) 0 rfl (by omega) (zb_0 (fun h => bq107 (h.2 i (by omega)).2.1))) | exact J_weak (by repeat (first | exact zle_nil | apply zle_s | apply zle_n)) (ih41 _ (by omega) (i + 1) 0 rfl (by omega) (zb_0 (fun h => bq80 (h.2 i (by omega)).1)))
        first | exact J_weak (by repeat (first | exact zle_nil | apply zle_s | apply zle_n)) (hL41 _ 0 0 rfl (by omega) (zb_0 (fun h => bq29 h.1))) | exact J_weak (by repeat (first | exact zle_nil | apply zle_s | apply zle_n)) (hL41 _ 0 1 rfl (by omega) (zb_1 ⟨bq29, lt_0⟩))
    · skip
      have hnq := hr.f bq11
      refine J_bipush (pc := 14) hc dX4_same_14 (v := -2) (by decide) ?_
      exact J_iret (pc := 16) hc hI dX4_same_16 ⟨rfl, Or.inl ⟨by first | exact (fun h => hnq h.2) | exact (fun h => hnp h.1), rfl⟩⟩
