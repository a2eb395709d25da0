def zsgn (z : Int) : Int32 := if 0 < z then 1 else if z < 0 then -1 else 0
def zdq (σ : zS) (i : Nat) : Int := (sm σ 1 i).toInt * (sm σ 1 i).toInt - 4 * (sm σ 0 i).toInt * (sm σ 2 i).toInt
def zbt (h0 h1 s0 s1 c d : Int) : Nat :=
  if zsgn h0 = 0 ∧ zsgn h1 = 0 then 0
  else if zsgn h0 = 0 then (if zsgn s0 * zsgn h1 < 0 then 1 else 0)
  else if zsgn h1 = 0 then (if 0 < zsgn s1 * zsgn h0 then 1 else 0)
  else if zsgn h0 = zsgn h1 then (if zsgn s0 * zsgn s1 < 0 ∧ zsgn h0 = zsgn c ∧ 0 ≤ d then (if d = 0 then 1 else 2) else 0)
  else 1
def zbti (σ : zS) (i k : Nat) : Nat := zbt (zAt σ i k) (zAt σ i (k + 1)) (zSt σ i k) (zSt σ i (k + 1)) (sm σ 2 i).toInt (zdq σ i)
theorem zdq_t {σ : zS} {i : Nat} (h0 : zbd (sm σ 0 i).toInt 200000) (h1 : zbd (sm σ 1 i).toInt 200000) (h2 : zbd (sm σ 2 i).toInt 200000) : (sm σ 1 i * sm σ 1 i - 4 * sm σ 0 i * sm σ 2 i).toInt = zdq σ i := by
  have h5 : zbd (4 : Int64).toInt 4 := by unfold zbd; decide
  have e1 := zLm h5 h0 (by decide)
  have b1 : zbd (4 * sm σ 0 i).toInt 800000 := by rw [e1]; exact h5.mul h0
  have e2 := zLm b1 h2 (by decide)
  have b2 : zbd (4 * sm σ 0 i * sm σ 2 i).toInt 160000000000 := by rw [e2]; exact b1.mul h2
  have e3 := zLm h1 h1 (by decide)
  have b3 : zbd (sm σ 1 i * sm σ 1 i).toInt 40000000000 := by rw [e3]; exact h1.mul h1
  rw [zLs b3 b2 (by decide), e3, e2, e1]
  rfl
theorem znlI {x : Int32} (h : x ≤ 0) : ¬ 0 < x := by rw [zi_le] at h; rw [zi_lt]; omega
theorem zngI {x : Int32} (h : ¬ x ≤ 0) : 0 < x := by rw [zi_le] at h; rw [zi_lt]; omega
set_option maxRecDepth 100000 in
set_option maxHeartbeats 4000000 in
theorem c_X4_between {l : Launch} {gg : zG} {σ : zS} {i k : Nat} {x y : Int32} (hx : x = nI i) (hy : y = nI k) (hi : i < 16) (hk : k < 64) (h0 : zbd (sm σ 0 i).toInt 200000) (h1 : zbd (sm σ 1 i).toInt 200000) (h2 : zbd (sm σ 2 i).toInt 200000) : zMi l gg yX4_between cX4_between .int 8 1 22 [.ref (zM gg), .int x, .int y] σ (fun r u => r = nI (zbti σ i k) ∧ u = σ) := by
  subst hx
  subst hy
  refine zM_i (own := RX4) (lv := [some (.ref (zM gg)), some (.int (nI i)), some (.int (nI k)), none, none, none, none, none]) (by decide +kernel) rfl (Nat.le_of_ble_eq_true rfl) rfl (fun cx hc hR hI => ?_)
  refine J_aloadn_0 (pc := 0) hc dX4_between_0 ?_
  refine J_iloadn_1 (pc := 1) hc dX4_between_1 ?_
  refine J_iloadn_2 (pc := 2) hc dX4_between_2 ?_
  refine kX4_101 (pc := 3) hc hR dX4_between_3 (c_X4_at rfl rfl (by omega) (by omega) h0 h1 h2) (by decide) (Nat.le_of_ble_eq_true rfl) rfl (fun r u hu => ?_)
  have hr := hu.1
  refine J_eq hu.2 ?_
  refine kX4_105 (pc := 6) hc hR dX4_between_6 (c_X4_sign) (by decide) (Nat.le_of_ble_eq_true rfl) rfl (fun r u hu => ?_)
  refine J_eq hu.2 (J_topi (y := zsgn (zAt σ i k)) (by rw [hu.1]; first | (rw [hr]; rfl) | rfl) ?_)
  refine J_istoren_3 (pc := 9) hc dX4_between_9 rfl ?_
  refine J_aloadn_0 (pc := 10) hc dX4_between_10 ?_
  refine J_iloadn_1 (pc := 11) hc dX4_between_11 ?_
  refine J_iloadn_2 (pc := 12) hc dX4_between_12 ?_
  refine J_iconst (pc := 13) hc dX4_between_13 (v := 1) (by decide) ?_
  refine J_iadd (pc := 14) hc dX4_between_14 ?_
  refine kX4_101 (pc := 15) hc hR dX4_between_15 (c_X4_at (k := k + 1) rfl (nI_1 k) (by omega) (by omega) h0 h1 h2) (by decide) (Nat.le_of_ble_eq_true rfl) rfl (fun r u hu => ?_)
  have hr := hu.1
  refine J_eq hu.2 ?_
  refine kX4_105 (pc := 18) hc hR dX4_between_18 (c_X4_sign) (by decide) (Nat.le_of_ble_eq_true rfl) rfl (fun r u hu => ?_)
  refine J_eq hu.2 (J_topi (y := zsgn (zAt σ i (k + 1))) (by rw [hu.1]; first | (rw [hr]; rfl) | rfl) ?_)
  refine J_istore_4 (pc := 21) hc dX4_between_21 rfl ?_
  refine J_iloadn_3 (pc := 23) hc dX4_between_23 ?_
  refine J_if_ne (pc := 24) hc 34 dX4_between_24 (by decide) (fun bq24 => ?_) (fun bq24 => ?_)
  · skip
    refine J_iloadn_3 (pc := 34) hc dX4_between_34 ?_
    refine J_if_ne (pc := 35) hc 59 dX4_between_35 (by decide) (fun bq35 => ?_) (fun bq35 => ?_)
    · skip
      refine J_iload_4 (pc := 59) hc dX4_between_59 ?_
      refine J_if_ne (pc := 61) hc 86 dX4_between_61 (by decide) (fun bq61 => ?_) (fun bq61 => ?_)
      · skip
        refine J_iloadn_3 (pc := 86) hc dX4_between_86 ?_
        refine J_iload_4 (pc := 87) hc dX4_between_87 ?_
        refine J_icmp_eq (pc := 89) hc 94 dX4_between_89 (by decide) (fun bq89 => ?_) (fun bq89 => ?_)
        · skip
          refine J_aloadn_0 (pc := 94) hc dX4_between_94 ?_
          refine J_iloadn_1 (pc := 95) hc dX4_between_95 ?_
          refine J_iloadn_2 (pc := 96) hc dX4_between_96 ?_
          refine kX4_109 (pc := 97) hc hR dX4_between_97 (c_X4_slopeAt rfl rfl (by omega) (by omega) h1 h2) (by decide) (Nat.le_of_ble_eq_true rfl) rfl (fun r u hu => ?_)
          have hr := hu.1
          refine J_eq hu.2 ?_
          refine kX4_105 (pc := 100) hc hR dX4_between_100 (c_X4_sign) (by decide) (Nat.le_of_ble_eq_true rfl) rfl (fun r u hu => ?_)
          refine J_eq hu.2 (J_topi (y := zsgn (zSt σ i k)) (by rw [hu.1]; first | (rw [hr]; rfl) | rfl) ?_)
          refine J_aloadn_0 (pc := 103) hc dX4_between_103 ?_
          refine J_iloadn_1 (pc := 104) hc dX4_between_104 ?_
          refine J_iloadn_2 (pc := 105) hc dX4_between_105 ?_
          refine J_iconst (pc := 106) hc dX4_between_106 (v := 1) (by decide) ?_
          refine J_iadd (pc := 107) hc dX4_between_107 ?_
          refine kX4_109 (pc := 108) hc hR dX4_between_108 (c_X4_slopeAt (k := k + 1) rfl (nI_1 k) (by omega) (by omega) h1 h2) (by decide) (Nat.le_of_ble_eq_true rfl) rfl (fun r u hu => ?_)
          have hr := hu.1
          refine J_eq hu.2 ?_
          refine kX4_105 (pc := 111) hc hR dX4_between_111 (c_X4_sign) (by decide) (Nat.le_of_ble_eq_true rfl) rfl (fun r u hu => ?_)
          refine J_eq hu.2 (J_topi (y := zsgn (zSt σ i (k + 1))) (by rw [hu.1]; first | (rw [hr]; rfl) | rfl) ?_)
          refine J_imul (pc := 114) hc dX4_between_114 ?_
          refine J_if_ge (pc := 115) hc 122 dX4_between_115 (by decide) (fun bq115 => ?_) (fun bq115 => ?_)
          · skip
            refine J_iconst (pc := 122) hc dX4_between_122 (v := 0) (by decide) ?_
            refine J_istore_5 (pc := 123) hc dX4_between_123 rfl ?_
            refine J_aloadn_0 (pc := 125) hc dX4_between_125 ?_
            refine gX4_29 (pc := 126) hc dX4_between_126 ?_
            refine J_iloadn_1 (pc := 129) hc dX4_between_129 ?_
            refine J_lald (pc := 130) hc (by decide) dX4_between_130 (by first | with_reducible exact rfl | with_reducible exact nI_1 _ | with_reducible exact z16 _ _ | with_reducible exact zm1 (by omega) | assumption | exact rfl) (by omega) ?_
            refine J_aloadn_0 (pc := 131) hc dX4_between_131 ?_
            refine gX4_29 (pc := 132) hc dX4_between_132 ?_
            refine J_iloadn_1 (pc := 135) hc dX4_between_135 ?_
            refine J_lald (pc := 136) hc (by decide) dX4_between_136 (by first | with_reducible exact rfl | with_reducible exact nI_1 _ | with_reducible exact z16 _ _ | with_reducible exact zm1 (by omega) | assumption | exact rfl) (by omega) ?_
            refine J_lmul (pc := 137) hc dX4_between_137 ?_
            refine nX4_90 (pc := 138) hc dX4_between_138 ?_
            refine J_aloadn_0 (pc := 141) hc dX4_between_141 ?_
            refine gX4_25 (pc := 142) hc dX4_between_142 ?_
            refine J_iloadn_1 (pc := 145) hc dX4_between_145 ?_
            refine J_lald (pc := 146) hc (by decide) dX4_between_146 (by first | with_reducible exact rfl | with_reducible exact nI_1 _ | with_reducible exact z16 _ _ | with_reducible exact zm1 (by omega) | assumption | exact rfl) (by omega) ?_
            refine J_lmul (pc := 147) hc dX4_between_147 ?_
            refine J_aloadn_0 (pc := 148) hc dX4_between_148 ?_
            refine gX4_32 (pc := 149) hc dX4_between_149 ?_
            refine J_iloadn_1 (pc := 152) hc dX4_between_152 ?_
            refine J_lald (pc := 153) hc (by decide) dX4_between_153 (by first | with_reducible exact rfl | with_reducible exact nI_1 _ | with_reducible exact z16 _ _ | with_reducible exact zm1 (by omega) | assumption | exact rfl) (by omega) ?_
            refine J_lmul (pc := 154) hc dX4_between_154 ?_
            refine J_lsub (pc := 155) hc dX4_between_155 ?_
            refine J_naml (fun dd edd => ?_)
            have hdd : dd.toInt = zdq σ i := by rw [edd]; exact zdq_t h0 h1 h2
            refine J_lstore_6 (pc := 156) hc dX4_between_156 rfl ?_
            refine J_iload_5 (pc := 158) hc dX4_between_158 ?_
            refine J_if_eq (pc := 160) hc 183 dX4_between_160 (by decide) (fun bq160 => ?_) (fun bq160 => ?_)
            · skip
              refine J_iconst (pc := 183) hc dX4_between_183 (v := 0) (by decide) ?_
              refine J_goto (pc := 184) hc 199 dX4_between_184 (by decide) ?_
              exact J_iret (pc := 199) hc hI dX4_between_199 (by first | exact absurd bq24 bq35 | exact absurd bq160 (by decide) | exact absurd rfl bq160 | exact ⟨by rw [show zbti σ i k = 0 from (if_neg (fun h => bq35 h.1)).trans ((if_neg bq35).trans ((if_neg bq61).trans ((if_pos bq89).trans (if_neg (fun h => znl bq115 h.1)))))]; rfl, rfl⟩ | exact ⟨by rw [show zbti σ i k = 0 from (if_neg (fun h => bq35 h.1)).trans ((if_neg bq35).trans ((if_neg bq61).trans ((if_pos bq89).trans (if_neg (fun h => bq173 h.2.1)))))]; rfl, rfl⟩ | exact ⟨by rw [show zbti σ i k = 0 from (if_neg (fun h => bq35 h.1)).trans ((if_neg bq35).trans ((if_neg bq61).trans ((if_pos bq89).trans (if_neg (fun h => by rw [zl_le, hdd, z0L] at bq179; exact bq179 h.2.2)))))]; rfl, rfl⟩ | exact ⟨by rw [show zbti σ i k = 2 from (if_neg (fun h => bq35 h.1)).trans ((if_neg bq35).trans ((if_neg bq61).trans ((if_pos bq89).trans ((if_pos ⟨znge bq115, bq173, by rw [zl_le, hdd, z0L] at bq179; exact bq179⟩).trans (if_neg (fun q => bq190 (zl_eq.mpr (hdd.trans q))))))))]; rfl, rfl⟩ | exact ⟨by rw [show zbti σ i k = 1 from (if_neg (fun h => bq35 h.1)).trans ((if_neg bq35).trans ((if_neg bq61).trans ((if_pos bq89).trans ((if_pos ⟨znge bq115, bq173, by rw [zl_le, hdd, z0L] at bq179; exact bq179⟩).trans (if_pos (by rw [zl_eq, hdd, z0L] at bq190; exact bq190))))))]; rfl, rfl⟩)
            · skip
              refine J_iloadn_3 (pc := 163) hc dX4_between_163 ?_
              refine J_aloadn_0 (pc := 164) hc dX4_between_164 ?_
              refine gX4_32 (pc := 165) hc dX4_between_165 ?_
              refine J_iloadn_1 (pc := 168) hc dX4_between_168 ?_
              refine J_lald (pc := 169) hc (by decide) dX4_between_169 (by first | with_reducible exact rfl | with_reducible exact nI_1 _ | with_reducible exact z16 _ _ | with_reducible exact zm1 (by omega) | assumption | exact rfl) (by omega) ?_
              refine kX4_105 (pc := 170) hc hR dX4_between_170 (c_X4_sign) (by decide) (Nat.le_of_ble_eq_true rfl) rfl (fun r u hu => ?_)
              refine J_eq hu.2 (J_topi (y := zsgn (sm σ 2 i).toInt) (by rw [hu.1]; first | (rw [hr]; rfl) | rfl) ?_)
              refine J_icmp_ne (pc := 173) hc 183 dX4_between_173 (by decide) (fun bq173 => ?_) (fun bq173 => ?_)
              · skip
                refine J_iconst (pc := 183) hc dX4_between_183 (v := 0) (by decide) ?_
                refine J_goto (pc := 184) hc 199 dX4_between_184 (by decide) ?_
                exact J_iret (pc := 199) hc hI dX4_between_199 (by first | exact absurd bq24 bq35 | exact absurd bq160 (by decide) | exact absurd rfl bq160 | exact ⟨by rw [show zbti σ i k = 0 from (if_neg (fun h => bq35 h.1)).trans ((if_neg bq35).trans ((if_neg bq61).trans ((if_pos bq89).trans (if_neg (fun h => znl bq115 h.1)))))]; rfl, rfl⟩ | exact ⟨by rw [show zbti σ i k = 0 from (if_neg (fun h => bq35 h.1)).trans ((if_neg bq35).trans ((if_neg bq61).trans ((if_pos bq89).trans (if_neg (fun h => bq173 h.2.1)))))]; rfl, rfl⟩ | exact ⟨by rw [show zbti σ i k = 0 from (if_neg (fun h => bq35 h.1)).trans ((if_neg bq35).trans ((if_neg bq61).trans ((if_pos bq89).trans (if_neg (fun h => by rw [zl_le, hdd, z0L] at bq179; exact bq179 h.2.2)))))]; rfl, rfl⟩ | exact ⟨by rw [show zbti σ i k = 2 from (if_neg (fun h => bq35 h.1)).trans ((if_neg bq35).trans ((if_neg bq61).trans ((if_pos bq89).trans ((if_pos ⟨znge bq115, bq173, by rw [zl_le, hdd, z0L] at bq179; exact bq179⟩).trans (if_neg (fun q => bq190 (zl_eq.mpr (hdd.trans q))))))))]; rfl, rfl⟩ | exact ⟨by rw [show zbti σ i k = 1 from (if_neg (fun h => bq35 h.1)).trans ((if_neg bq35).trans ((if_neg bq61).trans ((if_pos bq89).trans ((if_pos ⟨znge bq115, bq173, by rw [zl_le, hdd, z0L] at bq179; exact bq179⟩).trans (if_pos (by rw [zl_eq, hdd, z0L] at bq190; exact bq190))))))]; rfl, rfl⟩)
              · skip
                refine J_lload_6 (pc := 176) hc dX4_between_176 ?_
                refine J_lconst (pc := 178) hc dX4_between_178 (v := 0) (by decide) ?_
                refine J_lcmp_ge (pc := 179) hc 187 dX4_between_179 dX4_between_180 (by decide) (fun bq179 => ?_) (fun bq179 => ?_)
                · skip
                  refine J_lload_6 (pc := 187) hc dX4_between_187 ?_
                  refine J_lconst (pc := 189) hc dX4_between_189 (v := 0) (by decide) ?_
                  refine J_lcmp_ne (pc := 190) hc 198 dX4_between_190 dX4_between_191 (by decide) (fun bq190 => ?_) (fun bq190 => ?_)
                  · skip
                    refine J_iconst (pc := 198) hc dX4_between_198 (v := 2) (by decide) ?_
                    exact J_iret (pc := 199) hc hI dX4_between_199 (by first | exact absurd bq24 bq35 | exact absurd bq160 (by decide) | exact absurd rfl bq160 | exact ⟨by rw [show zbti σ i k = 0 from (if_neg (fun h => bq35 h.1)).trans ((if_neg bq35).trans ((if_neg bq61).trans ((if_pos bq89).trans (if_neg (fun h => znl bq115 h.1)))))]; rfl, rfl⟩ | exact ⟨by rw [show zbti σ i k = 0 from (if_neg (fun h => bq35 h.1)).trans ((if_neg bq35).trans ((if_neg bq61).trans ((if_pos bq89).trans (if_neg (fun h => bq173 h.2.1)))))]; rfl, rfl⟩ | exact ⟨by rw [show zbti σ i k = 0 from (if_neg (fun h => bq35 h.1)).trans ((if_neg bq35).trans ((if_neg bq61).trans ((if_pos bq89).trans (if_neg (fun h => by rw [zl_le, hdd, z0L] at bq179; exact bq179 h.2.2)))))]; rfl, rfl⟩ | exact ⟨by rw [show zbti σ i k = 2 from (if_neg (fun h => bq35 h.1)).trans ((if_neg bq35).trans ((if_neg bq61).trans ((if_pos bq89).trans ((if_pos ⟨znge bq115, bq173, by rw [zl_le, hdd, z0L] at bq179; exact bq179⟩).trans (if_neg (fun q => bq190 (zl_eq.mpr (hdd.trans q))))))))]; rfl, rfl⟩ | exact ⟨by rw [show zbti σ i k = 1 from (if_neg (fun h => bq35 h.1)).trans ((if_neg bq35).trans ((if_neg bq61).trans ((if_pos bq89).trans ((if_pos ⟨znge bq115, bq173, by rw [zl_le, hdd, z0L] at bq179; exact bq179⟩).trans (if_pos (by rw [zl_eq, hdd, z0L] at bq190; exact bq190))))))]; rfl, rfl⟩)
                  · skip
                    refine J_iconst (pc := 194) hc dX4_between_194 (v := 1) (by decide) ?_
                    refine J_goto (pc := 195) hc 199 dX4_between_195 (by decide) ?_
                    exact J_iret (pc := 199) hc hI dX4_between_199 (by first | exact absurd bq24 bq35 | exact absurd bq160 (by decide) | exact absurd rfl bq160 | exact ⟨by rw [show zbti σ i k = 0 from (if_neg (fun h => bq35 h.1)).trans ((if_neg bq35).trans ((if_neg bq61).trans ((if_pos bq89).trans (if_neg (fun h => znl bq115 h.1)))))]; rfl, rfl⟩ | exact ⟨by rw [show zbti σ i k = 0 from (if_neg (fun h => bq35 h.1)).trans ((if_neg bq35).trans ((if_neg bq61).trans ((if_pos bq89).trans (if_neg (fun h => bq173 h.2.1)))))]; rfl, rfl⟩ | exact ⟨by rw [show zbti σ i k = 0 from (if_neg (fun h => bq35 h.1)).trans ((if_neg bq35).trans ((if_neg bq61).trans ((if_pos bq89).trans (if_neg (fun h => by rw [zl_le, hdd, z0L] at bq179; exact bq179 h.2.2)))))]; rfl, rfl⟩ | exact ⟨by rw [show zbti σ i k = 2 from (if_neg (fun h => bq35 h.1)).trans ((if_neg bq35).trans ((if_neg bq61).trans ((if_pos bq89).trans ((if_pos ⟨znge bq115, bq173, by rw [zl_le, hdd, z0L] at bq179; exact bq179⟩).trans (if_neg (fun q => bq190 (zl_eq.mpr (hdd.trans q))))))))]; rfl, rfl⟩ | exact ⟨by rw [show zbti σ i k = 1 from (if_neg (fun h => bq35 h.1)).trans ((if_neg bq35).trans ((if_neg bq61).trans ((if_pos bq89).trans ((if_pos ⟨znge bq115, bq173, by rw [zl_le, hdd, z0L] at bq179; exact bq179⟩).trans (if_pos (by rw [zl_eq, hdd, z0L] at bq190; exact bq190))))))]; rfl, rfl⟩)
                · skip
                  refine J_iconst (pc := 183) hc dX4_between_183 (v := 0) (by decide) ?_
                  refine J_goto (pc := 184) hc 199 dX4_between_184 (by decide) ?_
                  exact J_iret (pc := 199) hc hI dX4_between_199 (by first | exact absurd bq24 bq35 | exact absurd bq160 (by decide) | exact absurd rfl bq160 | exact ⟨by rw [show zbti σ i k = 0 from (if_neg (fun h => bq35 h.1)).trans ((if_neg bq35).trans ((if_neg bq61).trans ((if_pos bq89).trans (if_neg (fun h => znl bq115 h.1)))))]; rfl, rfl⟩ | exact ⟨by rw [show zbti σ i k = 0 from (if_neg (fun h => bq35 h.1)).trans ((if_neg bq35).trans ((if_neg bq61).trans ((if_pos bq89).trans (if_neg (fun h => bq173 h.2.1)))))]; rfl, rfl⟩ | exact ⟨by rw [show zbti σ i k = 0 from (if_neg (fun h => bq35 h.1)).trans ((if_neg bq35).trans ((if_neg bq61).trans ((if_pos bq89).trans (if_neg (fun h => by rw [zl_le, hdd, z0L] at bq179; exact bq179 h.2.2)))))]; rfl, rfl⟩ | exact ⟨by rw [show zbti σ i k = 2 from (if_neg (fun h => bq35 h.1)).trans ((if_neg bq35).trans ((if_neg bq61).trans ((if_pos bq89).trans ((if_pos ⟨znge bq115, bq173, by rw [zl_le, hdd, z0L] at bq179; exact bq179⟩).trans (if_neg (fun q => bq190 (zl_eq.mpr (hdd.trans q))))))))]; rfl, rfl⟩ | exact ⟨by rw [show zbti σ i k = 1 from (if_neg (fun h => bq35 h.1)).trans ((if_neg bq35).trans ((if_neg bq61).trans ((if_pos bq89).trans ((if_pos ⟨znge bq115, bq173, by rw [zl_le, hdd, z0L] at bq179; exact bq179⟩).trans (if_pos (by rw [zl_eq, hdd, z0L] at bq190; exact bq190))))))]; rfl, rfl⟩)
          · skip
            refine J_iconst (pc := 118) hc dX4_between_118 (v := 1) (by decide) ?_
            refine J_goto (pc := 119) hc 123 dX4_between_119 (by decide) ?_
            refine J_istore_5 (pc := 123) hc dX4_between_123 rfl ?_
            refine J_aloadn_0 (pc := 125) hc dX4_between_125 ?_
            refine gX4_29 (pc := 126) hc dX4_between_126 ?_
            refine J_iloadn_1 (pc := 129) hc dX4_between_129 ?_
            refine J_lald (pc := 130) hc (by decide) dX4_between_130 (by first | with_reducible exact rfl | with_reducible exact nI_1 _ | with_reducible exact z16 _ _ | with_reducible exact zm1 (by omega) | assumption | exact rfl) (by omega) ?_
            refine J_aloadn_0 (pc := 131) hc dX4_between_131 ?_
            refine gX4_29 (pc := 132) hc dX4_between_132 ?_
            refine J_iloadn_1 (pc := 135) hc dX4_between_135 ?_
            refine J_lald (pc := 136) hc (by decide) dX4_between_136 (by first | with_reducible exact rfl | with_reducible exact nI_1 _ | with_reducible exact z16 _ _ | with_reducible exact zm1 (by omega) | assumption | exact rfl) (by omega) ?_
            refine J_lmul (pc := 137) hc dX4_between_137 ?_
            refine nX4_90 (pc := 138) hc dX4_between_138 ?_
            refine J_aloadn_0 (pc := 141) hc dX4_between_141 ?_
            refine gX4_25 (pc := 142) hc dX4_between_142 ?_
            refine J_iloadn_1 (pc := 145) hc dX4_between_145 ?_
            refine J_lald (pc := 146) hc (by decide) dX4_between_146 (by first | with_reducible exact rfl | with_reducible exact nI_1 _ | with_reducible exact z16 _ _ | with_reducible exact zm1 (by omega) | assumption | exact rfl) (by omega) ?_
            refine J_lmul (pc := 147) hc dX4_between_147 ?_
            refine J_aloadn_0 (pc := 148) hc dX4_between_148 ?_
            refine gX4_32 (pc := 149) hc dX4_between_149 ?_
            refine J_iloadn_1 (pc := 152) hc dX4_between_152 ?_
            refine J_lald (pc := 153) hc (by decide) dX4_between_153 (by first | with_reducible exact rfl | with_reducible exact nI_1 _ | with_reducible exact z16 _ _ | with_reducible exact zm1 (by omega) | assumption | exact rfl) (by omega) ?_
            refine J_lmul (pc := 154) hc dX4_between_154 ?_
            refine J_lsub (pc := 155) hc dX4_between_155 ?_
            refine J_naml (fun dd edd => ?_)
            have hdd : dd.toInt = zdq σ i := by rw [edd]; exact zdq_t h0 h1 h2
            refine J_lstore_6 (pc := 156) hc dX4_between_156 rfl ?_
            refine J_iload_5 (pc := 158) hc dX4_between_158 ?_
            refine J_if_eq (pc := 160) hc 183 dX4_between_160 (by decide) (fun bq160 => ?_) (fun bq160 => ?_)
            · skip
              refine J_iconst (pc := 183) hc dX4_between_183 (v := 0) (by decide) ?_
              refine J_goto (pc := 184) hc 199 dX4_between_184 (by decide) ?_
              exact J_iret (pc := 199) hc hI dX4_between_199 (by first | exact absurd bq24 bq35 | exact absurd bq160 (by decide) | exact absurd rfl bq160 | exact ⟨by rw [show zbti σ i k = 0 from (if_neg (fun h => bq35 h.1)).trans ((if_neg bq35).trans ((if_neg bq61).trans ((if_pos bq89).trans (if_neg (fun h => znl bq115 h.1)))))]; rfl, rfl⟩ | exact ⟨by rw [show zbti σ i k = 0 from (if_neg (fun h => bq35 h.1)).trans ((if_neg bq35).trans ((if_neg bq61).trans ((if_pos bq89).trans (if_neg (fun h => bq173 h.2.1)))))]; rfl, rfl⟩ | exact ⟨by rw [show zbti σ i k = 0 from (if_neg (fun h => bq35 h.1)).trans ((if_neg bq35).trans ((if_neg bq61).trans ((if_pos bq89).trans (if_neg (fun h => by rw [zl_le, hdd, z0L] at bq179; exact bq179 h.2.2)))))]; rfl, rfl⟩ | exact ⟨by rw [show zbti σ i k = 2 from (if_neg (fun h => bq35 h.1)).trans ((if_neg bq35).trans ((if_neg bq61).trans ((if_pos bq89).trans ((if_pos ⟨znge bq115, bq173, by rw [zl_le, hdd, z0L] at bq179; exact bq179⟩).trans (if_neg (fun q => bq190 (zl_eq.mpr (hdd.trans q))))))))]; rfl, rfl⟩ | exact ⟨by rw [show zbti σ i k = 1 from (if_neg (fun h => bq35 h.1)).trans ((if_neg bq35).trans ((if_neg bq61).trans ((if_pos bq89).trans ((if_pos ⟨znge bq115, bq173, by rw [zl_le, hdd, z0L] at bq179; exact bq179⟩).trans (if_pos (by rw [zl_eq, hdd, z0L] at bq190; exact bq190))))))]; rfl, rfl⟩)
            · skip
              refine J_iloadn_3 (pc := 163) hc dX4_between_163 ?_
              refine J_aloadn_0 (pc := 164) hc dX4_between_164 ?_
              refine gX4_32 (pc := 165) hc dX4_between_165 ?_
              refine J_iloadn_1 (pc := 168) hc dX4_between_168 ?_
              refine J_lald (pc := 169) hc (by decide) dX4_between_169 (by first | with_reducible exact rfl | with_reducible exact nI_1 _ | with_reducible exact z16 _ _ | with_reducible exact zm1 (by omega) | assumption | exact rfl) (by omega) ?_
              refine kX4_105 (pc := 170) hc hR dX4_between_170 (c_X4_sign) (by decide) (Nat.le_of_ble_eq_true rfl) rfl (fun r u hu => ?_)
              refine J_eq hu.2 (J_topi (y := zsgn (sm σ 2 i).toInt) (by rw [hu.1]; first | (rw [hr]; rfl) | rfl) ?_)
              refine J_icmp_ne (pc := 173) hc 183 dX4_between_173 (by decide) (fun bq173 => ?_) (fun bq173 => ?_)
              · skip
                refine J_iconst (pc := 183) hc dX4_between_183 (v := 0) (by decide) ?_
                refine J_goto (pc := 184) hc 199 dX4_between_184 (by decide) ?_
                exact J_iret (pc := 199) hc hI dX4_between_199 (by first | exact absurd bq24 bq35 | exact absurd bq160 (by decide) | exact absurd rfl bq160 | exact ⟨by rw [show zbti σ i k = 0 from (if_neg (fun h => bq35 h.1)).trans ((if_neg bq35).trans ((if_neg bq61).trans ((if_pos bq89).trans (if_neg (fun h => znl bq115 h.1)))))]; rfl, rfl⟩ | exact ⟨by rw [show zbti σ i k = 0 from (if_neg (fun h => bq35 h.1)).trans ((if_neg bq35).trans ((if_neg bq61).trans ((if_pos bq89).trans (if_neg (fun h => bq173 h.2.1)))))]; rfl, rfl⟩ | exact ⟨by rw [show zbti σ i k = 0 from (if_neg (fun h => bq35 h.1)).trans ((if_neg bq35).trans ((if_neg bq61).trans ((if_pos bq89).trans (if_neg (fun h => by rw [zl_le, hdd, z0L] at bq179; exact bq179 h.2.2)))))]; rfl, rfl⟩ | exact ⟨by rw [show zbti σ i k = 2 from (if_neg (fun h => bq35 h.1)).trans ((if_neg bq35).trans ((if_neg bq61).trans ((if_pos bq89).trans ((if_pos ⟨znge bq115, bq173, by rw [zl_le, hdd, z0L] at bq179; exact bq179⟩).trans (if_neg (fun q => bq190 (zl_eq.mpr (hdd.trans q))))))))]; rfl, rfl⟩ | exact ⟨by rw [show zbti σ i k = 1 from (if_neg (fun h => bq35 h.1)).trans ((if_neg bq35).trans ((if_neg bq61).trans ((if_pos bq89).trans ((if_pos ⟨znge bq115, bq173, by rw [zl_le, hdd, z0L] at bq179; exact bq179⟩).trans (if_pos (by rw [zl_eq, hdd, z0L] at bq190; exact bq190))))))]; rfl, rfl⟩)
              · skip
                refine J_lload_6 (pc := 176) hc dX4_between_176 ?_
                refine J_lconst (pc := 178) hc dX4_between_178 (v := 0) (by decide) ?_
                refine J_lcmp_ge (pc := 179) hc 187 dX4_between_179 dX4_between_180 (by decide) (fun bq179 => ?_) (fun bq179 => ?_)
                · skip
                  refine J_lload_6 (pc := 187) hc dX4_between_187 ?_
                  refine J_lconst (pc := 189) hc dX4_between_189 (v := 0) (by decide) ?_
                  refine J_lcmp_ne (pc := 190) hc 198 dX4_between_190 dX4_between_191 (by decide) (fun bq190 => ?_) (fun bq190 => ?_)
                  · skip
                    refine J_iconst (pc := 198) hc dX4_between_198 (v := 2) (by decide) ?_
                    exact J_iret (pc := 199) hc hI dX4_between_199 (by first | exact absurd bq24 bq35 | exact absurd bq160 (by decide) | exact absurd rfl bq160 | exact ⟨by rw [show zbti σ i k = 0 from (if_neg (fun h => bq35 h.1)).trans ((if_neg bq35).trans ((if_neg bq61).trans ((if_pos bq89).trans (if_neg (fun h => znl bq115 h.1)))))]; rfl, rfl⟩ | exact ⟨by rw [show zbti σ i k = 0 from (if_neg (fun h => bq35 h.1)).trans ((if_neg bq35).trans ((if_neg bq61).trans ((if_pos bq89).trans (if_neg (fun h => bq173 h.2.1)))))]; rfl, rfl⟩ | exact ⟨by rw [show zbti σ i k = 0 from (if_neg (fun h => bq35 h.1)).trans ((if_neg bq35).trans ((if_neg bq61).trans ((if_pos bq89).trans (if_neg (fun h => by rw [zl_le, hdd, z0L] at bq179; exact bq179 h.2.2)))))]; rfl, rfl⟩ | exact ⟨by rw [show zbti σ i k = 2 from (if_neg (fun h => bq35 h.1)).trans ((if_neg bq35).trans ((if_neg bq61).trans ((if_pos bq89).trans ((if_pos ⟨znge bq115, bq173, by rw [zl_le, hdd, z0L] at bq179; exact bq179⟩).trans (if_neg (fun q => bq190 (zl_eq.mpr (hdd.trans q))))))))]; rfl, rfl⟩ | exact ⟨by rw [show zbti σ i k = 1 from (if_neg (fun h => bq35 h.1)).trans ((if_neg bq35).trans ((if_neg bq61).trans ((if_pos bq89).trans ((if_pos ⟨znge bq115, bq173, by rw [zl_le, hdd, z0L] at bq179; exact bq179⟩).trans (if_pos (by rw [zl_eq, hdd, z0L] at bq190; exact bq190))))))]; rfl, rfl⟩)
                  · skip
                    refine J_iconst (pc := 194) hc dX4_between_194 (v := 1) (by decide) ?_
                    refine J_goto (pc := 195) hc 199 dX4_between_195 (by decide) ?_
                    exact J_iret (pc := 199) hc hI dX4_between_199 (by first | exact absurd bq24 bq35 | exact absurd bq160 (by decide) | exact absurd rfl bq160 | exact ⟨by rw [show zbti σ i k = 0 from (if_neg (fun h => bq35 h.1)).trans ((if_neg bq35).trans ((if_neg bq61).trans ((if_pos bq89).trans (if_neg (fun h => znl bq115 h.1)))))]; rfl, rfl⟩ | exact ⟨by rw [show zbti σ i k = 0 from (if_neg (fun h => bq35 h.1)).trans ((if_neg bq35).trans ((if_neg bq61).trans ((if_pos bq89).trans (if_neg (fun h => bq173 h.2.1)))))]; rfl, rfl⟩ | exact ⟨by rw [show zbti σ i k = 0 from (if_neg (fun h => bq35 h.1)).trans ((if_neg bq35).trans ((if_neg bq61).trans ((if_pos bq89).trans (if_neg (fun h => by rw [zl_le, hdd, z0L] at bq179; exact bq179 h.2.2)))))]; rfl, rfl⟩ | exact ⟨by rw [show zbti σ i k = 2 from (if_neg (fun h => bq35 h.1)).trans ((if_neg bq35).trans ((if_neg bq61).trans ((if_pos bq89).trans ((if_pos ⟨znge bq115, bq173, by rw [zl_le, hdd, z0L] at bq179; exact bq179⟩).trans (if_neg (fun q => bq190 (zl_eq.mpr (hdd.trans q))))))))]; rfl, rfl⟩ | exact ⟨by rw [show zbti σ i k = 1 from (if_neg (fun h => bq35 h.1)).trans ((if_neg bq35).trans ((if_neg bq61).trans ((if_pos bq89).trans ((if_pos ⟨znge bq115, bq173, by rw [zl_le, hdd, z0L] at bq179; exact bq179⟩).trans (if_pos (by rw [zl_eq, hdd, z0L] at bq190; exact bq190))))))]; rfl, rfl⟩)
                · skip
                  refine J_iconst (pc := 183) hc dX4_between_183 (v := 0) (by decide) ?_
                  refine J_goto (pc := 184) hc 199 dX4_between_184 (by decide) ?_
                  exact J_iret (pc := 199) hc hI dX4_between_199 (by first | exact absurd bq24 bq35 | exact absurd bq160 (by decide) | exact absurd rfl bq160 | exact ⟨by rw [show zbti σ i k = 0 from (if_neg (fun h => bq35 h.1)).trans ((if_neg bq35).trans ((if_neg bq61).trans ((if_pos bq89).trans (if_neg (fun h => znl bq115 h.1)))))]; rfl, rfl⟩ | exact ⟨by rw [show zbti σ i k = 0 from (if_neg (fun h => bq35 h.1)).trans ((if_neg bq35).trans ((if_neg bq61).trans ((if_pos bq89).trans (if_neg (fun h => bq173 h.2.1)))))]; rfl, rfl⟩ | exact ⟨by rw [show zbti σ i k = 0 from (if_neg (fun h => bq35 h.1)).trans ((if_neg bq35).trans ((if_neg bq61).trans ((if_pos bq89).trans (if_neg (fun h => by rw [zl_le, hdd, z0L] at bq179; exact bq179 h.2.2)))))]; rfl, rfl⟩ | exact ⟨by rw [show zbti σ i k = 2 from (if_neg (fun h => bq35 h.1)).trans ((if_neg bq35).trans ((if_neg bq61).trans ((if_pos bq89).trans ((if_pos ⟨znge bq115, bq173, by rw [zl_le, hdd, z0L] at bq179; exact bq179⟩).trans (if_neg (fun q => bq190 (zl_eq.mpr (hdd.trans q))))))))]; rfl, rfl⟩ | exact ⟨by rw [show zbti σ i k = 1 from (if_neg (fun h => bq35 h.1)).trans ((if_neg bq35).trans ((if_neg bq61).trans ((if_pos bq89).trans ((if_pos ⟨znge bq115, bq173, by rw [zl_le, hdd, z0L] at bq179; exact bq179⟩).trans (if_pos (by rw [zl_eq, hdd, z0L] at bq190; exact bq190))))))]; rfl, rfl⟩)
        · skip
          refine J_iconst (pc := 92) hc dX4_between_92 (v := 1) (by decide) ?_
          exact J_iret (pc := 93) hc hI dX4_between_93 (by first | exact absurd bq24 bq35 | exact ⟨by rw [show zbti σ i k = 1 from (if_neg (fun h => bq35 h.1)).trans ((if_neg bq35).trans ((if_neg bq61).trans (if_neg bq89)))]; rfl, rfl⟩)
      · skip
        refine J_aloadn_0 (pc := 64) hc dX4_between_64 ?_
        refine J_iloadn_1 (pc := 65) hc dX4_between_65 ?_
        refine J_iloadn_2 (pc := 66) hc dX4_between_66 ?_
        refine J_iconst (pc := 67) hc dX4_between_67 (v := 1) (by decide) ?_
        refine J_iadd (pc := 68) hc dX4_between_68 ?_
        refine kX4_109 (pc := 69) hc hR dX4_between_69 (c_X4_slopeAt (k := k + 1) rfl (nI_1 k) (by omega) (by omega) h1 h2) (by decide) (Nat.le_of_ble_eq_true rfl) rfl (fun r u hu => ?_)
        have hr := hu.1
        refine J_eq hu.2 ?_
        refine kX4_105 (pc := 72) hc hR dX4_between_72 (c_X4_sign) (by decide) (Nat.le_of_ble_eq_true rfl) rfl (fun r u hu => ?_)
        refine J_eq hu.2 (J_topi (y := zsgn (zSt σ i (k + 1))) (by rw [hu.1]; first | (rw [hr]; rfl) | rfl) ?_)
        refine J_iloadn_3 (pc := 75) hc dX4_between_75 ?_
        refine J_imul (pc := 76) hc dX4_between_76 ?_
        refine J_if_le (pc := 77) hc 84 dX4_between_77 (by decide) (fun bq77 => ?_) (fun bq77 => ?_)
        · skip
          refine J_iconst (pc := 84) hc dX4_between_84 (v := 0) (by decide) ?_
          exact J_iret (pc := 85) hc hI dX4_between_85 (by first | exact absurd bq61 bq29 | exact absurd bq24 bq35 | exact ⟨by rw [show zbti σ i k = 0 from (if_neg (fun h => bq35 h.1)).trans ((if_neg bq35).trans ((if_pos bq61).trans (if_neg (znlI bq77))))]; rfl, rfl⟩ | exact ⟨by rw [show zbti σ i k = 1 from (if_neg (fun h => bq35 h.1)).trans ((if_neg bq35).trans ((if_pos bq61).trans (if_pos (zngI bq77))))]; rfl, rfl⟩)
        · skip
          refine J_iconst (pc := 80) hc dX4_between_80 (v := 1) (by decide) ?_
          refine J_goto (pc := 81) hc 85 dX4_between_81 (by decide) ?_
          exact J_iret (pc := 85) hc hI dX4_between_85 (by first | exact absurd bq61 bq29 | exact absurd bq24 bq35 | exact ⟨by rw [show zbti σ i k = 0 from (if_neg (fun h => bq35 h.1)).trans ((if_neg bq35).trans ((if_pos bq61).trans (if_neg (znlI bq77))))]; rfl, rfl⟩ | exact ⟨by rw [show zbti σ i k = 1 from (if_neg (fun h => bq35 h.1)).trans ((if_neg bq35).trans ((if_pos bq61).trans (if_pos (zngI bq77))))]; rfl, rfl⟩)
    · skip
      refine J_aloadn_0 (pc := 38) hc dX4_between_38 ?_
      refine J_iloadn_1 (pc := 39) hc dX4_between_39 ?_
      refine J_iloadn_2 (pc := 40) hc dX4_between_40 ?_
      refine kX4_109 (pc := 41) hc hR dX4_between_41 (c_X4_slopeAt rfl rfl (by omega) (by omega) h1 h2) (by decide) (Nat.le_of_ble_eq_true rfl) rfl (fun r u hu => ?_)
      have hr := hu.1
      refine J_eq hu.2 ?_
      refine kX4_105 (pc := 44) hc hR dX4_between_44 (c_X4_sign) (by decide) (Nat.le_of_ble_eq_true rfl) rfl (fun r u hu => ?_)
      refine J_eq hu.2 (J_topi (y := zsgn (zSt σ i k)) (by rw [hu.1]; first | (rw [hr]; rfl) | rfl) ?_)
      refine J_iload_4 (pc := 47) hc dX4_between_47 ?_
      refine J_imul (pc := 49) hc dX4_between_49 ?_
      refine J_if_ge (pc := 50) hc 57 dX4_between_50 (by decide) (fun bq50 => ?_) (fun bq50 => ?_)
      · skip
        refine J_iconst (pc := 57) hc dX4_between_57 (v := 0) (by decide) ?_
        exact J_iret (pc := 58) hc hI dX4_between_58 (by first | exact absurd bq35 bq24 | exact ⟨by rw [show zbti σ i k = 0 from (if_neg (fun h => bq29 h.2)).trans ((if_pos bq35).trans (if_neg (znl bq50)))]; rfl, rfl⟩ | exact ⟨by rw [show zbti σ i k = 1 from (if_neg (fun h => bq29 h.2)).trans ((if_pos bq35).trans (if_pos (znge bq50)))]; rfl, rfl⟩)
      · skip
        refine J_iconst (pc := 53) hc dX4_between_53 (v := 1) (by decide) ?_
        refine J_goto (pc := 54) hc 58 dX4_between_54 (by decide) ?_
        exact J_iret (pc := 58) hc hI dX4_between_58 (by first | exact absurd bq35 bq24 | exact ⟨by rw [show zbti σ i k = 0 from (if_neg (fun h => bq29 h.2)).trans ((if_pos bq35).trans (if_neg (znl bq50)))]; rfl, rfl⟩ | exact ⟨by rw [show zbti σ i k = 1 from (if_neg (fun h => bq29 h.2)).trans ((if_pos bq35).trans (if_pos (znge bq50)))]; rfl, rfl⟩)
  · skip
    refine J_iload_4 (pc := 27) hc dX4_between_27 ?_
    refine J_if_ne (pc := 29) hc 34 dX4_between_29 (by decide) (fun bq29 => ?_) (fun bq29 => ?_)
    · skip
      refine J_iloadn_3 (pc := 34) hc dX4_between_34 ?_
      refine J_if_ne (pc := 35) hc 59 dX4_between_35 (by decide) (fun bq35 => ?_) (fun bq35 => ?_)
      · skip
        refine J_iload_4 (pc := 59) hc dX4_between_59 ?_
        refine J_if_ne (pc := 61) hc 86 dX4_between_61 (by decide) (fun bq61 => ?_) (fun bq61 => ?_)
        · skip
          refine J_iloadn_3 (pc := 86) hc dX4_between_86 ?_
          refine J_iload_4 (pc := 87) hc dX4_between_87 ?_
          refine J_icmp_eq (pc := 89) hc 94 dX4_between_89 (by decide) (fun bq89 => ?_) (fun bq89 => ?_)
          · skip
            refine J_aloadn_0 (pc := 94) hc dX4_between_94 ?_
            refine J_iloadn_1 (pc := 95) hc dX4_between_95 ?_
            refine J_iloadn_2 (pc := 96) hc dX4_between_96 ?_
            refine kX4_109 (pc := 97) hc hR dX4_between_97 (c_X4_slopeAt rfl rfl (by omega) (by omega) h1 h2) (by decide) (Nat.le_of_ble_eq_true rfl) rfl (fun r u hu => ?_)
            have hr := hu.1
            refine J_eq hu.2 ?_
            refine kX4_105 (pc := 100) hc hR dX4_between_100 (c_X4_sign) (by decide) (Nat.le_of_ble_eq_true rfl) rfl (fun r u hu => ?_)
            refine J_eq hu.2 (J_topi (y := zsgn (zSt σ i k)) (by rw [hu.1]; first | (rw [hr]; rfl) | rfl) ?_)
            refine J_aloadn_0 (pc := 103) hc dX4_between_103 ?_
            refine J_iloadn_1 (pc := 104) hc dX4_between_104 ?_
            refine J_iloadn_2 (pc := 105) hc dX4_between_105 ?_
            refine J_iconst (pc := 106) hc dX4_between_106 (v := 1) (by decide) ?_
            refine J_iadd (pc := 107) hc dX4_between_107 ?_
            refine kX4_109 (pc := 108) hc hR dX4_between_108 (c_X4_slopeAt (k := k + 1) rfl (nI_1 k) (by omega) (by omega) h1 h2) (by decide) (Nat.le_of_ble_eq_true rfl) rfl (fun r u hu => ?_)
            have hr := hu.1
            refine J_eq hu.2 ?_
            refine kX4_105 (pc := 111) hc hR dX4_between_111 (c_X4_sign) (by decide) (Nat.le_of_ble_eq_true rfl) rfl (fun r u hu => ?_)
            refine J_eq hu.2 (J_topi (y := zsgn (zSt σ i (k + 1))) (by rw [hu.1]; first | (rw [hr]; rfl) | rfl) ?_)
            refine J_imul (pc := 114) hc dX4_between_114 ?_
            refine J_if_ge (pc := 115) hc 122 dX4_between_115 (by decide) (fun bq115 => ?_) (fun bq115 => ?_)
            · skip
              refine J_iconst (pc := 122) hc dX4_between_122 (v := 0) (by decide) ?_
              refine J_istore_5 (pc := 123) hc dX4_between_123 rfl ?_
              refine J_aloadn_0 (pc := 125) hc dX4_between_125 ?_
              refine gX4_29 (pc := 126) hc dX4_between_126 ?_
              refine J_iloadn_1 (pc := 129) hc dX4_between_129 ?_
              refine J_lald (pc := 130) hc (by decide) dX4_between_130 (by first | with_reducible exact rfl | with_reducible exact nI_1 _ | with_reducible exact z16 _ _ | with_reducible exact zm1 (by omega) | assumption | exact rfl) (by omega) ?_
              refine J_aloadn_0 (pc := 131) hc dX4_between_131 ?_
              refine gX4_29 (pc := 132) hc dX4_between_132 ?_
              refine J_iloadn_1 (pc := 135) hc dX4_between_135 ?_
              refine J_lald (pc := 136) hc (by decide) dX4_between_136 (by first | with_reducible exact rfl | with_reducible exact nI_1 _ | with_reducible exact z16 _ _ | with_reducible exact zm1 (by omega) | assumption | exact rfl) (by omega) ?_
              refine J_lmul (pc := 137) hc dX4_between_137 ?_
              refine nX4_90 (pc := 138) hc dX4_between_138 ?_
              refine J_aloadn_0 (pc := 141) hc dX4_between_141 ?_
              refine gX4_25 (pc := 142) hc dX4_between_142 ?_
              refine J_iloadn_1 (pc := 145) hc dX4_between_145 ?_
              refine J_lald (pc := 146) hc (by decide) dX4_between_146 (by first | with_reducible exact rfl | with_reducible exact nI_1 _ | with_reducible exact z16 _ _ | with_reducible exact zm1 (by omega) | assumption | exact rfl) (by omega) ?_
              refine J_lmul (pc := 147) hc dX4_between_147 ?_
              refine J_aloadn_0 (pc := 148) hc dX4_between_148 ?_
              refine gX4_32 (pc := 149) hc dX4_between_149 ?_
              refine J_iloadn_1 (pc := 152) hc dX4_between_152 ?_
              refine J_lald (pc := 153) hc (by decide) dX4_between_153 (by first | with_reducible exact rfl | with_reducible exact nI_1 _ | with_reducible exact z16 _ _ | with_reducible exact zm1 (by omega) | assumption | exact rfl) (by omega) ?_
              refine J_lmul (pc := 154) hc dX4_between_154 ?_
              refine J_lsub (pc := 155) hc dX4_between_155 ?_
              refine J_naml (fun dd edd => ?_)
              have hdd : dd.toInt = zdq σ i := by rw [edd]; exact zdq_t h0 h1 h2
              refine J_lstore_6 (pc := 156) hc dX4_between_156 rfl ?_
              refine J_iload_5 (pc := 158) hc dX4_between_158 ?_
              refine J_if_eq (pc := 160) hc 183 dX4_between_160 (by decide) (fun bq160 => ?_) (fun bq160 => ?_)
              · skip
                refine J_iconst (pc := 183) hc dX4_between_183 (v := 0) (by decide) ?_
                refine J_goto (pc := 184) hc 199 dX4_between_184 (by decide) ?_
                exact J_iret (pc := 199) hc hI dX4_between_199 (by first | exact absurd bq24 bq35 | exact absurd bq160 (by decide) | exact absurd rfl bq160 | exact ⟨by rw [show zbti σ i k = 0 from (if_neg (fun h => bq35 h.1)).trans ((if_neg bq35).trans ((if_neg bq61).trans ((if_pos bq89).trans (if_neg (fun h => znl bq115 h.1)))))]; rfl, rfl⟩ | exact ⟨by rw [show zbti σ i k = 0 from (if_neg (fun h => bq35 h.1)).trans ((if_neg bq35).trans ((if_neg bq61).trans ((if_pos bq89).trans (if_neg (fun h => bq173 h.2.1)))))]; rfl, rfl⟩ | exact ⟨by rw [show zbti σ i k = 0 from (if_neg (fun h => bq35 h.1)).trans ((if_neg bq35).trans ((if_neg bq61).trans ((if_pos bq89).trans (if_neg (fun h => by rw [zl_le, hdd, z0L] at bq179; exact bq179 h.2.2)))))]; rfl, rfl⟩ | exact ⟨by rw [show zbti σ i k = 2 from (if_neg (fun h => bq35 h.1)).trans ((if_neg bq35).trans ((if_neg bq61).trans ((if_pos bq89).trans ((if_pos ⟨znge bq115, bq173, by rw [zl_le, hdd, z0L] at bq179; exact bq179⟩).trans (if_neg (fun q => bq190 (zl_eq.mpr (hdd.trans q))))))))]; rfl, rfl⟩ | exact ⟨by rw [show zbti σ i k = 1 from (if_neg (fun h => bq35 h.1)).trans ((if_neg bq35).trans ((if_neg bq61).trans ((if_pos bq89).trans ((if_pos ⟨znge bq115, bq173, by rw [zl_le, hdd, z0L] at bq179; exact bq179⟩).trans (if_pos (by rw [zl_eq, hdd, z0L] at bq190; exact bq190))))))]; rfl, rfl⟩)
              · skip
                refine J_iloadn_3 (pc := 163) hc dX4_between_163 ?_
                refine J_aloadn_0 (pc := 164) hc dX4_between_164 ?_
                refine gX4_32 (pc := 165) hc dX4_between_165 ?_
                refine J_iloadn_1 (pc := 168) hc dX4_between_168 ?_
                refine J_lald (pc := 169) hc (by decide) dX4_between_169 (by first | with_reducible exact rfl | with_reducible exact nI_1 _ | with_reducible exact z16 _ _ | with_reducible exact zm1 (by omega) | assumption | exact rfl) (by omega) ?_
                refine kX4_105 (pc := 170) hc hR dX4_between_170 (c_X4_sign) (by decide) (Nat.le_of_ble_eq_true rfl) rfl (fun r u hu => ?_)
                refine J_eq hu.2 (J_topi (y := zsgn (sm σ 2 i).toInt) (by rw [hu.1]; first | (rw [hr]; rfl) | rfl) ?_)
                refine J_icmp_ne (pc := 173) hc 183 dX4_between_173 (by decide) (fun bq173 => ?_) (fun bq173 => ?_)
                · skip
                  refine J_iconst (pc := 183) hc dX4_between_183 (v := 0) (by decide) ?_
                  refine J_goto (pc := 184) hc 199 dX4_between_184 (by decide) ?_
                  exact J_iret (pc := 199) hc hI dX4_between_199 (by first | exact absurd bq24 bq35 | exact absurd bq160 (by decide) | exact absurd rfl bq160 | exact ⟨by rw [show zbti σ i k = 0 from (if_neg (fun h => bq35 h.1)).trans ((if_neg bq35).trans ((if_neg bq61).trans ((if_pos bq89).trans (if_neg (fun h => znl bq115 h.1)))))]; rfl, rfl⟩ | exact ⟨by rw [show zbti σ i k = 0 from (if_neg (fun h => bq35 h.1)).trans ((if_neg bq35).trans ((if_neg bq61).trans ((if_pos bq89).trans (if_neg (fun h => bq173 h.2.1)))))]; rfl, rfl⟩ | exact ⟨by rw [show zbti σ i k = 0 from (if_neg (fun h => bq35 h.1)).trans ((if_neg bq35).trans ((if_neg bq61).trans ((if_pos bq89).trans (if_neg (fun h => by rw [zl_le, hdd, z0L] at bq179; exact bq179 h.2.2)))))]; rfl, rfl⟩ | exact ⟨by rw [show zbti σ i k = 2 from (if_neg (fun h => bq35 h.1)).trans ((if_neg bq35).trans ((if_neg bq61).trans ((if_pos bq89).trans ((if_pos ⟨znge bq115, bq173, by rw [zl_le, hdd, z0L] at bq179; exact bq179⟩).trans (if_neg (fun q => bq190 (zl_eq.mpr (hdd.trans q))))))))]; rfl, rfl⟩ | exact ⟨by rw [show zbti σ i k = 1 from (if_neg (fun h => bq35 h.1)).trans ((if_neg bq35).trans ((if_neg bq61).trans ((if_pos bq89).trans ((if_pos ⟨znge bq115, bq173, by rw [zl_le, hdd, z0L] at bq179; exact bq179⟩).trans (if_pos (by rw [zl_eq, hdd, z0L] at bq190; exact bq190))))))]; rfl, rfl⟩)
                · skip
                  refine J_lload_6 (pc := 176) hc dX4_between_176 ?_
                  refine J_lconst (pc := 178) hc dX4_between_178 (v := 0) (by decide) ?_
                  refine J_lcmp_ge (pc := 179) hc 187 dX4_between_179 dX4_between_180 (by decide) (fun bq179 => ?_) (fun bq179 => ?_)
                  · skip
                    refine J_lload_6 (pc := 187) hc dX4_between_187 ?_
                    refine J_lconst (pc := 189) hc dX4_between_189 (v := 0) (by decide) ?_
                    refine J_lcmp_ne (pc := 190) hc 198 dX4_between_190 dX4_between_191 (by decide) (fun bq190 => ?_) (fun bq190 => ?_)
                    · skip
                      refine J_iconst (pc := 198) hc dX4_between_198 (v := 2) (by decide) ?_
                      exact J_iret (pc := 199) hc hI dX4_between_199 (by first | exact absurd bq24 bq35 | exact absurd bq160 (by decide) | exact absurd rfl bq160 | exact ⟨by rw [show zbti σ i k = 0 from (if_neg (fun h => bq35 h.1)).trans ((if_neg bq35).trans ((if_neg bq61).trans ((if_pos bq89).trans (if_neg (fun h => znl bq115 h.1)))))]; rfl, rfl⟩ | exact ⟨by rw [show zbti σ i k = 0 from (if_neg (fun h => bq35 h.1)).trans ((if_neg bq35).trans ((if_neg bq61).trans ((if_pos bq89).trans (if_neg (fun h => bq173 h.2.1)))))]; rfl, rfl⟩ | exact ⟨by rw [show zbti σ i k = 0 from (if_neg (fun h => bq35 h.1)).trans ((if_neg bq35).trans ((if_neg bq61).trans ((if_pos bq89).trans (if_neg (fun h => by rw [zl_le, hdd, z0L] at bq179; exact bq179 h.2.2)))))]; rfl, rfl⟩ | exact ⟨by rw [show zbti σ i k = 2 from (if_neg (fun h => bq35 h.1)).trans ((if_neg bq35).trans ((if_neg bq61).trans ((if_pos bq89).trans ((if_pos ⟨znge bq115, bq173, by rw [zl_le, hdd, z0L] at bq179; exact bq179⟩).trans (if_neg (fun q => bq190 (zl_eq.mpr (hdd.trans q))))))))]; rfl, rfl⟩ | exact ⟨by rw [show zbti σ i k = 1 from (if_neg (fun h => bq35 h.1)).trans ((if_neg bq35).trans ((if_neg bq61).trans ((if_pos bq89).trans ((if_pos ⟨znge bq115, bq173, by rw [zl_le, hdd, z0L] at bq179; exact bq179⟩).trans (if_pos (by rw [zl_eq, hdd, z0L] at bq190; exact bq190))))))]; rfl, rfl⟩)
                    · skip
                      refine J_iconst (pc := 194) hc dX4_between_194 (v := 1) (by decide) ?_
                      refine J_goto (pc := 195) hc 199 dX4_between_195 (by decide) ?_
                      exact J_iret (pc := 199) hc hI dX4_between_199 (by first | exact absurd bq24 bq35 | exact absurd bq160 (by decide) | exact absurd rfl bq160 | exact ⟨by rw [show zbti σ i k = 0 from (if_neg (fun h => bq35 h.1)).trans ((if_neg bq35).trans ((if_neg bq61).trans ((if_pos bq89).trans (if_neg (fun h => znl bq115 h.1)))))]; rfl, rfl⟩ | exact ⟨by rw [show zbti σ i k = 0 from (if_neg (fun h => bq35 h.1)).trans ((if_neg bq35).trans ((if_neg bq61).trans ((if_pos bq89).trans (if_neg (fun h => bq173 h.2.1)))))]; rfl, rfl⟩ | exact ⟨by rw [show zbti σ i k = 0 from (if_neg (fun h => bq35 h.1)).trans ((if_neg bq35).trans ((if_neg bq61).trans ((if_pos bq89).trans (if_neg (fun h => by rw [zl_le, hdd, z0L] at bq179; exact bq179 h.2.2)))))]; rfl, rfl⟩ | exact ⟨by rw [show zbti σ i k = 2 from (if_neg (fun h => bq35 h.1)).trans ((if_neg bq35).trans ((if_neg bq61).trans ((if_pos bq89).trans ((if_pos ⟨znge bq115, bq173, by rw [zl_le, hdd, z0L] at bq179; exact bq179⟩).trans (if_neg (fun q => bq190 (zl_eq.mpr (hdd.trans q))))))))]; rfl, rfl⟩ | exact ⟨by rw [show zbti σ i k = 1 from (if_neg (fun h => bq35 h.1)).trans ((if_neg bq35).trans ((if_neg bq61).trans ((if_pos bq89).trans ((if_pos ⟨znge bq115, bq173, by rw [zl_le, hdd, z0L] at bq179; exact bq179⟩).trans (if_pos (by rw [zl_eq, hdd, z0L] at bq190; exact bq190))))))]; rfl, rfl⟩)
                  · skip
                    refine J_iconst (pc := 183) hc dX4_between_183 (v := 0) (by decide) ?_
                    refine J_goto (pc := 184) hc 199 dX4_between_184 (by decide) ?_
                    exact J_iret (pc := 199) hc hI dX4_between_199 (by first | exact absurd bq24 bq35 | exact absurd bq160 (by decide) | exact absurd rfl bq160 | exact ⟨by rw [show zbti σ i k = 0 from (if_neg (fun h => bq35 h.1)).trans ((if_neg bq35).trans ((if_neg bq61).trans ((if_pos bq89).trans (if_neg (fun h => znl bq115 h.1)))))]; rfl, rfl⟩ | exact ⟨by rw [show zbti σ i k = 0 from (if_neg (fun h => bq35 h.1)).trans ((if_neg bq35).trans ((if_neg bq61).trans ((if_pos bq89).trans (if_neg (fun h => bq173 h.2.1)))))]; rfl, rfl⟩ | exact ⟨by rw [show zbti σ i k = 0 from (if_neg (fun h => bq35 h.1)).trans ((if_neg bq35).trans ((if_neg bq61).trans ((if_pos bq89).trans (if_neg (fun h => by rw [zl_le, hdd, z0L] at bq179; exact bq179 h.2.2)))))]; rfl, rfl⟩ | exact ⟨by rw [show zbti σ i k = 2 from (if_neg (fun h => bq35 h.1)).trans ((if_neg bq35).trans ((if_neg bq61).trans ((if_pos bq89).trans ((if_pos ⟨znge bq115, bq173, by rw [zl_le, hdd, z0L] at bq179; exact bq179⟩).trans (if_neg (fun q => bq190 (zl_eq.mpr (hdd.trans q))))))))]; rfl, rfl⟩ | exact ⟨by rw [show zbti σ i k = 1 from (if_neg (fun h => bq35 h.1)).trans ((if_neg bq35).trans ((if_neg bq61).trans ((if_pos bq89).trans ((if_pos ⟨znge bq115, bq173, by rw [zl_le, hdd, z0L] at bq179; exact bq179⟩).trans (if_pos (by rw [zl_eq, hdd, z0L] at bq190; exact bq190))))))]; rfl, rfl⟩)
            · skip
              refine J_iconst (pc := 118) hc dX4_between_118 (v := 1) (by decide) ?_
              refine J_goto (pc := 119) hc 123 dX4_between_119 (by decide) ?_
              refine J_istore_5 (pc := 123) hc dX4_between_123 rfl ?_
              refine J_aloadn_0 (pc := 125) hc dX4_between_125 ?_
              refine gX4_29 (pc := 126) hc dX4_between_126 ?_
              refine J_iloadn_1 (pc := 129) hc dX4_between_129 ?_
              refine J_lald (pc := 130) hc (by decide) dX4_between_130 (by first | with_reducible exact rfl | with_reducible exact nI_1 _ | with_reducible exact z16 _ _ | with_reducible exact zm1 (by omega) | assumption | exact rfl) (by omega) ?_
              refine J_aloadn_0 (pc := 131) hc dX4_between_131 ?_
              refine gX4_29 (pc := 132) hc dX4_between_132 ?_
              refine J_iloadn_1 (pc := 135) hc dX4_between_135 ?_
              refine J_lald (pc := 136) hc (by decide) dX4_between_136 (by first | with_reducible exact rfl | with_reducible exact nI_1 _ | with_reducible exact z16 _ _ | with_reducible exact zm1 (by omega) | assumption | exact rfl) (by omega) ?_
              refine J_lmul (pc := 137) hc dX4_between_137 ?_
              refine nX4_90 (pc := 138) hc dX4_between_138 ?_
              refine J_aloadn_0 (pc := 141) hc dX4_between_141 ?_
              refine gX4_25 (pc := 142) hc dX4_between_142 ?_
              refine J_iloadn_1 (pc := 145) hc dX4_between_145 ?_
              refine J_lald (pc := 146) hc (by decide) dX4_between_146 (by first | with_reducible exact rfl | with_reducible exact nI_1 _ | with_reducible exact z16 _ _ | with_reducible exact zm1 (by omega) | assumption | exact rfl) (by omega) ?_
              refine J_lmul (pc := 147) hc dX4_between_147 ?_
              refine J_aloadn_0 (pc := 148) hc dX4_between_148 ?_
              refine gX4_32 (pc := 149) hc dX4_between_149 ?_
              refine J_iloadn_1 (pc := 152) hc dX4_between_152 ?_
              refine J_lald (pc := 153) hc (by decide) dX4_between_153 (by first | with_reducible exact rfl | with_reducible exact nI_1 _ | with_reducible exact z16 _ _ | with_reducible exact zm1 (by omega) | assumption | exact rfl) (by omega) ?_
              refine J_lmul (pc := 154) hc dX4_between_154 ?_
              refine J_lsub (pc := 155) hc dX4_between_155 ?_
              refine J_naml (fun dd edd => ?_)
              have hdd : dd.toInt = zdq σ i := by rw [edd]; exact zdq_t h0 h1 h2
              refine J_lstore_6 (pc := 156) hc dX4_between_156 rfl ?_
              refine J_iload_5 (pc := 158) hc dX4_between_158 ?_
              refine J_if_eq (pc := 160) hc 183 dX4_between_160 (by decide) (fun bq160 => ?_) (fun bq160 => ?_)
              · skip
                refine J_iconst (pc := 183) hc dX4_between_183 (v := 0) (by decide) ?_
                refine J_goto (pc := 184) hc 199 dX4_between_184 (by decide) ?_
                exact J_iret (pc := 199) hc hI dX4_between_199 (by first | exact absurd bq24 bq35 | exact absurd bq160 (by decide) | exact absurd rfl bq160 | exact ⟨by rw [show zbti σ i k = 0 from (if_neg (fun h => bq35 h.1)).trans ((if_neg bq35).trans ((if_neg bq61).trans ((if_pos bq89).trans (if_neg (fun h => znl bq115 h.1)))))]; rfl, rfl⟩ | exact ⟨by rw [show zbti σ i k = 0 from (if_neg (fun h => bq35 h.1)).trans ((if_neg bq35).trans ((if_neg bq61).trans ((if_pos bq89).trans (if_neg (fun h => bq173 h.2.1)))))]; rfl, rfl⟩ | exact ⟨by rw [show zbti σ i k = 0 from (if_neg (fun h => bq35 h.1)).trans ((if_neg bq35).trans ((if_neg bq61).trans ((if_pos bq89).trans (if_neg (fun h => by rw [zl_le, hdd, z0L] at bq179; exact bq179 h.2.2)))))]; rfl, rfl⟩ | exact ⟨by rw [show zbti σ i k = 2 from (if_neg (fun h => bq35 h.1)).trans ((if_neg bq35).trans ((if_neg bq61).trans ((if_pos bq89).trans ((if_pos ⟨znge bq115, bq173, by rw [zl_le, hdd, z0L] at bq179; exact bq179⟩).trans (if_neg (fun q => bq190 (zl_eq.mpr (hdd.trans q))))))))]; rfl, rfl⟩ | exact ⟨by rw [show zbti σ i k = 1 from (if_neg (fun h => bq35 h.1)).trans ((if_neg bq35).trans ((if_neg bq61).trans ((if_pos bq89).trans ((if_pos ⟨znge bq115, bq173, by rw [zl_le, hdd, z0L] at bq179; exact bq179⟩).trans (if_pos (by rw [zl_eq, hdd, z0L] at bq190; exact bq190))))))]; rfl, rfl⟩)
              · skip
                refine J_iloadn_3 (pc := 163) hc dX4_between_163 ?_
                refine J_aloadn_0 (pc := 164) hc dX4_between_164 ?_
                refine gX4_32 (pc := 165) hc dX4_between_165 ?_
                refine J_iloadn_1 (pc := 168) hc dX4_between_168 ?_
                refine J_lald (pc := 169) hc (by decide) dX4_between_169 (by first | with_reducible exact rfl | with_reducible exact nI_1 _ | with_reducible exact z16 _ _ | with_reducible exact zm1 (by omega) | assumption | exact rfl) (by omega) ?_
                refine kX4_105 (pc := 170) hc hR dX4_between_170 (c_X4_sign) (by decide) (Nat.le_of_ble_eq_true rfl) rfl (fun r u hu => ?_)
                refine J_eq hu.2 (J_topi (y := zsgn (sm σ 2 i).toInt) (by rw [hu.1]; first | (rw [hr]; rfl) | rfl) ?_)
                refine J_icmp_ne (pc := 173) hc 183 dX4_between_173 (by decide) (fun bq173 => ?_) (fun bq173 => ?_)
                · skip
                  refine J_iconst (pc := 183) hc dX4_between_183 (v := 0) (by decide) ?_
                  refine J_goto (pc := 184) hc 199 dX4_between_184 (by decide) ?_
                  exact J_iret (pc := 199) hc hI dX4_between_199 (by first | exact absurd bq24 bq35 | exact absurd bq160 (by decide) | exact absurd rfl bq160 | exact ⟨by rw [show zbti σ i k = 0 from (if_neg (fun h => bq35 h.1)).trans ((if_neg bq35).trans ((if_neg bq61).trans ((if_pos bq89).trans (if_neg (fun h => znl bq115 h.1)))))]; rfl, rfl⟩ | exact ⟨by rw [show zbti σ i k = 0 from (if_neg (fun h => bq35 h.1)).trans ((if_neg bq35).trans ((if_neg bq61).trans ((if_pos bq89).trans (if_neg (fun h => bq173 h.2.1)))))]; rfl, rfl⟩ | exact ⟨by rw [show zbti σ i k = 0 from (if_neg (fun h => bq35 h.1)).trans ((if_neg bq35).trans ((if_neg bq61).trans ((if_pos bq89).trans (if_neg (fun h => by rw [zl_le, hdd, z0L] at bq179; exact bq179 h.2.2)))))]; rfl, rfl⟩ | exact ⟨by rw [show zbti σ i k = 2 from (if_neg (fun h => bq35 h.1)).trans ((if_neg bq35).trans ((if_neg bq61).trans ((if_pos bq89).trans ((if_pos ⟨znge bq115, bq173, by rw [zl_le, hdd, z0L] at bq179; exact bq179⟩).trans (if_neg (fun q => bq190 (zl_eq.mpr (hdd.trans q))))))))]; rfl, rfl⟩ | exact ⟨by rw [show zbti σ i k = 1 from (if_neg (fun h => bq35 h.1)).trans ((if_neg bq35).trans ((if_neg bq61).trans ((if_pos bq89).trans ((if_pos ⟨znge bq115, bq173, by rw [zl_le, hdd, z0L] at bq179; exact bq179⟩).trans (if_pos (by rw [zl_eq, hdd, z0L] at bq190; exact bq190))))))]; rfl, rfl⟩)
                · skip
                  refine J_lload_6 (pc := 176) hc dX4_between_176 ?_
                  refine J_lconst (pc := 178) hc dX4_between_178 (v := 0) (by decide) ?_
                  refine J_lcmp_ge (pc := 179) hc 187 dX4_between_179 dX4_between_180 (by decide) (fun bq179 => ?_) (fun bq179 => ?_)
                  · skip
                    refine J_lload_6 (pc := 187) hc dX4_between_187 ?_
                    refine J_lconst (pc := 189) hc dX4_between_189 (v := 0) (by decide) ?_
                    refine J_lcmp_ne (pc := 190) hc 198 dX4_between_190 dX4_between_191 (by decide) (fun bq190 => ?_) (fun bq190 => ?_)
                    · skip
                      refine J_iconst (pc := 198) hc dX4_between_198 (v := 2) (by decide) ?_
                      exact J_iret (pc := 199) hc hI dX4_between_199 (by first | exact absurd bq24 bq35 | exact absurd bq160 (by decide) | exact absurd rfl bq160 | exact ⟨by rw [show zbti σ i k = 0 from (if_neg (fun h => bq35 h.1)).trans ((if_neg bq35).trans ((if_neg bq61).trans ((if_pos bq89).trans (if_neg (fun h => znl bq115 h.1)))))]; rfl, rfl⟩ | exact ⟨by rw [show zbti σ i k = 0 from (if_neg (fun h => bq35 h.1)).trans ((if_neg bq35).trans ((if_neg bq61).trans ((if_pos bq89).trans (if_neg (fun h => bq173 h.2.1)))))]; rfl, rfl⟩ | exact ⟨by rw [show zbti σ i k = 0 from (if_neg (fun h => bq35 h.1)).trans ((if_neg bq35).trans ((if_neg bq61).trans ((if_pos bq89).trans (if_neg (fun h => by rw [zl_le, hdd, z0L] at bq179; exact bq179 h.2.2)))))]; rfl, rfl⟩ | exact ⟨by rw [show zbti σ i k = 2 from (if_neg (fun h => bq35 h.1)).trans ((if_neg bq35).trans ((if_neg bq61).trans ((if_pos bq89).trans ((if_pos ⟨znge bq115, bq173, by rw [zl_le, hdd, z0L] at bq179; exact bq179⟩).trans (if_neg (fun q => bq190 (zl_eq.mpr (hdd.trans q))))))))]; rfl, rfl⟩ | exact ⟨by rw [show zbti σ i k = 1 from (if_neg (fun h => bq35 h.1)).trans ((if_neg bq35).trans ((if_neg bq61).trans ((if_pos bq89).trans ((if_pos ⟨znge bq115, bq173, by rw [zl_le, hdd, z0L] at bq179; exact bq179⟩).trans (if_pos (by rw [zl_eq, hdd, z0L] at bq190; exact bq190))))))]; rfl, rfl⟩)
                    · skip
                      refine J_iconst (pc := 194) hc dX4_between_194 (v := 1) (by decide) ?_
                      refine J_goto (pc := 195) hc 199 dX4_between_195 (by decide) ?_
                      exact J_iret (pc := 199) hc hI dX4_between_199 (by first | exact absurd bq24 bq35 | exact absurd bq160 (by decide) | exact absurd rfl bq160 | exact ⟨by rw [show zbti σ i k = 0 from (if_neg (fun h => bq35 h.1)).trans ((if_neg bq35).trans ((if_neg bq61).trans ((if_pos bq89).trans (if_neg (fun h => znl bq115 h.1)))))]; rfl, rfl⟩ | exact ⟨by rw [show zbti σ i k = 0 from (if_neg (fun h => bq35 h.1)).trans ((if_neg bq35).trans ((if_neg bq61).trans ((if_pos bq89).trans (if_neg (fun h => bq173 h.2.1)))))]; rfl, rfl⟩ | exact ⟨by rw [show zbti σ i k = 0 from (if_neg (fun h => bq35 h.1)).trans ((if_neg bq35).trans ((if_neg bq61).trans ((if_pos bq89).trans (if_neg (fun h => by rw [zl_le, hdd, z0L] at bq179; exact bq179 h.2.2)))))]; rfl, rfl⟩ | exact ⟨by rw [show zbti σ i k = 2 from (if_neg (fun h => bq35 h.1)).trans ((if_neg bq35).trans ((if_neg bq61).trans ((if_pos bq89).trans ((if_pos ⟨znge bq115, bq173, by rw [zl_le, hdd, z0L] at bq179; exact bq179⟩).trans (if_neg (fun q => bq190 (zl_eq.mpr (hdd.trans q))))))))]; rfl, rfl⟩ | exact ⟨by rw [show zbti σ i k = 1 from (if_neg (fun h => bq35 h.1)).trans ((if_neg bq35).trans ((if_neg bq61).trans ((if_pos bq89).trans ((if_pos ⟨znge bq115, bq173, by rw [zl_le, hdd, z0L] at bq179; exact bq179⟩).trans (if_pos (by rw [zl_eq, hdd, z0L] at bq190; exact bq190))))))]; rfl, rfl⟩)
                  · skip
                    refine J_iconst (pc := 183) hc dX4_between_183 (v := 0) (by decide) ?_
                    refine J_goto (pc := 184) hc 199 dX4_between_184 (by decide) ?_
                    exact J_iret (pc := 199) hc hI dX4_between_199 (by first | exact absurd bq24 bq35 | exact absurd bq160 (by decide) | exact absurd rfl bq160 | exact ⟨by rw [show zbti σ i k = 0 from (if_neg (fun h => bq35 h.1)).trans ((if_neg bq35).trans ((if_neg bq61).trans ((if_pos bq89).trans (if_neg (fun h => znl bq115 h.1)))))]; rfl, rfl⟩ | exact ⟨by rw [show zbti σ i k = 0 from (if_neg (fun h => bq35 h.1)).trans ((if_neg bq35).trans ((if_neg bq61).trans ((if_pos bq89).trans (if_neg (fun h => bq173 h.2.1)))))]; rfl, rfl⟩ | exact ⟨by rw [show zbti σ i k = 0 from (if_neg (fun h => bq35 h.1)).trans ((if_neg bq35).trans ((if_neg bq61).trans ((if_pos bq89).trans (if_neg (fun h => by rw [zl_le, hdd, z0L] at bq179; exact bq179 h.2.2)))))]; rfl, rfl⟩ | exact ⟨by rw [show zbti σ i k = 2 from (if_neg (fun h => bq35 h.1)).trans ((if_neg bq35).trans ((if_neg bq61).trans ((if_pos bq89).trans ((if_pos ⟨znge bq115, bq173, by rw [zl_le, hdd, z0L] at bq179; exact bq179⟩).trans (if_neg (fun q => bq190 (zl_eq.mpr (hdd.trans q))))))))]; rfl, rfl⟩ | exact ⟨by rw [show zbti σ i k = 1 from (if_neg (fun h => bq35 h.1)).trans ((if_neg bq35).trans ((if_neg bq61).trans ((if_pos bq89).trans ((if_pos ⟨znge bq115, bq173, by rw [zl_le, hdd, z0L] at bq179; exact bq179⟩).trans (if_pos (by rw [zl_eq, hdd, z0L] at bq190; exact bq190))))))]; rfl, rfl⟩)
          · skip
            refine J_iconst (pc := 92) hc dX4_between_92 (v := 1) (by decide) ?_
            exact J_iret (pc := 93) hc hI dX4_between_93 (by first | exact absurd bq24 bq35 | exact ⟨by rw [show zbti σ i k = 1 from (if_neg (fun h => bq35 h.1)).trans ((if_neg bq35).trans ((if_neg bq61).trans (if_neg bq89)))]; rfl, rfl⟩)
        · skip
          refine J_aloadn_0 (pc := 64) hc dX4_between_64 ?_
          refine J_iloadn_1 (pc := 65) hc dX4_between_65 ?_
          refine J_iloadn_2 (pc := 66) hc dX4_between_66 ?_
          refine J_iconst (pc := 67) hc dX4_between_67 (v := 1) (by decide) ?_
          refine J_iadd (pc := 68) hc dX4_between_68 ?_
          refine kX4_109 (pc := 69) hc hR dX4_between_69 (c_X4_slopeAt (k := k + 1) rfl (nI_1 k) (by omega) (by omega) h1 h2) (by decide) (Nat.le_of_ble_eq_true rfl) rfl (fun r u hu => ?_)
          have hr := hu.1
          refine J_eq hu.2 ?_
          refine kX4_105 (pc := 72) hc hR dX4_between_72 (c_X4_sign) (by decide) (Nat.le_of_ble_eq_true rfl) rfl (fun r u hu => ?_)
          refine J_eq hu.2 (J_topi (y := zsgn (zSt σ i (k + 1))) (by rw [hu.1]; first | (rw [hr]; rfl) | rfl) ?_)
          refine J_iloadn_3 (pc := 75) hc dX4_between_75 ?_
          refine J_imul (pc := 76) hc dX4_between_76 ?_
          refine J_if_le (pc := 77) hc 84 dX4_between_77 (by decide) (fun bq77 => ?_) (fun bq77 => ?_)
          · skip
            refine J_iconst (pc := 84) hc dX4_between_84 (v := 0) (by decide) ?_
            exact J_iret (pc := 85) hc hI dX4_between_85 (by first | exact absurd bq61 bq29 | exact absurd bq24 bq35 | exact ⟨by rw [show zbti σ i k = 0 from (if_neg (fun h => bq35 h.1)).trans ((if_neg bq35).trans ((if_pos bq61).trans (if_neg (znlI bq77))))]; rfl, rfl⟩ | exact ⟨by rw [show zbti σ i k = 1 from (if_neg (fun h => bq35 h.1)).trans ((if_neg bq35).trans ((if_pos bq61).trans (if_pos (zngI bq77))))]; rfl, rfl⟩)
          · skip
            refine J_iconst (pc := 80) hc dX4_between_80 (v := 1) (by decide) ?_
            refine J_goto (pc := 81) hc 85 dX4_between_81 (by decide) ?_
            exact J_iret (pc := 85) hc hI dX4_between_85 (by first | exact absurd bq61 bq29 | exact absurd bq24 bq35 | exact ⟨by rw [show zbti σ i k = 0 from (if_neg (fun h => bq35 h.1)).trans ((if_neg bq35).trans ((if_pos bq61).trans (if_neg (znlI bq77))))]; rfl, rfl⟩ | exact ⟨by rw [show zbti σ i k = 1 from (if_neg (fun h => bq35 h.1)).trans ((if_neg bq35).trans ((if_pos bq61).trans (if_pos (zngI bq77))))]; rfl, rfl⟩)
      · skip
        refine J_aloadn_0 (pc := 38) hc dX4_between_38 ?_
        refine J_iloadn_1 (pc := 39) hc dX4_between_39 ?_
        refine J_iloadn_2 (pc := 40) hc dX4_between_40 ?_
        refine kX4_109 (pc := 41) hc hR dX4_between_41 (c_X4_slopeAt rfl rfl (by omega) (by omega) h1 h2) (by decide) (Nat.le_of_ble_eq_true rfl) rfl (fun r u hu => ?_)
        have hr := hu.1
        refine J_eq hu.2 ?_
        refine kX4_105 (pc := 44) hc hR dX4_between_44 (c_X4_sign) (by decide) (Nat.le_of_ble_eq_true rfl) rfl (fun r u hu => ?_)
        refine J_eq hu.2 (J_topi (y := zsgn (zSt σ i k)) (by rw [hu.1]; first | (rw [hr]; rfl) | rfl) ?_)
        refine J_iload_4 (pc := 47) hc dX4_between_47 ?_
        refine J_imul (pc := 49) hc dX4_between_49 ?_
        refine J_if_ge (pc := 50) hc 57 dX4_between_50 (by decide) (fun bq50 => ?_) (fun bq50 => ?_)
        · skip
          refine J_iconst (pc := 57) hc dX4_between_57 (v := 0) (by decide) ?_
          exact J_iret (pc := 58) hc hI dX4_between_58 (by first | exact absurd bq35 bq24 | exact ⟨by rw [show zbti σ i k = 0 from (if_neg (fun h => bq29 h.2)).trans ((if_pos bq35).trans (if_neg (znl bq50)))]; rfl, rfl⟩ | exact ⟨by rw [show zbti σ i k = 1 from (if_neg (fun h => bq29 h.2)).trans ((if_pos bq35).trans (if_pos (znge bq50)))]; rfl, rfl⟩)
        · skip
          refine J_iconst (pc := 53) hc dX4_between_53 (v := 1) (by decide) ?_
          refine J_goto (pc := 54) hc 58 dX4_between_54 (by decide) ?_
          exact J_iret (pc := 58) hc hI dX4_between_58 (by first | exact absurd bq35 bq24 | exact ⟨by rw [show zbti σ i k = 0 from (if_neg (fun h => bq29 h.2)).trans ((if_pos bq35).trans (if_neg (znl bq50)))]; rfl, rfl⟩ | exact ⟨by rw [show zbti σ i k = 1 from (if_neg (fun h => bq29 h.2)).trans ((if_pos bq35).trans (if_pos (znge bq50)))]; rfl, rfl⟩)
    · skip
      refine J_iconst (pc := 32) hc dX4_between_32 (v := 0) (by decide) ?_
      exact J_iret (pc := 33) hc hI dX4_between_33 (by exact ⟨by rw [show zbti σ i k = 0 from if_pos ⟨bq24, bq29⟩]; rfl, rfl⟩)
