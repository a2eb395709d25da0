section ZJ14
variable {cx : zX} {gg : zG} {Q : State → Prop} {σ : zS} {pc : Nat} {lv : List (Option Value)} {st : List Value} {cc : ByteArray} {own : String} {nL : Nat}
theorem J_lload_14 (hc : zOK cx gg cc own nL) {x0 x1 x2 x3 x4 x5 x6 x7 x8 x9 x10 x11 x12 x13 : Option Value} {r : List (Option Value)} {v : Int64} (hd : decode cc pc = .ok (.lload 14, 2)) (k : J cx gg Q σ (pc + 2) (x0 :: x1 :: x2 :: x3 :: x4 :: x5 :: x6 :: x7 :: x8 :: x9 :: x10 :: x11 :: x12 :: x13 :: some (.long v) :: r) (.long v :: st)) : J cx gg Q σ pc (x0 :: x1 :: x2 :: x3 :: x4 :: x5 :: x6 :: x7 :: x8 :: x9 :: x10 :: x11 :: x12 :: x13 :: some (.long v) :: r) st :=
  fun H locs ls hP hS hl => lv_lload hc.1 hc.2.1 hd (hl.2.2 14 _ rfl) (k H locs ls hP hS hl)
theorem J_lstore_14 (hc : zOK cx gg cc own nL) {x0 x1 x2 x3 x4 x5 x6 x7 x8 x9 x10 x11 x12 x13 : Option Value} {y y2 : Option Value} {r : List (Option Value)} {v : Int64} (hd : decode cc pc = .ok (.lstore 14, 2)) (hp : zc1 x13 = true) (k : J cx gg Q σ (pc + 2) (x0 :: x1 :: x2 :: x3 :: x4 :: x5 :: x6 :: x7 :: x8 :: x9 :: x10 :: x11 :: x12 :: x13 :: some (.long v) :: none :: r) st) : J cx gg Q σ pc (x0 :: x1 :: x2 :: x3 :: x4 :: x5 :: x6 :: x7 :: x8 :: x9 :: x10 :: x11 :: x12 :: x13 :: y :: y2 :: r) (.long v :: st) :=
  fun H locs ls hP hS hl => lv_lstore (i := 14) hc.1 hc.2.1 hd hl.has (by simp) rfl (fun ls' hl' => k H locs ls' hP hS (zL.set2 (by simp) (zpre (i := 13) hp rfl) hl'))
end ZJ14
def zgg (w : Int32) : Int64 := if w = 0 then 1 else -1
theorem zgg_or (w : Int32) : zgg w = 1 ∨ zgg w = -1 := by unfold zgg; split <;> simp
theorem zlk_2 {σ : zS} {k n i : Nat} (h : i < n) : sm (zlk σ k n) 2 i = (sa σ 26 (16 * k + i)).toInt64 := zfill_in (fun i => (sa σ 26 (16 * k + i)).toInt64) (sm σ 2) h
theorem zlk_1 {σ : zS} {k n i : Nat} (h : i < n) : sm (zlk σ k n) 1 i = (sa σ 25 (16 * k + i)).toInt64 := zfill_in (fun i => (sa σ 25 (16 * k + i)).toInt64) (sm σ 1) h
theorem zlk_0 {σ : zS} {k n i : Nat} (h : i < n) : sm (zlk σ k n) 0 i = (sa σ 24 (16 * k + i)).toInt64 := zfill_in (fun i => (sa σ 24 (16 * k + i)).toInt64) (sm σ 0) h
def zn1 (t x : Int64) : Int64 := if t < x then x else t
theorem zn1_t {t x : Int64} (h : t < x) : zn1 t x = x := if_pos h
theorem zn1_f {t x : Int64} (h : ¬ t < x) : zn1 t x = t := if_neg h
theorem zen_t {t x y z : Int64} (h : z < 0 ∧ 0 < y ∧ y < -2 * z) : zen t x y z = zn1 (zn1 (zn1 t x) (x + y + z)) (x + (y * y + -4 * z - 1) / (-4 * z)) := if_pos h
theorem zen_f {t x y z : Int64} (h : ¬ (z < 0 ∧ 0 < y ∧ y < -2 * z)) : zen t x y z = zn1 (zn1 t x) (x + y + z) := if_neg h
set_option maxRecDepth 100000 in
set_option maxHeartbeats 4000000 in
theorem c_X4_end {l : Launch} {gg : zG} {σ : zS} {x w : Int32} {N : Nat → Nat} (hz : zRv σ N) : zMi l gg yX4_end cX4_end .int 16 2 45 [.ref (zM gg), .int x, .int w] σ (fun r u => (¬ (zpl x ∧ (0 ≤ w.toInt ∧ w.toInt ≤ 1)) ∧ r = -2147483648 ∧ u = σ) ∨ (∃ k, k < 6 ∧ x = nI k ∧ (0 ≤ w.toInt ∧ w.toInt ≤ 1) ∧ u = (zlk σ k (N k)) ∧ r = (zgg w * zeb (zlk σ k (N k)) (zgg w) (N k)).toInt32)) := by
  refine zM_i (own := RX4) (lv := [some (.ref (zM gg)), some (.int x), some (.int w), none, none, none, none, none, none, none, none, none, none, none, none, none]) (by decide +kernel) rfl (Nat.le_of_ble_eq_true rfl) rfl (fun cx hc hR hI => ?_)
  refine J_iloadn_1 (pc := 0) hc dX4_end_0 ?_
  refine kX4_51 (pc := 1) hc hR dX4_end_1 (c_X4_isPlace) (by decide) (Nat.le_of_ble_eq_true rfl) rfl (fun r u hu => ?_)
  have hr := hu.1
  refine J_eq hu.2 ?_
  refine J_if_eq (pc := 4) hc 17 dX4_end_4 (by decide) (fun bq4 => ?_) (fun bq4 => ?_)
  · skip
    have hnp := hr.f bq4
    refine nX4_63 (pc := 17) hc dX4_end_17 ?_
    exact J_iret (pc := 19) hc hI dX4_end_19 (Or.inl ⟨by first | exact (fun h => hnw h.2) | exact (fun h => hnp h.1), rfl, rfl⟩)
  · skip
    obtain ⟨k, hk, hxk⟩ := zpl_nI (hr.t bq4)
    have hzk := hz k hk
    refine J_iloadn_2 (pc := 7) hc dX4_end_7 ?_
    refine J_i2l (pc := 8) hc dX4_end_8 ?_
    refine J_lconst (pc := 9) hc dX4_end_9 (v := 0) (by decide) ?_
    refine J_lconst (pc := 10) hc dX4_end_10 (v := 1) (by decide) ?_
    refine kX4_43 (pc := 11) hc hR dX4_end_11 (c_X4_in) (by decide) (Nat.le_of_ble_eq_true rfl) rfl (fun r u hu => ?_)
    have hr := hu.1
    refine J_eq hu.2 ?_
    refine J_if_ne (pc := 14) hc 20 dX4_end_14 (by decide) (fun bq14 => ?_) (fun bq14 => ?_)
    · skip
      have hw := (zin1 hr (show (0 : Int64).toInt = 0 from rfl) (show (1 : Int64).toInt = 1 from rfl)).t bq14
      refine J_aloadn_0 (pc := 20) hc dX4_end_20 ?_
      refine J_iloadn_1 (pc := 21) hc dX4_end_21 ?_
      refine kX4_80 (pc := 22) hc hR dX4_end_22 (c_X4_look hk hxk hzk.2.2.1 hzk.2.1) (by decide) (Nat.le_of_ble_eq_true rfl) rfl (fun u hu => ?_)
      refine J_eq hu ?_
      have hJ37 : ∀ (gq : Int64), gq = zgg w → J cx gg (zQi cx gg (fun r u => (¬ (zpl x ∧ (0 ≤ w.toInt ∧ w.toInt ≤ 1)) ∧ r = -2147483648 ∧ u = σ) ∨ (∃ k, k < 6 ∧ x = nI k ∧ (0 ≤ w.toInt ∧ w.toInt ≤ 1) ∧ u = (zlk σ k (N k)) ∧ r = (zgg w * zeb (zlk σ k (N k)) (zgg w) (N k)).toInt32))) (zlk σ k (N k)) 37 [some (.ref (zM gg)), some (.int x), some (.int w), some (.long gq), none, none, none, none, none, none, none, none, none, none, none, none] [] := by
        intro gq hgq
        refine J_lloadn_3 (pc := 37) hc dX4_end_37 ?_
        refine J_aloadn_0 (pc := 38) hc dX4_end_38 ?_
        refine gX4_25 (pc := 39) hc dX4_end_39 ?_
        refine J_iconst (pc := 42) hc dX4_end_42 (v := 0) (by decide) ?_
        refine J_lald (pc := 43) hc (by decide) dX4_end_43 nI_0.symm (by omega) ?_
        refine J_lmul (pc := 44) hc dX4_end_44 ?_
        refine J_lstore_5 (pc := 45) hc dX4_end_45 rfl ?_
        refine J_iconst (pc := 47) hc dX4_end_47 (v := 0) (by decide) ?_
        refine J_istore_7 (pc := 48) hc dX4_end_48 rfl ?_
        have hL50 : ∀ (μ : Nat) (i : Nat), N k - i = μ → i ≤ N k → J cx gg (zQi cx gg (fun r u => (¬ (zpl x ∧ (0 ≤ w.toInt ∧ w.toInt ≤ 1)) ∧ r = -2147483648 ∧ u = σ) ∨ (∃ k, k < 6 ∧ x = nI k ∧ (0 ≤ w.toInt ∧ w.toInt ≤ 1) ∧ u = (zlk σ k (N k)) ∧ r = (zgg w * zeb (zlk σ k (N k)) (zgg w) (N k)).toInt32))) (zlk σ k (N k)) 50 [some (.ref (zM gg)), some (.int x), some (.int w), some (.long (zgg w)), none, some (.long (zeb (zlk σ k (N k)) (zgg w) i)), none, some (.int (nI i)), none, none, none, none, none, none, none, none] [] := by
          intro μ
          induction μ using Nat.strongRecOn with
          | ind μ ih50 =>
            intro i hμ hi
            refine J_iload_7 (pc := 50) hc dX4_end_50 ?_
            refine J_aloadn_0 (pc := 52) hc dX4_end_52 ?_
            refine gX4_64 (pc := 53) hc dX4_end_53 ?_
            refine J_icmp_ge (pc := 56) hc 216 dX4_end_56 (by decide) (fun bq56 => ?_) (fun bq56 => ?_)
            · skip
              have bq56 := (zge rfl rfl (by omega) (by omega)).mp bq56
              refine J_lloadn_3 (pc := 216) hc dX4_end_216 ?_
              refine J_lload_5 (pc := 217) hc dX4_end_217 ?_
              refine J_lmul (pc := 219) hc dX4_end_219 ?_
              refine J_l2i (pc := 220) hc dX4_end_220 ?_
              exact J_iret (pc := 221) hc hI dX4_end_221 (Or.inr ⟨k, hk, hxk, hw, rfl, by rw [show i = N k by omega]⟩)
            · skip
              have bq56 := mt (zge rfl rfl (by omega) (by omega)).mpr bq56
              refine J_lloadn_3 (pc := 59) hc dX4_end_59 ?_
              refine J_aloadn_0 (pc := 60) hc dX4_end_60 ?_
              refine gX4_25 (pc := 61) hc dX4_end_61 ?_
              refine J_iload_7 (pc := 64) hc dX4_end_64 ?_
              refine J_lald (pc := 66) hc (by decide) dX4_end_66 (by first | with_reducible exact rfl | with_reducible exact nI_1 _ | with_reducible exact z16 _ _ | with_reducible exact zm1 (by omega) | assumption | exact rfl) (by omega) ?_
              refine J_lmul (pc := 67) hc dX4_end_67 ?_
              refine J_lstore_8 (pc := 68) hc dX4_end_68 rfl ?_
              refine J_lloadn_3 (pc := 70) hc dX4_end_70 ?_
              refine J_aloadn_0 (pc := 71) hc dX4_end_71 ?_
              refine gX4_29 (pc := 72) hc dX4_end_72 ?_
              refine J_iload_7 (pc := 75) hc dX4_end_75 ?_
              refine J_lald (pc := 77) hc (by decide) dX4_end_77 (by first | with_reducible exact rfl | with_reducible exact nI_1 _ | with_reducible exact z16 _ _ | with_reducible exact zm1 (by omega) | assumption | exact rfl) (by omega) ?_
              refine J_lmul (pc := 78) hc dX4_end_78 ?_
              refine J_lstore_10 (pc := 79) hc dX4_end_79 rfl ?_
              refine J_lloadn_3 (pc := 81) hc dX4_end_81 ?_
              refine J_aloadn_0 (pc := 82) hc dX4_end_82 ?_
              refine gX4_32 (pc := 83) hc dX4_end_83 ?_
              refine J_iload_7 (pc := 86) hc dX4_end_86 ?_
              refine J_lald (pc := 88) hc (by decide) dX4_end_88 (by first | with_reducible exact rfl | with_reducible exact nI_1 _ | with_reducible exact z16 _ _ | with_reducible exact zm1 (by omega) | assumption | exact rfl) (by omega) ?_
              refine J_lmul (pc := 89) hc dX4_end_89 ?_
              refine J_lstore_12 (pc := 90) hc dX4_end_90 rfl ?_
              have hJ109 : ∀ (b1 : Int64), b1 = (zn1 (zeb (zlk σ k (N k)) (zgg w) i) (zgg w * sm (zlk σ k (N k)) 0 i)) → J cx gg (zQi cx gg (fun r u => (¬ (zpl x ∧ (0 ≤ w.toInt ∧ w.toInt ≤ 1)) ∧ r = -2147483648 ∧ u = σ) ∨ (∃ k, k < 6 ∧ x = nI k ∧ (0 ≤ w.toInt ∧ w.toInt ≤ 1) ∧ u = (zlk σ k (N k)) ∧ r = (zgg w * zeb (zlk σ k (N k)) (zgg w) (N k)).toInt32))) (zlk σ k (N k)) 109 [some (.ref (zM gg)), some (.int x), some (.int w), some (.long (zgg w)), none, some (.long b1), none, some (.int (nI i)), some (.long (zgg w * sm (zlk σ k (N k)) 0 i)), none, some (.long (zgg w * sm (zlk σ k (N k)) 1 i)), none, some (.long (zgg w * sm (zlk σ k (N k)) 2 i)), none, none, none] [] := by
                intro b1 hb1
                have hJ138 : ∀ (b2 : Int64), b2 = (zn1 (zn1 (zeb (zlk σ k (N k)) (zgg w) i) (zgg w * sm (zlk σ k (N k)) 0 i)) ((zgg w * sm (zlk σ k (N k)) 0 i) + (zgg w * sm (zlk σ k (N k)) 1 i) + (zgg w * sm (zlk σ k (N k)) 2 i))) → J cx gg (zQi cx gg (fun r u => (¬ (zpl x ∧ (0 ≤ w.toInt ∧ w.toInt ≤ 1)) ∧ r = -2147483648 ∧ u = σ) ∨ (∃ k, k < 6 ∧ x = nI k ∧ (0 ≤ w.toInt ∧ w.toInt ≤ 1) ∧ u = (zlk σ k (N k)) ∧ r = (zgg w * zeb (zlk σ k (N k)) (zgg w) (N k)).toInt32))) (zlk σ k (N k)) 138 [some (.ref (zM gg)), some (.int x), some (.int w), some (.long (zgg w)), none, some (.long b2), none, some (.int (nI i)), some (.long (zgg w * sm (zlk σ k (N k)) 0 i)), none, some (.long (zgg w * sm (zlk σ k (N k)) 1 i)), none, some (.long (zgg w * sm (zlk σ k (N k)) 2 i)), none, none, none] [] := by
                  intro b2 hb2
                  have hJ210 : ∀ (b3 : Int64), b3 = zen (zeb (zlk σ k (N k)) (zgg w) i) (zgg w * sm (zlk σ k (N k)) 0 i) (zgg w * sm (zlk σ k (N k)) 1 i) (zgg w * sm (zlk σ k (N k)) 2 i) → J cx gg (zQi cx gg (fun r u => (¬ (zpl x ∧ (0 ≤ w.toInt ∧ w.toInt ≤ 1)) ∧ r = -2147483648 ∧ u = σ) ∨ (∃ k, k < 6 ∧ x = nI k ∧ (0 ≤ w.toInt ∧ w.toInt ≤ 1) ∧ u = (zlk σ k (N k)) ∧ r = (zgg w * zeb (zlk σ k (N k)) (zgg w) (N k)).toInt32))) (zlk σ k (N k)) 210 [some (.ref (zM gg)), some (.int x), some (.int w), some (.long (zgg w)), none, some (.long b3), none, some (.int (nI i)), some (.long (zgg w * sm (zlk σ k (N k)) 0 i)), none, some (.long (zgg w * sm (zlk σ k (N k)) 1 i)), none, some (.long (zgg w * sm (zlk σ k (N k)) 2 i)), none, none, none] [] := by
                    intro b3 hb3
                    refine J_iinc_7 (pc := 210) hc dX4_end_210 (by first | exact nI_1 _ | exact rfl) rfl ?_
                    refine J_goto (pc := 213) hc 50 dX4_end_213 (by decide) ?_
                    subst hb3
                    exact J_weak (by repeat (first | exact zle_nil | apply zle_s | apply zle_n)) (ih50 _ (by omega) (i + 1) rfl (by omega))
                  refine J_lload_12 (pc := 138) hc dX4_end_138 ?_
                  refine J_lconst (pc := 140) hc dX4_end_140 (v := 0) (by decide) ?_
                  refine J_lcmp_ge (pc := 141) hc 210 dX4_end_141 dX4_end_142 (by decide) (fun bq141 => ?_) (fun bq141 => ?_)
                  · skip
                    subst hb2
                    first | exact J_weak (by repeat (first | exact zle_nil | apply zle_s | apply zle_n)) (hJ210 _ (zen_f (fun h => (znlt64 bq141) h.1)).symm) | exact J_weak (by repeat (first | exact zle_nil | apply zle_s | apply zle_n)) (hJ210 _ (zen_f (fun h => (znlt64 bq148) h.2.1)).symm) | exact J_weak (by repeat (first | exact zle_nil | apply zle_s | apply zle_n)) (hJ210 _ (zen_f (fun h => (znlt64 bq160) h.2.2)).symm) | exact J_weak (by repeat (first | exact zle_nil | apply zle_s | apply zle_n)) (hJ210 _ ((zen_t ⟨znle64 bq141, znle64 bq148, znle64 bq160⟩).trans (zn1_f (znlt64 bq194))).symm) | exact J_weak (by repeat (first | exact zle_nil | apply zle_s | apply zle_n)) (hJ210 _ ((zen_t ⟨znle64 bq141, znle64 bq148, znle64 bq160⟩).trans (zn1_t (znle64 bq194))).symm)
                  · skip
                    refine J_lload_10 (pc := 145) hc dX4_end_145 ?_
                    refine J_lconst (pc := 147) hc dX4_end_147 (v := 0) (by decide) ?_
                    refine J_lcmp_le (pc := 148) hc 210 dX4_end_148 dX4_end_149 (by decide) (fun bq148 => ?_) (fun bq148 => ?_)
                    · skip
                      subst hb2
                      first | exact J_weak (by repeat (first | exact zle_nil | apply zle_s | apply zle_n)) (hJ210 _ (zen_f (fun h => (znlt64 bq141) h.1)).symm) | exact J_weak (by repeat (first | exact zle_nil | apply zle_s | apply zle_n)) (hJ210 _ (zen_f (fun h => (znlt64 bq148) h.2.1)).symm) | exact J_weak (by repeat (first | exact zle_nil | apply zle_s | apply zle_n)) (hJ210 _ (zen_f (fun h => (znlt64 bq160) h.2.2)).symm) | exact J_weak (by repeat (first | exact zle_nil | apply zle_s | apply zle_n)) (hJ210 _ ((zen_t ⟨znle64 bq141, znle64 bq148, znle64 bq160⟩).trans (zn1_f (znlt64 bq194))).symm) | exact J_weak (by repeat (first | exact zle_nil | apply zle_s | apply zle_n)) (hJ210 _ ((zen_t ⟨znle64 bq141, znle64 bq148, znle64 bq160⟩).trans (zn1_t (znle64 bq194))).symm)
                    · skip
                      refine J_lload_10 (pc := 152) hc dX4_end_152 ?_
                      refine nX4_95 (pc := 154) hc dX4_end_154 ?_
                      refine J_lload_12 (pc := 157) hc dX4_end_157 ?_
                      refine J_lmul (pc := 159) hc dX4_end_159 ?_
                      refine J_lcmp_ge (pc := 160) hc 210 dX4_end_160 dX4_end_161 (by decide) (fun bq160 => ?_) (fun bq160 => ?_)
                      · skip
                        subst hb2
                        first | exact J_weak (by repeat (first | exact zle_nil | apply zle_s | apply zle_n)) (hJ210 _ (zen_f (fun h => (znlt64 bq141) h.1)).symm) | exact J_weak (by repeat (first | exact zle_nil | apply zle_s | apply zle_n)) (hJ210 _ (zen_f (fun h => (znlt64 bq148) h.2.1)).symm) | exact J_weak (by repeat (first | exact zle_nil | apply zle_s | apply zle_n)) (hJ210 _ (zen_f (fun h => (znlt64 bq160) h.2.2)).symm) | exact J_weak (by repeat (first | exact zle_nil | apply zle_s | apply zle_n)) (hJ210 _ ((zen_t ⟨znle64 bq141, znle64 bq148, znle64 bq160⟩).trans (zn1_f (znlt64 bq194))).symm) | exact J_weak (by repeat (first | exact zle_nil | apply zle_s | apply zle_n)) (hJ210 _ ((zen_t ⟨znle64 bq141, znle64 bq148, znle64 bq160⟩).trans (zn1_t (znle64 bq194))).symm)
                      · skip
                        refine J_lload_10 (pc := 164) hc dX4_end_164 ?_
                        refine J_lload_10 (pc := 166) hc dX4_end_166 ?_
                        refine J_lmul (pc := 168) hc dX4_end_168 ?_
                        refine nX4_97 (pc := 169) hc dX4_end_169 ?_
                        refine J_lload_12 (pc := 172) hc dX4_end_172 ?_
                        refine J_lmul (pc := 174) hc dX4_end_174 ?_
                        refine J_ladd (pc := 175) hc dX4_end_175 ?_
                        refine J_lconst (pc := 176) hc dX4_end_176 (v := 1) (by decide) ?_
                        refine J_lsub (pc := 177) hc dX4_end_177 ?_
                        refine nX4_97 (pc := 178) hc dX4_end_178 ?_
                        refine J_lload_12 (pc := 181) hc dX4_end_181 ?_
                        refine J_lmul (pc := 183) hc dX4_end_183 ?_
                        refine J_ldiv (pc := 184) hc dX4_end_184 (z4n (by rw [zlk_2 (by omega)]; exact zg_b (zgg_or w) (hzk.2.2.2 i (by omega)).2.2) bq141) ?_
                        refine J_lstore_14 (pc := 185) hc dX4_end_185 rfl ?_
                        refine J_lload_8 (pc := 187) hc dX4_end_187 ?_
                        refine J_lload_14 (pc := 189) hc dX4_end_189 ?_
                        refine J_ladd (pc := 191) hc dX4_end_191 ?_
                        refine J_lload_5 (pc := 192) hc dX4_end_192 ?_
                        refine J_lcmp_le (pc := 194) hc 206 dX4_end_194 dX4_end_195 (by decide) (fun bq194 => ?_) (fun bq194 => ?_)
                        · skip
                          refine J_lload_5 (pc := 206) hc dX4_end_206 ?_
                          refine J_lstore_5 (pc := 208) hc dX4_end_208 rfl ?_
                          subst hb2
                          first | exact J_weak (by repeat (first | exact zle_nil | apply zle_s | apply zle_n)) (hJ210 _ (zen_f (fun h => (znlt64 bq141) h.1)).symm) | exact J_weak (by repeat (first | exact zle_nil | apply zle_s | apply zle_n)) (hJ210 _ (zen_f (fun h => (znlt64 bq148) h.2.1)).symm) | exact J_weak (by repeat (first | exact zle_nil | apply zle_s | apply zle_n)) (hJ210 _ (zen_f (fun h => (znlt64 bq160) h.2.2)).symm) | exact J_weak (by repeat (first | exact zle_nil | apply zle_s | apply zle_n)) (hJ210 _ ((zen_t ⟨znle64 bq141, znle64 bq148, znle64 bq160⟩).trans (zn1_f (znlt64 bq194))).symm) | exact J_weak (by repeat (first | exact zle_nil | apply zle_s | apply zle_n)) (hJ210 _ ((zen_t ⟨znle64 bq141, znle64 bq148, znle64 bq160⟩).trans (zn1_t (znle64 bq194))).symm)
                        · skip
                          refine J_lload_8 (pc := 198) hc dX4_end_198 ?_
                          refine J_lload_14 (pc := 200) hc dX4_end_200 ?_
                          refine J_ladd (pc := 202) hc dX4_end_202 ?_
                          refine J_goto (pc := 203) hc 208 dX4_end_203 (by decide) ?_
                          refine J_lstore_5 (pc := 208) hc dX4_end_208 rfl ?_
                          subst hb2
                          first | exact J_weak (by repeat (first | exact zle_nil | apply zle_s | apply zle_n)) (hJ210 _ (zen_f (fun h => (znlt64 bq141) h.1)).symm) | exact J_weak (by repeat (first | exact zle_nil | apply zle_s | apply zle_n)) (hJ210 _ (zen_f (fun h => (znlt64 bq148) h.2.1)).symm) | exact J_weak (by repeat (first | exact zle_nil | apply zle_s | apply zle_n)) (hJ210 _ (zen_f (fun h => (znlt64 bq160) h.2.2)).symm) | exact J_weak (by repeat (first | exact zle_nil | apply zle_s | apply zle_n)) (hJ210 _ ((zen_t ⟨znle64 bq141, znle64 bq148, znle64 bq160⟩).trans (zn1_f (znlt64 bq194))).symm) | exact J_weak (by repeat (first | exact zle_nil | apply zle_s | apply zle_n)) (hJ210 _ ((zen_t ⟨znle64 bq141, znle64 bq148, znle64 bq160⟩).trans (zn1_t (znle64 bq194))).symm)
                refine J_lload_8 (pc := 109) hc dX4_end_109 ?_
                refine J_lload_10 (pc := 111) hc dX4_end_111 ?_
                refine J_ladd (pc := 113) hc dX4_end_113 ?_
                refine J_lload_12 (pc := 114) hc dX4_end_114 ?_
                refine J_ladd (pc := 116) hc dX4_end_116 ?_
                refine J_lload_5 (pc := 117) hc dX4_end_117 ?_
                refine J_lcmp_le (pc := 119) hc 134 dX4_end_119 dX4_end_120 (by decide) (fun bq119 => ?_) (fun bq119 => ?_)
                · skip
                  refine J_lload_5 (pc := 134) hc dX4_end_134 ?_
                  refine J_lstore_5 (pc := 136) hc dX4_end_136 rfl ?_
                  subst hb1
                  exact J_weak (by repeat (first | exact zle_nil | apply zle_s | apply zle_n)) (hJ138 _ (by first | exact (zn1_f (znlt64 bq119)).symm | exact (zn1_t (znle64 bq119)).symm))
                · skip
                  refine J_lload_8 (pc := 123) hc dX4_end_123 ?_
                  refine J_lload_10 (pc := 125) hc dX4_end_125 ?_
                  refine J_ladd (pc := 127) hc dX4_end_127 ?_
                  refine J_lload_12 (pc := 128) hc dX4_end_128 ?_
                  refine J_ladd (pc := 130) hc dX4_end_130 ?_
                  refine J_goto (pc := 131) hc 136 dX4_end_131 (by decide) ?_
                  refine J_lstore_5 (pc := 136) hc dX4_end_136 rfl ?_
                  subst hb1
                  exact J_weak (by repeat (first | exact zle_nil | apply zle_s | apply zle_n)) (hJ138 _ (by first | exact (zn1_f (znlt64 bq119)).symm | exact (zn1_t (znle64 bq119)).symm))
              refine J_lload_8 (pc := 92) hc dX4_end_92 ?_
              refine J_lload_5 (pc := 94) hc dX4_end_94 ?_
              refine J_lcmp_le (pc := 96) hc 105 dX4_end_96 dX4_end_97 (by decide) (fun bq96 => ?_) (fun bq96 => ?_)
              · skip
                refine J_lload_5 (pc := 105) hc dX4_end_105 ?_
                refine J_lstore_5 (pc := 107) hc dX4_end_107 rfl ?_
                exact J_weak (by repeat (first | exact zle_nil | apply zle_s | apply zle_n)) (hJ109 _ (by first | exact (zn1_f (znlt64 bq96)).symm | exact (zn1_t (znle64 bq96)).symm))
              · skip
                refine J_lload_8 (pc := 100) hc dX4_end_100 ?_
                refine J_goto (pc := 102) hc 107 dX4_end_102 (by decide) ?_
                refine J_lstore_5 (pc := 107) hc dX4_end_107 rfl ?_
                exact J_weak (by repeat (first | exact zle_nil | apply zle_s | apply zle_n)) (hJ109 _ (by first | exact (zn1_f (znlt64 bq96)).symm | exact (zn1_t (znle64 bq96)).symm))
        subst hgq
        exact J_weak (by repeat (first | exact zle_nil | apply zle_s | apply zle_n)) (hL50 _ 0 rfl (by omega))
      refine J_iloadn_2 (pc := 25) hc dX4_end_25 ?_
      refine J_if_ne (pc := 26) hc 33 dX4_end_26 (by decide) (fun bq26 => ?_) (fun bq26 => ?_)
      · skip
        refine nX4_88 (pc := 33) hc dX4_end_33 ?_
        refine J_lstoren_3 (pc := 36) hc dX4_end_36 rfl ?_
        exact J_weak (by repeat (first | exact zle_nil | apply zle_s | apply zle_n)) (hJ37 _ (by unfold zgg; first | rw [if_neg bq26] | rw [if_pos bq26]))
      · skip
        refine J_lconst (pc := 29) hc dX4_end_29 (v := 1) (by decide) ?_
        refine J_goto (pc := 30) hc 36 dX4_end_30 (by decide) ?_
        refine J_lstoren_3 (pc := 36) hc dX4_end_36 rfl ?_
        exact J_weak (by repeat (first | exact zle_nil | apply zle_s | apply zle_n)) (hJ37 _ (by unfold zgg; first | rw [if_neg bq26] | rw [if_pos bq26]))
    · skip
      have hnw := (zin1 hr (show (0 : Int64).toInt = 0 from rfl) (show (1 : Int64).toInt = 1 from rfl)).f bq14
      refine nX4_63 (pc := 17) hc dX4_end_17 ?_
      exact J_iret (pc := 19) hc hI dX4_end_19 (Or.inl ⟨by first | exact (fun h => hnw h.2) | exact (fun h => hnp h.1), rfl, rfl⟩)
