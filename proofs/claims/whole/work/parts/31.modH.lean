def zcm (σ : zS) (q : Nat) : Nat → Int := fun i => (sm σ q i).toInt
def zfz (σ : zS) (L : List Nat) : zS := ui (ua σ 28 (zputs (sa σ 28) 0 L)) 13 (nI L.length)
theorem zfz_0 (σ : zS) : ui σ 13 0 = zfz σ [] := by
  unfold zfz
  show ui σ 13 0 = ui (ua σ 28 (sa σ 28)) 13 (nI 0)
  rw [ua_self]; rfl
theorem zfz_13 (σ : zS) (L : List Nat) : si (zfz σ L) 13 = nI L.length := rfl
theorem zfz_s (σ : zS) (L : List Nat) (v : Nat) {z : Int32} (hz : z = nI (L.length + 1)) : ui (ua (zfz σ L) 28 (upd (sa (zfz σ L) 28) L.length (nI v))) 13 z = zfz σ (L ++ [v]) := by
  subst hz
  apply zS_ext <;> intro q <;> try rfl
  · show (if q = 13 then nI (L.length + 1) else (if q = 13 then nI L.length else si σ q)) = (if q = 13 then nI (L ++ [v]).length else si σ q)
    rw [List.length_append]
    by_cases h : q = 13
    · rw [if_pos h, if_pos h]; rfl
    · rw [if_neg h, if_neg h, if_neg h]
  · show (if q = 28 then upd (zputs (sa σ 28) 0 L) L.length (nI v) else (if q = 28 then zputs (sa σ 28) 0 L else sa σ q)) = (if q = 28 then zputs (sa σ 28) 0 (L ++ [v]) else sa σ q)
    by_cases h : q = 28
    · rw [if_pos h, if_pos h, zputs_app, Nat.zero_add]; rfl
    · rw [if_neg h, if_neg h, if_neg h]
theorem zbt_le (x x2 y y2 c d : Int) : zbt x x2 y y2 c d ≤ 2 := by
  unfold zbt
  (repeat' split) <;> omega
theorem znp_le (a b c : Int) (k : Nat) : znp a b c k ≤ 3 := by
  unfold znp znk
  have h := zbt_le (zh (4096 * a) (64 * b) c ((k : Nat) : Int)) (zh (4096 * a) (64 * b) c ((k + 1 : Nat) : Int)) (zrr (64 * b) c ((k : Nat) : Int)) (zrr (64 * b) c ((k + 1 : Nat) : Int)) c (b * b - 4 * a * c)
  split <;> omega
theorem z64b (i k : Nat) : 64 * nI i + nI k = nI (64 * i + k) := by rw [show (64 : Int32) = nI 64 from rfl, pk_mul, nI_add]
theorem z64c (n : Nat) : 64 * nI n = nI (64 * n) := by rw [show (64 : Int32) = nI 64 from rfl, pk_mul]
theorem zlen40 {A B C : Nat → Int} {i k e : Nat} (h : ∀ j, j < i → ¬ (A j = 0 ∧ B j = 0 ∧ C j = 0)) (hnz : ¬ (A i = 0 ∧ B i = 0 ∧ C i = 0)) (hi : i < 16) (hk : k < 64) (he : e < znp (A i) (B i) (C i) k) : (zrl A B C i ++ (zrkn (znp (A i) (B i) (C i)) k).map (fun b => 64 * i + b) ++ List.replicate e (64 * i + k)).length < 40 := by
  have h1 := zrl_len h
  have h2 := (zpb_r true hnz).1 (k + 1) (by omega)
  rw [zrkn, List.length_append, List.length_replicate] at h2
  rw [List.length_append, List.length_append, List.length_map, List.length_replicate]
  omega
theorem zrk_step (i k : Nat) (L : List Nat) (n : Nat → Nat) : L ++ (zrkn n k).map (fun b => 64 * i + b) ++ List.replicate (n k) (64 * i + k) = L ++ (zrkn n (k + 1)).map (fun b => 64 * i + b) := by
  rw [zrkn, List.map_append, List.map_replicate, List.append_assoc]
theorem zrep_step (L : List Nat) (e v : Nat) : L ++ List.replicate e v ++ [v] = L ++ List.replicate (e + 1) v := by
  rw [List.append_assoc, ← List.replicate_succ']
set_option maxRecDepth 100000 in
set_option maxHeartbeats 4000000 in
theorem c_X4_findZeros {l : Launch} {gg : zG} {σ : zS} {n : Nat} (hs : si σ 12 = nI n) (hn1 : 1 ≤ n) (hn : n ≤ 16) (hbn : ∀ i, i < n → zbd (sm σ 0 i).toInt 200000 ∧ zbd (sm σ 1 i).toInt 200000 ∧ zbd (sm σ 2 i).toInt 200000) : zMi l gg yX4_findZeros cX4_findZeros .boolean 5 2 49 [.ref (zM gg)] σ (fun r u => (r = 0 ∧ (∃ i, i < n ∧ (zcm σ 0 i = 0 ∧ zcm σ 1 i = 0 ∧ zcm σ 2 i = 0)) ∧ ∃ L, u = zfz σ L) ∨ (r = 1 ∧ (∀ i, i < n → ¬ (zcm σ 0 i = 0 ∧ zcm σ 1 i = 0 ∧ zcm σ 2 i = 0)) ∧ u = zfz σ (zrl (zcm σ 0) (zcm σ 1) (zcm σ 2) n ++ (if zh (4096 * zcm σ 0 (n - 1)) (64 * zcm σ 1 (n - 1)) (zcm σ 2 (n - 1)) 64 = 0 then [64 * n] else [])))) := by
  refine zM_i (own := RX4) (lv := [some (.ref (zM gg)), none, none, none, none]) (by decide +kernel) rfl (Nat.le_of_ble_eq_true rfl) rfl (fun cx hc hR hI => ?_)
  refine J_aloadn_0 (pc := 0) hc dX4_findZeros_0 ?_
  refine J_iconst (pc := 1) hc dX4_findZeros_1 (v := 0) (by decide) ?_
  refine pX4_112 (pc := 2) hc dX4_findZeros_2 ?_
  refine J_iconst (pc := 5) hc dX4_findZeros_5 (v := 0) (by decide) ?_
  refine J_istoren_1 (pc := 6) hc dX4_findZeros_6 rfl ?_
  have hL7 : ∀ (μ : Nat) (i : Nat), n - i = μ → i ≤ n → (∀ j, j < i → ¬ (zcm σ 0 j = 0 ∧ zcm σ 1 j = 0 ∧ zcm σ 2 j = 0)) → J cx gg (zQi cx gg (fun r u => (r = 0 ∧ (∃ i, i < n ∧ (zcm σ 0 i = 0 ∧ zcm σ 1 i = 0 ∧ zcm σ 2 i = 0)) ∧ ∃ L, u = zfz σ L) ∨ (r = 1 ∧ (∀ i, i < n → ¬ (zcm σ 0 i = 0 ∧ zcm σ 1 i = 0 ∧ zcm σ 2 i = 0)) ∧ u = zfz σ (zrl (zcm σ 0) (zcm σ 1) (zcm σ 2) n ++ (if zh (4096 * zcm σ 0 (n - 1)) (64 * zcm σ 1 (n - 1)) (zcm σ 2 (n - 1)) 64 = 0 then [64 * n] else []))))) (zfz σ (zrl (zcm σ 0) (zcm σ 1) (zcm σ 2) i)) 7 [some (.ref (zM gg)), some (.int (nI i)), none, none, none] [] := by
    intro μ
    induction μ using Nat.strongRecOn with
    | ind μ ih7 =>
      intro i hμ hi hall
      refine J_iloadn_1 (pc := 7) hc dX4_findZeros_7 ?_
      refine J_aloadn_0 (pc := 8) hc dX4_findZeros_8 ?_
      refine gX4_64 (pc := 9) hc dX4_findZeros_9 ?_
      refine J_icmp_ge (pc := 12) hc 134 dX4_findZeros_12 (by decide) (fun bq12 => ?_) (fun bq12 => ?_)
      · skip
        have bq12 := (zge rfl hs (by omega) (by omega)).mp bq12
        refine J_aloadn_0 (pc := 134) hc dX4_findZeros_134 ?_
        refine J_aloadn_0 (pc := 135) hc dX4_findZeros_135 ?_
        refine gX4_64 (pc := 136) hc dX4_findZeros_136 ?_
        refine J_topi (y := nI n) hs ?_
        refine J_iconst (pc := 139) hc dX4_findZeros_139 (v := 1) (by decide) ?_
        refine J_isub (pc := 140) hc dX4_findZeros_140 ?_
        refine J_topi (zm1 (by omega)) ?_
        refine J_bipush (pc := 141) hc dX4_findZeros_141 (v := 64) (by decide) ?_
        refine kX4_101 (pc := 143) hc hR dX4_findZeros_143 (c_X4_at (k := 64) rfl rfl (by omega) (by omega) (hbn (n - 1) (by omega)).1 (hbn (n - 1) (by omega)).2.1 (hbn (n - 1) (by omega)).2.2) (by decide) (Nat.le_of_ble_eq_true rfl) rfl (fun r u hu => ?_)
        have hra := hu.1
        refine J_eq hu.2 ?_
        refine J_lconst (pc := 146) hc dX4_findZeros_146 (v := 0) (by decide) ?_
        refine J_lcmp_ne (pc := 147) hc 177 dX4_findZeros_147 dX4_findZeros_148 (by decide) (fun bq147 => ?_) (fun bq147 => ?_)
        · skip
          refine J_iconst (pc := 177) hc dX4_findZeros_177 (v := 1) (by decide) ?_
          exact J_zret (pc := 178) hc hI dX4_findZeros_178 (by first | exact znb0 | exact znb1 | exact zb.n (by assumption)) (Or.inr ⟨rfl, fun j hj => hall j (by omega), by first | (rw [show i = n by omega, if_neg (show ¬ zh (4096 * zcm σ 0 (n - 1)) (64 * zcm σ 1 (n - 1)) (zcm σ 2 (n - 1)) 64 = 0 from fun q => bq147 (zl_eq.mpr (hra.trans q))), List.append_nil]) | (rw [if_pos (show zh (4096 * zcm σ 0 (n - 1)) (64 * zcm σ 1 (n - 1)) (zcm σ 2 (n - 1)) 64 = 0 by rw [zl_eq, hra, z0L] at bq147; exact bq147), ← show i = n by omega]; exact zfz_s σ _ _ (nI_1 _))⟩)
        · skip
          refine J_aloadn_0 (pc := 151) hc dX4_findZeros_151 ?_
          refine gX4_35 (pc := 152) hc dX4_findZeros_152 ?_
          refine J_aloadn_0 (pc := 155) hc dX4_findZeros_155 ?_
          refine gX4_112 (pc := 156) hc dX4_findZeros_156 ?_
          refine J_bipush (pc := 159) hc dX4_findZeros_159 (v := 64) (by decide) ?_
          refine J_aloadn_0 (pc := 161) hc dX4_findZeros_161 ?_
          refine gX4_64 (pc := 162) hc dX4_findZeros_162 ?_
          refine J_imul (pc := 165) hc dX4_findZeros_165 ?_
          refine J_topi (y := nI (64 * n)) (by rw [show si (zfz σ _) 12 = si σ 12 from rfl, hs]; exact z64c n) ?_
          refine J_iast (pc := 166) hc 40 (by omega) rfl dX4_findZeros_166 (zfz_13 _ _) (by have := zrl_len hall; omega) ?_
          refine J_aloadn_0 (pc := 167) hc dX4_findZeros_167 ?_
          refine J_dup (pc := 168) hc dX4_findZeros_168 rfl ?_
          refine gX4_112 (pc := 169) hc dX4_findZeros_169 ?_
          refine J_iconst (pc := 172) hc dX4_findZeros_172 (v := 1) (by decide) ?_
          refine J_iadd (pc := 173) hc dX4_findZeros_173 ?_
          refine pX4_112 (pc := 174) hc dX4_findZeros_174 ?_
          refine J_iconst (pc := 177) hc dX4_findZeros_177 (v := 1) (by decide) ?_
          exact J_zret (pc := 178) hc hI dX4_findZeros_178 (by first | exact znb0 | exact znb1 | exact zb.n (by assumption)) (Or.inr ⟨rfl, fun j hj => hall j (by omega), by first | (rw [show i = n by omega, if_neg (show ¬ zh (4096 * zcm σ 0 (n - 1)) (64 * zcm σ 1 (n - 1)) (zcm σ 2 (n - 1)) 64 = 0 from fun q => bq147 (zl_eq.mpr (hra.trans q))), List.append_nil]) | (rw [if_pos (show zh (4096 * zcm σ 0 (n - 1)) (64 * zcm σ 1 (n - 1)) (zcm σ 2 (n - 1)) 64 = 0 by rw [zl_eq, hra, z0L] at bq147; exact bq147), ← show i = n by omega]; exact zfz_s σ _ _ (nI_1 _))⟩)
      · skip
        have bq12 := mt (zge rfl hs (by omega) (by omega)).mpr bq12
        have hJ50 : ∀ (dum : Nat), ¬ (zcm σ 0 i = 0 ∧ zcm σ 1 i = 0 ∧ zcm σ 2 i = 0) → J cx gg (zQi cx gg (fun r u => (r = 0 ∧ (∃ i, i < n ∧ (zcm σ 0 i = 0 ∧ zcm σ 1 i = 0 ∧ zcm σ 2 i = 0)) ∧ ∃ L, u = zfz σ L) ∨ (r = 1 ∧ (∀ i, i < n → ¬ (zcm σ 0 i = 0 ∧ zcm σ 1 i = 0 ∧ zcm σ 2 i = 0)) ∧ u = zfz σ (zrl (zcm σ 0) (zcm σ 1) (zcm σ 2) n ++ (if zh (4096 * zcm σ 0 (n - 1)) (64 * zcm σ 1 (n - 1)) (zcm σ 2 (n - 1)) 64 = 0 then [64 * n] else []))))) (zfz σ (zrl (zcm σ 0) (zcm σ 1) (zcm σ 2) i)) 50 [some (.ref (zM gg)), some (.int (nI i)), none, none, none] [] := by
          intro dum hnz
          refine J_iconst (pc := 50) hc dX4_findZeros_50 (v := 0) (by decide) ?_
          refine J_istoren_2 (pc := 51) hc dX4_findZeros_51 rfl ?_
          have hL52 : ∀ (μ : Nat) (k : Nat), 64 - k = μ → k ≤ 64 → J cx gg (zQi cx gg (fun r u => (r = 0 ∧ (∃ i, i < n ∧ (zcm σ 0 i = 0 ∧ zcm σ 1 i = 0 ∧ zcm σ 2 i = 0)) ∧ ∃ L, u = zfz σ L) ∨ (r = 1 ∧ (∀ i, i < n → ¬ (zcm σ 0 i = 0 ∧ zcm σ 1 i = 0 ∧ zcm σ 2 i = 0)) ∧ u = zfz σ (zrl (zcm σ 0) (zcm σ 1) (zcm σ 2) n ++ (if zh (4096 * zcm σ 0 (n - 1)) (64 * zcm σ 1 (n - 1)) (zcm σ 2 (n - 1)) 64 = 0 then [64 * n] else []))))) (zfz σ ((zrl (zcm σ 0) (zcm σ 1) (zcm σ 2) i) ++ (zrkn (znp (zcm σ 0 i) (zcm σ 1 i) (zcm σ 2 i)) k).map (fun b => 64 * i + b))) 52 [some (.ref (zM gg)), some (.int (nI i)), some (.int (nI k)), none, none] [] := by
            intro μ
            induction μ using Nat.strongRecOn with
            | ind μ ih52 =>
              intro k hμ2 hk
              refine J_iloadn_2 (pc := 52) hc dX4_findZeros_52 ?_
              refine J_bipush (pc := 53) hc dX4_findZeros_53 (v := 64) (by decide) ?_
              refine J_icmp_ge (pc := 55) hc 128 dX4_findZeros_55 (by decide) (fun bq55 => ?_) (fun bq55 => ?_)
              · skip
                have bq55 := (zge rfl (show (64 : Int32) = nI 64 from rfl) (by omega) (by omega)).mp bq55
                refine J_iinc_1 (pc := 128) hc dX4_findZeros_128 (by first | exact nI_1 _ | exact rfl) rfl ?_
                refine J_goto (pc := 131) hc 7 dX4_findZeros_131 (by decide) ?_
                have ek : k = 64 := by omega
                subst ek
                exact J_weak (by repeat (first | exact zle_nil | apply zle_s | apply zle_n)) (ih7 _ (by omega) (i + 1) rfl (by omega) (lt_s hall hnz))
              · skip
                have bq55 := mt (zge rfl (show (64 : Int32) = nI 64 from rfl) (by omega) (by omega)).mpr bq55
                refine J_aloadn_0 (pc := 58) hc dX4_findZeros_58 ?_
                refine J_iloadn_1 (pc := 59) hc dX4_findZeros_59 ?_
                refine J_iloadn_2 (pc := 60) hc dX4_findZeros_60 ?_
                refine kX4_101 (pc := 61) hc hR dX4_findZeros_61 (c_X4_at rfl rfl (by omega) (by omega) (hbn i (by omega)).1 (hbn i (by omega)).2.1 (hbn i (by omega)).2.2) (by decide) (Nat.le_of_ble_eq_true rfl) rfl (fun r u hu => ?_)
                have hra := hu.1
                refine J_eq hu.2 ?_
                refine J_lconst (pc := 64) hc dX4_findZeros_64 (v := 0) (by decide) ?_
                refine J_lcmp_ne (pc := 65) hc 73 dX4_findZeros_65 dX4_findZeros_66 (by decide) (fun bq65 => ?_) (fun bq65 => ?_)
                · skip
                  refine J_iconst (pc := 73) hc dX4_findZeros_73 (v := 0) (by decide) ?_
                  refine J_aloadn_0 (pc := 74) hc dX4_findZeros_74 ?_
                  refine J_iloadn_1 (pc := 75) hc dX4_findZeros_75 ?_
                  refine J_iloadn_2 (pc := 76) hc dX4_findZeros_76 ?_
                  refine kX4_115 (pc := 77) hc hR dX4_findZeros_77 (c_X4_between rfl rfl (by omega) (by omega) (hbn i (by omega)).1 (hbn i (by omega)).2.1 (hbn i (by omega)).2.2) (by decide) (Nat.le_of_ble_eq_true rfl) rfl (fun r u hu => ?_)
                  refine J_eq hu.2 (J_topi hu.1 ?_)
                  refine J_iadd (pc := 80) hc dX4_findZeros_80 ?_
                  refine J_topi (y := nI ((znp (zcm σ 0 i) (zcm σ 1 i) (zcm σ 2 i)) k)) (by first | (rw [show (znp (zcm σ 0 i) (zcm σ 1 i) (zcm σ 2 i)) k = 0 + zbti σ i k from congrArg (· + zbti σ i k) (if_neg (fun q => bq65 (zl_eq.mpr (hra.trans q))))]; exact (nI_add 0 _)) | (rw [show (znp (zcm σ 0 i) (zcm σ 1 i) (zcm σ 2 i)) k = 1 + zbti σ i k from congrArg (· + zbti σ i k) (if_pos (show zAt σ i k = 0 by rw [zl_eq, hra, z0L] at bq65; exact bq65))]; exact (nI_add 1 _))) ?_
                  refine J_istoren_3 (pc := 81) hc dX4_findZeros_81 rfl ?_
                  have hnp3 := znp_le (zcm σ 0 i) (zcm σ 1 i) (zcm σ 2 i) k
                  refine J_iconst (pc := 82) hc dX4_findZeros_82 (v := 0) (by decide) ?_
                  refine J_istore_4 (pc := 83) hc dX4_findZeros_83 rfl ?_
                  have hL85 : ∀ (μ : Nat) (e : Nat), (znp (zcm σ 0 i) (zcm σ 1 i) (zcm σ 2 i)) k - e = μ → e ≤ (znp (zcm σ 0 i) (zcm σ 1 i) (zcm σ 2 i)) k → J cx gg (zQi cx gg (fun r u => (r = 0 ∧ (∃ i, i < n ∧ (zcm σ 0 i = 0 ∧ zcm σ 1 i = 0 ∧ zcm σ 2 i = 0)) ∧ ∃ L, u = zfz σ L) ∨ (r = 1 ∧ (∀ i, i < n → ¬ (zcm σ 0 i = 0 ∧ zcm σ 1 i = 0 ∧ zcm σ 2 i = 0)) ∧ u = zfz σ (zrl (zcm σ 0) (zcm σ 1) (zcm σ 2) n ++ (if zh (4096 * zcm σ 0 (n - 1)) (64 * zcm σ 1 (n - 1)) (zcm σ 2 (n - 1)) 64 = 0 then [64 * n] else []))))) (zfz σ (((zrl (zcm σ 0) (zcm σ 1) (zcm σ 2) i) ++ (zrkn (znp (zcm σ 0 i) (zcm σ 1 i) (zcm σ 2 i)) k).map (fun b => 64 * i + b)) ++ List.replicate e (64 * i + k))) 85 [some (.ref (zM gg)), some (.int (nI i)), some (.int (nI k)), some (.int (nI ((znp (zcm σ 0 i) (zcm σ 1 i) (zcm σ 2 i)) k))), some (.int (nI e))] [] := by
                    intro μ
                    induction μ using Nat.strongRecOn with
                    | ind μ ih85 =>
                      intro e hμ3 he
                      refine J_iload_4 (pc := 85) hc dX4_findZeros_85 ?_
                      refine J_iloadn_3 (pc := 87) hc dX4_findZeros_87 ?_
                      refine J_icmp_ge (pc := 88) hc 122 dX4_findZeros_88 (by decide) (fun bq88 => ?_) (fun bq88 => ?_)
                      · skip
                        have bq88 := (zge rfl rfl (by omega) (by omega)).mp bq88
                        refine J_iinc_2 (pc := 122) hc dX4_findZeros_122 (by first | exact nI_1 _ | exact rfl) rfl ?_
                        refine J_goto (pc := 125) hc 52 dX4_findZeros_125 (by decide) ?_
                        have ee : e = (znp (zcm σ 0 i) (zcm σ 1 i) (zcm σ 2 i)) k := by omega
                        exact J_weak (by repeat (first | exact zle_nil | apply zle_s | apply zle_n)) (J_eq (congrArg (zfz σ) (by rw [ee]; exact zrk_step i k _ _)) (ih52 _ (by omega) (k + 1) rfl (by omega)))
                      · skip
                        have bq88 := mt (zge rfl rfl (by omega) (by omega)).mpr bq88
                        refine J_aloadn_0 (pc := 91) hc dX4_findZeros_91 ?_
                        refine gX4_35 (pc := 92) hc dX4_findZeros_92 ?_
                        refine J_aloadn_0 (pc := 95) hc dX4_findZeros_95 ?_
                        refine gX4_112 (pc := 96) hc dX4_findZeros_96 ?_
                        refine J_bipush (pc := 99) hc dX4_findZeros_99 (v := 64) (by decide) ?_
                        refine J_iloadn_1 (pc := 101) hc dX4_findZeros_101 ?_
                        refine J_imul (pc := 102) hc dX4_findZeros_102 ?_
                        refine J_iloadn_2 (pc := 103) hc dX4_findZeros_103 ?_
                        refine J_iadd (pc := 104) hc dX4_findZeros_104 ?_
                        refine J_topi (z64b i k) ?_
                        refine J_iast (pc := 105) hc 40 (by omega) rfl dX4_findZeros_105 (zfz_13 _ _) (zlen40 hall hnz (by omega) (by omega) (by omega)) ?_
                        refine J_aloadn_0 (pc := 106) hc dX4_findZeros_106 ?_
                        refine J_dup (pc := 107) hc dX4_findZeros_107 rfl ?_
                        refine gX4_112 (pc := 108) hc dX4_findZeros_108 ?_
                        refine J_iconst (pc := 111) hc dX4_findZeros_111 (v := 1) (by decide) ?_
                        refine J_iadd (pc := 112) hc dX4_findZeros_112 ?_
                        refine pX4_112 (pc := 113) hc dX4_findZeros_113 ?_
                        refine J_iinc_4 (pc := 116) hc dX4_findZeros_116 (by first | exact nI_1 _ | exact rfl) rfl ?_
                        refine J_goto (pc := 119) hc 85 dX4_findZeros_119 (by decide) ?_
                        exact J_weak (by repeat (first | exact zle_nil | apply zle_s | apply zle_n)) (J_eq ((zfz_s σ _ (64 * i + k) (nI_1 _)).trans (congrArg (zfz σ) (zrep_step _ _ _))) (ih85 _ (by omega) (e + 1) rfl (by omega)))
                  exact J_weak (by repeat (first | exact zle_nil | apply zle_s | apply zle_n)) (J_eq (congrArg (zfz σ) (List.append_nil _).symm) (hL85 _ 0 rfl (by omega)))
                · skip
                  refine J_iconst (pc := 69) hc dX4_findZeros_69 (v := 1) (by decide) ?_
                  refine J_goto (pc := 70) hc 74 dX4_findZeros_70 (by decide) ?_
                  refine J_aloadn_0 (pc := 74) hc dX4_findZeros_74 ?_
                  refine J_iloadn_1 (pc := 75) hc dX4_findZeros_75 ?_
                  refine J_iloadn_2 (pc := 76) hc dX4_findZeros_76 ?_
                  refine kX4_115 (pc := 77) hc hR dX4_findZeros_77 (c_X4_between rfl rfl (by omega) (by omega) (hbn i (by omega)).1 (hbn i (by omega)).2.1 (hbn i (by omega)).2.2) (by decide) (Nat.le_of_ble_eq_true rfl) rfl (fun r u hu => ?_)
                  refine J_eq hu.2 (J_topi hu.1 ?_)
                  refine J_iadd (pc := 80) hc dX4_findZeros_80 ?_
                  refine J_topi (y := nI ((znp (zcm σ 0 i) (zcm σ 1 i) (zcm σ 2 i)) k)) (by first | (rw [show (znp (zcm σ 0 i) (zcm σ 1 i) (zcm σ 2 i)) k = 0 + zbti σ i k from congrArg (· + zbti σ i k) (if_neg (fun q => bq65 (zl_eq.mpr (hra.trans q))))]; exact (nI_add 0 _)) | (rw [show (znp (zcm σ 0 i) (zcm σ 1 i) (zcm σ 2 i)) k = 1 + zbti σ i k from congrArg (· + zbti σ i k) (if_pos (show zAt σ i k = 0 by rw [zl_eq, hra, z0L] at bq65; exact bq65))]; exact (nI_add 1 _))) ?_
                  refine J_istoren_3 (pc := 81) hc dX4_findZeros_81 rfl ?_
                  have hnp3 := znp_le (zcm σ 0 i) (zcm σ 1 i) (zcm σ 2 i) k
                  refine J_iconst (pc := 82) hc dX4_findZeros_82 (v := 0) (by decide) ?_
                  refine J_istore_4 (pc := 83) hc dX4_findZeros_83 rfl ?_
                  have hL85 : ∀ (μ : Nat) (e : Nat), (znp (zcm σ 0 i) (zcm σ 1 i) (zcm σ 2 i)) k - e = μ → e ≤ (znp (zcm σ 0 i) (zcm σ 1 i) (zcm σ 2 i)) k → J cx gg (zQi cx gg (fun r u => (r = 0 ∧ (∃ i, i < n ∧ (zcm σ 0 i = 0 ∧ zcm σ 1 i = 0 ∧ zcm σ 2 i = 0)) ∧ ∃ L, u = zfz σ L) ∨ (r = 1 ∧ (∀ i, i < n → ¬ (zcm σ 0 i = 0 ∧ zcm σ 1 i = 0 ∧ zcm σ 2 i = 0)) ∧ u = zfz σ (zrl (zcm σ 0) (zcm σ 1) (zcm σ 2) n ++ (if zh (4096 * zcm σ 0 (n - 1)) (64 * zcm σ 1 (n - 1)) (zcm σ 2 (n - 1)) 64 = 0 then [64 * n] else []))))) (zfz σ (((zrl (zcm σ 0) (zcm σ 1) (zcm σ 2) i) ++ (zrkn (znp (zcm σ 0 i) (zcm σ 1 i) (zcm σ 2 i)) k).map (fun b => 64 * i + b)) ++ List.replicate e (64 * i + k))) 85 [some (.ref (zM gg)), some (.int (nI i)), some (.int (nI k)), some (.int (nI ((znp (zcm σ 0 i) (zcm σ 1 i) (zcm σ 2 i)) k))), some (.int (nI e))] [] := by
                    intro μ
                    induction μ using Nat.strongRecOn with
                    | ind μ ih85 =>
                      intro e hμ3 he
                      refine J_iload_4 (pc := 85) hc dX4_findZeros_85 ?_
                      refine J_iloadn_3 (pc := 87) hc dX4_findZeros_87 ?_
                      refine J_icmp_ge (pc := 88) hc 122 dX4_findZeros_88 (by decide) (fun bq88 => ?_) (fun bq88 => ?_)
                      · skip
                        have bq88 := (zge rfl rfl (by omega) (by omega)).mp bq88
                        refine J_iinc_2 (pc := 122) hc dX4_findZeros_122 (by first | exact nI_1 _ | exact rfl) rfl ?_
                        refine J_goto (pc := 125) hc 52 dX4_findZeros_125 (by decide) ?_
                        have ee : e = (znp (zcm σ 0 i) (zcm σ 1 i) (zcm σ 2 i)) k := by omega
                        exact J_weak (by repeat (first | exact zle_nil | apply zle_s | apply zle_n)) (J_eq (congrArg (zfz σ) (by rw [ee]; exact zrk_step i k _ _)) (ih52 _ (by omega) (k + 1) rfl (by omega)))
                      · skip
                        have bq88 := mt (zge rfl rfl (by omega) (by omega)).mpr bq88
                        refine J_aloadn_0 (pc := 91) hc dX4_findZeros_91 ?_
                        refine gX4_35 (pc := 92) hc dX4_findZeros_92 ?_
                        refine J_aloadn_0 (pc := 95) hc dX4_findZeros_95 ?_
                        refine gX4_112 (pc := 96) hc dX4_findZeros_96 ?_
                        refine J_bipush (pc := 99) hc dX4_findZeros_99 (v := 64) (by decide) ?_
                        refine J_iloadn_1 (pc := 101) hc dX4_findZeros_101 ?_
                        refine J_imul (pc := 102) hc dX4_findZeros_102 ?_
                        refine J_iloadn_2 (pc := 103) hc dX4_findZeros_103 ?_
                        refine J_iadd (pc := 104) hc dX4_findZeros_104 ?_
                        refine J_topi (z64b i k) ?_
                        refine J_iast (pc := 105) hc 40 (by omega) rfl dX4_findZeros_105 (zfz_13 _ _) (zlen40 hall hnz (by omega) (by omega) (by omega)) ?_
                        refine J_aloadn_0 (pc := 106) hc dX4_findZeros_106 ?_
                        refine J_dup (pc := 107) hc dX4_findZeros_107 rfl ?_
                        refine gX4_112 (pc := 108) hc dX4_findZeros_108 ?_
                        refine J_iconst (pc := 111) hc dX4_findZeros_111 (v := 1) (by decide) ?_
                        refine J_iadd (pc := 112) hc dX4_findZeros_112 ?_
                        refine pX4_112 (pc := 113) hc dX4_findZeros_113 ?_
                        refine J_iinc_4 (pc := 116) hc dX4_findZeros_116 (by first | exact nI_1 _ | exact rfl) rfl ?_
                        refine J_goto (pc := 119) hc 85 dX4_findZeros_119 (by decide) ?_
                        exact J_weak (by repeat (first | exact zle_nil | apply zle_s | apply zle_n)) (J_eq ((zfz_s σ _ (64 * i + k) (nI_1 _)).trans (congrArg (zfz σ) (zrep_step _ _ _))) (ih85 _ (by omega) (e + 1) rfl (by omega)))
                  exact J_weak (by repeat (first | exact zle_nil | apply zle_s | apply zle_n)) (J_eq (congrArg (zfz σ) (List.append_nil _).symm) (hL85 _ 0 rfl (by omega)))
          exact J_weak (by repeat (first | exact zle_nil | apply zle_s | apply zle_n)) (J_eq (congrArg (zfz σ) (List.append_nil _).symm) (hL52 _ 0 rfl (by omega)))
        refine J_aloadn_0 (pc := 15) hc dX4_findZeros_15 ?_
        refine gX4_25 (pc := 16) hc dX4_findZeros_16 ?_
        refine J_iloadn_1 (pc := 19) hc dX4_findZeros_19 ?_
        refine J_lald (pc := 20) hc (by decide) dX4_findZeros_20 (by first | with_reducible exact rfl | with_reducible exact nI_1 _ | with_reducible exact z16 _ _ | with_reducible exact zm1 (by omega) | assumption | exact rfl) (by omega) ?_
        refine J_lconst (pc := 21) hc dX4_findZeros_21 (v := 0) (by decide) ?_
        refine J_lcmp_ne (pc := 22) hc 50 dX4_findZeros_22 dX4_findZeros_23 (by decide) (fun bq22 => ?_) (fun bq22 => ?_)
        · skip
          exact J_weak (by repeat (first | exact zle_nil | apply zle_s | apply zle_n)) (hJ50 0 (by first | exact (fun h => bq44 (zl_eq.mpr h.2.2)) | exact (fun h => bq33 (zl_eq.mpr h.2.1)) | exact (fun h => bq22 (zl_eq.mpr h.1))))
        · skip
          refine J_aloadn_0 (pc := 26) hc dX4_findZeros_26 ?_
          refine gX4_29 (pc := 27) hc dX4_findZeros_27 ?_
          refine J_iloadn_1 (pc := 30) hc dX4_findZeros_30 ?_
          refine J_lald (pc := 31) hc (by decide) dX4_findZeros_31 (by first | with_reducible exact rfl | with_reducible exact nI_1 _ | with_reducible exact z16 _ _ | with_reducible exact zm1 (by omega) | assumption | exact rfl) (by omega) ?_
          refine J_lconst (pc := 32) hc dX4_findZeros_32 (v := 0) (by decide) ?_
          refine J_lcmp_ne (pc := 33) hc 50 dX4_findZeros_33 dX4_findZeros_34 (by decide) (fun bq33 => ?_) (fun bq33 => ?_)
          · skip
            exact J_weak (by repeat (first | exact zle_nil | apply zle_s | apply zle_n)) (hJ50 0 (by first | exact (fun h => bq44 (zl_eq.mpr h.2.2)) | exact (fun h => bq33 (zl_eq.mpr h.2.1)) | exact (fun h => bq22 (zl_eq.mpr h.1))))
          · skip
            refine J_aloadn_0 (pc := 37) hc dX4_findZeros_37 ?_
            refine gX4_32 (pc := 38) hc dX4_findZeros_38 ?_
            refine J_iloadn_1 (pc := 41) hc dX4_findZeros_41 ?_
            refine J_lald (pc := 42) hc (by decide) dX4_findZeros_42 (by first | with_reducible exact rfl | with_reducible exact nI_1 _ | with_reducible exact z16 _ _ | with_reducible exact zm1 (by omega) | assumption | exact rfl) (by omega) ?_
            refine J_lconst (pc := 43) hc dX4_findZeros_43 (v := 0) (by decide) ?_
            refine J_lcmp_ne (pc := 44) hc 50 dX4_findZeros_44 dX4_findZeros_45 (by decide) (fun bq44 => ?_) (fun bq44 => ?_)
            · skip
              exact J_weak (by repeat (first | exact zle_nil | apply zle_s | apply zle_n)) (hJ50 0 (by first | exact (fun h => bq44 (zl_eq.mpr h.2.2)) | exact (fun h => bq33 (zl_eq.mpr h.2.1)) | exact (fun h => bq22 (zl_eq.mpr h.1))))
            · skip
              refine J_iconst (pc := 48) hc dX4_findZeros_48 (v := 0) (by decide) ?_
              exact J_zret (pc := 49) hc hI dX4_findZeros_49 (by first | exact znb0 | exact znb1 | exact zb.n (by assumption)) (Or.inl ⟨rfl, ⟨i, by omega, zl_eq.mp bq22, zl_eq.mp bq33, zl_eq.mp bq44⟩, _, rfl⟩)
  exact J_weak (by repeat (first | exact zle_nil | apply zle_s | apply zle_n)) (J_eq (zfz_0 σ) (hL7 _ 0 rfl (by omega) lt_0))
