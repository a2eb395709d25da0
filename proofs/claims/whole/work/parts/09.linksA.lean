section ZK
variable {cx : zX} {gg : zG} {Q : State → Prop} {σ : zS} {pc : Nat} {lv : List (Option Value)} {st : List Value} {cc : ByteArray} {nL : Nat}
theorem zinX0 : ∀ w ∈ u_ws RX0 TX0 4, w ∈ zT := by decide +kernel
theorem zinX1 : ∀ w ∈ u_ws RX1 TX1 2, w ∈ zT := by decide +kernel
theorem zinX2 : ∀ w ∈ u_ws RX2 TX2 5, w ∈ zT := by decide +kernel
theorem zinX3 : ∀ w ∈ u_ws RX3 TX3 6, w ∈ zT := by decide +kernel
theorem zinX4 : ∀ w ∈ u_ws RX4 TX4 13, w ∈ zT := by decide +kernel
theorem gX0_9 (hc : zOK cx gg cc RX0 nL) {k : Nat} (hk : k < 7) (hd : decode cc pc = .ok (.getfield 9, 3)) (kk : J cx gg Q σ (pc + 3) lv (.ref (zr gg k) :: st)) : J cx gg Q σ pc lv (.ref (zc gg k) :: st) :=
  J_getg hc (i := 2 + k) rfl (by omega) (zE_c gg σ hk) (ci := 0) rfl zinX0 0 (by decide) (by decide +kernel) rfl hd kk
theorem gX2_34 (hc : zOK cx gg cc RX2 nL) {k : Nat} (hk : k < 7) (hd : decode cc pc = .ok (.getfield 34, 3)) (kk : J cx gg Q σ (pc + 3) lv (.ref (zr gg k) :: st)) : J cx gg Q σ pc lv (.ref (zc gg k) :: st) :=
  J_getN hc (host := "SmoothPieces") (i := 2 + k) rfl (by omega) (zE_c gg σ hk) (ci := 0) rfl zinX0 0 (by decide) (by decide +kernel) rfl hd kk
theorem gX3_63 (hc : zOK cx gg cc RX3 nL) {k : Nat} (hk : k < 7) (hd : decode cc pc = .ok (.getfield 63, 3)) (kk : J cx gg Q σ (pc + 3) lv (.ref (zr gg k) :: st)) : J cx gg Q σ pc lv (.ref (zc gg k) :: st) :=
  J_getN hc (host := "SmoothPieces") (i := 2 + k) rfl (by omega) (zE_c gg σ hk) (ci := 0) rfl zinX0 0 (by decide) (by decide +kernel) rfl hd kk
theorem gX0_15 (hc : zOK cx gg cc RX0 nL) {k : Nat} (hk : k < 7) (hd : decode cc pc = .ok (.getfield 15, 3)) (kk : J cx gg Q σ (pc + 3) lv (.ref (zr gg (7 + k)) :: st)) : J cx gg Q σ pc lv (.ref (zc gg k) :: st) :=
  J_getg hc (i := 2 + k) rfl (by omega) (zE_c gg σ hk) (ci := 0) rfl zinX0 1 (by decide) (by decide +kernel) rfl hd kk
theorem gX2_36 (hc : zOK cx gg cc RX2 nL) {k : Nat} (hk : k < 7) (hd : decode cc pc = .ok (.getfield 36, 3)) (kk : J cx gg Q σ (pc + 3) lv (.ref (zr gg (7 + k)) :: st)) : J cx gg Q σ pc lv (.ref (zc gg k) :: st) :=
  J_getN hc (host := "SmoothPieces") (i := 2 + k) rfl (by omega) (zE_c gg σ hk) (ci := 0) rfl zinX0 1 (by decide) (by decide +kernel) rfl hd kk
theorem gX3_66 (hc : zOK cx gg cc RX3 nL) {k : Nat} (hk : k < 7) (hd : decode cc pc = .ok (.getfield 66, 3)) (kk : J cx gg Q σ (pc + 3) lv (.ref (zr gg (7 + k)) :: st)) : J cx gg Q σ pc lv (.ref (zc gg k) :: st) :=
  J_getN hc (host := "SmoothPieces") (i := 2 + k) rfl (by omega) (zE_c gg σ hk) (ci := 0) rfl zinX0 1 (by decide) (by decide +kernel) rfl hd kk
theorem gX0_18 (hc : zOK cx gg cc RX0 nL) {k : Nat} (hk : k < 7) (hd : decode cc pc = .ok (.getfield 18, 3)) (kk : J cx gg Q σ (pc + 3) lv (.ref (zr gg (14 + k)) :: st)) : J cx gg Q σ pc lv (.ref (zc gg k) :: st) :=
  J_getg hc (i := 2 + k) rfl (by omega) (zE_c gg σ hk) (ci := 0) rfl zinX0 2 (by decide) (by decide +kernel) rfl hd kk
theorem gX2_38 (hc : zOK cx gg cc RX2 nL) {k : Nat} (hk : k < 7) (hd : decode cc pc = .ok (.getfield 38, 3)) (kk : J cx gg Q σ (pc + 3) lv (.ref (zr gg (14 + k)) :: st)) : J cx gg Q σ pc lv (.ref (zc gg k) :: st) :=
  J_getN hc (host := "SmoothPieces") (i := 2 + k) rfl (by omega) (zE_c gg σ hk) (ci := 0) rfl zinX0 2 (by decide) (by decide +kernel) rfl hd kk
theorem gX3_69 (hc : zOK cx gg cc RX3 nL) {k : Nat} (hk : k < 7) (hd : decode cc pc = .ok (.getfield 69, 3)) (kk : J cx gg Q σ (pc + 3) lv (.ref (zr gg (14 + k)) :: st)) : J cx gg Q σ pc lv (.ref (zc gg k) :: st) :=
  J_getN hc (host := "SmoothPieces") (i := 2 + k) rfl (by omega) (zE_c gg σ hk) (ci := 0) rfl zinX0 2 (by decide) (by decide +kernel) rfl hd kk
theorem gX0_21 (hc : zOK cx gg cc RX0 nL) {k : Nat} (hk : k < 7) (hd : decode cc pc = .ok (.getfield 21, 3)) (kk : J cx gg Q σ (pc + 3) lv (.int (si σ k) :: st)) : J cx gg Q σ pc lv (.ref (zc gg k) :: st) :=
  J_getg hc (i := 2 + k) rfl (by omega) (zE_c gg σ hk) (ci := 0) rfl zinX0 3 (by decide) (by decide +kernel) rfl hd kk
theorem pX0_21 (hc : zOK cx gg cc RX0 nL) {k : Nat} (hk : k < 7) {v : Int32} (hd : decode cc pc = .ok (.putfield 21, 3)) (kk : J cx gg Q (ui σ k v) (pc + 3) lv st) : J cx gg Q σ pc lv (.int v :: .ref (zc gg k) :: st) :=
  J_putg hc (ty := .int) (i := 2 + k) rfl (by omega) (zE_c gg σ hk) (ci := 0) rfl zinX0 tyX0 tyX0_ok nmX0 3 (by decide) (by decide +kernel) rfl (by decide +kernel) rfl rfl (by simp) (by rw [zE_c gg _ hk, si_ui_s]; rfl) (fun j hj h => zE_ui gg σ v (by omega) hj (by unfold zoi; first | rw [if_pos hk]; exact h | exact h)) hd kk
theorem gX2_29 (hc : zOK cx gg cc RX2 nL) {k : Nat} (hk : k < 7) (hd : decode cc pc = .ok (.getfield 29, 3)) (kk : J cx gg Q σ (pc + 3) lv (.int (si σ k) :: st)) : J cx gg Q σ pc lv (.ref (zc gg k) :: st) :=
  J_getN hc (host := "SmoothPieces") (i := 2 + k) rfl (by omega) (zE_c gg σ hk) (ci := 0) rfl zinX0 3 (by decide) (by decide +kernel) rfl hd kk
theorem gX3_77 (hc : zOK cx gg cc RX3 nL) {k : Nat} (hk : k < 7) (hd : decode cc pc = .ok (.getfield 77, 3)) (kk : J cx gg Q σ (pc + 3) lv (.int (si σ k) :: st)) : J cx gg Q σ pc lv (.ref (zc gg k) :: st) :=
  J_getN hc (host := "SmoothPieces") (i := 2 + k) rfl (by omega) (zE_c gg σ hk) (ci := 0) rfl zinX0 3 (by decide) (by decide +kernel) rfl hd kk
theorem gX2_9 (hc : zOK cx gg cc RX2 nL) (hd : decode cc pc = .ok (.getfield 9, 3)) (kk : J cx gg Q σ (pc + 3) lv (.ref (zr gg 22) :: st)) : J cx gg Q σ pc lv (.ref (zf gg) :: st) :=
  J_getg hc (i := 42) rfl (by decide) rfl (ci := 2) rfl zinX2 0 (by decide) (by decide +kernel) rfl hd kk
theorem gX3_114 (hc : zOK cx gg cc RX3 nL) (hd : decode cc pc = .ok (.getfield 114, 3)) (kk : J cx gg Q σ (pc + 3) lv (.ref (zr gg 22) :: st)) : J cx gg Q σ pc lv (.ref (zf gg) :: st) :=
  J_getN hc (host := "SmoothPieces") (i := 42) rfl (by decide) rfl (ci := 2) rfl zinX2 0 (by decide) (by decide +kernel) rfl hd kk
theorem gX2_15 (hc : zOK cx gg cc RX2 nL) (hd : decode cc pc = .ok (.getfield 15, 3)) (kk : J cx gg Q σ (pc + 3) lv (.int (si σ 8) :: st)) : J cx gg Q σ pc lv (.ref (zf gg) :: st) :=
  J_getg hc (i := 42) rfl (by decide) rfl (ci := 2) rfl zinX2 1 (by decide) (by decide +kernel) rfl hd kk
theorem pX2_15 (hc : zOK cx gg cc RX2 nL) {v : Int32} (hd : decode cc pc = .ok (.putfield 15, 3)) (kk : J cx gg Q (ui σ 8 v) (pc + 3) lv st) : J cx gg Q σ pc lv (.int v :: .ref (zf gg) :: st) :=
  J_putg hc (ty := .int) (i := 42) rfl (by decide) rfl (ci := 2) rfl zinX2 tyX2 tyX2_ok nmX2 1 (by decide) (by decide +kernel) rfl (by decide +kernel) rfl rfl (by simp) rfl (fun j hj h => zE_ui gg σ v (by omega) hj (by unfold zoi; first | rw [if_pos hk]; exact h | exact h)) hd kk
theorem gX3_192 (hc : zOK cx gg cc RX3 nL) (hd : decode cc pc = .ok (.getfield 192, 3)) (kk : J cx gg Q σ (pc + 3) lv (.int (si σ 8) :: st)) : J cx gg Q σ pc lv (.ref (zf gg) :: st) :=
  J_getN hc (host := "SmoothPieces") (i := 42) rfl (by decide) rfl (ci := 2) rfl zinX2 1 (by decide) (by decide +kernel) rfl hd kk
theorem gX2_19 (hc : zOK cx gg cc RX2 nL) (hd : decode cc pc = .ok (.getfield 19, 3)) (kk : J cx gg Q σ (pc + 3) lv (.long (sl σ 0) :: st)) : J cx gg Q σ pc lv (.ref (zf gg) :: st) :=
  J_getg hc (i := 42) rfl (by decide) rfl (ci := 2) rfl zinX2 2 (by decide) (by decide +kernel) rfl hd kk
theorem pX2_19 (hc : zOK cx gg cc RX2 nL) {v : Int64} (hd : decode cc pc = .ok (.putfield 19, 3)) (kk : J cx gg Q (ul σ 0 v) (pc + 3) lv st) : J cx gg Q σ pc lv (.long v :: .ref (zf gg) :: st) :=
  J_putg hc (ty := .long) (i := 42) rfl (by decide) rfl (ci := 2) rfl zinX2 tyX2 tyX2_ok nmX2 2 (by decide) (by decide +kernel) rfl (by decide +kernel) rfl rfl (by simp) rfl (fun j hj h => zE_ul gg σ v h) hd kk
theorem gX2_23 (hc : zOK cx gg cc RX2 nL) (hd : decode cc pc = .ok (.getfield 23, 3)) (kk : J cx gg Q σ (pc + 3) lv (.long (sl σ 1) :: st)) : J cx gg Q σ pc lv (.ref (zf gg) :: st) :=
  J_getg hc (i := 42) rfl (by decide) rfl (ci := 2) rfl zinX2 3 (by decide) (by decide +kernel) rfl hd kk
theorem pX2_23 (hc : zOK cx gg cc RX2 nL) {v : Int64} (hd : decode cc pc = .ok (.putfield 23, 3)) (kk : J cx gg Q (ul σ 1 v) (pc + 3) lv st) : J cx gg Q σ pc lv (.long v :: .ref (zf gg) :: st) :=
  J_putg hc (ty := .long) (i := 42) rfl (by decide) rfl (ci := 2) rfl zinX2 tyX2 tyX2_ok nmX2 3 (by decide) (by decide +kernel) rfl (by decide +kernel) rfl rfl (by simp) rfl (fun j hj h => zE_ul gg σ v h) hd kk
theorem gX2_26 (hc : zOK cx gg cc RX2 nL) (hd : decode cc pc = .ok (.getfield 26, 3)) (kk : J cx gg Q σ (pc + 3) lv (.long (sl σ 2) :: st)) : J cx gg Q σ pc lv (.ref (zf gg) :: st) :=
  J_getg hc (i := 42) rfl (by decide) rfl (ci := 2) rfl zinX2 4 (by decide) (by decide +kernel) rfl hd kk
theorem pX2_26 (hc : zOK cx gg cc RX2 nL) {v : Int64} (hd : decode cc pc = .ok (.putfield 26, 3)) (kk : J cx gg Q (ul σ 2 v) (pc + 3) lv st) : J cx gg Q σ pc lv (.long v :: .ref (zf gg) :: st) :=
  J_putg hc (ty := .long) (i := 42) rfl (by decide) rfl (ci := 2) rfl zinX2 tyX2 tyX2_ok nmX2 4 (by decide) (by decide +kernel) rfl (by decide +kernel) rfl rfl (by simp) rfl (fun j hj h => zE_ul gg σ v h) hd kk
theorem gX1_7 (hc : zOK cx gg cc RX1 nL) (hd : decode cc pc = .ok (.getfield 7, 3)) (kk : J cx gg Q σ (pc + 3) lv (.int (si σ 9) :: st)) : J cx gg Q σ pc lv (.ref (zn gg) :: st) :=
  J_getg hc (i := 43) rfl (by decide) rfl (ci := 1) rfl zinX1 0 (by decide) (by decide +kernel) rfl hd kk
theorem pX1_7 (hc : zOK cx gg cc RX1 nL) {v : Int32} (hd : decode cc pc = .ok (.putfield 7, 3)) (kk : J cx gg Q (ui σ 9 v) (pc + 3) lv st) : J cx gg Q σ pc lv (.int v :: .ref (zn gg) :: st) :=
  J_putg hc (ty := .int) (i := 43) rfl (by decide) rfl (ci := 1) rfl zinX1 tyX1 tyX1_ok nmX1 0 (by decide) (by decide +kernel) rfl (by decide +kernel) rfl rfl (by simp) rfl (fun j hj h => zE_ui gg σ v (by omega) hj (by unfold zoi; first | rw [if_pos hk]; exact h | exact h)) hd kk
theorem gX3_158 (hc : zOK cx gg cc RX3 nL) (hd : decode cc pc = .ok (.getfield 158, 3)) (kk : J cx gg Q σ (pc + 3) lv (.int (si σ 9) :: st)) : J cx gg Q σ pc lv (.ref (zn gg) :: st) :=
  J_getN hc (host := "SmoothPieces") (i := 43) rfl (by decide) rfl (ci := 1) rfl zinX1 0 (by decide) (by decide +kernel) rfl hd kk
theorem gX1_13 (hc : zOK cx gg cc RX1 nL) (hd : decode cc pc = .ok (.getfield 13, 3)) (kk : J cx gg Q σ (pc + 3) lv (.int (si σ 10) :: st)) : J cx gg Q σ pc lv (.ref (zn gg) :: st) :=
  J_getg hc (i := 43) rfl (by decide) rfl (ci := 1) rfl zinX1 1 (by decide) (by decide +kernel) rfl hd kk
theorem pX1_13 (hc : zOK cx gg cc RX1 nL) {v : Int32} (hd : decode cc pc = .ok (.putfield 13, 3)) (kk : J cx gg Q (ui σ 10 v) (pc + 3) lv st) : J cx gg Q σ pc lv (.int v :: .ref (zn gg) :: st) :=
  J_putg hc (ty := .int) (i := 43) rfl (by decide) rfl (ci := 1) rfl zinX1 tyX1 tyX1_ok nmX1 1 (by decide) (by decide +kernel) rfl (by decide +kernel) rfl rfl (by simp) rfl (fun j hj h => zE_ui gg σ v (by omega) hj (by unfold zoi; first | rw [if_pos hk]; exact h | exact h)) hd kk
theorem gX3_161 (hc : zOK cx gg cc RX3 nL) (hd : decode cc pc = .ok (.getfield 161, 3)) (kk : J cx gg Q σ (pc + 3) lv (.int (si σ 10) :: st)) : J cx gg Q σ pc lv (.ref (zn gg) :: st) :=
  J_getN hc (host := "SmoothPieces") (i := 43) rfl (by decide) rfl (ci := 1) rfl zinX1 1 (by decide) (by decide +kernel) rfl hd kk
theorem gX3_11 (hc : zOK cx gg cc RX3 nL) (hd : decode cc pc = .ok (.getfield 11, 3)) (kk : J cx gg Q σ (pc + 3) lv (.ref (zv gg) :: st)) : J cx gg Q σ pc lv (.ref (zo gg) :: st) :=
  J_getg hc (i := 0) rfl (by decide) rfl (ci := 3) rfl zinX3 0 (by decide) (by decide +kernel) rfl hd kk
theorem gX3_16 (hc : zOK cx gg cc RX3 nL) (hd : decode cc pc = .ok (.getfield 16, 3)) (kk : J cx gg Q σ (pc + 3) lv (.ref (zc gg 6) :: st)) : J cx gg Q σ pc lv (.ref (zo gg) :: st) :=
  J_getg hc (i := 0) rfl (by decide) rfl (ci := 3) rfl zinX3 1 (by decide) (by decide +kernel) rfl hd kk
theorem gX3_23 (hc : zOK cx gg cc RX3 nL) (hd : decode cc pc = .ok (.getfield 23, 3)) (kk : J cx gg Q σ (pc + 3) lv (.ref (zf gg) :: st)) : J cx gg Q σ pc lv (.ref (zo gg) :: st) :=
  J_getg hc (i := 0) rfl (by decide) rfl (ci := 3) rfl zinX3 2 (by decide) (by decide +kernel) rfl hd kk
theorem gX3_30 (hc : zOK cx gg cc RX3 nL) (hd : decode cc pc = .ok (.getfield 30, 3)) (kk : J cx gg Q σ (pc + 3) lv (.ref (zn gg) :: st)) : J cx gg Q σ pc lv (.ref (zo gg) :: st) :=
  J_getg hc (i := 0) rfl (by decide) rfl (ci := 3) rfl zinX3 3 (by decide) (by decide +kernel) rfl hd kk
theorem gX3_34 (hc : zOK cx gg cc RX3 nL) (hd : decode cc pc = .ok (.getfield 34, 3)) (kk : J cx gg Q σ (pc + 3) lv (.ref (zr gg 21) :: st)) : J cx gg Q σ pc lv (.ref (zo gg) :: st) :=
  J_getg hc (i := 0) rfl (by decide) rfl (ci := 3) rfl zinX3 4 (by decide) (by decide +kernel) rfl hd kk
theorem gX3_38 (hc : zOK cx gg cc RX3 nL) (hd : decode cc pc = .ok (.getfield 38, 3)) (kk : J cx gg Q σ (pc + 3) lv (.int (si σ 7) :: st)) : J cx gg Q σ pc lv (.ref (zo gg) :: st) :=
  J_getg hc (i := 0) rfl (by decide) rfl (ci := 3) rfl zinX3 5 (by decide) (by decide +kernel) rfl hd kk
theorem pX3_38 (hc : zOK cx gg cc RX3 nL) {v : Int32} (hd : decode cc pc = .ok (.putfield 38, 3)) (kk : J cx gg Q (ui σ 7 v) (pc + 3) lv st) : J cx gg Q σ pc lv (.int v :: .ref (zo gg) :: st) :=
  J_putg hc (ty := .int) (i := 0) rfl (by decide) rfl (ci := 3) rfl zinX3 tyX3 tyX3_ok nmX3 5 (by decide) (by decide +kernel) rfl (by decide +kernel) rfl rfl (by simp) rfl (fun j hj h => zE_ui gg σ v (by omega) hj (by unfold zoi; first | rw [if_pos hk]; exact h | exact h)) hd kk
theorem wnX3 : Cond.initialized RX3 ∈ zT := by decide +kernel
theorem wcyX3_pieces : Cond.code yX3_pieces cX3_pieces 3 (some .int) ∈ zT := by decide +kernel
theorem wiyX3_pieces : Cond.instanceMethod yX3_pieces ∈ zT := by decide +kernel
theorem weyX3_pieces : Cond.selects yX3_pieces.cls yX3_pieces yX3_pieces ∈ zT := by decide +kernel
theorem wcyX3_isNoPlace : Cond.code yX3_isNoPlace cX3_isNoPlace 1 (some .boolean) ∈ zT := by decide +kernel
theorem wtyX3_isNoPlace : Cond.static yX3_isNoPlace ∈ zT := by decide +kernel
theorem kX3_42 (hc : zOK cx gg cc RX3 nL) {f0 l0 : Nat} (hR : zR cx f0 l0) {fr lo : Nat} {a0 : Value} {rest : List Value} {post : Int32 → zS → Prop} (hd : decode cc pc = .ok (.invokestatic 42, 3)) (hM : zMi cx.1.2.1 gg yX3_isNoPlace cX3_isNoPlace .boolean 1 fr lo [a0] σ post) (hr : fr + 1 ≤ f0 ∧ 8 + (1 + 11) + lo ≤ l0) (hs : (rest.map fun v => v.category).sum ≤ 8) (hlen : lv.length = nL) (kk : ∀ (r : Int32) (u : zS), post r u → J cx gg Q u (pc + 3) lv (.int r :: rest)) : J cx gg Q σ pc lv (a0 :: rest) :=
  J_cSi hc hR (n := 1) (by decide +kernel) wtyX3_isNoPlace wnX3 wcyX3_isNoPlace (by decide +kernel) hd hM hr rfl rfl hs hlen kk
theorem wnX0 : Cond.initialized RX0 ∈ zT := by decide +kernel
theorem wcyX0_becomeZero : Cond.code yX0_becomeZero cX0_becomeZero 3 none ∈ zT := by decide +kernel
theorem wiyX0_becomeZero : Cond.instanceMethod yX0_becomeZero ∈ zT := by decide +kernel
theorem weyX0_becomeZero : Cond.selects yX0_becomeZero.cls yX0_becomeZero yX0_becomeZero ∈ zT := by decide +kernel
theorem kX3_46 (hc : zOK cx gg cc RX3 nL) {f0 l0 : Nat} (hR : zR cx f0 l0) {fr lo : Nat} {k : Nat} (hk : k < 7) {a0 : Value} {rest : List Value} {post : zS → Prop} (hd : decode cc pc = .ok (.invokevirtual 46, 3)) (hM : zMv cx.1.2.1 gg yX0_becomeZero cX0_becomeZero 3 fr lo (.ref (zc gg k) :: [a0]) σ post) (hr : fr + 1 ≤ f0 ∧ 8 + (3 + 11) + lo ≤ l0) (hs : (rest.map fun v => v.category).sum ≤ 8) (hlen : lv.length = nL) (kk : ∀ u : zS, post u → J cx gg Q u (pc + 3) lv rest) : J cx gg Q σ pc lv (a0 :: .ref (zc gg k) :: rest) :=
  J_cVNv hc hR (host := "SmoothPieces") (n := 1) (i := 2 + k) (by decide +kernel) wiyX0_becomeZero weyX0_becomeZero wnX0 wcyX0_becomeZero (by decide +kernel) rfl (by omega) (zE_c gg σ hk) (ci := 0) rfl rfl hd hM hr rfl rfl hs hlen kk
theorem wcyX0_put : Cond.code yX0_put cX0_put 5 none ∈ zT := by decide +kernel
theorem wiyX0_put : Cond.instanceMethod yX0_put ∈ zT := by decide +kernel
theorem weyX0_put : Cond.selects yX0_put.cls yX0_put yX0_put ∈ zT := by decide +kernel
theorem kX0_25 (hc : zOK cx gg cc RX0 nL) {f0 l0 : Nat} (hR : zR cx f0 l0) {fr lo : Nat} {k : Nat} (hk : k < 7) {a0 a1 a2 a3 : Value} {rest : List Value} {post : zS → Prop} (hd : decode cc pc = .ok (.invokevirtual 25, 3)) (hM : zMv cx.1.2.1 gg yX0_put cX0_put 5 fr lo (.ref (zc gg k) :: [a0, a1, a2, a3]) σ post) (hr : fr + 1 ≤ f0 ∧ 8 + (5 + 11) + lo ≤ l0) (hs : (rest.map fun v => v.category).sum ≤ 8) (hlen : lv.length = nL) (kk : ∀ u : zS, post u → J cx gg Q u (pc + 3) lv rest) : J cx gg Q σ pc lv (a3 :: a2 :: a1 :: a0 :: .ref (zc gg k) :: rest) :=
  J_cVv hc hR (n := 4) (i := 2 + k) (by decide +kernel) wiyX0_put weyX0_put wnX0 wcyX0_put (by decide +kernel) rfl (by omega) (zE_c gg σ hk) (ci := 0) rfl rfl hd hM hr rfl rfl hs hlen kk
theorem wcyX3_piece : Cond.code yX3_piece cX3_piece 6 (some .int) ∈ zT := by decide +kernel
theorem wiyX3_piece : Cond.instanceMethod yX3_piece ∈ zT := by decide +kernel
theorem weyX3_piece : Cond.selects yX3_piece.cls yX3_piece yX3_piece ∈ zT := by decide +kernel
theorem wcyX3_isNoPiece : Cond.code yX3_isNoPiece cX3_isNoPiece 3 (some .boolean) ∈ zT := by decide +kernel
theorem wiyX3_isNoPiece : Cond.instanceMethod yX3_isNoPiece ∈ zT := by decide +kernel
theorem weyX3_isNoPiece : Cond.selects yX3_isNoPiece.cls yX3_isNoPiece yX3_isNoPiece ∈ zT := by decide +kernel
theorem kX3_50 (hc : zOK cx gg cc RX3 nL) {f0 l0 : Nat} (hR : zR cx f0 l0) {fr lo : Nat} {a0 a1 : Value} {rest : List Value} {post : Int32 → zS → Prop} (hd : decode cc pc = .ok (.invokevirtual 50, 3)) (hM : zMi cx.1.2.1 gg yX3_isNoPiece cX3_isNoPiece .boolean 3 fr lo (.ref (zo gg) :: [a0, a1]) σ post) (hr : fr + 1 ≤ f0 ∧ 8 + (3 + 11) + lo ≤ l0) (hs : (rest.map fun v => v.category).sum ≤ 8) (hlen : lv.length = nL) (kk : ∀ (r : Int32) (u : zS), post r u → J cx gg Q u (pc + 3) lv (.int r :: rest)) : J cx gg Q σ pc lv (a1 :: a0 :: .ref (zo gg) :: rest) :=
  J_cVi hc hR (n := 2) (i := 0) (by decide +kernel) wiyX3_isNoPiece weyX3_isNoPiece wnX3 wcyX3_isNoPiece (by decide +kernel) rfl (by decide) rfl (ci := 3) rfl rfl hd hM hr rfl rfl hs hlen kk
theorem nX3_54 (hc : zOK cx gg cc RX3 nL) (hd : decode cc pc = .ok (.ldc 54, 2)) (kk : J cx gg Q σ (pc + 2) lv (.int (100000) :: st)) : J cx gg Q σ pc lv st := J_ldc hc (by decide +kernel) hd kk
theorem wcyX3_isBeyond : Cond.code yX3_isBeyond cX3_isBeyond 2 (some .boolean) ∈ zT := by decide +kernel
theorem wtyX3_isBeyond : Cond.static yX3_isBeyond ∈ zT := by decide +kernel
theorem kX3_55 (hc : zOK cx gg cc RX3 nL) {f0 l0 : Nat} (hR : zR cx f0 l0) {fr lo : Nat} {a0 a1 : Value} {rest : List Value} {post : Int32 → zS → Prop} (hd : decode cc pc = .ok (.invokestatic 55, 3)) (hM : zMi cx.1.2.1 gg yX3_isBeyond cX3_isBeyond .boolean 2 fr lo [a0, a1] σ post) (hr : fr + 1 ≤ f0 ∧ 8 + (2 + 11) + lo ≤ l0) (hs : (rest.map fun v => v.category).sum ≤ 8) (hlen : lv.length = nL) (kk : ∀ (r : Int32) (u : zS), post r u → J cx gg Q u (pc + 3) lv (.int r :: rest)) : J cx gg Q σ pc lv (a1 :: a0 :: rest) :=
  J_cSi hc hR (n := 2) (by decide +kernel) wtyX3_isBeyond wnX3 wcyX3_isBeyond (by decide +kernel) hd hM hr rfl rfl hs hlen kk
theorem kX3_58 (hc : zOK cx gg cc RX3 nL) {f0 l0 : Nat} (hR : zR cx f0 l0) {fr lo : Nat} {k : Nat} (hk : k < 7) {a0 a1 a2 a3 : Value} {rest : List Value} {post : zS → Prop} (hd : decode cc pc = .ok (.invokevirtual 58, 3)) (hM : zMv cx.1.2.1 gg yX0_put cX0_put 5 fr lo (.ref (zc gg k) :: [a0, a1, a2, a3]) σ post) (hr : fr + 1 ≤ f0 ∧ 8 + (5 + 11) + lo ≤ l0) (hs : (rest.map fun v => v.category).sum ≤ 8) (hlen : lv.length = nL) (kk : ∀ u : zS, post u → J cx gg Q u (pc + 3) lv rest) : J cx gg Q σ pc lv (a3 :: a2 :: a1 :: a0 :: .ref (zc gg k) :: rest) :=
  J_cVNv hc hR (host := "SmoothPieces") (n := 4) (i := 2 + k) (by decide +kernel) wiyX0_put weyX0_put wnX0 wcyX0_put (by decide +kernel) rfl (by omega) (zE_c gg σ hk) (ci := 0) rfl rfl hd hM hr rfl rfl hs hlen kk
theorem wcyX3_of : Cond.code yX3_of cX3_of 4 (some .int) ∈ zT := by decide +kernel
theorem wiyX3_of : Cond.instanceMethod yX3_of ∈ zT := by decide +kernel
theorem weyX3_of : Cond.selects yX3_of.cls yX3_of yX3_of ∈ zT := by decide +kernel
theorem nX3_62 (hc : zOK cx gg cc RX3 nL) (hd : decode cc pc = .ok (.ldc 62, 2)) (kk : J cx gg Q σ (pc + 2) lv (.int (-2147483648) :: st)) : J cx gg Q σ pc lv st := J_ldc hc (by decide +kernel) hd kk
theorem wcyX3_value : Cond.code yX3_value cX3_value 11 (some .long) ∈ zT := by decide +kernel
theorem wiyX3_value : Cond.instanceMethod yX3_value ∈ zT := by decide +kernel
theorem weyX3_value : Cond.selects yX3_value.cls yX3_value yX3_value ∈ zT := by decide +kernel
theorem wcyX3_isNoPart : Cond.code yX3_isNoPart cX3_isNoPart 1 (some .boolean) ∈ zT := by decide +kernel
theorem wtyX3_isNoPart : Cond.static yX3_isNoPart ∈ zT := by decide +kernel
theorem kX3_72 (hc : zOK cx gg cc RX3 nL) {f0 l0 : Nat} (hR : zR cx f0 l0) {fr lo : Nat} {a0 : Value} {rest : List Value} {post : Int32 → zS → Prop} (hd : decode cc pc = .ok (.invokestatic 72, 3)) (hM : zMi cx.1.2.1 gg yX3_isNoPart cX3_isNoPart .boolean 1 fr lo [a0] σ post) (hr : fr + 1 ≤ f0 ∧ 8 + (1 + 11) + lo ≤ l0) (hs : (rest.map fun v => v.category).sum ≤ 8) (hlen : lv.length = nL) (kk : ∀ (r : Int32) (u : zS), post r u → J cx gg Q u (pc + 3) lv (.int r :: rest)) : J cx gg Q σ pc lv (a0 :: rest) :=
  J_cSi hc hR (n := 1) (by decide +kernel) wtyX3_isNoPart wnX3 wcyX3_isNoPart (by decide +kernel) hd hM hr rfl rfl hs hlen kk
theorem nX3_75 (hc : zOK cx gg cc RX3 nL) (hd : decode cc pc = .ok (.ldc2_w 75, 3)) (kk : J cx gg Q σ (pc + 3) lv (.long (-9223372036854775808) :: st)) : J cx gg Q σ pc lv st := J_ldc2 hc (by decide +kernel) hd kk
theorem wnJ9 : Cond.initialized RJ9 ∈ zT := by decide +kernel
theorem wcyJ9_min_7cf53 : Cond.code yJ9_min_7cf53 cJ9_min_7cf53 2 (some .int) ∈ zT := by decide +kernel
theorem wtyJ9_min_7cf53 : Cond.static yJ9_min_7cf53 ∈ zT := by decide +kernel
theorem kX3_80 (hc : zOK cx gg cc RX3 nL) {f0 l0 : Nat} (hR : zR cx f0 l0) {fr lo : Nat} {a0 a1 : Value} {rest : List Value} {post : Int32 → zS → Prop} (hd : decode cc pc = .ok (.invokestatic 80, 3)) (hM : zMi cx.1.2.1 gg yJ9_min_7cf53 cJ9_min_7cf53 .int 2 fr lo [a0, a1] σ post) (hr : fr + 1 ≤ f0 ∧ 8 + (2 + 11) + lo ≤ l0) (hs : (rest.map fun v => v.category).sum ≤ 8) (hlen : lv.length = nL) (kk : ∀ (r : Int32) (u : zS), post r u → J cx gg Q u (pc + 3) lv (.int r :: rest)) : J cx gg Q σ pc lv (a1 :: a0 :: rest) :=
  J_cSi hc hR (n := 2) (by decide +kernel) wtyJ9_min_7cf53 wnJ9 wcyJ9_min_7cf53 (by decide +kernel) hd hM hr rfl rfl hs hlen kk
theorem wcyX3_partInLowestTerms : Cond.code yX3_partInLowestTerms cX3_partInLowestTerms 7 (some .long) ∈ zT := by decide +kernel
theorem wtyX3_partInLowestTerms : Cond.static yX3_partInLowestTerms ∈ zT := by decide +kernel
theorem kX3_86 (hc : zOK cx gg cc RX3 nL) {f0 l0 : Nat} (hR : zR cx f0 l0) {fr lo : Nat} {a0 a1 a2 : Value} {rest : List Value} {post : Int64 → zS → Prop} (hd : decode cc pc = .ok (.invokestatic 86, 3)) (hM : zMl cx.1.2.1 gg yX3_partInLowestTerms cX3_partInLowestTerms 7 fr lo [a0, a1, a2] σ post) (hr : fr + 1 ≤ f0 ∧ 8 + (7 + 11) + lo ≤ l0) (hs : (rest.map fun v => v.category).sum ≤ 8) (hlen : lv.length = nL) (kk : ∀ (r : Int64) (u : zS), post r u → J cx gg Q u (pc + 3) lv (.long r :: rest)) : J cx gg Q σ pc lv (a2 :: a1 :: a0 :: rest) :=
  J_cSl hc hR (n := 3) (by decide +kernel) wtyX3_partInLowestTerms wnX3 wcyX3_partInLowestTerms (by decide +kernel) hd hM hr rfl rfl hs hlen kk
theorem wcyJ9_abs_067f4 : Cond.code yJ9_abs_067f4 cJ9_abs_067f4 2 (some .long) ∈ zT := by decide +kernel
theorem wtyJ9_abs_067f4 : Cond.static yJ9_abs_067f4 ∈ zT := by decide +kernel
theorem kX3_195 (hc : zOK cx gg cc RX3 nL) {f0 l0 : Nat} (hR : zR cx f0 l0) {fr lo : Nat} {a0 : Value} {rest : List Value} {post : Int64 → zS → Prop} (hd : decode cc pc = .ok (.invokestatic 195, 3)) (hM : zMl cx.1.2.1 gg yJ9_abs_067f4 cJ9_abs_067f4 2 fr lo [a0] σ post) (hr : fr + 1 ≤ f0 ∧ 8 + (2 + 11) + lo ≤ l0) (hs : (rest.map fun v => v.category).sum ≤ 8) (hlen : lv.length = nL) (kk : ∀ (r : Int64) (u : zS), post r u → J cx gg Q u (pc + 3) lv (.long r :: rest)) : J cx gg Q σ pc lv (a0 :: rest) :=
  J_cSl hc hR (n := 1) (by decide +kernel) wtyJ9_abs_067f4 wnJ9 wcyJ9_abs_067f4 (by decide +kernel) hd hM hr rfl rfl hs hlen kk
theorem wcyX3_commonDivisor : Cond.code yX3_commonDivisor cX3_commonDivisor 7 (some .long) ∈ zT := by decide +kernel
theorem wtyX3_commonDivisor : Cond.static yX3_commonDivisor ∈ zT := by decide +kernel
theorem kX3_199 (hc : zOK cx gg cc RX3 nL) {f0 l0 : Nat} (hR : zR cx f0 l0) {fr lo : Nat} {a0 a1 : Value} {rest : List Value} {post : Int64 → zS → Prop} (hd : decode cc pc = .ok (.invokestatic 199, 3)) (hM : zMl cx.1.2.1 gg yX3_commonDivisor cX3_commonDivisor 7 fr lo [a0, a1] σ post) (hr : fr + 1 ≤ f0 ∧ 8 + (7 + 11) + lo ≤ l0) (hs : (rest.map fun v => v.category).sum ≤ 8) (hlen : lv.length = nL) (kk : ∀ (r : Int64) (u : zS), post r u → J cx gg Q u (pc + 3) lv (.long r :: rest)) : J cx gg Q σ pc lv (a1 :: a0 :: rest) :=
  J_cSl hc hR (n := 2) (by decide +kernel) wtyX3_commonDivisor wnX3 wcyX3_commonDivisor (by decide +kernel) hd hM hr rfl rfl hs hlen kk
theorem wcyJ9_max_f86c9 : Cond.code yJ9_max_f86c9 cJ9_max_f86c9 4 (some .long) ∈ zT := by decide +kernel
theorem wtyJ9_max_f86c9 : Cond.static yJ9_max_f86c9 ∈ zT := by decide +kernel
theorem kX3_203 (hc : zOK cx gg cc RX3 nL) {f0 l0 : Nat} (hR : zR cx f0 l0) {fr lo : Nat} {a0 a1 : Value} {rest : List Value} {post : Int64 → zS → Prop} (hd : decode cc pc = .ok (.invokestatic 203, 3)) (hM : zMl cx.1.2.1 gg yJ9_max_f86c9 cJ9_max_f86c9 4 fr lo [a0, a1] σ post) (hr : fr + 1 ≤ f0 ∧ 8 + (4 + 11) + lo ≤ l0) (hs : (rest.map fun v => v.category).sum ≤ 8) (hlen : lv.length = nL) (kk : ∀ (r : Int64) (u : zS), post r u → J cx gg Q u (pc + 3) lv (.long r :: rest)) : J cx gg Q σ pc lv (a1 :: a0 :: rest) :=
  J_cSl hc hR (n := 2) (by decide +kernel) wtyJ9_max_f86c9 wnJ9 wcyJ9_max_f86c9 (by decide +kernel) hd hM hr rfl rfl hs hlen kk
theorem wcyX3_join : Cond.code yX3_join cX3_join 3 (some .int) ∈ zT := by decide +kernel
theorem wiyX3_join : Cond.instanceMethod yX3_join ∈ zT := by decide +kernel
theorem weyX3_join : Cond.selects yX3_join.cls yX3_join yX3_join ∈ zT := by decide +kernel
theorem wcyX0_joinAt : Cond.code yX0_joinAt cX0_joinAt 3 (some .int) ∈ zT := by decide +kernel
theorem wiyX0_joinAt : Cond.instanceMethod yX0_joinAt ∈ zT := by decide +kernel
theorem weyX0_joinAt : Cond.selects yX0_joinAt.cls yX0_joinAt yX0_joinAt ∈ zT := by decide +kernel
theorem kX3_90 (hc : zOK cx gg cc RX3 nL) {f0 l0 : Nat} (hR : zR cx f0 l0) {fr lo : Nat} {k : Nat} (hk : k < 7) {a0 : Value} {rest : List Value} {post : Int32 → zS → Prop} (hd : decode cc pc = .ok (.invokevirtual 90, 3)) (hM : zMi cx.1.2.1 gg yX0_joinAt cX0_joinAt .int 3 fr lo (.ref (zc gg k) :: [a0]) σ post) (hr : fr + 1 ≤ f0 ∧ 8 + (3 + 11) + lo ≤ l0) (hs : (rest.map fun v => v.category).sum ≤ 8) (hlen : lv.length = nL) (kk : ∀ (r : Int32) (u : zS), post r u → J cx gg Q u (pc + 3) lv (.int r :: rest)) : J cx gg Q σ pc lv (a0 :: .ref (zc gg k) :: rest) :=
  J_cVNi hc hR (host := "SmoothPieces") (n := 1) (i := 2 + k) (by decide +kernel) wiyX0_joinAt weyX0_joinAt wnX0 wcyX0_joinAt (by decide +kernel) rfl (by omega) (zE_c gg σ hk) (ci := 0) rfl rfl hd hM hr rfl rfl hs hlen kk
theorem wcyX0_valueAtEnd : Cond.code yX0_valueAtEnd cX0_valueAtEnd 2 (some .int) ∈ zT := by decide +kernel
theorem wiyX0_valueAtEnd : Cond.instanceMethod yX0_valueAtEnd ∈ zT := by decide +kernel
theorem weyX0_valueAtEnd : Cond.selects yX0_valueAtEnd.cls yX0_valueAtEnd yX0_valueAtEnd ∈ zT := by decide +kernel
theorem kX0_40 (hc : zOK cx gg cc RX0 nL) {f0 l0 : Nat} (hR : zR cx f0 l0) {fr lo : Nat} {k : Nat} (hk : k < 7) {a0 : Value} {rest : List Value} {post : Int32 → zS → Prop} (hd : decode cc pc = .ok (.invokevirtual 40, 3)) (hM : zMi cx.1.2.1 gg yX0_valueAtEnd cX0_valueAtEnd .int 2 fr lo (.ref (zc gg k) :: [a0]) σ post) (hr : fr + 1 ≤ f0 ∧ 8 + (2 + 11) + lo ≤ l0) (hs : (rest.map fun v => v.category).sum ≤ 8) (hlen : lv.length = nL) (kk : ∀ (r : Int32) (u : zS), post r u → J cx gg Q u (pc + 3) lv (.int r :: rest)) : J cx gg Q σ pc lv (a0 :: .ref (zc gg k) :: rest) :=
  J_cVi hc hR (n := 1) (i := 2 + k) (by decide +kernel) wiyX0_valueAtEnd weyX0_valueAtEnd wnX0 wcyX0_valueAtEnd (by decide +kernel) rfl (by omega) (zE_c gg σ hk) (ci := 0) rfl rfl hd hM hr rfl rfl hs hlen kk
theorem wcyX0_slopeAtEnd : Cond.code yX0_slopeAtEnd cX0_slopeAtEnd 2 (some .int) ∈ zT := by decide +kernel
theorem wiyX0_slopeAtEnd : Cond.instanceMethod yX0_slopeAtEnd ∈ zT := by decide +kernel
theorem weyX0_slopeAtEnd : Cond.selects yX0_slopeAtEnd.cls yX0_slopeAtEnd yX0_slopeAtEnd ∈ zT := by decide +kernel
theorem kX0_44 (hc : zOK cx gg cc RX0 nL) {f0 l0 : Nat} (hR : zR cx f0 l0) {fr lo : Nat} {k : Nat} (hk : k < 7) {a0 : Value} {rest : List Value} {post : Int32 → zS → Prop} (hd : decode cc pc = .ok (.invokevirtual 44, 3)) (hM : zMi cx.1.2.1 gg yX0_slopeAtEnd cX0_slopeAtEnd .int 2 fr lo (.ref (zc gg k) :: [a0]) σ post) (hr : fr + 1 ≤ f0 ∧ 8 + (2 + 11) + lo ≤ l0) (hs : (rest.map fun v => v.category).sum ≤ 8) (hlen : lv.length = nL) (kk : ∀ (r : Int32) (u : zS), post r u → J cx gg Q u (pc + 3) lv (.int r :: rest)) : J cx gg Q σ pc lv (a0 :: .ref (zc gg k) :: rest) :=
  J_cVi hc hR (n := 1) (i := 2 + k) (by decide +kernel) wiyX0_slopeAtEnd weyX0_slopeAtEnd wnX0 wcyX0_slopeAtEnd (by decide +kernel) rfl (by omega) (zE_c gg σ hk) (ci := 0) rfl rfl hd hM hr rfl rfl hs hlen kk
theorem wcyX3_has : Cond.code yX3_has cX3_has 5 (some .int) ∈ zT := by decide +kernel
theorem wiyX3_has : Cond.instanceMethod yX3_has ∈ zT := by decide +kernel
theorem weyX3_has : Cond.selects yX3_has.cls yX3_has yX3_has ∈ zT := by decide +kernel
theorem wcyX3_signOfShape : Cond.code yX3_signOfShape cX3_signOfShape 1 (some .int) ∈ zT := by decide +kernel
theorem wtyX3_signOfShape : Cond.static yX3_signOfShape ∈ zT := by decide +kernel
theorem kX3_94 (hc : zOK cx gg cc RX3 nL) {f0 l0 : Nat} (hR : zR cx f0 l0) {fr lo : Nat} {a0 : Value} {rest : List Value} {post : Int32 → zS → Prop} (hd : decode cc pc = .ok (.invokestatic 94, 3)) (hM : zMi cx.1.2.1 gg yX3_signOfShape cX3_signOfShape .int 1 fr lo [a0] σ post) (hr : fr + 1 ≤ f0 ∧ 8 + (1 + 11) + lo ≤ l0) (hs : (rest.map fun v => v.category).sum ≤ 8) (hlen : lv.length = nL) (kk : ∀ (r : Int32) (u : zS), post r u → J cx gg Q u (pc + 3) lv (.int r :: rest)) : J cx gg Q σ pc lv (a0 :: rest) :=
  J_cSi hc hR (n := 1) (by decide +kernel) wtyX3_signOfShape wnX3 wcyX3_signOfShape (by decide +kernel) hd hM hr rfl rfl hs hlen kk
theorem wcyX3_isBent : Cond.code yX3_isBent cX3_isBent 1 (some .boolean) ∈ zT := by decide +kernel
theorem wtyX3_isBent : Cond.static yX3_isBent ∈ zT := by decide +kernel
theorem kX3_97 (hc : zOK cx gg cc RX3 nL) {f0 l0 : Nat} (hR : zR cx f0 l0) {fr lo : Nat} {a0 : Value} {rest : List Value} {post : Int32 → zS → Prop} (hd : decode cc pc = .ok (.invokestatic 97, 3)) (hM : zMi cx.1.2.1 gg yX3_isBent cX3_isBent .boolean 1 fr lo [a0] σ post) (hr : fr + 1 ≤ f0 ∧ 8 + (1 + 11) + lo ≤ l0) (hs : (rest.map fun v => v.category).sum ≤ 8) (hlen : lv.length = nL) (kk : ∀ (r : Int32) (u : zS), post r u → J cx gg Q u (pc + 3) lv (.int r :: rest)) : J cx gg Q σ pc lv (a0 :: rest) :=
  J_cSi hc hR (n := 1) (by decide +kernel) wtyX3_isBent wnX3 wcyX3_isBent (by decide +kernel) hd hM hr rfl rfl hs hlen kk
theorem wcyX0_isBentUp : Cond.code yX0_isBentUp cX0_isBentUp 3 (some .boolean) ∈ zT := by decide +kernel
theorem wiyX0_isBentUp : Cond.instanceMethod yX0_isBentUp ∈ zT := by decide +kernel
theorem weyX0_isBentUp : Cond.selects yX0_isBentUp.cls yX0_isBentUp yX0_isBentUp ∈ zT := by decide +kernel
theorem kX3_100 (hc : zOK cx gg cc RX3 nL) {f0 l0 : Nat} (hR : zR cx f0 l0) {fr lo : Nat} {k : Nat} (hk : k < 7) {a0 : Value} {rest : List Value} {post : Int32 → zS → Prop} (hd : decode cc pc = .ok (.invokevirtual 100, 3)) (hM : zMi cx.1.2.1 gg yX0_isBentUp cX0_isBentUp .boolean 3 fr lo (.ref (zc gg k) :: [a0]) σ post) (hr : fr + 1 ≤ f0 ∧ 8 + (3 + 11) + lo ≤ l0) (hs : (rest.map fun v => v.category).sum ≤ 8) (hlen : lv.length = nL) (kk : ∀ (r : Int32) (u : zS), post r u → J cx gg Q u (pc + 3) lv (.int r :: rest)) : J cx gg Q σ pc lv (a0 :: .ref (zc gg k) :: rest) :=
  J_cVNi hc hR (host := "SmoothPieces") (n := 1) (i := 2 + k) (by decide +kernel) wiyX0_isBentUp weyX0_isBentUp wnX0 wcyX0_isBentUp (by decide +kernel) rfl (by omega) (zE_c gg σ hk) (ci := 0) rfl rfl hd hM hr rfl rfl hs hlen kk
theorem kX0_47 (hc : zOK cx gg cc RX0 nL) {f0 l0 : Nat} (hR : zR cx f0 l0) {fr lo : Nat} {k : Nat} (hk : k < 7) {a0 : Value} {rest : List Value} {post : Int32 → zS → Prop} (hd : decode cc pc = .ok (.invokevirtual 47, 3)) (hM : zMi cx.1.2.1 gg yX0_joinAt cX0_joinAt .int 3 fr lo (.ref (zc gg k) :: [a0]) σ post) (hr : fr + 1 ≤ f0 ∧ 8 + (3 + 11) + lo ≤ l0) (hs : (rest.map fun v => v.category).sum ≤ 8) (hlen : lv.length = nL) (kk : ∀ (r : Int32) (u : zS), post r u → J cx gg Q u (pc + 3) lv (.int r :: rest)) : J cx gg Q σ pc lv (a0 :: .ref (zc gg k) :: rest) :=
  J_cVi hc hR (n := 1) (i := 2 + k) (by decide +kernel) wiyX0_joinAt weyX0_joinAt wnX0 wcyX0_joinAt (by decide +kernel) rfl (by omega) (zE_c gg σ hk) (ci := 0) rfl rfl hd hM hr rfl rfl hs hlen kk
theorem wcyX0_isRising : Cond.code yX0_isRising cX0_isRising 3 (some .boolean) ∈ zT := by decide +kernel
theorem wiyX0_isRising : Cond.instanceMethod yX0_isRising ∈ zT := by decide +kernel
theorem weyX0_isRising : Cond.selects yX0_isRising.cls yX0_isRising yX0_isRising ∈ zT := by decide +kernel
theorem kX3_103 (hc : zOK cx gg cc RX3 nL) {f0 l0 : Nat} (hR : zR cx f0 l0) {fr lo : Nat} {k : Nat} (hk : k < 7) {a0 : Value} {rest : List Value} {post : Int32 → zS → Prop} (hd : decode cc pc = .ok (.invokevirtual 103, 3)) (hM : zMi cx.1.2.1 gg yX0_isRising cX0_isRising .boolean 3 fr lo (.ref (zc gg k) :: [a0]) σ post) (hr : fr + 1 ≤ f0 ∧ 8 + (3 + 11) + lo ≤ l0) (hs : (rest.map fun v => v.category).sum ≤ 8) (hlen : lv.length = nL) (kk : ∀ (r : Int32) (u : zS), post r u → J cx gg Q u (pc + 3) lv (.int r :: rest)) : J cx gg Q σ pc lv (a0 :: .ref (zc gg k) :: rest) :=
  J_cVNi hc hR (host := "SmoothPieces") (n := 1) (i := 2 + k) (by decide +kernel) wiyX0_isRising weyX0_isRising wnX0 wcyX0_isRising (by decide +kernel) rfl (by omega) (zE_c gg σ hk) (ci := 0) rfl rfl hd hM hr rfl rfl hs hlen kk
theorem wcyX3_end : Cond.code yX3_end cX3_end 3 (some .int) ∈ zT := by decide +kernel
theorem wiyX3_end : Cond.instanceMethod yX3_end ∈ zT := by decide +kernel
theorem weyX3_end : Cond.selects yX3_end.cls yX3_end yX3_end ∈ zT := by decide +kernel
theorem wcyX0_top : Cond.code yX0_top cX0_top 5 (some .long) ∈ zT := by decide +kernel
theorem wiyX0_top : Cond.instanceMethod yX0_top ∈ zT := by decide +kernel
theorem weyX0_top : Cond.selects yX0_top.cls yX0_top yX0_top ∈ zT := by decide +kernel
theorem kX3_106 (hc : zOK cx gg cc RX3 nL) {f0 l0 : Nat} (hR : zR cx f0 l0) {fr lo : Nat} {k : Nat} (hk : k < 7) {a0 : Value} {rest : List Value} {post : Int64 → zS → Prop} (hd : decode cc pc = .ok (.invokevirtual 106, 3)) (hM : zMl cx.1.2.1 gg yX0_top cX0_top 5 fr lo (.ref (zc gg k) :: [a0]) σ post) (hr : fr + 1 ≤ f0 ∧ 8 + (5 + 11) + lo ≤ l0) (hs : (rest.map fun v => v.category).sum ≤ 8) (hlen : lv.length = nL) (kk : ∀ (r : Int64) (u : zS), post r u → J cx gg Q u (pc + 3) lv (.long r :: rest)) : J cx gg Q σ pc lv (a0 :: .ref (zc gg k) :: rest) :=
  J_cVNl hc hR (host := "SmoothPieces") (n := 1) (i := 2 + k) (by decide +kernel) wiyX0_top weyX0_top wnX0 wcyX0_top (by decide +kernel) rfl (by omega) (zE_c gg σ hk) (ci := 0) rfl rfl hd hM hr rfl rfl hs hlen kk
theorem wcyX0_topOfPiece : Cond.code yX0_topOfPiece cX0_topOfPiece 8 (some .long) ∈ zT := by decide +kernel
theorem wtyX0_topOfPiece : Cond.static yX0_topOfPiece ∈ zT := by decide +kernel
theorem kX0_50 (hc : zOK cx gg cc RX0 nL) {f0 l0 : Nat} (hR : zR cx f0 l0) {fr lo : Nat} {a0 a1 a2 : Value} {rest : List Value} {post : Int64 → zS → Prop} (hd : decode cc pc = .ok (.invokestatic 50, 3)) (hM : zMl cx.1.2.1 gg yX0_topOfPiece cX0_topOfPiece 8 fr lo [a0, a1, a2] σ post) (hr : fr + 1 ≤ f0 ∧ 8 + (8 + 11) + lo ≤ l0) (hs : (rest.map fun v => v.category).sum ≤ 8) (hlen : lv.length = nL) (kk : ∀ (r : Int64) (u : zS), post r u → J cx gg Q u (pc + 3) lv (.long r :: rest)) : J cx gg Q σ pc lv (a2 :: a1 :: a0 :: rest) :=
  J_cSl hc hR (n := 3) (by decide +kernel) wtyX0_topOfPiece wnX0 wcyX0_topOfPiece (by decide +kernel) hd hM hr rfl rfl hs hlen kk
theorem kX0_54 (hc : zOK cx gg cc RX0 nL) {f0 l0 : Nat} (hR : zR cx f0 l0) {fr lo : Nat} {a0 a1 : Value} {rest : List Value} {post : Int64 → zS → Prop} (hd : decode cc pc = .ok (.invokestatic 54, 3)) (hM : zMl cx.1.2.1 gg yJ9_max_f86c9 cJ9_max_f86c9 4 fr lo [a0, a1] σ post) (hr : fr + 1 ≤ f0 ∧ 8 + (4 + 11) + lo ≤ l0) (hs : (rest.map fun v => v.category).sum ≤ 8) (hlen : lv.length = nL) (kk : ∀ (r : Int64) (u : zS), post r u → J cx gg Q u (pc + 3) lv (.long r :: rest)) : J cx gg Q σ pc lv (a1 :: a0 :: rest) :=
  J_cSl hc hR (n := 2) (by decide +kernel) wtyJ9_max_f86c9 wnJ9 wcyJ9_max_f86c9 (by decide +kernel) hd hM hr rfl rfl hs hlen kk
theorem nX0_58 (hc : zOK cx gg cc RX0 nL) (hd : decode cc pc = .ok (.ldc2_w 58, 3)) (kk : J cx gg Q σ (pc + 3) lv (.long (2) :: st)) : J cx gg Q σ pc lv st := J_ldc2 hc (by decide +kernel) hd kk
theorem nX0_60 (hc : zOK cx gg cc RX0 nL) (hd : decode cc pc = .ok (.ldc2_w 60, 3)) (kk : J cx gg Q σ (pc + 3) lv (.long (4) :: st)) : J cx gg Q σ pc lv st := J_ldc2 hc (by decide +kernel) hd kk
theorem wcyJ9_floorDiv_f86c9 : Cond.code yJ9_floorDiv_f86c9 cJ9_floorDiv_f86c9 6 (some .long) ∈ zT := by decide +kernel
theorem wtyJ9_floorDiv_f86c9 : Cond.static yJ9_floorDiv_f86c9 ∈ zT := by decide +kernel
theorem kX0_62 (hc : zOK cx gg cc RX0 nL) {f0 l0 : Nat} (hR : zR cx f0 l0) {fr lo : Nat} {a0 a1 : Value} {rest : List Value} {post : Int64 → zS → Prop} (hd : decode cc pc = .ok (.invokestatic 62, 3)) (hM : zMl cx.1.2.1 gg yJ9_floorDiv_f86c9 cJ9_floorDiv_f86c9 6 fr lo [a0, a1] σ post) (hr : fr + 1 ≤ f0 ∧ 8 + (6 + 11) + lo ≤ l0) (hs : (rest.map fun v => v.category).sum ≤ 8) (hlen : lv.length = nL) (kk : ∀ (r : Int64) (u : zS), post r u → J cx gg Q u (pc + 3) lv (.long r :: rest)) : J cx gg Q σ pc lv (a1 :: a0 :: rest) :=
  J_cSl hc hR (n := 2) (by decide +kernel) wtyJ9_floorDiv_f86c9 wnJ9 wcyJ9_floorDiv_f86c9 (by decide +kernel) hd hM hr rfl rfl hs hlen kk
theorem wcyX3_zeros : Cond.code yX3_zeros cX3_zeros 2 (some .int) ∈ zT := by decide +kernel
theorem wiyX3_zeros : Cond.instanceMethod yX3_zeros ∈ zT := by decide +kernel
theorem weyX3_zeros : Cond.selects yX3_zeros.cls yX3_zeros yX3_zeros ∈ zT := by decide +kernel
theorem wcyX3_countZeros : Cond.code yX3_countZeros cX3_countZeros 2 (some .int) ∈ zT := by decide +kernel
theorem wiyX3_countZeros : Cond.instanceMethod yX3_countZeros ∈ zT := by decide +kernel
theorem weyX3_countZeros : Cond.selects yX3_countZeros.cls yX3_countZeros yX3_countZeros ∈ zT := by decide +kernel
theorem kX3_110 (hc : zOK cx gg cc RX3 nL) {f0 l0 : Nat} (hR : zR cx f0 l0) {fr lo : Nat} {a0 : Value} {rest : List Value} {post : Int32 → zS → Prop} (hd : decode cc pc = .ok (.invokevirtual 110, 3)) (hM : zMi cx.1.2.1 gg yX3_countZeros cX3_countZeros .int 2 fr lo (.ref (zo gg) :: [a0]) σ post) (hr : fr + 1 ≤ f0 ∧ 8 + (2 + 11) + lo ≤ l0) (hs : (rest.map fun v => v.category).sum ≤ 8) (hlen : lv.length = nL) (kk : ∀ (r : Int32) (u : zS), post r u → J cx gg Q u (pc + 3) lv (.int r :: rest)) : J cx gg Q σ pc lv (a0 :: .ref (zo gg) :: rest) :=
  J_cVi hc hR (n := 1) (i := 0) (by decide +kernel) wiyX3_countZeros weyX3_countZeros wnX3 wcyX3_countZeros (by decide +kernel) rfl (by decide) rfl (ci := 3) rfl rfl hd hM hr rfl rfl hs hlen kk
theorem wcyX0_hasZeroPiece : Cond.code yX0_hasZeroPiece cX0_hasZeroPiece 2 (some .boolean) ∈ zT := by decide +kernel
theorem wiyX0_hasZeroPiece : Cond.instanceMethod yX0_hasZeroPiece ∈ zT := by decide +kernel
theorem weyX0_hasZeroPiece : Cond.selects yX0_hasZeroPiece.cls yX0_hasZeroPiece yX0_hasZeroPiece ∈ zT := by decide +kernel
theorem kX3_186 (hc : zOK cx gg cc RX3 nL) {f0 l0 : Nat} (hR : zR cx f0 l0) {fr lo : Nat} {k : Nat} (hk : k < 7) {rest : List Value} {post : Int32 → zS → Prop} (hd : decode cc pc = .ok (.invokevirtual 186, 3)) (hM : zMi cx.1.2.1 gg yX0_hasZeroPiece cX0_hasZeroPiece .boolean 2 fr lo (.ref (zc gg k) :: []) σ post) (hr : fr + 1 ≤ f0 ∧ 8 + (2 + 11) + lo ≤ l0) (hs : (rest.map fun v => v.category).sum ≤ 8) (hlen : lv.length = nL) (kk : ∀ (r : Int32) (u : zS), post r u → J cx gg Q u (pc + 3) lv (.int r :: rest)) : J cx gg Q σ pc lv (.ref (zc gg k) :: rest) :=
  J_cVNi hc hR (host := "SmoothPieces") (n := 0) (i := 2 + k) (by decide +kernel) wiyX0_hasZeroPiece weyX0_hasZeroPiece wnX0 wcyX0_hasZeroPiece (by decide +kernel) rfl (by omega) (zE_c gg σ hk) (ci := 0) rfl rfl hd hM hr rfl rfl hs hlen kk
theorem wnX2 : Cond.initialized RX2 ∈ zT := by decide +kernel
theorem wcyX2_search : Cond.code yX2_search cX2_search 3 none ∈ zT := by decide +kernel
theorem wiyX2_search : Cond.instanceMethod yX2_search ∈ zT := by decide +kernel
theorem weyX2_search : Cond.selects yX2_search.cls yX2_search yX2_search ∈ zT := by decide +kernel
theorem kX3_189 (hc : zOK cx gg cc RX3 nL) {f0 l0 : Nat} (hR : zR cx f0 l0) {fr lo : Nat} {a0 : Value} {rest : List Value} {post : zS → Prop} (hd : decode cc pc = .ok (.invokevirtual 189, 3)) (hM : zMv cx.1.2.1 gg yX2_search cX2_search 3 fr lo (.ref (zf gg) :: [a0]) σ post) (hr : fr + 1 ≤ f0 ∧ 8 + (3 + 11) + lo ≤ l0) (hs : (rest.map fun v => v.category).sum ≤ 8) (hlen : lv.length = nL) (kk : ∀ u : zS, post u → J cx gg Q u (pc + 3) lv rest) : J cx gg Q σ pc lv (a0 :: .ref (zf gg) :: rest) :=
  J_cVNv hc hR (host := "SmoothPieces") (n := 1) (i := 42) (by decide +kernel) wiyX2_search weyX2_search wnX2 wcyX2_search (by decide +kernel) rfl (by decide) rfl (ci := 2) rfl rfl hd hM hr rfl rfl hs hlen kk
theorem wcyX2_take : Cond.code yX2_take cX2_take 10 (some .boolean) ∈ zT := by decide +kernel
theorem wiyX2_take : Cond.instanceMethod yX2_take ∈ zT := by decide +kernel
theorem weyX2_take : Cond.selects yX2_take.cls yX2_take yX2_take ∈ zT := by decide +kernel
theorem kX2_40 (hc : zOK cx gg cc RX2 nL) {f0 l0 : Nat} (hR : zR cx f0 l0) {fr lo : Nat} {a0 a1 a2 : Value} {rest : List Value} {post : Int32 → zS → Prop} (hd : decode cc pc = .ok (.invokevirtual 40, 3)) (hM : zMi cx.1.2.1 gg yX2_take cX2_take .boolean 10 fr lo (.ref (zf gg) :: [a0, a1, a2]) σ post) (hr : fr + 1 ≤ f0 ∧ 8 + (10 + 11) + lo ≤ l0) (hs : (rest.map fun v => v.category).sum ≤ 8) (hlen : lv.length = nL) (kk : ∀ (r : Int32) (u : zS), post r u → J cx gg Q u (pc + 3) lv (.int r :: rest)) : J cx gg Q σ pc lv (a2 :: a1 :: a0 :: .ref (zf gg) :: rest) :=
  J_cVi hc hR (n := 3) (i := 42) (by decide +kernel) wiyX2_take weyX2_take wnX2 wcyX2_take (by decide +kernel) rfl (by decide) rfl (ci := 2) rfl rfl hd hM hr rfl rfl hs hlen kk
theorem nX2_48 (hc : zOK cx gg cc RX2 nL) (hd : decode cc pc = .ok (.ldc2_w 48, 3)) (kk : J cx gg Q σ (pc + 3) lv (.long (64) :: st)) : J cx gg Q σ pc lv st := J_ldc2 hc (by decide +kernel) hd kk
theorem wcyX2_discriminant : Cond.code yX2_discriminant cX2_discriminant 1 (some .long) ∈ zT := by decide +kernel
theorem wiyX2_discriminant : Cond.instanceMethod yX2_discriminant ∈ zT := by decide +kernel
theorem weyX2_discriminant : Cond.selects yX2_discriminant.cls yX2_discriminant yX2_discriminant ∈ zT := by decide +kernel
theorem kX2_50 (hc : zOK cx gg cc RX2 nL) {f0 l0 : Nat} (hR : zR cx f0 l0) {fr lo : Nat} {rest : List Value} {post : Int64 → zS → Prop} (hd : decode cc pc = .ok (.invokevirtual 50, 3)) (hM : zMl cx.1.2.1 gg yX2_discriminant cX2_discriminant 1 fr lo (.ref (zf gg) :: []) σ post) (hr : fr + 1 ≤ f0 ∧ 8 + (1 + 11) + lo ≤ l0) (hs : (rest.map fun v => v.category).sum ≤ 8) (hlen : lv.length = nL) (kk : ∀ (r : Int64) (u : zS), post r u → J cx gg Q u (pc + 3) lv (.long r :: rest)) : J cx gg Q σ pc lv (.ref (zf gg) :: rest) :=
  J_cVl hc hR (n := 0) (i := 42) (by decide +kernel) wiyX2_discriminant weyX2_discriminant wnX2 wcyX2_discriminant (by decide +kernel) rfl (by decide) rfl (ci := 2) rfl rfl hd hM hr rfl rfl hs hlen kk
theorem nX2_54 (hc : zOK cx gg cc RX2 nL) (hd : decode cc pc = .ok (.ldc2_w 54, 3)) (kk : J cx gg Q σ (pc + 3) lv (.long (4) :: st)) : J cx gg Q σ pc lv st := J_ldc2 hc (by decide +kernel) hd kk
theorem wcyX2_searchPiece : Cond.code yX2_searchPiece cX2_searchPiece 3 none ∈ zT := by decide +kernel
theorem wiyX2_searchPiece : Cond.instanceMethod yX2_searchPiece ∈ zT := by decide +kernel
theorem weyX2_searchPiece : Cond.selects yX2_searchPiece.cls yX2_searchPiece yX2_searchPiece ∈ zT := by decide +kernel
theorem kX2_44 (hc : zOK cx gg cc RX2 nL) {f0 l0 : Nat} (hR : zR cx f0 l0) {fr lo : Nat} {a0 a1 : Value} {rest : List Value} {post : zS → Prop} (hd : decode cc pc = .ok (.invokevirtual 44, 3)) (hM : zMv cx.1.2.1 gg yX2_searchPiece cX2_searchPiece 3 fr lo (.ref (zf gg) :: [a0, a1]) σ post) (hr : fr + 1 ≤ f0 ∧ 8 + (3 + 11) + lo ≤ l0) (hs : (rest.map fun v => v.category).sum ≤ 8) (hlen : lv.length = nL) (kk : ∀ u : zS, post u → J cx gg Q u (pc + 3) lv rest) : J cx gg Q σ pc lv (a1 :: a0 :: .ref (zf gg) :: rest) :=
  J_cVv hc hR (n := 2) (i := 42) (by decide +kernel) wiyX2_searchPiece weyX2_searchPiece wnX2 wcyX2_searchPiece (by decide +kernel) rfl (by decide) rfl (ci := 2) rfl rfl hd hM hr rfl rfl hs hlen kk
theorem wcyX2_keepRoot : Cond.code yX2_keepRoot cX2_keepRoot 6 none ∈ zT := by decide +kernel
theorem wiyX2_keepRoot : Cond.instanceMethod yX2_keepRoot ∈ zT := by decide +kernel
theorem weyX2_keepRoot : Cond.selects yX2_keepRoot.cls yX2_keepRoot yX2_keepRoot ∈ zT := by decide +kernel
theorem kX2_56 (hc : zOK cx gg cc RX2 nL) {f0 l0 : Nat} (hR : zR cx f0 l0) {fr lo : Nat} {a0 a1 a2 : Value} {rest : List Value} {post : zS → Prop} (hd : decode cc pc = .ok (.invokevirtual 56, 3)) (hM : zMv cx.1.2.1 gg yX2_keepRoot cX2_keepRoot 6 fr lo (.ref (zf gg) :: [a0, a1, a2]) σ post) (hr : fr + 1 ≤ f0 ∧ 8 + (6 + 11) + lo ≤ l0) (hs : (rest.map fun v => v.category).sum ≤ 8) (hlen : lv.length = nL) (kk : ∀ u : zS, post u → J cx gg Q u (pc + 3) lv rest) : J cx gg Q σ pc lv (a2 :: a1 :: a0 :: .ref (zf gg) :: rest) :=
  J_cVv hc hR (n := 3) (i := 42) (by decide +kernel) wiyX2_keepRoot weyX2_keepRoot wnX2 wcyX2_keepRoot (by decide +kernel) rfl (by decide) rfl (ci := 2) rfl rfl hd hM hr rfl rfl hs hlen kk
theorem wcyX2_sideOfRoot : Cond.code yX2_sideOfRoot cX2_sideOfRoot 8 (some .int) ∈ zT := by decide +kernel
theorem wiyX2_sideOfRoot : Cond.instanceMethod yX2_sideOfRoot ∈ zT := by decide +kernel
theorem weyX2_sideOfRoot : Cond.selects yX2_sideOfRoot.cls yX2_sideOfRoot yX2_sideOfRoot ∈ zT := by decide +kernel
theorem kX2_60 (hc : zOK cx gg cc RX2 nL) {f0 l0 : Nat} (hR : zR cx f0 l0) {fr lo : Nat} {a0 a1 : Value} {rest : List Value} {post : Int32 → zS → Prop} (hd : decode cc pc = .ok (.invokevirtual 60, 3)) (hM : zMi cx.1.2.1 gg yX2_sideOfRoot cX2_sideOfRoot .int 8 fr lo (.ref (zf gg) :: [a0, a1]) σ post) (hr : fr + 1 ≤ f0 ∧ 8 + (8 + 11) + lo ≤ l0) (hs : (rest.map fun v => v.category).sum ≤ 8) (hlen : lv.length = nL) (kk : ∀ (r : Int32) (u : zS), post r u → J cx gg Q u (pc + 3) lv (.int r :: rest)) : J cx gg Q σ pc lv (a1 :: a0 :: .ref (zf gg) :: rest) :=
  J_cVi hc hR (n := 2) (i := 42) (by decide +kernel) wiyX2_sideOfRoot weyX2_sideOfRoot wnX2 wcyX2_sideOfRoot (by decide +kernel) rfl (by decide) rfl (ci := 2) rfl rfl hd hM hr rfl rfl hs hlen kk
theorem nX2_68 (hc : zOK cx gg cc RX2 nL) (hd : decode cc pc = .ok (.ldc2_w 68, 3)) (kk : J cx gg Q σ (pc + 3) lv (.long (2) :: st)) : J cx gg Q σ pc lv st := J_ldc2 hc (by decide +kernel) hd kk
theorem wcyX2_boxInside : Cond.code yX2_boxInside cX2_boxInside 4 (some .int) ∈ zT := by decide +kernel
theorem wiyX2_boxInside : Cond.instanceMethod yX2_boxInside ∈ zT := by decide +kernel
theorem weyX2_boxInside : Cond.selects yX2_boxInside.cls yX2_boxInside yX2_boxInside ∈ zT := by decide +kernel
theorem kX2_64 (hc : zOK cx gg cc RX2 nL) {f0 l0 : Nat} (hR : zR cx f0 l0) {fr lo : Nat} {a0 : Value} {rest : List Value} {post : Int32 → zS → Prop} (hd : decode cc pc = .ok (.invokevirtual 64, 3)) (hM : zMi cx.1.2.1 gg yX2_boxInside cX2_boxInside .int 4 fr lo (.ref (zf gg) :: [a0]) σ post) (hr : fr + 1 ≤ f0 ∧ 8 + (4 + 11) + lo ≤ l0) (hs : (rest.map fun v => v.category).sum ≤ 8) (hlen : lv.length = nL) (kk : ∀ (r : Int32) (u : zS), post r u → J cx gg Q u (pc + 3) lv (.int r :: rest)) : J cx gg Q σ pc lv (a0 :: .ref (zf gg) :: rest) :=
  J_cVi hc hR (n := 1) (i := 42) (by decide +kernel) wiyX2_boxInside weyX2_boxInside wnX2 wcyX2_boxInside (by decide +kernel) rfl (by decide) rfl (ci := 2) rfl rfl hd hM hr rfl rfl hs hlen kk
theorem wcyX3_zero : Cond.code yX3_zero cX3_zero 4 (some .int) ∈ zT := by decide +kernel
theorem wiyX3_zero : Cond.instanceMethod yX3_zero ∈ zT := by decide +kernel
theorem weyX3_zero : Cond.selects yX3_zero.cls yX3_zero yX3_zero ∈ zT := by decide +kernel
theorem wcyX3_area : Cond.code yX3_area cX3_area 9 (some .long) ∈ zT := by decide +kernel
theorem wiyX3_area : Cond.instanceMethod yX3_area ∈ zT := by decide +kernel
theorem weyX3_area : Cond.selects yX3_area.cls yX3_area yX3_area ∈ zT := by decide +kernel
theorem nX3_117 (hc : zOK cx gg cc RX3 nL) (hd : decode cc pc = .ok (.ldc2_w 117, 3)) (kk : J cx gg Q σ (pc + 3) lv (.long (6) :: st)) : J cx gg Q σ pc lv st := J_ldc2 hc (by decide +kernel) hd kk
theorem nX3_119 (hc : zOK cx gg cc RX3 nL) (hd : decode cc pc = .ok (.ldc2_w 119, 3)) (kk : J cx gg Q σ (pc + 3) lv (.long (3) :: st)) : J cx gg Q σ pc lv st := J_ldc2 hc (by decide +kernel) hd kk
theorem nX3_121 (hc : zOK cx gg cc RX3 nL) (hd : decode cc pc = .ok (.ldc2_w 121, 3)) (kk : J cx gg Q σ (pc + 3) lv (.long (2) :: st)) : J cx gg Q σ pc lv st := J_ldc2 hc (by decide +kernel) hd kk
theorem wcyX3_same : Cond.code yX3_same cX3_same 3 (some .int) ∈ zT := by decide +kernel
theorem wiyX3_same : Cond.instanceMethod yX3_same ∈ zT := by decide +kernel
theorem weyX3_same : Cond.selects yX3_same.cls yX3_same yX3_same ∈ zT := by decide +kernel
theorem wcyX0_isLike : Cond.code yX0_isLike cX0_isLike 3 (some .boolean) ∈ zT := by decide +kernel
theorem wiyX0_isLike : Cond.instanceMethod yX0_isLike ∈ zT := by decide +kernel
theorem weyX0_isLike : Cond.selects yX0_isLike.cls yX0_isLike yX0_isLike ∈ zT := by decide +kernel
theorem kX3_123 (hc : zOK cx gg cc RX3 nL) {f0 l0 : Nat} (hR : zR cx f0 l0) {fr lo : Nat} {k : Nat} (hk : k < 7) {a0 : Value} {rest : List Value} {post : Int32 → zS → Prop} (hd : decode cc pc = .ok (.invokevirtual 123, 3)) (hM : zMi cx.1.2.1 gg yX0_isLike cX0_isLike .boolean 3 fr lo (.ref (zc gg k) :: [a0]) σ post) (hr : fr + 1 ≤ f0 ∧ 8 + (3 + 11) + lo ≤ l0) (hs : (rest.map fun v => v.category).sum ≤ 8) (hlen : lv.length = nL) (kk : ∀ (r : Int32) (u : zS), post r u → J cx gg Q u (pc + 3) lv (.int r :: rest)) : J cx gg Q σ pc lv (a0 :: .ref (zc gg k) :: rest) :=
  J_cVNi hc hR (host := "SmoothPieces") (n := 1) (i := 2 + k) (by decide +kernel) wiyX0_isLike weyX0_isLike wnX0 wcyX0_isLike (by decide +kernel) rfl (by omega) (zE_c gg σ hk) (ci := 0) rfl rfl hd hM hr rfl rfl hs hlen kk
theorem wcyX3_meets : Cond.code yX3_meets cX3_meets 3 (some .int) ∈ zT := by decide +kernel
theorem wiyX3_meets : Cond.instanceMethod yX3_meets ∈ zT := by decide +kernel
theorem weyX3_meets : Cond.selects yX3_meets.cls yX3_meets yX3_meets ∈ zT := by decide +kernel
theorem wcyX0_becomeSum : Cond.code yX0_becomeSum cX0_becomeSum 6 none ∈ zT := by decide +kernel
theorem wiyX0_becomeSum : Cond.instanceMethod yX0_becomeSum ∈ zT := by decide +kernel
theorem weyX0_becomeSum : Cond.selects yX0_becomeSum.cls yX0_becomeSum yX0_becomeSum ∈ zT := by decide +kernel
theorem kX3_127 (hc : zOK cx gg cc RX3 nL) {f0 l0 : Nat} (hR : zR cx f0 l0) {fr lo : Nat} {k : Nat} (hk : k < 7) {a0 a1 a2 a3 : Value} {rest : List Value} {post : zS → Prop} (hd : decode cc pc = .ok (.invokevirtual 127, 3)) (hM : zMv cx.1.2.1 gg yX0_becomeSum cX0_becomeSum 6 fr lo (.ref (zc gg k) :: [a0, a1, a2, a3]) σ post) (hr : fr + 1 ≤ f0 ∧ 8 + (6 + 11) + lo ≤ l0) (hs : (rest.map fun v => v.category).sum ≤ 8) (hlen : lv.length = nL) (kk : ∀ u : zS, post u → J cx gg Q u (pc + 3) lv rest) : J cx gg Q σ pc lv (a3 :: a2 :: a1 :: a0 :: .ref (zc gg k) :: rest) :=
  J_cVNv hc hR (host := "SmoothPieces") (n := 4) (i := 2 + k) (by decide +kernel) wiyX0_becomeSum weyX0_becomeSum wnX0 wcyX0_becomeSum (by decide +kernel) rfl (by omega) (zE_c gg σ hk) (ci := 0) rfl rfl hd hM hr rfl rfl hs hlen kk
theorem kX0_29 (hc : zOK cx gg cc RX0 nL) {f0 l0 : Nat} (hR : zR cx f0 l0) {fr lo : Nat} {a0 a1 : Value} {rest : List Value} {post : Int32 → zS → Prop} (hd : decode cc pc = .ok (.invokestatic 29, 3)) (hM : zMi cx.1.2.1 gg yJ9_min_7cf53 cJ9_min_7cf53 .int 2 fr lo [a0, a1] σ post) (hr : fr + 1 ≤ f0 ∧ 8 + (2 + 11) + lo ≤ l0) (hs : (rest.map fun v => v.category).sum ≤ 8) (hlen : lv.length = nL) (kk : ∀ (r : Int32) (u : zS), post r u → J cx gg Q u (pc + 3) lv (.int r :: rest)) : J cx gg Q σ pc lv (a1 :: a0 :: rest) :=
  J_cSi hc hR (n := 2) (by decide +kernel) wtyJ9_min_7cf53 wnJ9 wcyJ9_min_7cf53 (by decide +kernel) hd hM hr rfl rfl hs hlen kk
theorem wcyX3_mix : Cond.code yX3_mix cX3_mix 6 (some .int) ∈ zT := by decide +kernel
theorem wiyX3_mix : Cond.instanceMethod yX3_mix ∈ zT := by decide +kernel
theorem weyX3_mix : Cond.selects yX3_mix.cls yX3_mix yX3_mix ∈ zT := by decide +kernel
theorem wcyX3_keepDraft : Cond.code yX3_keepDraft cX3_keepDraft 2 (some .int) ∈ zT := by decide +kernel
theorem wiyX3_keepDraft : Cond.instanceMethod yX3_keepDraft ∈ zT := by decide +kernel
theorem weyX3_keepDraft : Cond.selects yX3_keepDraft.cls yX3_keepDraft yX3_keepDraft ∈ zT := by decide +kernel
theorem kX3_131 (hc : zOK cx gg cc RX3 nL) {f0 l0 : Nat} (hR : zR cx f0 l0) {fr lo : Nat} {a0 : Value} {rest : List Value} {post : Int32 → zS → Prop} (hd : decode cc pc = .ok (.invokevirtual 131, 3)) (hM : zMi cx.1.2.1 gg yX3_keepDraft cX3_keepDraft .int 2 fr lo (.ref (zo gg) :: [a0]) σ post) (hr : fr + 1 ≤ f0 ∧ 8 + (2 + 11) + lo ≤ l0) (hs : (rest.map fun v => v.category).sum ≤ 8) (hlen : lv.length = nL) (kk : ∀ (r : Int32) (u : zS), post r u → J cx gg Q u (pc + 3) lv (.int r :: rest)) : J cx gg Q σ pc lv (a0 :: .ref (zo gg) :: rest) :=
  J_cVi hc hR (n := 1) (i := 0) (by decide +kernel) wiyX3_keepDraft weyX3_keepDraft wnX3 wcyX3_keepDraft (by decide +kernel) rfl (by decide) rfl (ci := 3) rfl rfl hd hM hr rfl rfl hs hlen kk
theorem wcyX0_isInBounds : Cond.code yX0_isInBounds cX0_isInBounds 2 (some .boolean) ∈ zT := by decide +kernel
theorem wiyX0_isInBounds : Cond.instanceMethod yX0_isInBounds ∈ zT := by decide +kernel
theorem weyX0_isInBounds : Cond.selects yX0_isInBounds.cls yX0_isInBounds yX0_isInBounds ∈ zT := by decide +kernel
theorem kX3_180 (hc : zOK cx gg cc RX3 nL) {f0 l0 : Nat} (hR : zR cx f0 l0) {fr lo : Nat} {k : Nat} (hk : k < 7) {rest : List Value} {post : Int32 → zS → Prop} (hd : decode cc pc = .ok (.invokevirtual 180, 3)) (hM : zMi cx.1.2.1 gg yX0_isInBounds cX0_isInBounds .boolean 2 fr lo (.ref (zc gg k) :: []) σ post) (hr : fr + 1 ≤ f0 ∧ 8 + (2 + 11) + lo ≤ l0) (hs : (rest.map fun v => v.category).sum ≤ 8) (hlen : lv.length = nL) (kk : ∀ (r : Int32) (u : zS), post r u → J cx gg Q u (pc + 3) lv (.int r :: rest)) : J cx gg Q σ pc lv (.ref (zc gg k) :: rest) :=
  J_cVNi hc hR (host := "SmoothPieces") (n := 0) (i := 2 + k) (by decide +kernel) wiyX0_isInBounds weyX0_isInBounds wnX0 wcyX0_isInBounds (by decide +kernel) rfl (by omega) (zE_c gg σ hk) (ci := 0) rfl rfl hd hM hr rfl rfl hs hlen kk
theorem nX0_35 (hc : zOK cx gg cc RX0 nL) (hd : decode cc pc = .ok (.ldc 35, 2)) (kk : J cx gg Q σ (pc + 2) lv (.int (100000) :: st)) : J cx gg Q σ pc lv st := J_ldc hc (by decide +kernel) hd kk
theorem kX0_36 (hc : zOK cx gg cc RX0 nL) {f0 l0 : Nat} (hR : zR cx f0 l0) {fr lo : Nat} {a0 a1 : Value} {rest : List Value} {post : Int32 → zS → Prop} (hd : decode cc pc = .ok (.invokestatic 36, 3)) (hM : zMi cx.1.2.1 gg yX3_isBeyond cX3_isBeyond .boolean 2 fr lo [a0, a1] σ post) (hr : fr + 1 ≤ f0 ∧ 8 + (2 + 11) + lo ≤ l0) (hs : (rest.map fun v => v.category).sum ≤ 8) (hlen : lv.length = nL) (kk : ∀ (r : Int32) (u : zS), post r u → J cx gg Q u (pc + 3) lv (.int r :: rest)) : J cx gg Q σ pc lv (a1 :: a0 :: rest) :=
  J_cSNi hc hR (host := "SmoothPieces") (n := 2) (by decide +kernel) wtyX3_isBeyond wnX3 wcyX3_isBeyond (by decide +kernel) hd hM hr rfl rfl hs hlen kk
theorem wcyX0_becomeCopy : Cond.code yX0_becomeCopy cX0_becomeCopy 3 none ∈ zT := by decide +kernel
theorem wiyX0_becomeCopy : Cond.instanceMethod yX0_becomeCopy ∈ zT := by decide +kernel
theorem weyX0_becomeCopy : Cond.selects yX0_becomeCopy.cls yX0_becomeCopy yX0_becomeCopy ∈ zT := by decide +kernel
theorem kX3_183 (hc : zOK cx gg cc RX3 nL) {f0 l0 : Nat} (hR : zR cx f0 l0) {fr lo : Nat} {k : Nat} (hk : k < 7) {a0 : Value} {rest : List Value} {post : zS → Prop} (hd : decode cc pc = .ok (.invokevirtual 183, 3)) (hM : zMv cx.1.2.1 gg yX0_becomeCopy cX0_becomeCopy 3 fr lo (.ref (zc gg k) :: [a0]) σ post) (hr : fr + 1 ≤ f0 ∧ 8 + (3 + 11) + lo ≤ l0) (hs : (rest.map fun v => v.category).sum ≤ 8) (hlen : lv.length = nL) (kk : ∀ u : zS, post u → J cx gg Q u (pc + 3) lv rest) : J cx gg Q σ pc lv (a0 :: .ref (zc gg k) :: rest) :=
  J_cVNv hc hR (host := "SmoothPieces") (n := 1) (i := 2 + k) (by decide +kernel) wiyX0_becomeCopy weyX0_becomeCopy wnX0 wcyX0_becomeCopy (by decide +kernel) rfl (by omega) (zE_c gg σ hk) (ci := 0) rfl rfl hd hM hr rfl rfl hs hlen kk
theorem wcyX3_refine : Cond.code yX3_refine cX3_refine 3 (some .int) ∈ zT := by decide +kernel
theorem wiyX3_refine : Cond.instanceMethod yX3_refine ∈ zT := by decide +kernel
theorem weyX3_refine : Cond.selects yX3_refine.cls yX3_refine yX3_refine ∈ zT := by decide +kernel
theorem wcyX0_becomeRefined : Cond.code yX0_becomeRefined cX0_becomeRefined 7 none ∈ zT := by decide +kernel
theorem wiyX0_becomeRefined : Cond.instanceMethod yX0_becomeRefined ∈ zT := by decide +kernel
theorem weyX0_becomeRefined : Cond.selects yX0_becomeRefined.cls yX0_becomeRefined yX0_becomeRefined ∈ zT := by decide +kernel
theorem kX3_134 (hc : zOK cx gg cc RX3 nL) {f0 l0 : Nat} (hR : zR cx f0 l0) {fr lo : Nat} {k : Nat} (hk : k < 7) {a0 : Value} {rest : List Value} {post : zS → Prop} (hd : decode cc pc = .ok (.invokevirtual 134, 3)) (hM : zMv cx.1.2.1 gg yX0_becomeRefined cX0_becomeRefined 7 fr lo (.ref (zc gg k) :: [a0]) σ post) (hr : fr + 1 ≤ f0 ∧ 8 + (7 + 11) + lo ≤ l0) (hs : (rest.map fun v => v.category).sum ≤ 8) (hlen : lv.length = nL) (kk : ∀ u : zS, post u → J cx gg Q u (pc + 3) lv rest) : J cx gg Q σ pc lv (a0 :: .ref (zc gg k) :: rest) :=
  J_cVNv hc hR (host := "SmoothPieces") (n := 1) (i := 2 + k) (by decide +kernel) wiyX0_becomeRefined weyX0_becomeRefined wnX0 wcyX0_becomeRefined (by decide +kernel) rfl (by omega) (zE_c gg σ hk) (ci := 0) rfl rfl hd hM hr rfl rfl hs hlen kk
theorem wcyX3_slope : Cond.code yX3_slope cX3_slope 3 (some .int) ∈ zT := by decide +kernel
theorem wiyX3_slope : Cond.instanceMethod yX3_slope ∈ zT := by decide +kernel
theorem weyX3_slope : Cond.selects yX3_slope.cls yX3_slope yX3_slope ∈ zT := by decide +kernel
theorem wcyX0_becomeSloped : Cond.code yX0_becomeSloped cX0_becomeSloped 3 none ∈ zT := by decide +kernel
theorem wiyX0_becomeSloped : Cond.instanceMethod yX0_becomeSloped ∈ zT := by decide +kernel
theorem weyX0_becomeSloped : Cond.selects yX0_becomeSloped.cls yX0_becomeSloped yX0_becomeSloped ∈ zT := by decide +kernel
theorem kX3_138 (hc : zOK cx gg cc RX3 nL) {f0 l0 : Nat} (hR : zR cx f0 l0) {fr lo : Nat} {k : Nat} (hk : k < 7) {a0 : Value} {rest : List Value} {post : zS → Prop} (hd : decode cc pc = .ok (.invokevirtual 138, 3)) (hM : zMv cx.1.2.1 gg yX0_becomeSloped cX0_becomeSloped 3 fr lo (.ref (zc gg k) :: [a0]) σ post) (hr : fr + 1 ≤ f0 ∧ 8 + (3 + 11) + lo ≤ l0) (hs : (rest.map fun v => v.category).sum ≤ 8) (hlen : lv.length = nL) (kk : ∀ u : zS, post u → J cx gg Q u (pc + 3) lv rest) : J cx gg Q σ pc lv (a0 :: .ref (zc gg k) :: rest) :=
  J_cVNv hc hR (host := "SmoothPieces") (n := 1) (i := 2 + k) (by decide +kernel) wiyX0_becomeSloped weyX0_becomeSloped wnX0 wcyX0_becomeSloped (by decide +kernel) rfl (by omega) (zE_c gg σ hk) (ci := 0) rfl rfl hd hM hr rfl rfl hs hlen kk
theorem wcyX3_push : Cond.code yX3_push cX3_push 3 (some .int) ∈ zT := by decide +kernel
theorem wiyX3_push : Cond.instanceMethod yX3_push ∈ zT := by decide +kernel
theorem weyX3_push : Cond.selects yX3_push.cls yX3_push yX3_push ∈ zT := by decide +kernel
theorem wcyX0_becomePushed : Cond.code yX0_becomePushed cX0_becomePushed 4 none ∈ zT := by decide +kernel
theorem wiyX0_becomePushed : Cond.instanceMethod yX0_becomePushed ∈ zT := by decide +kernel
theorem weyX0_becomePushed : Cond.selects yX0_becomePushed.cls yX0_becomePushed yX0_becomePushed ∈ zT := by decide +kernel
theorem kX3_141 (hc : zOK cx gg cc RX3 nL) {f0 l0 : Nat} (hR : zR cx f0 l0) {fr lo : Nat} {k : Nat} (hk : k < 7) {a0 a1 : Value} {rest : List Value} {post : zS → Prop} (hd : decode cc pc = .ok (.invokevirtual 141, 3)) (hM : zMv cx.1.2.1 gg yX0_becomePushed cX0_becomePushed 4 fr lo (.ref (zc gg k) :: [a0, a1]) σ post) (hr : fr + 1 ≤ f0 ∧ 8 + (4 + 11) + lo ≤ l0) (hs : (rest.map fun v => v.category).sum ≤ 8) (hlen : lv.length = nL) (kk : ∀ u : zS, post u → J cx gg Q u (pc + 3) lv rest) : J cx gg Q σ pc lv (a1 :: a0 :: .ref (zc gg k) :: rest) :=
  J_cVNv hc hR (host := "SmoothPieces") (n := 2) (i := 2 + k) (by decide +kernel) wiyX0_becomePushed weyX0_becomePushed wnX0 wcyX0_becomePushed (by decide +kernel) rfl (by omega) (zE_c gg σ hk) (ci := 0) rfl rfl hd hM hr rfl rfl hs hlen kk
theorem wcyX3_point : Cond.code yX3_point cX3_point 2 (some .int) ∈ zT := by decide +kernel
theorem wiyX3_point : Cond.instanceMethod yX3_point ∈ zT := by decide +kernel
theorem weyX3_point : Cond.selects yX3_point.cls yX3_point yX3_point ∈ zT := by decide +kernel
theorem wcyX3_clear : Cond.code yX3_clear cX3_clear 2 (some .int) ∈ zT := by decide +kernel
theorem wiyX3_clear : Cond.instanceMethod yX3_clear ∈ zT := by decide +kernel
theorem weyX3_clear : Cond.selects yX3_clear.cls yX3_clear yX3_clear ∈ zT := by decide +kernel
theorem wcyX3_slopes : Cond.code yX3_slopes cX3_slopes 3 (some .int) ∈ zT := by decide +kernel
theorem wiyX3_slopes : Cond.instanceMethod yX3_slopes ∈ zT := by decide +kernel
theorem weyX3_slopes : Cond.selects yX3_slopes.cls yX3_slopes yX3_slopes ∈ zT := by decide +kernel
theorem wcyX3_isNoShape : Cond.code yX3_isNoShape cX3_isNoShape 1 (some .boolean) ∈ zT := by decide +kernel
theorem wtyX3_isNoShape : Cond.static yX3_isNoShape ∈ zT := by decide +kernel
theorem kX3_145 (hc : zOK cx gg cc RX3 nL) {f0 l0 : Nat} (hR : zR cx f0 l0) {fr lo : Nat} {a0 : Value} {rest : List Value} {post : Int32 → zS → Prop} (hd : decode cc pc = .ok (.invokestatic 145, 3)) (hM : zMi cx.1.2.1 gg yX3_isNoShape cX3_isNoShape .boolean 1 fr lo [a0] σ post) (hr : fr + 1 ≤ f0 ∧ 8 + (1 + 11) + lo ≤ l0) (hs : (rest.map fun v => v.category).sum ≤ 8) (hlen : lv.length = nL) (kk : ∀ (r : Int32) (u : zS), post r u → J cx gg Q u (pc + 3) lv (.int r :: rest)) : J cx gg Q σ pc lv (a0 :: rest) :=
  J_cSi hc hR (n := 1) (by decide +kernel) wtyX3_isNoShape wnX3 wcyX3_isNoShape (by decide +kernel) hd hM hr rfl rfl hs hlen kk
theorem wcyX3_hasTooFewPoints : Cond.code yX3_hasTooFewPoints cX3_hasTooFewPoints 1 (some .boolean) ∈ zT := by decide +kernel
theorem wiyX3_hasTooFewPoints : Cond.instanceMethod yX3_hasTooFewPoints ∈ zT := by decide +kernel
theorem weyX3_hasTooFewPoints : Cond.selects yX3_hasTooFewPoints.cls yX3_hasTooFewPoints yX3_hasTooFewPoints ∈ zT := by decide +kernel
theorem kX3_148 (hc : zOK cx gg cc RX3 nL) {f0 l0 : Nat} (hR : zR cx f0 l0) {fr lo : Nat} {rest : List Value} {post : Int32 → zS → Prop} (hd : decode cc pc = .ok (.invokevirtual 148, 3)) (hM : zMi cx.1.2.1 gg yX3_hasTooFewPoints cX3_hasTooFewPoints .boolean 1 fr lo (.ref (zo gg) :: []) σ post) (hr : fr + 1 ≤ f0 ∧ 8 + (1 + 11) + lo ≤ l0) (hs : (rest.map fun v => v.category).sum ≤ 8) (hlen : lv.length = nL) (kk : ∀ (r : Int32) (u : zS), post r u → J cx gg Q u (pc + 3) lv (.int r :: rest)) : J cx gg Q σ pc lv (.ref (zo gg) :: rest) :=
  J_cVi hc hR (n := 0) (i := 0) (by decide +kernel) wiyX3_hasTooFewPoints weyX3_hasTooFewPoints wnX3 wcyX3_hasTooFewPoints (by decide +kernel) rfl (by decide) rfl (ci := 3) rfl rfl hd hM hr rfl rfl hs hlen kk
theorem wcyX3_findSlopes : Cond.code yX3_findSlopes cX3_findSlopes 5 none ∈ zT := by decide +kernel
theorem wiyX3_findSlopes : Cond.instanceMethod yX3_findSlopes ∈ zT := by decide +kernel
theorem weyX3_findSlopes : Cond.selects yX3_findSlopes.cls yX3_findSlopes yX3_findSlopes ∈ zT := by decide +kernel
theorem kX3_152 (hc : zOK cx gg cc RX3 nL) {f0 l0 : Nat} (hR : zR cx f0 l0) {fr lo : Nat} {a0 : Value} {rest : List Value} {post : zS → Prop} (hd : decode cc pc = .ok (.invokevirtual 152, 3)) (hM : zMv cx.1.2.1 gg yX3_findSlopes cX3_findSlopes 5 fr lo (.ref (zo gg) :: [a0]) σ post) (hr : fr + 1 ≤ f0 ∧ 8 + (5 + 11) + lo ≤ l0) (hs : (rest.map fun v => v.category).sum ≤ 8) (hlen : lv.length = nL) (kk : ∀ u : zS, post u → J cx gg Q u (pc + 3) lv rest) : J cx gg Q σ pc lv (a0 :: .ref (zo gg) :: rest) :=
  J_cVv hc hR (n := 1) (i := 0) (by decide +kernel) wiyX3_findSlopes weyX3_findSlopes wnX3 wcyX3_findSlopes (by decide +kernel) rfl (by decide) rfl (ci := 3) rfl rfl hd hM hr rfl rfl hs hlen kk
theorem wcyX3_draftSpline : Cond.code yX3_draftSpline cX3_draftSpline 5 none ∈ zT := by decide +kernel
theorem wiyX3_draftSpline : Cond.instanceMethod yX3_draftSpline ∈ zT := by decide +kernel
theorem weyX3_draftSpline : Cond.selects yX3_draftSpline.cls yX3_draftSpline yX3_draftSpline ∈ zT := by decide +kernel
theorem kX3_174 (hc : zOK cx gg cc RX3 nL) {f0 l0 : Nat} (hR : zR cx f0 l0) {fr lo : Nat} {a0 : Value} {rest : List Value} {post : zS → Prop} (hd : decode cc pc = .ok (.invokevirtual 174, 3)) (hM : zMv cx.1.2.1 gg yX3_draftSpline cX3_draftSpline 5 fr lo (.ref (zo gg) :: [a0]) σ post) (hr : fr + 1 ≤ f0 ∧ 8 + (5 + 11) + lo ≤ l0) (hs : (rest.map fun v => v.category).sum ≤ 8) (hlen : lv.length = nL) (kk : ∀ u : zS, post u → J cx gg Q u (pc + 3) lv rest) : J cx gg Q σ pc lv (a0 :: .ref (zo gg) :: rest) :=
  J_cVv hc hR (n := 1) (i := 0) (by decide +kernel) wiyX3_draftSpline weyX3_draftSpline wnX3 wcyX3_draftSpline (by decide +kernel) rfl (by decide) rfl (ci := 3) rfl rfl hd hM hr rfl rfl hs hlen kk
theorem wnX1 : Cond.initialized RX1 ∈ zT := by decide +kernel
theorem wcyX1_becomeAll : Cond.code yX1_becomeAll cX1_becomeAll 2 none ∈ zT := by decide +kernel
theorem wiyX1_becomeAll : Cond.instanceMethod yX1_becomeAll ∈ zT := by decide +kernel
theorem weyX1_becomeAll : Cond.selects yX1_becomeAll.cls yX1_becomeAll yX1_becomeAll ∈ zT := by decide +kernel
theorem kX3_205 (hc : zOK cx gg cc RX3 nL) {f0 l0 : Nat} (hR : zR cx f0 l0) {fr lo : Nat} {a0 : Value} {rest : List Value} {post : zS → Prop} (hd : decode cc pc = .ok (.invokevirtual 205, 3)) (hM : zMv cx.1.2.1 gg yX1_becomeAll cX1_becomeAll 2 fr lo (.ref (zn gg) :: [a0]) σ post) (hr : fr + 1 ≤ f0 ∧ 8 + (2 + 11) + lo ≤ l0) (hs : (rest.map fun v => v.category).sum ≤ 8) (hlen : lv.length = nL) (kk : ∀ u : zS, post u → J cx gg Q u (pc + 3) lv rest) : J cx gg Q σ pc lv (a0 :: .ref (zn gg) :: rest) :=
  J_cVNv hc hR (host := "SmoothPieces") (n := 1) (i := 43) (by decide +kernel) wiyX1_becomeAll weyX1_becomeAll wnX1 wcyX1_becomeAll (by decide +kernel) rfl (by decide) rfl (ci := 1) rfl rfl hd hM hr rfl rfl hs hlen kk
theorem wcyX1_require : Cond.code yX1_require cX1_require 3 none ∈ zT := by decide +kernel
theorem wiyX1_require : Cond.instanceMethod yX1_require ∈ zT := by decide +kernel
theorem weyX1_require : Cond.selects yX1_require.cls yX1_require yX1_require ∈ zT := by decide +kernel
theorem kX3_208 (hc : zOK cx gg cc RX3 nL) {f0 l0 : Nat} (hR : zR cx f0 l0) {fr lo : Nat} {a0 a1 : Value} {rest : List Value} {post : zS → Prop} (hd : decode cc pc = .ok (.invokevirtual 208, 3)) (hM : zMv cx.1.2.1 gg yX1_require cX1_require 3 fr lo (.ref (zn gg) :: [a0, a1]) σ post) (hr : fr + 1 ≤ f0 ∧ 8 + (3 + 11) + lo ≤ l0) (hs : (rest.map fun v => v.category).sum ≤ 8) (hlen : lv.length = nL) (kk : ∀ u : zS, post u → J cx gg Q u (pc + 3) lv rest) : J cx gg Q σ pc lv (a1 :: a0 :: .ref (zn gg) :: rest) :=
  J_cVNv hc hR (host := "SmoothPieces") (n := 2) (i := 43) (by decide +kernel) wiyX1_require weyX1_require wnX1 wcyX1_require (by decide +kernel) rfl (by decide) rfl (ci := 1) rfl rfl hd hM hr rfl rfl hs hlen kk
theorem wcyJ9_max_7cf53 : Cond.code yJ9_max_7cf53 cJ9_max_7cf53 2 (some .int) ∈ zT := by decide +kernel
theorem wtyJ9_max_7cf53 : Cond.static yJ9_max_7cf53 ∈ zT := by decide +kernel
theorem kX1_16 (hc : zOK cx gg cc RX1 nL) {f0 l0 : Nat} (hR : zR cx f0 l0) {fr lo : Nat} {a0 a1 : Value} {rest : List Value} {post : Int32 → zS → Prop} (hd : decode cc pc = .ok (.invokestatic 16, 3)) (hM : zMi cx.1.2.1 gg yJ9_max_7cf53 cJ9_max_7cf53 .int 2 fr lo [a0, a1] σ post) (hr : fr + 1 ≤ f0 ∧ 8 + (2 + 11) + lo ≤ l0) (hs : (rest.map fun v => v.category).sum ≤ 8) (hlen : lv.length = nL) (kk : ∀ (r : Int32) (u : zS), post r u → J cx gg Q u (pc + 3) lv (.int r :: rest)) : J cx gg Q σ pc lv (a1 :: a0 :: rest) :=
  J_cSi hc hR (n := 2) (by decide +kernel) wtyJ9_max_7cf53 wnJ9 wcyJ9_max_7cf53 (by decide +kernel) hd hM hr rfl rfl hs hlen kk
theorem kX1_22 (hc : zOK cx gg cc RX1 nL) {f0 l0 : Nat} (hR : zR cx f0 l0) {fr lo : Nat} {a0 a1 : Value} {rest : List Value} {post : Int32 → zS → Prop} (hd : decode cc pc = .ok (.invokestatic 22, 3)) (hM : zMi cx.1.2.1 gg yJ9_min_7cf53 cJ9_min_7cf53 .int 2 fr lo [a0, a1] σ post) (hr : fr + 1 ≤ f0 ∧ 8 + (2 + 11) + lo ≤ l0) (hs : (rest.map fun v => v.category).sum ≤ 8) (hlen : lv.length = nL) (kk : ∀ (r : Int32) (u : zS), post r u → J cx gg Q u (pc + 3) lv (.int r :: rest)) : J cx gg Q σ pc lv (a1 :: a0 :: rest) :=
  J_cSi hc hR (n := 2) (by decide +kernel) wtyJ9_min_7cf53 wnJ9 wcyJ9_min_7cf53 (by decide +kernel) hd hM hr rfl rfl hs hlen kk
theorem kX3_212 (hc : zOK cx gg cc RX3 nL) {f0 l0 : Nat} (hR : zR cx f0 l0) {fr lo : Nat} {k : Nat} (hk : k < 7) {a0 : Value} {rest : List Value} {post : Int32 → zS → Prop} (hd : decode cc pc = .ok (.invokevirtual 212, 3)) (hM : zMi cx.1.2.1 gg yX0_slopeAtEnd cX0_slopeAtEnd .int 2 fr lo (.ref (zc gg k) :: [a0]) σ post) (hr : fr + 1 ≤ f0 ∧ 8 + (2 + 11) + lo ≤ l0) (hs : (rest.map fun v => v.category).sum ≤ 8) (hlen : lv.length = nL) (kk : ∀ (r : Int32) (u : zS), post r u → J cx gg Q u (pc + 3) lv (.int r :: rest)) : J cx gg Q σ pc lv (a0 :: .ref (zc gg k) :: rest) :=
  J_cVNi hc hR (host := "SmoothPieces") (n := 1) (i := 2 + k) (by decide +kernel) wiyX0_slopeAtEnd weyX0_slopeAtEnd wnX0 wcyX0_slopeAtEnd (by decide +kernel) rfl (by omega) (zE_c gg σ hk) (ci := 0) rfl rfl hd hM hr rfl rfl hs hlen kk
theorem wcyX1_size : Cond.code yX1_size cX1_size 1 (some .int) ∈ zT := by decide +kernel
theorem wiyX1_size : Cond.instanceMethod yX1_size ∈ zT := by decide +kernel
theorem weyX1_size : Cond.selects yX1_size.cls yX1_size yX1_size ∈ zT := by decide +kernel
theorem kX3_155 (hc : zOK cx gg cc RX3 nL) {f0 l0 : Nat} (hR : zR cx f0 l0) {fr lo : Nat} {rest : List Value} {post : Int32 → zS → Prop} (hd : decode cc pc = .ok (.invokevirtual 155, 3)) (hM : zMi cx.1.2.1 gg yX1_size cX1_size .int 1 fr lo (.ref (zn gg) :: []) σ post) (hr : fr + 1 ≤ f0 ∧ 8 + (1 + 11) + lo ≤ l0) (hs : (rest.map fun v => v.category).sum ≤ 8) (hlen : lv.length = nL) (kk : ∀ (r : Int32) (u : zS), post r u → J cx gg Q u (pc + 3) lv (.int r :: rest)) : J cx gg Q σ pc lv (.ref (zn gg) :: rest) :=
  J_cVNi hc hR (host := "SmoothPieces") (n := 0) (i := 43) (by decide +kernel) wiyX1_size weyX1_size wnX1 wcyX1_size (by decide +kernel) rfl (by decide) rfl (ci := 1) rfl rfl hd hM hr rfl rfl hs hlen kk
theorem wcyX3_best : Cond.code yX3_best cX3_best 2 (some .int) ∈ zT := by decide +kernel
theorem wiyX3_best : Cond.instanceMethod yX3_best ∈ zT := by decide +kernel
theorem weyX3_best : Cond.selects yX3_best.cls yX3_best yX3_best ∈ zT := by decide +kernel
theorem wcyX3_leastBentOfAll : Cond.code yX3_leastBentOfAll cX3_leastBentOfAll 4 (some .int) ∈ zT := by decide +kernel
theorem wiyX3_leastBentOfAll : Cond.instanceMethod yX3_leastBentOfAll ∈ zT := by decide +kernel
theorem weyX3_leastBentOfAll : Cond.selects yX3_leastBentOfAll.cls yX3_leastBentOfAll yX3_leastBentOfAll ∈ zT := by decide +kernel
theorem kX3_164 (hc : zOK cx gg cc RX3 nL) {f0 l0 : Nat} (hR : zR cx f0 l0) {fr lo : Nat} {rest : List Value} {post : Int32 → zS → Prop} (hd : decode cc pc = .ok (.invokevirtual 164, 3)) (hM : zMi cx.1.2.1 gg yX3_leastBentOfAll cX3_leastBentOfAll .int 4 fr lo (.ref (zo gg) :: []) σ post) (hr : fr + 1 ≤ f0 ∧ 8 + (4 + 11) + lo ≤ l0) (hs : (rest.map fun v => v.category).sum ≤ 8) (hlen : lv.length = nL) (kk : ∀ (r : Int32) (u : zS), post r u → J cx gg Q u (pc + 3) lv (.int r :: rest)) : J cx gg Q σ pc lv (.ref (zo gg) :: rest) :=
  J_cVi hc hR (n := 0) (i := 0) (by decide +kernel) wiyX3_leastBentOfAll weyX3_leastBentOfAll wnX3 wcyX3_leastBentOfAll (by decide +kernel) rfl (by decide) rfl (ci := 3) rfl rfl hd hM hr rfl rfl hs hlen kk
theorem kX3_167 (hc : zOK cx gg cc RX3 nL) {f0 l0 : Nat} (hR : zR cx f0 l0) {fr lo : Nat} {a0 a1 : Value} {rest : List Value} {post : Int32 → zS → Prop} (hd : decode cc pc = .ok (.invokestatic 167, 3)) (hM : zMi cx.1.2.1 gg yJ9_max_7cf53 cJ9_max_7cf53 .int 2 fr lo [a0, a1] σ post) (hr : fr + 1 ≤ f0 ∧ 8 + (2 + 11) + lo ≤ l0) (hs : (rest.map fun v => v.category).sum ≤ 8) (hlen : lv.length = nL) (kk : ∀ (r : Int32) (u : zS), post r u → J cx gg Q u (pc + 3) lv (.int r :: rest)) : J cx gg Q σ pc lv (a1 :: a0 :: rest) :=
  J_cSi hc hR (n := 2) (by decide +kernel) wtyJ9_max_7cf53 wnJ9 wcyJ9_max_7cf53 (by decide +kernel) hd hM hr rfl rfl hs hlen kk
theorem wcyJ9_floorDiv_7cf53 : Cond.code yJ9_floorDiv_7cf53 cJ9_floorDiv_7cf53 3 (some .int) ∈ zT := by decide +kernel
theorem wtyJ9_floorDiv_7cf53 : Cond.static yJ9_floorDiv_7cf53 ∈ zT := by decide +kernel
theorem kX3_215 (hc : zOK cx gg cc RX3 nL) {f0 l0 : Nat} (hR : zR cx f0 l0) {fr lo : Nat} {a0 a1 : Value} {rest : List Value} {post : Int32 → zS → Prop} (hd : decode cc pc = .ok (.invokestatic 215, 3)) (hM : zMi cx.1.2.1 gg yJ9_floorDiv_7cf53 cJ9_floorDiv_7cf53 .int 3 fr lo [a0, a1] σ post) (hr : fr + 1 ≤ f0 ∧ 8 + (3 + 11) + lo ≤ l0) (hs : (rest.map fun v => v.category).sum ≤ 8) (hlen : lv.length = nL) (kk : ∀ (r : Int32) (u : zS), post r u → J cx gg Q u (pc + 3) lv (.int r :: rest)) : J cx gg Q σ pc lv (a1 :: a0 :: rest) :=
  J_cSi hc hR (n := 2) (by decide +kernel) wtyJ9_floorDiv_7cf53 wnJ9 wcyJ9_floorDiv_7cf53 (by decide +kernel) hd hM hr rfl rfl hs hlen kk
theorem wcyX3_bend : Cond.code yX3_bend cX3_bend 5 (some .long) ∈ zT := by decide +kernel
theorem wiyX3_bend : Cond.instanceMethod yX3_bend ∈ zT := by decide +kernel
theorem weyX3_bend : Cond.selects yX3_bend.cls yX3_bend yX3_bend ∈ zT := by decide +kernel
theorem nX3_170 (hc : zOK cx gg cc RX3 nL) (hd : decode cc pc = .ok (.ldc2_w 170, 3)) (kk : J cx gg Q σ (pc + 3) lv (.long (-3) :: st)) : J cx gg Q σ pc lv st := J_ldc2 hc (by decide +kernel) hd kk
theorem nX3_172 (hc : zOK cx gg cc RX3 nL) (hd : decode cc pc = .ok (.ldc2_w 172, 3)) (kk : J cx gg Q σ (pc + 3) lv (.long (-4) :: st)) : J cx gg Q σ pc lv st := J_ldc2 hc (by decide +kernel) hd kk
theorem wcyX3_spline : Cond.code yX3_spline cX3_spline 3 (some .int) ∈ zT := by decide +kernel
theorem wiyX3_spline : Cond.instanceMethod yX3_spline ∈ zT := by decide +kernel
theorem weyX3_spline : Cond.selects yX3_spline.cls yX3_spline yX3_spline ∈ zT := by decide +kernel
theorem wcyX3_count : Cond.code yX3_count cX3_count 3 (some .int) ∈ zT := by decide +kernel
theorem wiyX3_count : Cond.instanceMethod yX3_count ∈ zT := by decide +kernel
theorem weyX3_count : Cond.selects yX3_count.cls yX3_count yX3_count ∈ zT := by decide +kernel
theorem wcyX0_knotsJoined : Cond.code yX0_knotsJoined cX0_knotsJoined 4 (some .int) ∈ zT := by decide +kernel
theorem wiyX0_knotsJoined : Cond.instanceMethod yX0_knotsJoined ∈ zT := by decide +kernel
theorem weyX0_knotsJoined : Cond.selects yX0_knotsJoined.cls yX0_knotsJoined yX0_knotsJoined ∈ zT := by decide +kernel
theorem kX3_177 (hc : zOK cx gg cc RX3 nL) {f0 l0 : Nat} (hR : zR cx f0 l0) {fr lo : Nat} {k : Nat} (hk : k < 7) {a0 : Value} {rest : List Value} {post : Int32 → zS → Prop} (hd : decode cc pc = .ok (.invokevirtual 177, 3)) (hM : zMi cx.1.2.1 gg yX0_knotsJoined cX0_knotsJoined .int 4 fr lo (.ref (zc gg k) :: [a0]) σ post) (hr : fr + 1 ≤ f0 ∧ 8 + (4 + 11) + lo ≤ l0) (hs : (rest.map fun v => v.category).sum ≤ 8) (hlen : lv.length = nL) (kk : ∀ (r : Int32) (u : zS), post r u → J cx gg Q u (pc + 3) lv (.int r :: rest)) : J cx gg Q σ pc lv (a0 :: .ref (zc gg k) :: rest) :=
  J_cVNi hc hR (host := "SmoothPieces") (n := 1) (i := 2 + k) (by decide +kernel) wiyX0_knotsJoined weyX0_knotsJoined wnX0 wcyX0_knotsJoined (by decide +kernel) rfl (by omega) (zE_c gg σ hk) (ci := 0) rfl rfl hd hM hr rfl rfl hs hlen kk
end ZK
