section
-- ===== PART A: goes FIRST, ahead of the names: the tables' words, and 'selects' of the private methods out of them =====
/-- a private method of a class that the tables say can be made, by its rows of tables_1 -/
def lw_okq (q : MethodName × Nat) : Prop := (q.1.cls ≠ "java/lang/invoke/MethodHandle" ∧ q.1.cls ≠ "java/lang/invoke/VarHandle") ∧ Cond.instantiable q.1.cls q.2 ∈ tables_1 ∧ Cond.privateMethod q.1 ∈ tables_1 ∧ Cond.instanceMethod q.1 ∈ tables_1
theorem lw_p0 : lw_okq (⟨"SmoothPieces$Curve", "becomeZero", "(I)V"⟩, 4) := ⟨⟨by decide +kernel, by decide +kernel⟩, List.mem_of_getElem? (i := 17) (by decide +kernel), List.mem_of_getElem? (i := 110) (by decide +kernel), List.mem_of_getElem? (i := 111) (by decide +kernel)⟩
theorem lw_p1 : lw_okq (⟨"SmoothPieces$Curve", "put", "(IIII)V"⟩, 4) := ⟨⟨by decide +kernel, by decide +kernel⟩, List.mem_of_getElem? (i := 17) (by decide +kernel), List.mem_of_getElem? (i := 114) (by decide +kernel), List.mem_of_getElem? (i := 115) (by decide +kernel)⟩
theorem lw_p2 : lw_okq (⟨"SmoothPieces", "isNoPiece", "(II)Z"⟩, 6) := ⟨⟨by decide +kernel, by decide +kernel⟩, List.mem_of_getElem? (i := 8) (by decide +kernel), List.mem_of_getElem? (i := 122) (by decide +kernel), List.mem_of_getElem? (i := 123) (by decide +kernel)⟩
theorem lw_p3 : lw_okq (⟨"SmoothPieces$Curve", "joinAt", "(I)I"⟩, 4) := ⟨⟨by decide +kernel, by decide +kernel⟩, List.mem_of_getElem? (i := 17) (by decide +kernel), List.mem_of_getElem? (i := 163) (by decide +kernel), List.mem_of_getElem? (i := 164) (by decide +kernel)⟩
theorem lw_p4 : lw_okq (⟨"SmoothPieces$Curve", "valueAtEnd", "(I)I"⟩, 4) := ⟨⟨by decide +kernel, by decide +kernel⟩, List.mem_of_getElem? (i := 17) (by decide +kernel), List.mem_of_getElem? (i := 167) (by decide +kernel), List.mem_of_getElem? (i := 168) (by decide +kernel)⟩
theorem lw_p5 : lw_okq (⟨"SmoothPieces$Curve", "slopeAtEnd", "(I)I"⟩, 4) := ⟨⟨by decide +kernel, by decide +kernel⟩, List.mem_of_getElem? (i := 17) (by decide +kernel), List.mem_of_getElem? (i := 171) (by decide +kernel), List.mem_of_getElem? (i := 172) (by decide +kernel)⟩
theorem lw_p6 : lw_okq (⟨"SmoothPieces$Curve", "isBentUp", "(I)Z"⟩, 4) := ⟨⟨by decide +kernel, by decide +kernel⟩, List.mem_of_getElem? (i := 17) (by decide +kernel), List.mem_of_getElem? (i := 185) (by decide +kernel), List.mem_of_getElem? (i := 186) (by decide +kernel)⟩
theorem lw_p7 : lw_okq (⟨"SmoothPieces$Curve", "isRising", "(I)Z"⟩, 4) := ⟨⟨by decide +kernel, by decide +kernel⟩, List.mem_of_getElem? (i := 17) (by decide +kernel), List.mem_of_getElem? (i := 190) (by decide +kernel), List.mem_of_getElem? (i := 191) (by decide +kernel)⟩
theorem lw_p8 : lw_okq (⟨"SmoothPieces$Curve", "top", "(I)J"⟩, 4) := ⟨⟨by decide +kernel, by decide +kernel⟩, List.mem_of_getElem? (i := 17) (by decide +kernel), List.mem_of_getElem? (i := 198) (by decide +kernel), List.mem_of_getElem? (i := 199) (by decide +kernel)⟩
theorem lw_p9 : lw_okq (⟨"SmoothPieces", "countZeros", "(LSmoothPieces$Curve;)I"⟩, 6) := ⟨⟨by decide +kernel, by decide +kernel⟩, List.mem_of_getElem? (i := 8) (by decide +kernel), List.mem_of_getElem? (i := 215) (by decide +kernel), List.mem_of_getElem? (i := 216) (by decide +kernel)⟩
theorem lw_p10 : lw_okq (⟨"SmoothPieces$Curve", "hasZeroPiece", "()Z"⟩, 4) := ⟨⟨by decide +kernel, by decide +kernel⟩, List.mem_of_getElem? (i := 17) (by decide +kernel), List.mem_of_getElem? (i := 219) (by decide +kernel), List.mem_of_getElem? (i := 220) (by decide +kernel)⟩
theorem lw_p11 : lw_okq (⟨"SmoothPieces$ZeroFinder", "search", "(LSmoothPieces$Curve;)V"⟩, 5) := ⟨⟨by decide +kernel, by decide +kernel⟩, List.mem_of_getElem? (i := 45) (by decide +kernel), List.mem_of_getElem? (i := 223) (by decide +kernel), List.mem_of_getElem? (i := 224) (by decide +kernel)⟩
theorem lw_p12 : lw_okq (⟨"SmoothPieces$ZeroFinder", "take", "(JJJ)Z"⟩, 5) := ⟨⟨by decide +kernel, by decide +kernel⟩, List.mem_of_getElem? (i := 45) (by decide +kernel), List.mem_of_getElem? (i := 227) (by decide +kernel), List.mem_of_getElem? (i := 228) (by decide +kernel)⟩
theorem lw_p13 : lw_okq (⟨"SmoothPieces$ZeroFinder", "discriminant", "()J"⟩, 5) := ⟨⟨by decide +kernel, by decide +kernel⟩, List.mem_of_getElem? (i := 45) (by decide +kernel), List.mem_of_getElem? (i := 232) (by decide +kernel), List.mem_of_getElem? (i := 233) (by decide +kernel)⟩
theorem lw_p14 : lw_okq (⟨"SmoothPieces$ZeroFinder", "searchPiece", "(IZ)V"⟩, 5) := ⟨⟨by decide +kernel, by decide +kernel⟩, List.mem_of_getElem? (i := 45) (by decide +kernel), List.mem_of_getElem? (i := 237) (by decide +kernel), List.mem_of_getElem? (i := 238) (by decide +kernel)⟩
theorem lw_p15 : lw_okq (⟨"SmoothPieces$ZeroFinder", "keepRoot", "(IZZ)V"⟩, 5) := ⟨⟨by decide +kernel, by decide +kernel⟩, List.mem_of_getElem? (i := 45) (by decide +kernel), List.mem_of_getElem? (i := 241) (by decide +kernel), List.mem_of_getElem? (i := 242) (by decide +kernel)⟩
def lw_privs_1 : List (MethodName × Nat) := [(⟨"SmoothPieces$Curve", "becomeZero", "(I)V"⟩, 4), (⟨"SmoothPieces$Curve", "put", "(IIII)V"⟩, 4), (⟨"SmoothPieces", "isNoPiece", "(II)Z"⟩, 6), (⟨"SmoothPieces$Curve", "joinAt", "(I)I"⟩, 4), (⟨"SmoothPieces$Curve", "valueAtEnd", "(I)I"⟩, 4), (⟨"SmoothPieces$Curve", "slopeAtEnd", "(I)I"⟩, 4), (⟨"SmoothPieces$Curve", "isBentUp", "(I)Z"⟩, 4), (⟨"SmoothPieces$Curve", "isRising", "(I)Z"⟩, 4), (⟨"SmoothPieces$Curve", "top", "(I)J"⟩, 4), (⟨"SmoothPieces", "countZeros", "(LSmoothPieces$Curve;)I"⟩, 6), (⟨"SmoothPieces$Curve", "hasZeroPiece", "()Z"⟩, 4), (⟨"SmoothPieces$ZeroFinder", "search", "(LSmoothPieces$Curve;)V"⟩, 5), (⟨"SmoothPieces$ZeroFinder", "take", "(JJJ)Z"⟩, 5), (⟨"SmoothPieces$ZeroFinder", "discriminant", "()J"⟩, 5), (⟨"SmoothPieces$ZeroFinder", "searchPiece", "(IZ)V"⟩, 5), (⟨"SmoothPieces$ZeroFinder", "keepRoot", "(IZZ)V"⟩, 5)]
theorem lw_r1 : ∀ q ∈ lw_privs_1, lw_okq q := List.forall_mem_cons.mpr ⟨lw_p0, List.forall_mem_cons.mpr ⟨lw_p1, List.forall_mem_cons.mpr ⟨lw_p2, List.forall_mem_cons.mpr ⟨lw_p3, List.forall_mem_cons.mpr ⟨lw_p4, List.forall_mem_cons.mpr ⟨lw_p5, List.forall_mem_cons.mpr ⟨lw_p6, List.forall_mem_cons.mpr ⟨lw_p7, List.forall_mem_cons.mpr ⟨lw_p8, List.forall_mem_cons.mpr ⟨lw_p9, List.forall_mem_cons.mpr ⟨lw_p10, List.forall_mem_cons.mpr ⟨lw_p11, List.forall_mem_cons.mpr ⟨lw_p12, List.forall_mem_cons.mpr ⟨lw_p13, List.forall_mem_cons.mpr ⟨lw_p14, List.forall_mem_cons.mpr ⟨lw_p15, fun _ h => absurd h List.not_mem_nil⟩⟩⟩⟩⟩⟩⟩⟩⟩⟩⟩⟩⟩⟩⟩⟩
theorem lw_p16 : lw_okq (⟨"SmoothPieces$ZeroFinder", "sideOfRoot", "(JZ)I"⟩, 5) := ⟨⟨by decide +kernel, by decide +kernel⟩, List.mem_of_getElem? (i := 45) (by decide +kernel), List.mem_of_getElem? (i := 245) (by decide +kernel), List.mem_of_getElem? (i := 246) (by decide +kernel)⟩
theorem lw_p17 : lw_okq (⟨"SmoothPieces$ZeroFinder", "boxInside", "(Z)I"⟩, 5) := ⟨⟨by decide +kernel, by decide +kernel⟩, List.mem_of_getElem? (i := 45) (by decide +kernel), List.mem_of_getElem? (i := 250) (by decide +kernel), List.mem_of_getElem? (i := 251) (by decide +kernel)⟩
theorem lw_p18 : lw_okq (⟨"SmoothPieces$Curve", "isLike", "(LSmoothPieces$Curve;)Z"⟩, 4) := ⟨⟨by decide +kernel, by decide +kernel⟩, List.mem_of_getElem? (i := 17) (by decide +kernel), List.mem_of_getElem? (i := 269) (by decide +kernel), List.mem_of_getElem? (i := 270) (by decide +kernel)⟩
theorem lw_p19 : lw_okq (⟨"SmoothPieces$Curve", "becomeSum", "(LSmoothPieces$Curve;ILSmoothPieces$Curve;I)V"⟩, 4) := ⟨⟨by decide +kernel, by decide +kernel⟩, List.mem_of_getElem? (i := 17) (by decide +kernel), List.mem_of_getElem? (i := 277) (by decide +kernel), List.mem_of_getElem? (i := 278) (by decide +kernel)⟩
theorem lw_p20 : lw_okq (⟨"SmoothPieces", "keepDraft", "(LSmoothPieces$Curve;)I"⟩, 6) := ⟨⟨by decide +kernel, by decide +kernel⟩, List.mem_of_getElem? (i := 8) (by decide +kernel), List.mem_of_getElem? (i := 286) (by decide +kernel), List.mem_of_getElem? (i := 287) (by decide +kernel)⟩
theorem lw_p21 : lw_okq (⟨"SmoothPieces$Curve", "isInBounds", "()Z"⟩, 4) := ⟨⟨by decide +kernel, by decide +kernel⟩, List.mem_of_getElem? (i := 17) (by decide +kernel), List.mem_of_getElem? (i := 290) (by decide +kernel), List.mem_of_getElem? (i := 291) (by decide +kernel)⟩
theorem lw_p22 : lw_okq (⟨"SmoothPieces$Curve", "becomeCopy", "(LSmoothPieces$Curve;)V"⟩, 4) := ⟨⟨by decide +kernel, by decide +kernel⟩, List.mem_of_getElem? (i := 17) (by decide +kernel), List.mem_of_getElem? (i := 296) (by decide +kernel), List.mem_of_getElem? (i := 297) (by decide +kernel)⟩
theorem lw_p23 : lw_okq (⟨"SmoothPieces$Curve", "becomeRefined", "(LSmoothPieces$Curve;)V"⟩, 4) := ⟨⟨by decide +kernel, by decide +kernel⟩, List.mem_of_getElem? (i := 17) (by decide +kernel), List.mem_of_getElem? (i := 304) (by decide +kernel), List.mem_of_getElem? (i := 305) (by decide +kernel)⟩
theorem lw_p24 : lw_okq (⟨"SmoothPieces$Curve", "becomeSloped", "(LSmoothPieces$Curve;)V"⟩, 4) := ⟨⟨by decide +kernel, by decide +kernel⟩, List.mem_of_getElem? (i := 17) (by decide +kernel), List.mem_of_getElem? (i := 312) (by decide +kernel), List.mem_of_getElem? (i := 313) (by decide +kernel)⟩
theorem lw_p25 : lw_okq (⟨"SmoothPieces$Curve", "becomePushed", "(LSmoothPieces$Curve;I)V"⟩, 4) := ⟨⟨by decide +kernel, by decide +kernel⟩, List.mem_of_getElem? (i := 17) (by decide +kernel), List.mem_of_getElem? (i := 320) (by decide +kernel), List.mem_of_getElem? (i := 321) (by decide +kernel)⟩
theorem lw_p26 : lw_okq (⟨"SmoothPieces", "hasTooFewPoints", "()Z"⟩, 6) := ⟨⟨by decide +kernel, by decide +kernel⟩, List.mem_of_getElem? (i := 8) (by decide +kernel), List.mem_of_getElem? (i := 339) (by decide +kernel), List.mem_of_getElem? (i := 340) (by decide +kernel)⟩
theorem lw_p27 : lw_okq (⟨"SmoothPieces", "findSlopes", "(I)V"⟩, 6) := ⟨⟨by decide +kernel, by decide +kernel⟩, List.mem_of_getElem? (i := 8) (by decide +kernel), List.mem_of_getElem? (i := 343) (by decide +kernel), List.mem_of_getElem? (i := 344) (by decide +kernel)⟩
theorem lw_p28 : lw_okq (⟨"SmoothPieces", "draftSpline", "(I)V"⟩, 6) := ⟨⟨by decide +kernel, by decide +kernel⟩, List.mem_of_getElem? (i := 8) (by decide +kernel), List.mem_of_getElem? (i := 347) (by decide +kernel), List.mem_of_getElem? (i := 348) (by decide +kernel)⟩
theorem lw_p29 : lw_okq (⟨"SmoothPieces$SlopeRange", "becomeAll", "(I)V"⟩, 2) := ⟨⟨by decide +kernel, by decide +kernel⟩, List.mem_of_getElem? (i := 69) (by decide +kernel), List.mem_of_getElem? (i := 351) (by decide +kernel), List.mem_of_getElem? (i := 352) (by decide +kernel)⟩
theorem lw_p30 : lw_okq (⟨"SmoothPieces$SlopeRange", "require", "(II)V"⟩, 2) := ⟨⟨by decide +kernel, by decide +kernel⟩, List.mem_of_getElem? (i := 69) (by decide +kernel), List.mem_of_getElem? (i := 355) (by decide +kernel), List.mem_of_getElem? (i := 356) (by decide +kernel)⟩
theorem lw_p31 : lw_okq (⟨"SmoothPieces$SlopeRange", "size", "()I"⟩, 2) := ⟨⟨by decide +kernel, by decide +kernel⟩, List.mem_of_getElem? (i := 69) (by decide +kernel), List.mem_of_getElem? (i := 364) (by decide +kernel), List.mem_of_getElem? (i := 365) (by decide +kernel)⟩
def lw_privs_2 : List (MethodName × Nat) := [(⟨"SmoothPieces$ZeroFinder", "sideOfRoot", "(JZ)I"⟩, 5), (⟨"SmoothPieces$ZeroFinder", "boxInside", "(Z)I"⟩, 5), (⟨"SmoothPieces$Curve", "isLike", "(LSmoothPieces$Curve;)Z"⟩, 4), (⟨"SmoothPieces$Curve", "becomeSum", "(LSmoothPieces$Curve;ILSmoothPieces$Curve;I)V"⟩, 4), (⟨"SmoothPieces", "keepDraft", "(LSmoothPieces$Curve;)I"⟩, 6), (⟨"SmoothPieces$Curve", "isInBounds", "()Z"⟩, 4), (⟨"SmoothPieces$Curve", "becomeCopy", "(LSmoothPieces$Curve;)V"⟩, 4), (⟨"SmoothPieces$Curve", "becomeRefined", "(LSmoothPieces$Curve;)V"⟩, 4), (⟨"SmoothPieces$Curve", "becomeSloped", "(LSmoothPieces$Curve;)V"⟩, 4), (⟨"SmoothPieces$Curve", "becomePushed", "(LSmoothPieces$Curve;I)V"⟩, 4), (⟨"SmoothPieces", "hasTooFewPoints", "()Z"⟩, 6), (⟨"SmoothPieces", "findSlopes", "(I)V"⟩, 6), (⟨"SmoothPieces", "draftSpline", "(I)V"⟩, 6), (⟨"SmoothPieces$SlopeRange", "becomeAll", "(I)V"⟩, 2), (⟨"SmoothPieces$SlopeRange", "require", "(II)V"⟩, 2), (⟨"SmoothPieces$SlopeRange", "size", "()I"⟩, 2)]
theorem lw_r2 : ∀ q ∈ lw_privs_2, lw_okq q := List.forall_mem_cons.mpr ⟨lw_p16, List.forall_mem_cons.mpr ⟨lw_p17, List.forall_mem_cons.mpr ⟨lw_p18, List.forall_mem_cons.mpr ⟨lw_p19, List.forall_mem_cons.mpr ⟨lw_p20, List.forall_mem_cons.mpr ⟨lw_p21, List.forall_mem_cons.mpr ⟨lw_p22, List.forall_mem_cons.mpr ⟨lw_p23, List.forall_mem_cons.mpr ⟨lw_p24, List.forall_mem_cons.mpr ⟨lw_p25, List.forall_mem_cons.mpr ⟨lw_p26, List.forall_mem_cons.mpr ⟨lw_p27, List.forall_mem_cons.mpr ⟨lw_p28, List.forall_mem_cons.mpr ⟨lw_p29, List.forall_mem_cons.mpr ⟨lw_p30, List.forall_mem_cons.mpr ⟨lw_p31, fun _ h => absurd h List.not_mem_nil⟩⟩⟩⟩⟩⟩⟩⟩⟩⟩⟩⟩⟩⟩⟩⟩
theorem lw_p32 : lw_okq (⟨"SmoothPieces", "leastBentOfAll", "()I"⟩, 6) := ⟨⟨by decide +kernel, by decide +kernel⟩, List.mem_of_getElem? (i := 8) (by decide +kernel), List.mem_of_getElem? (i := 372) (by decide +kernel), List.mem_of_getElem? (i := 373) (by decide +kernel)⟩
theorem lw_p33 : lw_okq (⟨"SmoothPieces$Curve", "knotsJoined", "(I)I"⟩, 4) := ⟨⟨by decide +kernel, by decide +kernel⟩, List.mem_of_getElem? (i := 17) (by decide +kernel), List.mem_of_getElem? (i := 394) (by decide +kernel), List.mem_of_getElem? (i := 395) (by decide +kernel)⟩
theorem lw_p34 : lw_okq (⟨"SmoothPiecesModel", "look", "(I)V"⟩, 13) := ⟨⟨by decide +kernel, by decide +kernel⟩, List.mem_of_getElem? (i := 398) (by decide +kernel), List.mem_of_getElem? (i := 488) (by decide +kernel), List.mem_of_getElem? (i := 489) (by decide +kernel)⟩
theorem lw_p35 : lw_okq (⟨"SmoothPiecesModel", "joinOf", "(I)I"⟩, 13) := ⟨⟨by decide +kernel, by decide +kernel⟩, List.mem_of_getElem? (i := 398) (by decide +kernel), List.mem_of_getElem? (i := 492) (by decide +kernel), List.mem_of_getElem? (i := 493) (by decide +kernel)⟩
theorem lw_p36 : lw_okq (⟨"SmoothPiecesModel", "hasShape", "(I)Z"⟩, 13) := ⟨⟨by decide +kernel, by decide +kernel⟩, List.mem_of_getElem? (i := 398) (by decide +kernel), List.mem_of_getElem? (i := 501) (by decide +kernel), List.mem_of_getElem? (i := 502) (by decide +kernel)⟩
theorem lw_p37 : lw_okq (⟨"SmoothPiecesModel", "findZeros", "()Z"⟩, 13) := ⟨⟨by decide +kernel, by decide +kernel⟩, List.mem_of_getElem? (i := 398) (by decide +kernel), List.mem_of_getElem? (i := 516) (by decide +kernel), List.mem_of_getElem? (i := 517) (by decide +kernel)⟩
theorem lw_p38 : lw_okq (⟨"SmoothPiecesModel", "at", "(II)J"⟩, 13) := ⟨⟨by decide +kernel, by decide +kernel⟩, List.mem_of_getElem? (i := 398) (by decide +kernel), List.mem_of_getElem? (i := 520) (by decide +kernel), List.mem_of_getElem? (i := 521) (by decide +kernel)⟩
theorem lw_p39 : lw_okq (⟨"SmoothPiecesModel", "between", "(II)I"⟩, 13) := ⟨⟨by decide +kernel, by decide +kernel⟩, List.mem_of_getElem? (i := 398) (by decide +kernel), List.mem_of_getElem? (i := 525) (by decide +kernel), List.mem_of_getElem? (i := 526) (by decide +kernel)⟩
theorem lw_p40 : lw_okq (⟨"SmoothPiecesModel", "slopeAt", "(II)J"⟩, 13) := ⟨⟨by decide +kernel, by decide +kernel⟩, List.mem_of_getElem? (i := 398) (by decide +kernel), List.mem_of_getElem? (i := 532) (by decide +kernel), List.mem_of_getElem? (i := 533) (by decide +kernel)⟩
theorem lw_p41 : lw_okq (⟨"SmoothPiecesModel", "make", "(IJIJ)V"⟩, 13) := ⟨⟨by decide +kernel, by decide +kernel⟩, List.mem_of_getElem? (i := 398) (by decide +kernel), List.mem_of_getElem? (i := 554) (by decide +kernel), List.mem_of_getElem? (i := 555) (by decide +kernel)⟩
theorem lw_p42 : lw_okq (⟨"SmoothPiecesModel", "lay", "(I)I"⟩, 13) := ⟨⟨by decide +kernel, by decide +kernel⟩, List.mem_of_getElem? (i := 398) (by decide +kernel), List.mem_of_getElem? (i := 564) (by decide +kernel), List.mem_of_getElem? (i := 565) (by decide +kernel)⟩
theorem lw_p43 : lw_okq (⟨"SmoothPiecesModel", "isSlope", "(II)Z"⟩, 13) := ⟨⟨by decide +kernel, by decide +kernel⟩, List.mem_of_getElem? (i := 398) (by decide +kernel), List.mem_of_getElem? (i := 594) (by decide +kernel), List.mem_of_getElem? (i := 595) (by decide +kernel)⟩
theorem lw_p44 : lw_okq (⟨"SmoothPiecesModel", "makeSpline", "(I)V"⟩, 13) := ⟨⟨by decide +kernel, by decide +kernel⟩, List.mem_of_getElem? (i := 398) (by decide +kernel), List.mem_of_getElem? (i := 598) (by decide +kernel), List.mem_of_getElem? (i := 599) (by decide +kernel)⟩
theorem lw_p45 : lw_okq (⟨"SmoothPiecesModel", "bendOf", "()J"⟩, 13) := ⟨⟨by decide +kernel, by decide +kernel⟩, List.mem_of_getElem? (i := 398) (by decide +kernel), List.mem_of_getElem? (i := 606) (by decide +kernel), List.mem_of_getElem? (i := 607) (by decide +kernel)⟩
def lw_privs_3 : List (MethodName × Nat) := [(⟨"SmoothPieces", "leastBentOfAll", "()I"⟩, 6), (⟨"SmoothPieces$Curve", "knotsJoined", "(I)I"⟩, 4), (⟨"SmoothPiecesModel", "look", "(I)V"⟩, 13), (⟨"SmoothPiecesModel", "joinOf", "(I)I"⟩, 13), (⟨"SmoothPiecesModel", "hasShape", "(I)Z"⟩, 13), (⟨"SmoothPiecesModel", "findZeros", "()Z"⟩, 13), (⟨"SmoothPiecesModel", "at", "(II)J"⟩, 13), (⟨"SmoothPiecesModel", "between", "(II)I"⟩, 13), (⟨"SmoothPiecesModel", "slopeAt", "(II)J"⟩, 13), (⟨"SmoothPiecesModel", "make", "(IJIJ)V"⟩, 13), (⟨"SmoothPiecesModel", "lay", "(I)I"⟩, 13), (⟨"SmoothPiecesModel", "isSlope", "(II)Z"⟩, 13), (⟨"SmoothPiecesModel", "makeSpline", "(I)V"⟩, 13), (⟨"SmoothPiecesModel", "bendOf", "()J"⟩, 13)]
theorem lw_r3 : ∀ q ∈ lw_privs_3, lw_okq q := List.forall_mem_cons.mpr ⟨lw_p32, List.forall_mem_cons.mpr ⟨lw_p33, List.forall_mem_cons.mpr ⟨lw_p34, List.forall_mem_cons.mpr ⟨lw_p35, List.forall_mem_cons.mpr ⟨lw_p36, List.forall_mem_cons.mpr ⟨lw_p37, List.forall_mem_cons.mpr ⟨lw_p38, List.forall_mem_cons.mpr ⟨lw_p39, List.forall_mem_cons.mpr ⟨lw_p40, List.forall_mem_cons.mpr ⟨lw_p41, List.forall_mem_cons.mpr ⟨lw_p42, List.forall_mem_cons.mpr ⟨lw_p43, List.forall_mem_cons.mpr ⟨lw_p44, List.forall_mem_cons.mpr ⟨lw_p45, fun _ h => absurd h List.not_mem_nil⟩⟩⟩⟩⟩⟩⟩⟩⟩⟩⟩⟩⟩⟩
def lw_privs : List (MethodName × Nat) := lw_privs_1 ++ (lw_privs_2 ++ (lw_privs_3))
def lw_tbl : List Cond := k2_sels lw_privs ++ tables_1
theorem lw_privs_ok : ∀ q ∈ lw_privs, lw_okq q := by
  show ∀ q ∈ lw_privs_1 ++ (lw_privs_2 ++ (lw_privs_3)), lw_okq q
  exact List.forall_mem_append.mpr ⟨lw_r1, List.forall_mem_append.mpr ⟨lw_r2, lw_r3⟩⟩
end
section
def RX0 : String := "SmoothPieces$Curve"
def TX0 : u_T := fun k => match k with
  | 0 => ("SmoothPieces$Curve", "a", "[I", true)
  | 1 => ("SmoothPieces$Curve", "b", "[I", true)
  | 2 => ("SmoothPieces$Curve", "c", "[I", true)
  | _ => ("SmoothPieces$Curve", "size", "I", false)
def tyX0 : Nat → FieldType := fun k => match k with
  | 0 => .array .int
  | 1 => .array .int
  | 2 => .array .int
  | _ => .int
theorem nmX0 : ∀ a, a < 4 → ∀ b, b < 4 → a ≠ b → (TX0 a).2.1 ≠ (TX0 b).2.1 := by decide +kernel
theorem tyX0_ok : ∀ k, k < 4 → parseFieldDescriptor (TX0 k).2.2.1 = some (tyX0 k) := by decide +kernel
abbrev cX0_init : ByteArray := prog_2_method_1_code
def yX0_init : MethodName := ⟨RX0, "<init>", "()V"⟩
abbrev cX0_put : ByteArray := prog_2_method_2_code
def yX0_put : MethodName := ⟨RX0, "put", "(IIII)V"⟩
abbrev cX0_becomeZero : ByteArray := prog_2_method_3_code
def yX0_becomeZero : MethodName := ⟨RX0, "becomeZero", "(I)V"⟩
abbrev cX0_becomeCopy : ByteArray := prog_2_method_4_code
def yX0_becomeCopy : MethodName := ⟨RX0, "becomeCopy", "(LSmoothPieces$Curve;)V"⟩
abbrev cX0_becomeSum : ByteArray := prog_2_method_5_code
def yX0_becomeSum : MethodName := ⟨RX0, "becomeSum", "(LSmoothPieces$Curve;ILSmoothPieces$Curve;I)V"⟩
abbrev cX0_becomeRefined : ByteArray := prog_2_method_6_code
def yX0_becomeRefined : MethodName := ⟨RX0, "becomeRefined", "(LSmoothPieces$Curve;)V"⟩
abbrev cX0_becomeSloped : ByteArray := prog_2_method_7_code
def yX0_becomeSloped : MethodName := ⟨RX0, "becomeSloped", "(LSmoothPieces$Curve;)V"⟩
abbrev cX0_becomePushed : ByteArray := prog_2_method_8_code
def yX0_becomePushed : MethodName := ⟨RX0, "becomePushed", "(LSmoothPieces$Curve;I)V"⟩
abbrev cX0_isInBounds : ByteArray := prog_2_method_9_code
def yX0_isInBounds : MethodName := ⟨RX0, "isInBounds", "()Z"⟩
abbrev cX0_hasZeroPiece : ByteArray := prog_2_method_10_code
def yX0_hasZeroPiece : MethodName := ⟨RX0, "hasZeroPiece", "()Z"⟩
abbrev cX0_isLike : ByteArray := prog_2_method_11_code
def yX0_isLike : MethodName := ⟨RX0, "isLike", "(LSmoothPieces$Curve;)Z"⟩
abbrev cX0_valueAtEnd : ByteArray := prog_2_method_12_code
def yX0_valueAtEnd : MethodName := ⟨RX0, "valueAtEnd", "(I)I"⟩
abbrev cX0_slopeAtEnd : ByteArray := prog_2_method_13_code
def yX0_slopeAtEnd : MethodName := ⟨RX0, "slopeAtEnd", "(I)I"⟩
abbrev cX0_joinAt : ByteArray := prog_2_method_14_code
def yX0_joinAt : MethodName := ⟨RX0, "joinAt", "(I)I"⟩
abbrev cX0_knotsJoined : ByteArray := prog_2_method_15_code
def yX0_knotsJoined : MethodName := ⟨RX0, "knotsJoined", "(I)I"⟩
abbrev cX0_isRising : ByteArray := prog_2_method_16_code
def yX0_isRising : MethodName := ⟨RX0, "isRising", "(I)Z"⟩
abbrev cX0_isBentUp : ByteArray := prog_2_method_17_code
def yX0_isBentUp : MethodName := ⟨RX0, "isBentUp", "(I)Z"⟩
abbrev cX0_top : ByteArray := prog_2_method_18_code
def yX0_top : MethodName := ⟨RX0, "top", "(I)J"⟩
abbrev cX0_topOfPiece : ByteArray := prog_2_method_19_code
def yX0_topOfPiece : MethodName := ⟨RX0, "topOfPiece", "(JJJ)J"⟩
def RX1 : String := "SmoothPieces$SlopeRange"
def TX1 : u_T := fun k => match k with
  | 0 => ("SmoothPieces$SlopeRange", "least", "I", false)
  | _ => ("SmoothPieces$SlopeRange", "greatest", "I", false)
def tyX1 : Nat → FieldType := fun k => match k with
  | 0 => .int
  | _ => .int
theorem nmX1 : ∀ a, a < 2 → ∀ b, b < 2 → a ≠ b → (TX1 a).2.1 ≠ (TX1 b).2.1 := by decide +kernel
theorem tyX1_ok : ∀ k, k < 2 → parseFieldDescriptor (TX1 k).2.2.1 = some (tyX1 k) := by decide +kernel
abbrev cX1_init : ByteArray := prog_3_method_1_code
def yX1_init : MethodName := ⟨RX1, "<init>", "()V"⟩
abbrev cX1_becomeAll : ByteArray := prog_3_method_2_code
def yX1_becomeAll : MethodName := ⟨RX1, "becomeAll", "(I)V"⟩
abbrev cX1_require : ByteArray := prog_3_method_3_code
def yX1_require : MethodName := ⟨RX1, "require", "(II)V"⟩
abbrev cX1_size : ByteArray := prog_3_method_4_code
def yX1_size : MethodName := ⟨RX1, "size", "()I"⟩
def RX2 : String := "SmoothPieces$ZeroFinder"
def TX2 : u_T := fun k => match k with
  | 0 => ("SmoothPieces$ZeroFinder", "boxes", "[I", true)
  | 1 => ("SmoothPieces$ZeroFinder", "found", "I", false)
  | 2 => ("SmoothPieces$ZeroFinder", "a", "J", false)
  | 3 => ("SmoothPieces$ZeroFinder", "b", "J", false)
  | _ => ("SmoothPieces$ZeroFinder", "c", "J", false)
def tyX2 : Nat → FieldType := fun k => match k with
  | 0 => .array .int
  | 1 => .int
  | 2 => .long
  | 3 => .long
  | _ => .long
theorem nmX2 : ∀ a, a < 5 → ∀ b, b < 5 → a ≠ b → (TX2 a).2.1 ≠ (TX2 b).2.1 := by decide +kernel
theorem tyX2_ok : ∀ k, k < 5 → parseFieldDescriptor (TX2 k).2.2.1 = some (tyX2 k) := by decide +kernel
abbrev cX2_init : ByteArray := prog_4_method_1_code
def yX2_init : MethodName := ⟨RX2, "<init>", "()V"⟩
abbrev cX2_search : ByteArray := prog_4_method_2_code
def yX2_search : MethodName := ⟨RX2, "search", "(LSmoothPieces$Curve;)V"⟩
abbrev cX2_take : ByteArray := prog_4_method_3_code
def yX2_take : MethodName := ⟨RX2, "take", "(JJJ)Z"⟩
abbrev cX2_discriminant : ByteArray := prog_4_method_4_code
def yX2_discriminant : MethodName := ⟨RX2, "discriminant", "()J"⟩
abbrev cX2_searchPiece : ByteArray := prog_4_method_5_code
def yX2_searchPiece : MethodName := ⟨RX2, "searchPiece", "(IZ)V"⟩
abbrev cX2_keepRoot : ByteArray := prog_4_method_6_code
def yX2_keepRoot : MethodName := ⟨RX2, "keepRoot", "(IZZ)V"⟩
abbrev cX2_boxInside : ByteArray := prog_4_method_7_code
def yX2_boxInside : MethodName := ⟨RX2, "boxInside", "(Z)I"⟩
abbrev cX2_sideOfRoot : ByteArray := prog_4_method_8_code
def yX2_sideOfRoot : MethodName := ⟨RX2, "sideOfRoot", "(JZ)I"⟩
def RX3 : String := "SmoothPieces"
def TX3 : u_T := fun k => match k with
  | 0 => ("SmoothPieces", "curves", "[LSmoothPieces$Curve;", true)
  | 1 => ("SmoothPieces", "draft", "LSmoothPieces$Curve;", true)
  | 2 => ("SmoothPieces", "finder", "LSmoothPieces$ZeroFinder;", true)
  | 3 => ("SmoothPieces", "range", "LSmoothPieces$SlopeRange;", true)
  | 4 => ("SmoothPieces", "points", "[I", true)
  | _ => ("SmoothPieces", "pointCount", "I", false)
def tyX3 : Nat → FieldType := fun k => match k with
  | 0 => .array (.object "SmoothPieces$Curve")
  | 1 => .object "SmoothPieces$Curve"
  | 2 => .object "SmoothPieces$ZeroFinder"
  | 3 => .object "SmoothPieces$SlopeRange"
  | 4 => .array .int
  | _ => .int
theorem nmX3 : ∀ a, a < 6 → ∀ b, b < 6 → a ≠ b → (TX3 a).2.1 ≠ (TX3 b).2.1 := by decide +kernel
theorem tyX3_ok : ∀ k, k < 6 → parseFieldDescriptor (TX3 k).2.2.1 = some (tyX3 k) := by decide +kernel
abbrev cX3_init : ByteArray := prog_1_method_1_code
def yX3_init : MethodName := ⟨RX3, "<init>", "()V"⟩
abbrev cX3_pieces : ByteArray := prog_1_method_2_code
def yX3_pieces : MethodName := ⟨RX3, "pieces", "(II)I"⟩
abbrev cX3_piece : ByteArray := prog_1_method_3_code
def yX3_piece : MethodName := ⟨RX3, "piece", "(IIIII)I"⟩
abbrev cX3_of : ByteArray := prog_1_method_4_code
def yX3_of : MethodName := ⟨RX3, "of", "(III)I"⟩
abbrev cX3_value : ByteArray := prog_1_method_5_code
def yX3_value : MethodName := ⟨RX3, "value", "(IIII)J"⟩
abbrev cX3_join : ByteArray := prog_1_method_6_code
def yX3_join : MethodName := ⟨RX3, "join", "(II)I"⟩
abbrev cX3_has : ByteArray := prog_1_method_7_code
def yX3_has : MethodName := ⟨RX3, "has", "(II)I"⟩
abbrev cX3_end : ByteArray := prog_1_method_8_code
def yX3_end : MethodName := ⟨RX3, "end", "(II)I"⟩
abbrev cX3_zeros : ByteArray := prog_1_method_9_code
def yX3_zeros : MethodName := ⟨RX3, "zeros", "(I)I"⟩
abbrev cX3_zero : ByteArray := prog_1_method_10_code
def yX3_zero : MethodName := ⟨RX3, "zero", "(II)I"⟩
abbrev cX3_area : ByteArray := prog_1_method_11_code
def yX3_area : MethodName := ⟨RX3, "area", "(IIII)J"⟩
abbrev cX3_same : ByteArray := prog_1_method_12_code
def yX3_same : MethodName := ⟨RX3, "same", "(II)I"⟩
abbrev cX3_meets : ByteArray := prog_1_method_13_code
def yX3_meets : MethodName := ⟨RX3, "meets", "(II)I"⟩
abbrev cX3_mix : ByteArray := prog_1_method_14_code
def yX3_mix : MethodName := ⟨RX3, "mix", "(IIIII)I"⟩
abbrev cX3_refine : ByteArray := prog_1_method_15_code
def yX3_refine : MethodName := ⟨RX3, "refine", "(II)I"⟩
abbrev cX3_slope : ByteArray := prog_1_method_16_code
def yX3_slope : MethodName := ⟨RX3, "slope", "(II)I"⟩
abbrev cX3_push : ByteArray := prog_1_method_17_code
def yX3_push : MethodName := ⟨RX3, "push", "(II)I"⟩
abbrev cX3_point : ByteArray := prog_1_method_18_code
def yX3_point : MethodName := ⟨RX3, "point", "(I)I"⟩
abbrev cX3_clear : ByteArray := prog_1_method_19_code
def yX3_clear : MethodName := ⟨RX3, "clear", "()I"⟩
abbrev cX3_slopes : ByteArray := prog_1_method_20_code
def yX3_slopes : MethodName := ⟨RX3, "slopes", "(II)I"⟩
abbrev cX3_best : ByteArray := prog_1_method_21_code
def yX3_best : MethodName := ⟨RX3, "best", "(I)I"⟩
abbrev cX3_bend : ByteArray := prog_1_method_22_code
def yX3_bend : MethodName := ⟨RX3, "bend", "(I)J"⟩
abbrev cX3_spline : ByteArray := prog_1_method_23_code
def yX3_spline : MethodName := ⟨RX3, "spline", "(II)I"⟩
abbrev cX3_count : ByteArray := prog_1_method_24_code
def yX3_count : MethodName := ⟨RX3, "count", "(II)I"⟩
abbrev cX3_isNoPlace : ByteArray := prog_1_method_25_code
def yX3_isNoPlace : MethodName := ⟨RX3, "isNoPlace", "(I)Z"⟩
abbrev cX3_isNoPiece : ByteArray := prog_1_method_26_code
def yX3_isNoPiece : MethodName := ⟨RX3, "isNoPiece", "(II)Z"⟩
abbrev cX3_isNoPart : ByteArray := prog_1_method_27_code
def yX3_isNoPart : MethodName := ⟨RX3, "isNoPart", "(I)Z"⟩
abbrev cX3_isNoShape : ByteArray := prog_1_method_28_code
def yX3_isNoShape : MethodName := ⟨RX3, "isNoShape", "(I)Z"⟩
abbrev cX3_isBeyond : ByteArray := prog_1_method_29_code
def yX3_isBeyond : MethodName := ⟨RX3, "isBeyond", "(II)Z"⟩
abbrev cX3_hasTooFewPoints : ByteArray := prog_1_method_30_code
def yX3_hasTooFewPoints : MethodName := ⟨RX3, "hasTooFewPoints", "()Z"⟩
abbrev cX3_signOfShape : ByteArray := prog_1_method_31_code
def yX3_signOfShape : MethodName := ⟨RX3, "signOfShape", "(I)I"⟩
abbrev cX3_isBent : ByteArray := prog_1_method_32_code
def yX3_isBent : MethodName := ⟨RX3, "isBent", "(I)Z"⟩
abbrev cX3_keepDraft : ByteArray := prog_1_method_33_code
def yX3_keepDraft : MethodName := ⟨RX3, "keepDraft", "(LSmoothPieces$Curve;)I"⟩
abbrev cX3_countZeros : ByteArray := prog_1_method_34_code
def yX3_countZeros : MethodName := ⟨RX3, "countZeros", "(LSmoothPieces$Curve;)I"⟩
abbrev cX3_partInLowestTerms : ByteArray := prog_1_method_35_code
def yX3_partInLowestTerms : MethodName := ⟨RX3, "partInLowestTerms", "(JJI)J"⟩
abbrev cX3_commonDivisor : ByteArray := prog_1_method_36_code
def yX3_commonDivisor : MethodName := ⟨RX3, "commonDivisor", "(JJ)J"⟩
abbrev cX3_draftSpline : ByteArray := prog_1_method_37_code
def yX3_draftSpline : MethodName := ⟨RX3, "draftSpline", "(I)V"⟩
abbrev cX3_findSlopes : ByteArray := prog_1_method_38_code
def yX3_findSlopes : MethodName := ⟨RX3, "findSlopes", "(I)V"⟩
abbrev cX3_leastBentOfAll : ByteArray := prog_1_method_39_code
def yX3_leastBentOfAll : MethodName := ⟨RX3, "leastBentOfAll", "()I"⟩
def RX4 : String := "SmoothPiecesModel"
def TX4 : u_T := fun k => match k with
  | 0 => ("SmoothPiecesModel", "sizes", "[I", true)
  | 1 => ("SmoothPiecesModel", "as", "[I", true)
  | 2 => ("SmoothPiecesModel", "bs", "[I", true)
  | 3 => ("SmoothPiecesModel", "cs", "[I", true)
  | 4 => ("SmoothPiecesModel", "points", "I", false)
  | 5 => ("SmoothPiecesModel", "ys", "[I", true)
  | 6 => ("SmoothPiecesModel", "size", "I", false)
  | 7 => ("SmoothPiecesModel", "a", "[J", true)
  | 8 => ("SmoothPiecesModel", "b", "[J", true)
  | 9 => ("SmoothPiecesModel", "c", "[J", true)
  | 10 => ("SmoothPiecesModel", "zeros", "I", false)
  | 11 => ("SmoothPiecesModel", "boxes", "[I", true)
  | _ => ("SmoothPiecesModel", "slopes", "[I", true)
def tyX4 : Nat → FieldType := fun k => match k with
  | 0 => .array .int
  | 1 => .array .int
  | 2 => .array .int
  | 3 => .array .int
  | 4 => .int
  | 5 => .array .int
  | 6 => .int
  | 7 => .array .long
  | 8 => .array .long
  | 9 => .array .long
  | 10 => .int
  | 11 => .array .int
  | _ => .array .int
theorem nmX4 : ∀ a, a < 13 → ∀ b, b < 13 → a ≠ b → (TX4 a).2.1 ≠ (TX4 b).2.1 := by decide +kernel
theorem tyX4_ok : ∀ k, k < 13 → parseFieldDescriptor (TX4 k).2.2.1 = some (tyX4 k) := by decide +kernel
abbrev cX4_init : ByteArray := prog_6_method_1_code
def yX4_init : MethodName := ⟨RX4, "<init>", "()V"⟩
abbrev cX4_in : ByteArray := prog_6_method_2_code
def yX4_in : MethodName := ⟨RX4, "in", "(JJJ)Z"⟩
abbrev cX4_isPlace : ByteArray := prog_6_method_3_code
def yX4_isPlace : MethodName := ⟨RX4, "isPlace", "(I)Z"⟩
abbrev cX4_isSmall : ByteArray := prog_6_method_4_code
def yX4_isSmall : MethodName := ⟨RX4, "isSmall", "(J)Z"⟩
abbrev cX4_pieces : ByteArray := prog_6_method_5_code
def yX4_pieces : MethodName := ⟨RX4, "pieces", "(II)I"⟩
abbrev cX4_piece : ByteArray := prog_6_method_6_code
def yX4_piece : MethodName := ⟨RX4, "piece", "(IIIII)I"⟩
abbrev cX4_of : ByteArray := prog_6_method_7_code
def yX4_of : MethodName := ⟨RX4, "of", "(III)I"⟩
abbrev cX4_look : ByteArray := prog_6_method_8_code
def yX4_look : MethodName := ⟨RX4, "look", "(I)V"⟩
abbrev cX4_lay : ByteArray := prog_6_method_9_code
def yX4_lay : MethodName := ⟨RX4, "lay", "(I)I"⟩
abbrev cX4_common : ByteArray := prog_6_method_10_code
def yX4_common : MethodName := ⟨RX4, "common", "(JJ)J"⟩
abbrev cX4_told : ByteArray := prog_6_method_11_code
def yX4_told : MethodName := ⟨RX4, "told", "(JJI)J"⟩
abbrev cX4_value : ByteArray := prog_6_method_12_code
def yX4_value : MethodName := ⟨RX4, "value", "(IIII)J"⟩
abbrev cX4_joinOf : ByteArray := prog_6_method_13_code
def yX4_joinOf : MethodName := ⟨RX4, "joinOf", "(I)I"⟩
abbrev cX4_join : ByteArray := prog_6_method_14_code
def yX4_join : MethodName := ⟨RX4, "join", "(II)I"⟩
abbrev cX4_hasShape : ByteArray := prog_6_method_15_code
def yX4_hasShape : MethodName := ⟨RX4, "hasShape", "(I)Z"⟩
abbrev cX4_has : ByteArray := prog_6_method_16_code
def yX4_has : MethodName := ⟨RX4, "has", "(II)I"⟩
abbrev cX4_end : ByteArray := prog_6_method_17_code
def yX4_end : MethodName := ⟨RX4, "end", "(II)I"⟩
abbrev cX4_at : ByteArray := prog_6_method_18_code
def yX4_at : MethodName := ⟨RX4, "at", "(II)J"⟩
abbrev cX4_slopeAt : ByteArray := prog_6_method_19_code
def yX4_slopeAt : MethodName := ⟨RX4, "slopeAt", "(II)J"⟩
abbrev cX4_sign : ByteArray := prog_6_method_20_code
def yX4_sign : MethodName := ⟨RX4, "sign", "(J)I"⟩
abbrev cX4_between : ByteArray := prog_6_method_21_code
def yX4_between : MethodName := ⟨RX4, "between", "(II)I"⟩
abbrev cX4_findZeros : ByteArray := prog_6_method_22_code
def yX4_findZeros : MethodName := ⟨RX4, "findZeros", "()Z"⟩
abbrev cX4_zeros : ByteArray := prog_6_method_23_code
def yX4_zeros : MethodName := ⟨RX4, "zeros", "(I)I"⟩
abbrev cX4_zero : ByteArray := prog_6_method_24_code
def yX4_zero : MethodName := ⟨RX4, "zero", "(II)I"⟩
abbrev cX4_area : ByteArray := prog_6_method_25_code
def yX4_area : MethodName := ⟨RX4, "area", "(IIII)J"⟩
abbrev cX4_same : ByteArray := prog_6_method_26_code
def yX4_same : MethodName := ⟨RX4, "same", "(II)I"⟩
abbrev cX4_make : ByteArray := prog_6_method_27_code
def yX4_make : MethodName := ⟨RX4, "make", "(IJIJ)V"⟩
abbrev cX4_meets : ByteArray := prog_6_method_28_code
def yX4_meets : MethodName := ⟨RX4, "meets", "(II)I"⟩
abbrev cX4_mix : ByteArray := prog_6_method_29_code
def yX4_mix : MethodName := ⟨RX4, "mix", "(IIIII)I"⟩
abbrev cX4_refine : ByteArray := prog_6_method_30_code
def yX4_refine : MethodName := ⟨RX4, "refine", "(II)I"⟩
abbrev cX4_slope : ByteArray := prog_6_method_31_code
def yX4_slope : MethodName := ⟨RX4, "slope", "(II)I"⟩
abbrev cX4_push : ByteArray := prog_6_method_32_code
def yX4_push : MethodName := ⟨RX4, "push", "(II)I"⟩
abbrev cX4_point : ByteArray := prog_6_method_33_code
def yX4_point : MethodName := ⟨RX4, "point", "(I)I"⟩
abbrev cX4_clear : ByteArray := prog_6_method_34_code
def yX4_clear : MethodName := ⟨RX4, "clear", "()I"⟩
abbrev cX4_makeSpline : ByteArray := prog_6_method_35_code
def yX4_makeSpline : MethodName := ⟨RX4, "makeSpline", "(I)V"⟩
abbrev cX4_isSlope : ByteArray := prog_6_method_36_code
def yX4_isSlope : MethodName := ⟨RX4, "isSlope", "(II)Z"⟩
abbrev cX4_slopes : ByteArray := prog_6_method_37_code
def yX4_slopes : MethodName := ⟨RX4, "slopes", "(II)I"⟩
abbrev cX4_bendOf : ByteArray := prog_6_method_38_code
def yX4_bendOf : MethodName := ⟨RX4, "bendOf", "()J"⟩
abbrev cX4_best : ByteArray := prog_6_method_39_code
def yX4_best : MethodName := ⟨RX4, "best", "(I)I"⟩
abbrev cX4_bend : ByteArray := prog_6_method_40_code
def yX4_bend : MethodName := ⟨RX4, "bend", "(I)J"⟩
abbrev cX4_spline : ByteArray := prog_6_method_41_code
def yX4_spline : MethodName := ⟨RX4, "spline", "(II)I"⟩
abbrev cX4_count : ByteArray := prog_6_method_42_code
def yX4_count : MethodName := ⟨RX4, "count", "(II)I"⟩
def RJ9 : String := "java/lang/Math"
def TJ9 : u_T := fun k => match k with
  | _ => ("", "", "", false)
def tyJ9 : Nat → FieldType := fun k => match k with
  | _ => .int
theorem nmJ9 : ∀ a, a < 0 → ∀ b, b < 0 → a ≠ b → (TJ9 a).2.1 ≠ (TJ9 b).2.1 := by decide +kernel
theorem tyJ9_ok : ∀ k, k < 0 → parseFieldDescriptor (TJ9 k).2.2.1 = some (tyJ9 k) := by decide +kernel
abbrev cJ9_floorDiv_7cf53 : ByteArray := prog_7_method_47_code
def yJ9_floorDiv_7cf53 : MethodName := ⟨RJ9, "floorDiv", "(II)I"⟩
abbrev cJ9_floorDiv_f86c9 : ByteArray := prog_7_method_49_code
def yJ9_floorDiv_f86c9 : MethodName := ⟨RJ9, "floorDiv", "(JJ)J"⟩
abbrev cJ9_abs_067f4 : ByteArray := prog_7_method_61_code
def yJ9_abs_067f4 : MethodName := ⟨RJ9, "abs", "(J)J"⟩
abbrev cJ9_max_7cf53 : ByteArray := prog_7_method_65_code
def yJ9_max_7cf53 : MethodName := ⟨RJ9, "max", "(II)I"⟩
abbrev cJ9_max_f86c9 : ByteArray := prog_7_method_66_code
def yJ9_max_f86c9 : MethodName := ⟨RJ9, "max", "(JJ)J"⟩
abbrev cJ9_min_7cf53 : ByteArray := prog_7_method_69_code
def yJ9_min_7cf53 : MethodName := ⟨RJ9, "min", "(II)I"⟩
def RL : String := "SmoothPiecesLaw"
abbrev cL_law : ByteArray := code
def yL_law : MethodName := ⟨RL, "law", "([I)Z"⟩
abbrev vwCl : List vw_C := [(RX0, TX0, 4), (RX1, TX1, 2), (RX2, TX2, 5), (RX3, TX3, 6), (RX4, TX4, 13)]
end
section
theorem dX0_init_0 : decode cX0_init 0 = .ok (.aload_n 0, 1) := by decide +kernel
theorem dX0_init_1 : decode cX0_init 1 = .ok (.invokespecial 3, 3) := by decide +kernel
theorem dX0_init_4 : decode cX0_init 4 = .ok (.aload_n 0, 1) := by decide +kernel
theorem dX0_init_5 : decode cX0_init 5 = .ok (.bipush 16, 2) := by decide +kernel
theorem dX0_init_7 : decode cX0_init 7 = .ok (.newarray .int, 2) := by decide +kernel
theorem dX0_init_9 : decode cX0_init 9 = .ok (.putfield 9, 3) := by decide +kernel
theorem dX0_init_12 : decode cX0_init 12 = .ok (.aload_n 0, 1) := by decide +kernel
theorem dX0_init_13 : decode cX0_init 13 = .ok (.bipush 16, 2) := by decide +kernel
theorem dX0_init_15 : decode cX0_init 15 = .ok (.newarray .int, 2) := by decide +kernel
theorem dX0_init_17 : decode cX0_init 17 = .ok (.putfield 15, 3) := by decide +kernel
theorem dX0_init_20 : decode cX0_init 20 = .ok (.aload_n 0, 1) := by decide +kernel
theorem dX0_init_21 : decode cX0_init 21 = .ok (.bipush 16, 2) := by decide +kernel
theorem dX0_init_23 : decode cX0_init 23 = .ok (.newarray .int, 2) := by decide +kernel
theorem dX0_init_25 : decode cX0_init 25 = .ok (.putfield 18, 3) := by decide +kernel
theorem dX0_init_28 : decode cX0_init 28 = .ok (.aload_n 0, 1) := by decide +kernel
theorem dX0_init_29 : decode cX0_init 29 = .ok (.iconst 1, 1) := by decide +kernel
theorem dX0_init_30 : decode cX0_init 30 = .ok (.putfield 21, 3) := by decide +kernel
theorem dX0_init_33 : decode cX0_init 33 = .ok (.return_, 1) := by decide +kernel
theorem dX0_put_0 : decode cX0_put 0 = .ok (.aload_n 0, 1) := by decide +kernel
theorem dX0_put_1 : decode cX0_put 1 = .ok (.getfield 9, 3) := by decide +kernel
theorem dX0_put_4 : decode cX0_put 4 = .ok (.iload_n 1, 1) := by decide +kernel
theorem dX0_put_5 : decode cX0_put 5 = .ok (.iload_n 2, 1) := by decide +kernel
theorem dX0_put_6 : decode cX0_put 6 = .ok (.iastore, 1) := by decide +kernel
theorem dX0_put_7 : decode cX0_put 7 = .ok (.aload_n 0, 1) := by decide +kernel
theorem dX0_put_8 : decode cX0_put 8 = .ok (.getfield 15, 3) := by decide +kernel
theorem dX0_put_11 : decode cX0_put 11 = .ok (.iload_n 1, 1) := by decide +kernel
theorem dX0_put_12 : decode cX0_put 12 = .ok (.iload_n 3, 1) := by decide +kernel
theorem dX0_put_13 : decode cX0_put 13 = .ok (.iastore, 1) := by decide +kernel
theorem dX0_put_14 : decode cX0_put 14 = .ok (.aload_n 0, 1) := by decide +kernel
theorem dX0_put_15 : decode cX0_put 15 = .ok (.getfield 18, 3) := by decide +kernel
theorem dX0_put_18 : decode cX0_put 18 = .ok (.iload_n 1, 1) := by decide +kernel
theorem dX0_put_19 : decode cX0_put 19 = .ok (.iload 4, 2) := by decide +kernel
theorem dX0_put_21 : decode cX0_put 21 = .ok (.iastore, 1) := by decide +kernel
theorem dX0_put_22 : decode cX0_put 22 = .ok (.return_, 1) := by decide +kernel
theorem dX0_becomeZero_0 : decode cX0_becomeZero 0 = .ok (.aload_n 0, 1) := by decide +kernel
theorem dX0_becomeZero_1 : decode cX0_becomeZero 1 = .ok (.iload_n 1, 1) := by decide +kernel
theorem dX0_becomeZero_2 : decode cX0_becomeZero 2 = .ok (.putfield 21, 3) := by decide +kernel
theorem dX0_becomeZero_5 : decode cX0_becomeZero 5 = .ok (.iconst 0, 1) := by decide +kernel
theorem dX0_becomeZero_6 : decode cX0_becomeZero 6 = .ok (.istore_n 2, 1) := by decide +kernel
theorem dX0_becomeZero_7 : decode cX0_becomeZero 7 = .ok (.iload_n 2, 1) := by decide +kernel
theorem dX0_becomeZero_8 : decode cX0_becomeZero 8 = .ok (.aload_n 0, 1) := by decide +kernel
theorem dX0_becomeZero_9 : decode cX0_becomeZero 9 = .ok (.getfield 21, 3) := by decide +kernel
theorem dX0_becomeZero_12 : decode cX0_becomeZero 12 = .ok (.if_icmp .ge 17, 3) := by decide +kernel
theorem dX0_becomeZero_15 : decode cX0_becomeZero 15 = .ok (.aload_n 0, 1) := by decide +kernel
theorem dX0_becomeZero_16 : decode cX0_becomeZero 16 = .ok (.iload_n 2, 1) := by decide +kernel
theorem dX0_becomeZero_17 : decode cX0_becomeZero 17 = .ok (.iconst 0, 1) := by decide +kernel
theorem dX0_becomeZero_18 : decode cX0_becomeZero 18 = .ok (.iconst 0, 1) := by decide +kernel
theorem dX0_becomeZero_19 : decode cX0_becomeZero 19 = .ok (.iconst 0, 1) := by decide +kernel
theorem dX0_becomeZero_20 : decode cX0_becomeZero 20 = .ok (.invokevirtual 25, 3) := by decide +kernel
theorem dX0_becomeZero_23 : decode cX0_becomeZero 23 = .ok (.iinc 2 1, 3) := by decide +kernel
theorem dX0_becomeZero_26 : decode cX0_becomeZero 26 = .ok (.goto (-19), 3) := by decide +kernel
theorem dX0_becomeZero_29 : decode cX0_becomeZero 29 = .ok (.return_, 1) := by decide +kernel
theorem dX0_becomeCopy_0 : decode cX0_becomeCopy 0 = .ok (.aload_n 0, 1) := by decide +kernel
theorem dX0_becomeCopy_1 : decode cX0_becomeCopy 1 = .ok (.aload_n 1, 1) := by decide +kernel
theorem dX0_becomeCopy_2 : decode cX0_becomeCopy 2 = .ok (.getfield 21, 3) := by decide +kernel
theorem dX0_becomeCopy_5 : decode cX0_becomeCopy 5 = .ok (.putfield 21, 3) := by decide +kernel
theorem dX0_becomeCopy_8 : decode cX0_becomeCopy 8 = .ok (.iconst 0, 1) := by decide +kernel
theorem dX0_becomeCopy_9 : decode cX0_becomeCopy 9 = .ok (.istore_n 2, 1) := by decide +kernel
theorem dX0_becomeCopy_10 : decode cX0_becomeCopy 10 = .ok (.iload_n 2, 1) := by decide +kernel
theorem dX0_becomeCopy_11 : decode cX0_becomeCopy 11 = .ok (.aload_n 0, 1) := by decide +kernel
theorem dX0_becomeCopy_12 : decode cX0_becomeCopy 12 = .ok (.getfield 21, 3) := by decide +kernel
theorem dX0_becomeCopy_15 : decode cX0_becomeCopy 15 = .ok (.if_icmp .ge 32, 3) := by decide +kernel
theorem dX0_becomeCopy_18 : decode cX0_becomeCopy 18 = .ok (.aload_n 0, 1) := by decide +kernel
theorem dX0_becomeCopy_19 : decode cX0_becomeCopy 19 = .ok (.iload_n 2, 1) := by decide +kernel
theorem dX0_becomeCopy_20 : decode cX0_becomeCopy 20 = .ok (.aload_n 1, 1) := by decide +kernel
theorem dX0_becomeCopy_21 : decode cX0_becomeCopy 21 = .ok (.getfield 9, 3) := by decide +kernel
theorem dX0_becomeCopy_24 : decode cX0_becomeCopy 24 = .ok (.iload_n 2, 1) := by decide +kernel
theorem dX0_becomeCopy_25 : decode cX0_becomeCopy 25 = .ok (.iaload, 1) := by decide +kernel
theorem dX0_becomeCopy_26 : decode cX0_becomeCopy 26 = .ok (.aload_n 1, 1) := by decide +kernel
theorem dX0_becomeCopy_27 : decode cX0_becomeCopy 27 = .ok (.getfield 15, 3) := by decide +kernel
theorem dX0_becomeCopy_30 : decode cX0_becomeCopy 30 = .ok (.iload_n 2, 1) := by decide +kernel
theorem dX0_becomeCopy_31 : decode cX0_becomeCopy 31 = .ok (.iaload, 1) := by decide +kernel
theorem dX0_becomeCopy_32 : decode cX0_becomeCopy 32 = .ok (.aload_n 1, 1) := by decide +kernel
theorem dX0_becomeCopy_33 : decode cX0_becomeCopy 33 = .ok (.getfield 18, 3) := by decide +kernel
theorem dX0_becomeCopy_36 : decode cX0_becomeCopy 36 = .ok (.iload_n 2, 1) := by decide +kernel
theorem dX0_becomeCopy_37 : decode cX0_becomeCopy 37 = .ok (.iaload, 1) := by decide +kernel
theorem dX0_becomeCopy_38 : decode cX0_becomeCopy 38 = .ok (.invokevirtual 25, 3) := by decide +kernel
theorem dX0_becomeCopy_41 : decode cX0_becomeCopy 41 = .ok (.iinc 2 1, 3) := by decide +kernel
theorem dX0_becomeCopy_44 : decode cX0_becomeCopy 44 = .ok (.goto (-34), 3) := by decide +kernel
theorem dX0_becomeCopy_47 : decode cX0_becomeCopy 47 = .ok (.return_, 1) := by decide +kernel
theorem dX0_becomeSum_0 : decode cX0_becomeSum 0 = .ok (.aload_n 0, 1) := by decide +kernel
theorem dX0_becomeSum_1 : decode cX0_becomeSum 1 = .ok (.aload_n 1, 1) := by decide +kernel
theorem dX0_becomeSum_2 : decode cX0_becomeSum 2 = .ok (.getfield 21, 3) := by decide +kernel
theorem dX0_becomeSum_5 : decode cX0_becomeSum 5 = .ok (.aload_n 3, 1) := by decide +kernel
theorem dX0_becomeSum_6 : decode cX0_becomeSum 6 = .ok (.getfield 21, 3) := by decide +kernel
theorem dX0_becomeSum_9 : decode cX0_becomeSum 9 = .ok (.invokestatic 29, 3) := by decide +kernel
theorem dX0_becomeSum_12 : decode cX0_becomeSum 12 = .ok (.putfield 21, 3) := by decide +kernel
theorem dX0_becomeSum_15 : decode cX0_becomeSum 15 = .ok (.iconst 0, 1) := by decide +kernel
theorem dX0_becomeSum_16 : decode cX0_becomeSum 16 = .ok (.istore 5, 2) := by decide +kernel
theorem dX0_becomeSum_18 : decode cX0_becomeSum 18 = .ok (.iload 5, 2) := by decide +kernel
theorem dX0_becomeSum_20 : decode cX0_becomeSum 20 = .ok (.aload_n 0, 1) := by decide +kernel
theorem dX0_becomeSum_21 : decode cX0_becomeSum 21 = .ok (.getfield 21, 3) := by decide +kernel
theorem dX0_becomeSum_24 : decode cX0_becomeSum 24 = .ok (.if_icmp .ge 75, 3) := by decide +kernel
theorem dX0_becomeSum_27 : decode cX0_becomeSum 27 = .ok (.aload_n 0, 1) := by decide +kernel
theorem dX0_becomeSum_28 : decode cX0_becomeSum 28 = .ok (.iload 5, 2) := by decide +kernel
theorem dX0_becomeSum_30 : decode cX0_becomeSum 30 = .ok (.iload_n 2, 1) := by decide +kernel
theorem dX0_becomeSum_31 : decode cX0_becomeSum 31 = .ok (.aload_n 1, 1) := by decide +kernel
theorem dX0_becomeSum_32 : decode cX0_becomeSum 32 = .ok (.getfield 9, 3) := by decide +kernel
theorem dX0_becomeSum_35 : decode cX0_becomeSum 35 = .ok (.iload 5, 2) := by decide +kernel
theorem dX0_becomeSum_37 : decode cX0_becomeSum 37 = .ok (.iaload, 1) := by decide +kernel
theorem dX0_becomeSum_38 : decode cX0_becomeSum 38 = .ok (.imul, 1) := by decide +kernel
theorem dX0_becomeSum_39 : decode cX0_becomeSum 39 = .ok (.iload 4, 2) := by decide +kernel
theorem dX0_becomeSum_41 : decode cX0_becomeSum 41 = .ok (.aload_n 3, 1) := by decide +kernel
theorem dX0_becomeSum_42 : decode cX0_becomeSum 42 = .ok (.getfield 9, 3) := by decide +kernel
theorem dX0_becomeSum_45 : decode cX0_becomeSum 45 = .ok (.iload 5, 2) := by decide +kernel
theorem dX0_becomeSum_47 : decode cX0_becomeSum 47 = .ok (.iaload, 1) := by decide +kernel
theorem dX0_becomeSum_48 : decode cX0_becomeSum 48 = .ok (.imul, 1) := by decide +kernel
theorem dX0_becomeSum_49 : decode cX0_becomeSum 49 = .ok (.iadd, 1) := by decide +kernel
theorem dX0_becomeSum_50 : decode cX0_becomeSum 50 = .ok (.iload_n 2, 1) := by decide +kernel
theorem dX0_becomeSum_51 : decode cX0_becomeSum 51 = .ok (.aload_n 1, 1) := by decide +kernel
theorem dX0_becomeSum_52 : decode cX0_becomeSum 52 = .ok (.getfield 15, 3) := by decide +kernel
theorem dX0_becomeSum_55 : decode cX0_becomeSum 55 = .ok (.iload 5, 2) := by decide +kernel
theorem dX0_becomeSum_57 : decode cX0_becomeSum 57 = .ok (.iaload, 1) := by decide +kernel
theorem dX0_becomeSum_58 : decode cX0_becomeSum 58 = .ok (.imul, 1) := by decide +kernel
theorem dX0_becomeSum_59 : decode cX0_becomeSum 59 = .ok (.iload 4, 2) := by decide +kernel
theorem dX0_becomeSum_61 : decode cX0_becomeSum 61 = .ok (.aload_n 3, 1) := by decide +kernel
theorem dX0_becomeSum_62 : decode cX0_becomeSum 62 = .ok (.getfield 15, 3) := by decide +kernel
theorem dX0_becomeSum_65 : decode cX0_becomeSum 65 = .ok (.iload 5, 2) := by decide +kernel
theorem dX0_becomeSum_67 : decode cX0_becomeSum 67 = .ok (.iaload, 1) := by decide +kernel
theorem dX0_becomeSum_68 : decode cX0_becomeSum 68 = .ok (.imul, 1) := by decide +kernel
theorem dX0_becomeSum_69 : decode cX0_becomeSum 69 = .ok (.iadd, 1) := by decide +kernel
theorem dX0_becomeSum_70 : decode cX0_becomeSum 70 = .ok (.iload_n 2, 1) := by decide +kernel
theorem dX0_becomeSum_71 : decode cX0_becomeSum 71 = .ok (.aload_n 1, 1) := by decide +kernel
theorem dX0_becomeSum_72 : decode cX0_becomeSum 72 = .ok (.getfield 18, 3) := by decide +kernel
theorem dX0_becomeSum_75 : decode cX0_becomeSum 75 = .ok (.iload 5, 2) := by decide +kernel
theorem dX0_becomeSum_77 : decode cX0_becomeSum 77 = .ok (.iaload, 1) := by decide +kernel
theorem dX0_becomeSum_78 : decode cX0_becomeSum 78 = .ok (.imul, 1) := by decide +kernel
theorem dX0_becomeSum_79 : decode cX0_becomeSum 79 = .ok (.iload 4, 2) := by decide +kernel
theorem dX0_becomeSum_81 : decode cX0_becomeSum 81 = .ok (.aload_n 3, 1) := by decide +kernel
theorem dX0_becomeSum_82 : decode cX0_becomeSum 82 = .ok (.getfield 18, 3) := by decide +kernel
theorem dX0_becomeSum_85 : decode cX0_becomeSum 85 = .ok (.iload 5, 2) := by decide +kernel
theorem dX0_becomeSum_87 : decode cX0_becomeSum 87 = .ok (.iaload, 1) := by decide +kernel
theorem dX0_becomeSum_88 : decode cX0_becomeSum 88 = .ok (.imul, 1) := by decide +kernel
theorem dX0_becomeSum_89 : decode cX0_becomeSum 89 = .ok (.iadd, 1) := by decide +kernel
theorem dX0_becomeSum_90 : decode cX0_becomeSum 90 = .ok (.invokevirtual 25, 3) := by decide +kernel
theorem dX0_becomeSum_93 : decode cX0_becomeSum 93 = .ok (.iinc 5 1, 3) := by decide +kernel
theorem dX0_becomeSum_96 : decode cX0_becomeSum 96 = .ok (.goto (-78), 3) := by decide +kernel
theorem dX0_becomeSum_99 : decode cX0_becomeSum 99 = .ok (.return_, 1) := by decide +kernel
theorem dX0_becomeRefined_0 : decode cX0_becomeRefined 0 = .ok (.aload_n 1, 1) := by decide +kernel
theorem dX0_becomeRefined_1 : decode cX0_becomeRefined 1 = .ok (.getfield 21, 3) := by decide +kernel
theorem dX0_becomeRefined_4 : decode cX0_becomeRefined 4 = .ok (.bipush 8, 2) := by decide +kernel
theorem dX0_becomeRefined_6 : decode cX0_becomeRefined 6 = .ok (.invokestatic 29, 3) := by decide +kernel
theorem dX0_becomeRefined_9 : decode cX0_becomeRefined 9 = .ok (.istore_n 2, 1) := by decide +kernel
theorem dX0_becomeRefined_10 : decode cX0_becomeRefined 10 = .ok (.aload_n 0, 1) := by decide +kernel
theorem dX0_becomeRefined_11 : decode cX0_becomeRefined 11 = .ok (.iconst 2, 1) := by decide +kernel
theorem dX0_becomeRefined_12 : decode cX0_becomeRefined 12 = .ok (.iload_n 2, 1) := by decide +kernel
theorem dX0_becomeRefined_13 : decode cX0_becomeRefined 13 = .ok (.imul, 1) := by decide +kernel
theorem dX0_becomeRefined_14 : decode cX0_becomeRefined 14 = .ok (.putfield 21, 3) := by decide +kernel
theorem dX0_becomeRefined_17 : decode cX0_becomeRefined 17 = .ok (.iconst 0, 1) := by decide +kernel
theorem dX0_becomeRefined_18 : decode cX0_becomeRefined 18 = .ok (.istore_n 3, 1) := by decide +kernel
theorem dX0_becomeRefined_19 : decode cX0_becomeRefined 19 = .ok (.iload_n 3, 1) := by decide +kernel
theorem dX0_becomeRefined_20 : decode cX0_becomeRefined 20 = .ok (.iload_n 2, 1) := by decide +kernel
theorem dX0_becomeRefined_21 : decode cX0_becomeRefined 21 = .ok (.if_icmp .ge 82, 3) := by decide +kernel
theorem dX0_becomeRefined_24 : decode cX0_becomeRefined 24 = .ok (.aload_n 1, 1) := by decide +kernel
theorem dX0_becomeRefined_25 : decode cX0_becomeRefined 25 = .ok (.getfield 9, 3) := by decide +kernel
theorem dX0_becomeRefined_28 : decode cX0_becomeRefined 28 = .ok (.iload_n 3, 1) := by decide +kernel
theorem dX0_becomeRefined_29 : decode cX0_becomeRefined 29 = .ok (.iaload, 1) := by decide +kernel
theorem dX0_becomeRefined_30 : decode cX0_becomeRefined 30 = .ok (.istore 4, 2) := by decide +kernel
theorem dX0_becomeRefined_32 : decode cX0_becomeRefined 32 = .ok (.aload_n 1, 1) := by decide +kernel
theorem dX0_becomeRefined_33 : decode cX0_becomeRefined 33 = .ok (.getfield 15, 3) := by decide +kernel
theorem dX0_becomeRefined_36 : decode cX0_becomeRefined 36 = .ok (.iload_n 3, 1) := by decide +kernel
theorem dX0_becomeRefined_37 : decode cX0_becomeRefined 37 = .ok (.iaload, 1) := by decide +kernel
theorem dX0_becomeRefined_38 : decode cX0_becomeRefined 38 = .ok (.istore 5, 2) := by decide +kernel
theorem dX0_becomeRefined_40 : decode cX0_becomeRefined 40 = .ok (.aload_n 1, 1) := by decide +kernel
theorem dX0_becomeRefined_41 : decode cX0_becomeRefined 41 = .ok (.getfield 18, 3) := by decide +kernel
theorem dX0_becomeRefined_44 : decode cX0_becomeRefined 44 = .ok (.iload_n 3, 1) := by decide +kernel
theorem dX0_becomeRefined_45 : decode cX0_becomeRefined 45 = .ok (.iaload, 1) := by decide +kernel
theorem dX0_becomeRefined_46 : decode cX0_becomeRefined 46 = .ok (.istore 6, 2) := by decide +kernel
theorem dX0_becomeRefined_48 : decode cX0_becomeRefined 48 = .ok (.aload_n 0, 1) := by decide +kernel
theorem dX0_becomeRefined_49 : decode cX0_becomeRefined 49 = .ok (.iconst 2, 1) := by decide +kernel
theorem dX0_becomeRefined_50 : decode cX0_becomeRefined 50 = .ok (.iload_n 3, 1) := by decide +kernel
theorem dX0_becomeRefined_51 : decode cX0_becomeRefined 51 = .ok (.imul, 1) := by decide +kernel
theorem dX0_becomeRefined_52 : decode cX0_becomeRefined 52 = .ok (.iconst 4, 1) := by decide +kernel
theorem dX0_becomeRefined_53 : decode cX0_becomeRefined 53 = .ok (.iload 4, 2) := by decide +kernel
theorem dX0_becomeRefined_55 : decode cX0_becomeRefined 55 = .ok (.imul, 1) := by decide +kernel
theorem dX0_becomeRefined_56 : decode cX0_becomeRefined 56 = .ok (.iconst 2, 1) := by decide +kernel
theorem dX0_becomeRefined_57 : decode cX0_becomeRefined 57 = .ok (.iload 5, 2) := by decide +kernel
theorem dX0_becomeRefined_59 : decode cX0_becomeRefined 59 = .ok (.imul, 1) := by decide +kernel
theorem dX0_becomeRefined_60 : decode cX0_becomeRefined 60 = .ok (.iload 6, 2) := by decide +kernel
theorem dX0_becomeRefined_62 : decode cX0_becomeRefined 62 = .ok (.invokevirtual 25, 3) := by decide +kernel
theorem dX0_becomeRefined_65 : decode cX0_becomeRefined 65 = .ok (.aload_n 0, 1) := by decide +kernel
theorem dX0_becomeRefined_66 : decode cX0_becomeRefined 66 = .ok (.iconst 2, 1) := by decide +kernel
theorem dX0_becomeRefined_67 : decode cX0_becomeRefined 67 = .ok (.iload_n 3, 1) := by decide +kernel
theorem dX0_becomeRefined_68 : decode cX0_becomeRefined 68 = .ok (.imul, 1) := by decide +kernel
theorem dX0_becomeRefined_69 : decode cX0_becomeRefined 69 = .ok (.iconst 1, 1) := by decide +kernel
theorem dX0_becomeRefined_70 : decode cX0_becomeRefined 70 = .ok (.iadd, 1) := by decide +kernel
theorem dX0_becomeRefined_71 : decode cX0_becomeRefined 71 = .ok (.iconst 4, 1) := by decide +kernel
theorem dX0_becomeRefined_72 : decode cX0_becomeRefined 72 = .ok (.iload 4, 2) := by decide +kernel
theorem dX0_becomeRefined_74 : decode cX0_becomeRefined 74 = .ok (.imul, 1) := by decide +kernel
theorem dX0_becomeRefined_75 : decode cX0_becomeRefined 75 = .ok (.iconst 2, 1) := by decide +kernel
theorem dX0_becomeRefined_76 : decode cX0_becomeRefined 76 = .ok (.iload 5, 2) := by decide +kernel
theorem dX0_becomeRefined_78 : decode cX0_becomeRefined 78 = .ok (.imul, 1) := by decide +kernel
theorem dX0_becomeRefined_79 : decode cX0_becomeRefined 79 = .ok (.iadd, 1) := by decide +kernel
theorem dX0_becomeRefined_80 : decode cX0_becomeRefined 80 = .ok (.iload 6, 2) := by decide +kernel
theorem dX0_becomeRefined_82 : decode cX0_becomeRefined 82 = .ok (.iadd, 1) := by decide +kernel
theorem dX0_becomeRefined_83 : decode cX0_becomeRefined 83 = .ok (.iconst 2, 1) := by decide +kernel
theorem dX0_becomeRefined_84 : decode cX0_becomeRefined 84 = .ok (.iload 5, 2) := by decide +kernel
theorem dX0_becomeRefined_86 : decode cX0_becomeRefined 86 = .ok (.imul, 1) := by decide +kernel
theorem dX0_becomeRefined_87 : decode cX0_becomeRefined 87 = .ok (.iconst 2, 1) := by decide +kernel
theorem dX0_becomeRefined_88 : decode cX0_becomeRefined 88 = .ok (.iload 6, 2) := by decide +kernel
theorem dX0_becomeRefined_90 : decode cX0_becomeRefined 90 = .ok (.imul, 1) := by decide +kernel
theorem dX0_becomeRefined_91 : decode cX0_becomeRefined 91 = .ok (.iadd, 1) := by decide +kernel
theorem dX0_becomeRefined_92 : decode cX0_becomeRefined 92 = .ok (.iload 6, 2) := by decide +kernel
theorem dX0_becomeRefined_94 : decode cX0_becomeRefined 94 = .ok (.invokevirtual 25, 3) := by decide +kernel
theorem dX0_becomeRefined_97 : decode cX0_becomeRefined 97 = .ok (.iinc 3 1, 3) := by decide +kernel
theorem dX0_becomeRefined_100 : decode cX0_becomeRefined 100 = .ok (.goto (-81), 3) := by decide +kernel
theorem dX0_becomeRefined_103 : decode cX0_becomeRefined 103 = .ok (.return_, 1) := by decide +kernel
theorem dX0_becomeSloped_0 : decode cX0_becomeSloped 0 = .ok (.aload_n 0, 1) := by decide +kernel
theorem dX0_becomeSloped_1 : decode cX0_becomeSloped 1 = .ok (.aload_n 1, 1) := by decide +kernel
theorem dX0_becomeSloped_2 : decode cX0_becomeSloped 2 = .ok (.getfield 21, 3) := by decide +kernel
theorem dX0_becomeSloped_5 : decode cX0_becomeSloped 5 = .ok (.putfield 21, 3) := by decide +kernel
theorem dX0_becomeSloped_8 : decode cX0_becomeSloped 8 = .ok (.iconst 0, 1) := by decide +kernel
theorem dX0_becomeSloped_9 : decode cX0_becomeSloped 9 = .ok (.istore_n 2, 1) := by decide +kernel
theorem dX0_becomeSloped_10 : decode cX0_becomeSloped 10 = .ok (.iload_n 2, 1) := by decide +kernel
theorem dX0_becomeSloped_11 : decode cX0_becomeSloped 11 = .ok (.aload_n 0, 1) := by decide +kernel
theorem dX0_becomeSloped_12 : decode cX0_becomeSloped 12 = .ok (.getfield 21, 3) := by decide +kernel
theorem dX0_becomeSloped_15 : decode cX0_becomeSloped 15 = .ok (.if_icmp .ge 29, 3) := by decide +kernel
theorem dX0_becomeSloped_18 : decode cX0_becomeSloped 18 = .ok (.aload_n 0, 1) := by decide +kernel
theorem dX0_becomeSloped_19 : decode cX0_becomeSloped 19 = .ok (.iload_n 2, 1) := by decide +kernel
theorem dX0_becomeSloped_20 : decode cX0_becomeSloped 20 = .ok (.aload_n 1, 1) := by decide +kernel
theorem dX0_becomeSloped_21 : decode cX0_becomeSloped 21 = .ok (.getfield 15, 3) := by decide +kernel
theorem dX0_becomeSloped_24 : decode cX0_becomeSloped 24 = .ok (.iload_n 2, 1) := by decide +kernel
theorem dX0_becomeSloped_25 : decode cX0_becomeSloped 25 = .ok (.iaload, 1) := by decide +kernel
theorem dX0_becomeSloped_26 : decode cX0_becomeSloped 26 = .ok (.iconst 2, 1) := by decide +kernel
theorem dX0_becomeSloped_27 : decode cX0_becomeSloped 27 = .ok (.aload_n 1, 1) := by decide +kernel
theorem dX0_becomeSloped_28 : decode cX0_becomeSloped 28 = .ok (.getfield 18, 3) := by decide +kernel
theorem dX0_becomeSloped_31 : decode cX0_becomeSloped 31 = .ok (.iload_n 2, 1) := by decide +kernel
theorem dX0_becomeSloped_32 : decode cX0_becomeSloped 32 = .ok (.iaload, 1) := by decide +kernel
theorem dX0_becomeSloped_33 : decode cX0_becomeSloped 33 = .ok (.imul, 1) := by decide +kernel
theorem dX0_becomeSloped_34 : decode cX0_becomeSloped 34 = .ok (.iconst 0, 1) := by decide +kernel
theorem dX0_becomeSloped_35 : decode cX0_becomeSloped 35 = .ok (.invokevirtual 25, 3) := by decide +kernel
theorem dX0_becomeSloped_38 : decode cX0_becomeSloped 38 = .ok (.iinc 2 1, 3) := by decide +kernel
theorem dX0_becomeSloped_41 : decode cX0_becomeSloped 41 = .ok (.goto (-31), 3) := by decide +kernel
theorem dX0_becomeSloped_44 : decode cX0_becomeSloped 44 = .ok (.return_, 1) := by decide +kernel
theorem dX0_becomePushed_0 : decode cX0_becomePushed 0 = .ok (.aload_n 0, 1) := by decide +kernel
theorem dX0_becomePushed_1 : decode cX0_becomePushed 1 = .ok (.aload_n 1, 1) := by decide +kernel
theorem dX0_becomePushed_2 : decode cX0_becomePushed 2 = .ok (.getfield 21, 3) := by decide +kernel
theorem dX0_becomePushed_5 : decode cX0_becomePushed 5 = .ok (.putfield 21, 3) := by decide +kernel
theorem dX0_becomePushed_8 : decode cX0_becomePushed 8 = .ok (.iconst 0, 1) := by decide +kernel
theorem dX0_becomePushed_9 : decode cX0_becomePushed 9 = .ok (.istore_n 3, 1) := by decide +kernel
theorem dX0_becomePushed_10 : decode cX0_becomePushed 10 = .ok (.iload_n 3, 1) := by decide +kernel
theorem dX0_becomePushed_11 : decode cX0_becomePushed 11 = .ok (.aload_n 0, 1) := by decide +kernel
theorem dX0_becomePushed_12 : decode cX0_becomePushed 12 = .ok (.getfield 21, 3) := by decide +kernel
theorem dX0_becomePushed_15 : decode cX0_becomePushed 15 = .ok (.if_icmp .ge 34, 3) := by decide +kernel
theorem dX0_becomePushed_18 : decode cX0_becomePushed 18 = .ok (.aload_n 0, 1) := by decide +kernel
theorem dX0_becomePushed_19 : decode cX0_becomePushed 19 = .ok (.iload_n 3, 1) := by decide +kernel
theorem dX0_becomePushed_20 : decode cX0_becomePushed 20 = .ok (.aload_n 1, 1) := by decide +kernel
theorem dX0_becomePushed_21 : decode cX0_becomePushed 21 = .ok (.getfield 9, 3) := by decide +kernel
theorem dX0_becomePushed_24 : decode cX0_becomePushed 24 = .ok (.iload_n 3, 1) := by decide +kernel
theorem dX0_becomePushed_25 : decode cX0_becomePushed 25 = .ok (.iaload, 1) := by decide +kernel
theorem dX0_becomePushed_26 : decode cX0_becomePushed 26 = .ok (.iload_n 2, 1) := by decide +kernel
theorem dX0_becomePushed_27 : decode cX0_becomePushed 27 = .ok (.iadd, 1) := by decide +kernel
theorem dX0_becomePushed_28 : decode cX0_becomePushed 28 = .ok (.aload_n 1, 1) := by decide +kernel
theorem dX0_becomePushed_29 : decode cX0_becomePushed 29 = .ok (.getfield 15, 3) := by decide +kernel
theorem dX0_becomePushed_32 : decode cX0_becomePushed 32 = .ok (.iload_n 3, 1) := by decide +kernel
theorem dX0_becomePushed_33 : decode cX0_becomePushed 33 = .ok (.iaload, 1) := by decide +kernel
theorem dX0_becomePushed_34 : decode cX0_becomePushed 34 = .ok (.aload_n 1, 1) := by decide +kernel
theorem dX0_becomePushed_35 : decode cX0_becomePushed 35 = .ok (.getfield 18, 3) := by decide +kernel
theorem dX0_becomePushed_38 : decode cX0_becomePushed 38 = .ok (.iload_n 3, 1) := by decide +kernel
theorem dX0_becomePushed_39 : decode cX0_becomePushed 39 = .ok (.iaload, 1) := by decide +kernel
theorem dX0_becomePushed_40 : decode cX0_becomePushed 40 = .ok (.invokevirtual 25, 3) := by decide +kernel
theorem dX0_becomePushed_43 : decode cX0_becomePushed 43 = .ok (.iinc 3 1, 3) := by decide +kernel
theorem dX0_becomePushed_46 : decode cX0_becomePushed 46 = .ok (.goto (-36), 3) := by decide +kernel
theorem dX0_becomePushed_49 : decode cX0_becomePushed 49 = .ok (.return_, 1) := by decide +kernel
theorem dX0_isInBounds_0 : decode cX0_isInBounds 0 = .ok (.iconst 0, 1) := by decide +kernel
theorem dX0_isInBounds_1 : decode cX0_isInBounds 1 = .ok (.istore_n 1, 1) := by decide +kernel
theorem dX0_isInBounds_2 : decode cX0_isInBounds 2 = .ok (.iload_n 1, 1) := by decide +kernel
theorem dX0_isInBounds_3 : decode cX0_isInBounds 3 = .ok (.aload_n 0, 1) := by decide +kernel
theorem dX0_isInBounds_4 : decode cX0_isInBounds 4 = .ok (.getfield 21, 3) := by decide +kernel
theorem dX0_isInBounds_7 : decode cX0_isInBounds 7 = .ok (.if_icmp .ge 53, 3) := by decide +kernel
theorem dX0_isInBounds_10 : decode cX0_isInBounds 10 = .ok (.aload_n 0, 1) := by decide +kernel
theorem dX0_isInBounds_11 : decode cX0_isInBounds 11 = .ok (.getfield 9, 3) := by decide +kernel
theorem dX0_isInBounds_14 : decode cX0_isInBounds 14 = .ok (.iload_n 1, 1) := by decide +kernel
theorem dX0_isInBounds_15 : decode cX0_isInBounds 15 = .ok (.iaload, 1) := by decide +kernel
theorem dX0_isInBounds_16 : decode cX0_isInBounds 16 = .ok (.ldc 35, 2) := by decide +kernel
theorem dX0_isInBounds_18 : decode cX0_isInBounds 18 = .ok (.invokestatic 36, 3) := by decide +kernel
theorem dX0_isInBounds_21 : decode cX0_isInBounds 21 = .ok (.ifCond .ne 31, 3) := by decide +kernel
theorem dX0_isInBounds_24 : decode cX0_isInBounds 24 = .ok (.aload_n 0, 1) := by decide +kernel
theorem dX0_isInBounds_25 : decode cX0_isInBounds 25 = .ok (.getfield 15, 3) := by decide +kernel
theorem dX0_isInBounds_28 : decode cX0_isInBounds 28 = .ok (.iload_n 1, 1) := by decide +kernel
theorem dX0_isInBounds_29 : decode cX0_isInBounds 29 = .ok (.iaload, 1) := by decide +kernel
theorem dX0_isInBounds_30 : decode cX0_isInBounds 30 = .ok (.ldc 35, 2) := by decide +kernel
theorem dX0_isInBounds_32 : decode cX0_isInBounds 32 = .ok (.invokestatic 36, 3) := by decide +kernel
theorem dX0_isInBounds_35 : decode cX0_isInBounds 35 = .ok (.ifCond .ne 17, 3) := by decide +kernel
theorem dX0_isInBounds_38 : decode cX0_isInBounds 38 = .ok (.aload_n 0, 1) := by decide +kernel
theorem dX0_isInBounds_39 : decode cX0_isInBounds 39 = .ok (.getfield 18, 3) := by decide +kernel
theorem dX0_isInBounds_42 : decode cX0_isInBounds 42 = .ok (.iload_n 1, 1) := by decide +kernel
theorem dX0_isInBounds_43 : decode cX0_isInBounds 43 = .ok (.iaload, 1) := by decide +kernel
theorem dX0_isInBounds_44 : decode cX0_isInBounds 44 = .ok (.ldc 35, 2) := by decide +kernel
theorem dX0_isInBounds_46 : decode cX0_isInBounds 46 = .ok (.invokestatic 36, 3) := by decide +kernel
theorem dX0_isInBounds_49 : decode cX0_isInBounds 49 = .ok (.ifCond .eq 5, 3) := by decide +kernel
theorem dX0_isInBounds_52 : decode cX0_isInBounds 52 = .ok (.iconst 0, 1) := by decide +kernel
theorem dX0_isInBounds_53 : decode cX0_isInBounds 53 = .ok (.ireturn, 1) := by decide +kernel
theorem dX0_isInBounds_54 : decode cX0_isInBounds 54 = .ok (.iinc 1 1, 3) := by decide +kernel
theorem dX0_isInBounds_57 : decode cX0_isInBounds 57 = .ok (.goto (-55), 3) := by decide +kernel
theorem dX0_isInBounds_60 : decode cX0_isInBounds 60 = .ok (.iconst 1, 1) := by decide +kernel
theorem dX0_isInBounds_61 : decode cX0_isInBounds 61 = .ok (.ireturn, 1) := by decide +kernel
theorem dX0_hasZeroPiece_0 : decode cX0_hasZeroPiece 0 = .ok (.iconst 0, 1) := by decide +kernel
theorem dX0_hasZeroPiece_1 : decode cX0_hasZeroPiece 1 = .ok (.istore_n 1, 1) := by decide +kernel
theorem dX0_hasZeroPiece_2 : decode cX0_hasZeroPiece 2 = .ok (.iload_n 1, 1) := by decide +kernel
theorem dX0_hasZeroPiece_3 : decode cX0_hasZeroPiece 3 = .ok (.aload_n 0, 1) := by decide +kernel
theorem dX0_hasZeroPiece_4 : decode cX0_hasZeroPiece 4 = .ok (.getfield 21, 3) := by decide +kernel
theorem dX0_hasZeroPiece_7 : decode cX0_hasZeroPiece 7 = .ok (.if_icmp .ge 38, 3) := by decide +kernel
theorem dX0_hasZeroPiece_10 : decode cX0_hasZeroPiece 10 = .ok (.aload_n 0, 1) := by decide +kernel
theorem dX0_hasZeroPiece_11 : decode cX0_hasZeroPiece 11 = .ok (.getfield 9, 3) := by decide +kernel
theorem dX0_hasZeroPiece_14 : decode cX0_hasZeroPiece 14 = .ok (.iload_n 1, 1) := by decide +kernel
theorem dX0_hasZeroPiece_15 : decode cX0_hasZeroPiece 15 = .ok (.iaload, 1) := by decide +kernel
theorem dX0_hasZeroPiece_16 : decode cX0_hasZeroPiece 16 = .ok (.ifCond .ne 23, 3) := by decide +kernel
theorem dX0_hasZeroPiece_19 : decode cX0_hasZeroPiece 19 = .ok (.aload_n 0, 1) := by decide +kernel
theorem dX0_hasZeroPiece_20 : decode cX0_hasZeroPiece 20 = .ok (.getfield 15, 3) := by decide +kernel
theorem dX0_hasZeroPiece_23 : decode cX0_hasZeroPiece 23 = .ok (.iload_n 1, 1) := by decide +kernel
theorem dX0_hasZeroPiece_24 : decode cX0_hasZeroPiece 24 = .ok (.iaload, 1) := by decide +kernel
theorem dX0_hasZeroPiece_25 : decode cX0_hasZeroPiece 25 = .ok (.ifCond .ne 14, 3) := by decide +kernel
theorem dX0_hasZeroPiece_28 : decode cX0_hasZeroPiece 28 = .ok (.aload_n 0, 1) := by decide +kernel
theorem dX0_hasZeroPiece_29 : decode cX0_hasZeroPiece 29 = .ok (.getfield 18, 3) := by decide +kernel
theorem dX0_hasZeroPiece_32 : decode cX0_hasZeroPiece 32 = .ok (.iload_n 1, 1) := by decide +kernel
theorem dX0_hasZeroPiece_33 : decode cX0_hasZeroPiece 33 = .ok (.iaload, 1) := by decide +kernel
theorem dX0_hasZeroPiece_34 : decode cX0_hasZeroPiece 34 = .ok (.ifCond .ne 5, 3) := by decide +kernel
theorem dX0_hasZeroPiece_37 : decode cX0_hasZeroPiece 37 = .ok (.iconst 1, 1) := by decide +kernel
theorem dX0_hasZeroPiece_38 : decode cX0_hasZeroPiece 38 = .ok (.ireturn, 1) := by decide +kernel
theorem dX0_hasZeroPiece_39 : decode cX0_hasZeroPiece 39 = .ok (.iinc 1 1, 3) := by decide +kernel
theorem dX0_hasZeroPiece_42 : decode cX0_hasZeroPiece 42 = .ok (.goto (-40), 3) := by decide +kernel
theorem dX0_hasZeroPiece_45 : decode cX0_hasZeroPiece 45 = .ok (.iconst 0, 1) := by decide +kernel
theorem dX0_hasZeroPiece_46 : decode cX0_hasZeroPiece 46 = .ok (.ireturn, 1) := by decide +kernel
theorem dX0_isLike_0 : decode cX0_isLike 0 = .ok (.aload_n 0, 1) := by decide +kernel
theorem dX0_isLike_1 : decode cX0_isLike 1 = .ok (.getfield 21, 3) := by decide +kernel
theorem dX0_isLike_4 : decode cX0_isLike 4 = .ok (.aload_n 1, 1) := by decide +kernel
theorem dX0_isLike_5 : decode cX0_isLike 5 = .ok (.getfield 21, 3) := by decide +kernel
theorem dX0_isLike_8 : decode cX0_isLike 8 = .ok (.if_icmp .eq 5, 3) := by decide +kernel
theorem dX0_isLike_11 : decode cX0_isLike 11 = .ok (.iconst 0, 1) := by decide +kernel
theorem dX0_isLike_12 : decode cX0_isLike 12 = .ok (.ireturn, 1) := by decide +kernel
theorem dX0_isLike_13 : decode cX0_isLike 13 = .ok (.iconst 0, 1) := by decide +kernel
theorem dX0_isLike_14 : decode cX0_isLike 14 = .ok (.istore_n 2, 1) := by decide +kernel
theorem dX0_isLike_15 : decode cX0_isLike 15 = .ok (.iload_n 2, 1) := by decide +kernel
theorem dX0_isLike_16 : decode cX0_isLike 16 = .ok (.aload_n 0, 1) := by decide +kernel
theorem dX0_isLike_17 : decode cX0_isLike 17 = .ok (.getfield 21, 3) := by decide +kernel
theorem dX0_isLike_20 : decode cX0_isLike 20 = .ok (.if_icmp .ge 56, 3) := by decide +kernel
theorem dX0_isLike_23 : decode cX0_isLike 23 = .ok (.aload_n 0, 1) := by decide +kernel
theorem dX0_isLike_24 : decode cX0_isLike 24 = .ok (.getfield 9, 3) := by decide +kernel
theorem dX0_isLike_27 : decode cX0_isLike 27 = .ok (.iload_n 2, 1) := by decide +kernel
theorem dX0_isLike_28 : decode cX0_isLike 28 = .ok (.iaload, 1) := by decide +kernel
theorem dX0_isLike_29 : decode cX0_isLike 29 = .ok (.aload_n 1, 1) := by decide +kernel
theorem dX0_isLike_30 : decode cX0_isLike 30 = .ok (.getfield 9, 3) := by decide +kernel
theorem dX0_isLike_33 : decode cX0_isLike 33 = .ok (.iload_n 2, 1) := by decide +kernel
theorem dX0_isLike_34 : decode cX0_isLike 34 = .ok (.iaload, 1) := by decide +kernel
theorem dX0_isLike_35 : decode cX0_isLike 35 = .ok (.if_icmp .ne 33, 3) := by decide +kernel
theorem dX0_isLike_38 : decode cX0_isLike 38 = .ok (.aload_n 0, 1) := by decide +kernel
theorem dX0_isLike_39 : decode cX0_isLike 39 = .ok (.getfield 15, 3) := by decide +kernel
theorem dX0_isLike_42 : decode cX0_isLike 42 = .ok (.iload_n 2, 1) := by decide +kernel
theorem dX0_isLike_43 : decode cX0_isLike 43 = .ok (.iaload, 1) := by decide +kernel
theorem dX0_isLike_44 : decode cX0_isLike 44 = .ok (.aload_n 1, 1) := by decide +kernel
theorem dX0_isLike_45 : decode cX0_isLike 45 = .ok (.getfield 15, 3) := by decide +kernel
theorem dX0_isLike_48 : decode cX0_isLike 48 = .ok (.iload_n 2, 1) := by decide +kernel
theorem dX0_isLike_49 : decode cX0_isLike 49 = .ok (.iaload, 1) := by decide +kernel
theorem dX0_isLike_50 : decode cX0_isLike 50 = .ok (.if_icmp .ne 18, 3) := by decide +kernel
theorem dX0_isLike_53 : decode cX0_isLike 53 = .ok (.aload_n 0, 1) := by decide +kernel
theorem dX0_isLike_54 : decode cX0_isLike 54 = .ok (.getfield 18, 3) := by decide +kernel
theorem dX0_isLike_57 : decode cX0_isLike 57 = .ok (.iload_n 2, 1) := by decide +kernel
theorem dX0_isLike_58 : decode cX0_isLike 58 = .ok (.iaload, 1) := by decide +kernel
theorem dX0_isLike_59 : decode cX0_isLike 59 = .ok (.aload_n 1, 1) := by decide +kernel
theorem dX0_isLike_60 : decode cX0_isLike 60 = .ok (.getfield 18, 3) := by decide +kernel
theorem dX0_isLike_63 : decode cX0_isLike 63 = .ok (.iload_n 2, 1) := by decide +kernel
theorem dX0_isLike_64 : decode cX0_isLike 64 = .ok (.iaload, 1) := by decide +kernel
theorem dX0_isLike_65 : decode cX0_isLike 65 = .ok (.if_icmp .eq 5, 3) := by decide +kernel
theorem dX0_isLike_68 : decode cX0_isLike 68 = .ok (.iconst 0, 1) := by decide +kernel
theorem dX0_isLike_69 : decode cX0_isLike 69 = .ok (.ireturn, 1) := by decide +kernel
theorem dX0_isLike_70 : decode cX0_isLike 70 = .ok (.iinc 2 1, 3) := by decide +kernel
theorem dX0_isLike_73 : decode cX0_isLike 73 = .ok (.goto (-58), 3) := by decide +kernel
theorem dX0_isLike_76 : decode cX0_isLike 76 = .ok (.iconst 1, 1) := by decide +kernel
theorem dX0_isLike_77 : decode cX0_isLike 77 = .ok (.ireturn, 1) := by decide +kernel
theorem dX0_valueAtEnd_0 : decode cX0_valueAtEnd 0 = .ok (.aload_n 0, 1) := by decide +kernel
theorem dX0_valueAtEnd_1 : decode cX0_valueAtEnd 1 = .ok (.getfield 9, 3) := by decide +kernel
theorem dX0_valueAtEnd_4 : decode cX0_valueAtEnd 4 = .ok (.iload_n 1, 1) := by decide +kernel
theorem dX0_valueAtEnd_5 : decode cX0_valueAtEnd 5 = .ok (.iaload, 1) := by decide +kernel
theorem dX0_valueAtEnd_6 : decode cX0_valueAtEnd 6 = .ok (.aload_n 0, 1) := by decide +kernel
theorem dX0_valueAtEnd_7 : decode cX0_valueAtEnd 7 = .ok (.getfield 15, 3) := by decide +kernel
theorem dX0_valueAtEnd_10 : decode cX0_valueAtEnd 10 = .ok (.iload_n 1, 1) := by decide +kernel
theorem dX0_valueAtEnd_11 : decode cX0_valueAtEnd 11 = .ok (.iaload, 1) := by decide +kernel
theorem dX0_valueAtEnd_12 : decode cX0_valueAtEnd 12 = .ok (.iadd, 1) := by decide +kernel
theorem dX0_valueAtEnd_13 : decode cX0_valueAtEnd 13 = .ok (.aload_n 0, 1) := by decide +kernel
theorem dX0_valueAtEnd_14 : decode cX0_valueAtEnd 14 = .ok (.getfield 18, 3) := by decide +kernel
theorem dX0_valueAtEnd_17 : decode cX0_valueAtEnd 17 = .ok (.iload_n 1, 1) := by decide +kernel
theorem dX0_valueAtEnd_18 : decode cX0_valueAtEnd 18 = .ok (.iaload, 1) := by decide +kernel
theorem dX0_valueAtEnd_19 : decode cX0_valueAtEnd 19 = .ok (.iadd, 1) := by decide +kernel
theorem dX0_valueAtEnd_20 : decode cX0_valueAtEnd 20 = .ok (.ireturn, 1) := by decide +kernel
theorem dX0_slopeAtEnd_0 : decode cX0_slopeAtEnd 0 = .ok (.aload_n 0, 1) := by decide +kernel
theorem dX0_slopeAtEnd_1 : decode cX0_slopeAtEnd 1 = .ok (.getfield 15, 3) := by decide +kernel
theorem dX0_slopeAtEnd_4 : decode cX0_slopeAtEnd 4 = .ok (.iload_n 1, 1) := by decide +kernel
theorem dX0_slopeAtEnd_5 : decode cX0_slopeAtEnd 5 = .ok (.iaload, 1) := by decide +kernel
theorem dX0_slopeAtEnd_6 : decode cX0_slopeAtEnd 6 = .ok (.iconst 2, 1) := by decide +kernel
theorem dX0_slopeAtEnd_7 : decode cX0_slopeAtEnd 7 = .ok (.aload_n 0, 1) := by decide +kernel
theorem dX0_slopeAtEnd_8 : decode cX0_slopeAtEnd 8 = .ok (.getfield 18, 3) := by decide +kernel
theorem dX0_slopeAtEnd_11 : decode cX0_slopeAtEnd 11 = .ok (.iload_n 1, 1) := by decide +kernel
theorem dX0_slopeAtEnd_12 : decode cX0_slopeAtEnd 12 = .ok (.iaload, 1) := by decide +kernel
theorem dX0_slopeAtEnd_13 : decode cX0_slopeAtEnd 13 = .ok (.imul, 1) := by decide +kernel
theorem dX0_slopeAtEnd_14 : decode cX0_slopeAtEnd 14 = .ok (.iadd, 1) := by decide +kernel
theorem dX0_slopeAtEnd_15 : decode cX0_slopeAtEnd 15 = .ok (.ireturn, 1) := by decide +kernel
theorem dX0_joinAt_0 : decode cX0_joinAt 0 = .ok (.iload_n 1, 1) := by decide +kernel
theorem dX0_joinAt_1 : decode cX0_joinAt 1 = .ok (.iconst 1, 1) := by decide +kernel
theorem dX0_joinAt_2 : decode cX0_joinAt 2 = .ok (.isub, 1) := by decide +kernel
theorem dX0_joinAt_3 : decode cX0_joinAt 3 = .ok (.istore_n 2, 1) := by decide +kernel
theorem dX0_joinAt_4 : decode cX0_joinAt 4 = .ok (.aload_n 0, 1) := by decide +kernel
theorem dX0_joinAt_5 : decode cX0_joinAt 5 = .ok (.iload_n 2, 1) := by decide +kernel
theorem dX0_joinAt_6 : decode cX0_joinAt 6 = .ok (.invokevirtual 40, 3) := by decide +kernel
theorem dX0_joinAt_9 : decode cX0_joinAt 9 = .ok (.aload_n 0, 1) := by decide +kernel
theorem dX0_joinAt_10 : decode cX0_joinAt 10 = .ok (.getfield 9, 3) := by decide +kernel
theorem dX0_joinAt_13 : decode cX0_joinAt 13 = .ok (.iload_n 1, 1) := by decide +kernel
theorem dX0_joinAt_14 : decode cX0_joinAt 14 = .ok (.iaload, 1) := by decide +kernel
theorem dX0_joinAt_15 : decode cX0_joinAt 15 = .ok (.if_icmp .eq 5, 3) := by decide +kernel
theorem dX0_joinAt_18 : decode cX0_joinAt 18 = .ok (.iconst (-1), 1) := by decide +kernel
theorem dX0_joinAt_19 : decode cX0_joinAt 19 = .ok (.ireturn, 1) := by decide +kernel
theorem dX0_joinAt_20 : decode cX0_joinAt 20 = .ok (.aload_n 0, 1) := by decide +kernel
theorem dX0_joinAt_21 : decode cX0_joinAt 21 = .ok (.iload_n 2, 1) := by decide +kernel
theorem dX0_joinAt_22 : decode cX0_joinAt 22 = .ok (.invokevirtual 44, 3) := by decide +kernel
theorem dX0_joinAt_25 : decode cX0_joinAt 25 = .ok (.aload_n 0, 1) := by decide +kernel
theorem dX0_joinAt_26 : decode cX0_joinAt 26 = .ok (.getfield 15, 3) := by decide +kernel
theorem dX0_joinAt_29 : decode cX0_joinAt 29 = .ok (.iload_n 1, 1) := by decide +kernel
theorem dX0_joinAt_30 : decode cX0_joinAt 30 = .ok (.iaload, 1) := by decide +kernel
theorem dX0_joinAt_31 : decode cX0_joinAt 31 = .ok (.if_icmp .eq 5, 3) := by decide +kernel
theorem dX0_joinAt_34 : decode cX0_joinAt 34 = .ok (.iconst 0, 1) := by decide +kernel
theorem dX0_joinAt_35 : decode cX0_joinAt 35 = .ok (.ireturn, 1) := by decide +kernel
theorem dX0_joinAt_36 : decode cX0_joinAt 36 = .ok (.aload_n 0, 1) := by decide +kernel
theorem dX0_joinAt_37 : decode cX0_joinAt 37 = .ok (.getfield 18, 3) := by decide +kernel
theorem dX0_joinAt_40 : decode cX0_joinAt 40 = .ok (.iload_n 2, 1) := by decide +kernel
theorem dX0_joinAt_41 : decode cX0_joinAt 41 = .ok (.iaload, 1) := by decide +kernel
theorem dX0_joinAt_42 : decode cX0_joinAt 42 = .ok (.aload_n 0, 1) := by decide +kernel
theorem dX0_joinAt_43 : decode cX0_joinAt 43 = .ok (.getfield 18, 3) := by decide +kernel
theorem dX0_joinAt_46 : decode cX0_joinAt 46 = .ok (.iload_n 1, 1) := by decide +kernel
theorem dX0_joinAt_47 : decode cX0_joinAt 47 = .ok (.iaload, 1) := by decide +kernel
theorem dX0_joinAt_48 : decode cX0_joinAt 48 = .ok (.if_icmp .eq 7, 3) := by decide +kernel
theorem dX0_joinAt_51 : decode cX0_joinAt 51 = .ok (.iconst 1, 1) := by decide +kernel
theorem dX0_joinAt_52 : decode cX0_joinAt 52 = .ok (.goto 4, 3) := by decide +kernel
theorem dX0_joinAt_55 : decode cX0_joinAt 55 = .ok (.iconst 2, 1) := by decide +kernel
theorem dX0_joinAt_56 : decode cX0_joinAt 56 = .ok (.ireturn, 1) := by decide +kernel
theorem dX0_knotsJoined_0 : decode cX0_knotsJoined 0 = .ok (.iconst 0, 1) := by decide +kernel
theorem dX0_knotsJoined_1 : decode cX0_knotsJoined 1 = .ok (.istore_n 2, 1) := by decide +kernel
theorem dX0_knotsJoined_2 : decode cX0_knotsJoined 2 = .ok (.iconst 1, 1) := by decide +kernel
theorem dX0_knotsJoined_3 : decode cX0_knotsJoined 3 = .ok (.istore_n 3, 1) := by decide +kernel
theorem dX0_knotsJoined_4 : decode cX0_knotsJoined 4 = .ok (.iload_n 3, 1) := by decide +kernel
theorem dX0_knotsJoined_5 : decode cX0_knotsJoined 5 = .ok (.aload_n 0, 1) := by decide +kernel
theorem dX0_knotsJoined_6 : decode cX0_knotsJoined 6 = .ok (.getfield 21, 3) := by decide +kernel
theorem dX0_knotsJoined_9 : decode cX0_knotsJoined 9 = .ok (.if_icmp .ge 21, 3) := by decide +kernel
theorem dX0_knotsJoined_12 : decode cX0_knotsJoined 12 = .ok (.aload_n 0, 1) := by decide +kernel
theorem dX0_knotsJoined_13 : decode cX0_knotsJoined 13 = .ok (.iload_n 3, 1) := by decide +kernel
theorem dX0_knotsJoined_14 : decode cX0_knotsJoined 14 = .ok (.invokevirtual 47, 3) := by decide +kernel
theorem dX0_knotsJoined_17 : decode cX0_knotsJoined 17 = .ok (.iload_n 1, 1) := by decide +kernel
theorem dX0_knotsJoined_18 : decode cX0_knotsJoined 18 = .ok (.if_icmp .ne 6, 3) := by decide +kernel
theorem dX0_knotsJoined_21 : decode cX0_knotsJoined 21 = .ok (.iinc 2 1, 3) := by decide +kernel
theorem dX0_knotsJoined_24 : decode cX0_knotsJoined 24 = .ok (.iinc 3 1, 3) := by decide +kernel
theorem dX0_knotsJoined_27 : decode cX0_knotsJoined 27 = .ok (.goto (-23), 3) := by decide +kernel
theorem dX0_knotsJoined_30 : decode cX0_knotsJoined 30 = .ok (.iload_n 2, 1) := by decide +kernel
theorem dX0_knotsJoined_31 : decode cX0_knotsJoined 31 = .ok (.ireturn, 1) := by decide +kernel
theorem dX0_isRising_0 : decode cX0_isRising 0 = .ok (.iconst 0, 1) := by decide +kernel
theorem dX0_isRising_1 : decode cX0_isRising 1 = .ok (.istore_n 2, 1) := by decide +kernel
theorem dX0_isRising_2 : decode cX0_isRising 2 = .ok (.iload_n 2, 1) := by decide +kernel
theorem dX0_isRising_3 : decode cX0_isRising 3 = .ok (.aload_n 0, 1) := by decide +kernel
theorem dX0_isRising_4 : decode cX0_isRising 4 = .ok (.getfield 21, 3) := by decide +kernel
theorem dX0_isRising_7 : decode cX0_isRising 7 = .ok (.if_icmp .ge 57, 3) := by decide +kernel
theorem dX0_isRising_10 : decode cX0_isRising 10 = .ok (.iload_n 1, 1) := by decide +kernel
theorem dX0_isRising_11 : decode cX0_isRising 11 = .ok (.aload_n 0, 1) := by decide +kernel
theorem dX0_isRising_12 : decode cX0_isRising 12 = .ok (.getfield 15, 3) := by decide +kernel
theorem dX0_isRising_15 : decode cX0_isRising 15 = .ok (.iload_n 2, 1) := by decide +kernel
theorem dX0_isRising_16 : decode cX0_isRising 16 = .ok (.iaload, 1) := by decide +kernel
theorem dX0_isRising_17 : decode cX0_isRising 17 = .ok (.imul, 1) := by decide +kernel
theorem dX0_isRising_18 : decode cX0_isRising 18 = .ok (.ifCond .lt 13, 3) := by decide +kernel
theorem dX0_isRising_21 : decode cX0_isRising 21 = .ok (.iload_n 1, 1) := by decide +kernel
theorem dX0_isRising_22 : decode cX0_isRising 22 = .ok (.aload_n 0, 1) := by decide +kernel
theorem dX0_isRising_23 : decode cX0_isRising 23 = .ok (.iload_n 2, 1) := by decide +kernel
theorem dX0_isRising_24 : decode cX0_isRising 24 = .ok (.invokevirtual 44, 3) := by decide +kernel
theorem dX0_isRising_27 : decode cX0_isRising 27 = .ok (.imul, 1) := by decide +kernel
theorem dX0_isRising_28 : decode cX0_isRising 28 = .ok (.ifCond .ge 5, 3) := by decide +kernel
theorem dX0_isRising_31 : decode cX0_isRising 31 = .ok (.iconst 0, 1) := by decide +kernel
theorem dX0_isRising_32 : decode cX0_isRising 32 = .ok (.ireturn, 1) := by decide +kernel
theorem dX0_isRising_33 : decode cX0_isRising 33 = .ok (.iload_n 2, 1) := by decide +kernel
theorem dX0_isRising_34 : decode cX0_isRising 34 = .ok (.ifCond .le 24, 3) := by decide +kernel
theorem dX0_isRising_37 : decode cX0_isRising 37 = .ok (.iload_n 1, 1) := by decide +kernel
theorem dX0_isRising_38 : decode cX0_isRising 38 = .ok (.aload_n 0, 1) := by decide +kernel
theorem dX0_isRising_39 : decode cX0_isRising 39 = .ok (.getfield 9, 3) := by decide +kernel
theorem dX0_isRising_42 : decode cX0_isRising 42 = .ok (.iload_n 2, 1) := by decide +kernel
theorem dX0_isRising_43 : decode cX0_isRising 43 = .ok (.iaload, 1) := by decide +kernel
theorem dX0_isRising_44 : decode cX0_isRising 44 = .ok (.aload_n 0, 1) := by decide +kernel
theorem dX0_isRising_45 : decode cX0_isRising 45 = .ok (.iload_n 2, 1) := by decide +kernel
theorem dX0_isRising_46 : decode cX0_isRising 46 = .ok (.iconst 1, 1) := by decide +kernel
theorem dX0_isRising_47 : decode cX0_isRising 47 = .ok (.isub, 1) := by decide +kernel
theorem dX0_isRising_48 : decode cX0_isRising 48 = .ok (.invokevirtual 40, 3) := by decide +kernel
theorem dX0_isRising_51 : decode cX0_isRising 51 = .ok (.isub, 1) := by decide +kernel
theorem dX0_isRising_52 : decode cX0_isRising 52 = .ok (.imul, 1) := by decide +kernel
theorem dX0_isRising_53 : decode cX0_isRising 53 = .ok (.ifCond .ge 5, 3) := by decide +kernel
theorem dX0_isRising_56 : decode cX0_isRising 56 = .ok (.iconst 0, 1) := by decide +kernel
theorem dX0_isRising_57 : decode cX0_isRising 57 = .ok (.ireturn, 1) := by decide +kernel
theorem dX0_isRising_58 : decode cX0_isRising 58 = .ok (.iinc 2 1, 3) := by decide +kernel
theorem dX0_isRising_61 : decode cX0_isRising 61 = .ok (.goto (-59), 3) := by decide +kernel
theorem dX0_isRising_64 : decode cX0_isRising 64 = .ok (.iconst 1, 1) := by decide +kernel
theorem dX0_isRising_65 : decode cX0_isRising 65 = .ok (.ireturn, 1) := by decide +kernel
theorem dX0_isBentUp_0 : decode cX0_isBentUp 0 = .ok (.iconst 0, 1) := by decide +kernel
theorem dX0_isBentUp_1 : decode cX0_isBentUp 1 = .ok (.istore_n 2, 1) := by decide +kernel
theorem dX0_isBentUp_2 : decode cX0_isBentUp 2 = .ok (.iload_n 2, 1) := by decide +kernel
theorem dX0_isBentUp_3 : decode cX0_isBentUp 3 = .ok (.aload_n 0, 1) := by decide +kernel
theorem dX0_isBentUp_4 : decode cX0_isBentUp 4 = .ok (.getfield 21, 3) := by decide +kernel
theorem dX0_isBentUp_7 : decode cX0_isBentUp 7 = .ok (.if_icmp .ge 55, 3) := by decide +kernel
theorem dX0_isBentUp_10 : decode cX0_isBentUp 10 = .ok (.iload_n 1, 1) := by decide +kernel
theorem dX0_isBentUp_11 : decode cX0_isBentUp 11 = .ok (.aload_n 0, 1) := by decide +kernel
theorem dX0_isBentUp_12 : decode cX0_isBentUp 12 = .ok (.getfield 18, 3) := by decide +kernel
theorem dX0_isBentUp_15 : decode cX0_isBentUp 15 = .ok (.iload_n 2, 1) := by decide +kernel
theorem dX0_isBentUp_16 : decode cX0_isBentUp 16 = .ok (.iaload, 1) := by decide +kernel
theorem dX0_isBentUp_17 : decode cX0_isBentUp 17 = .ok (.imul, 1) := by decide +kernel
theorem dX0_isBentUp_18 : decode cX0_isBentUp 18 = .ok (.ifCond .ge 5, 3) := by decide +kernel
theorem dX0_isBentUp_21 : decode cX0_isBentUp 21 = .ok (.iconst 0, 1) := by decide +kernel
theorem dX0_isBentUp_22 : decode cX0_isBentUp 22 = .ok (.ireturn, 1) := by decide +kernel
theorem dX0_isBentUp_23 : decode cX0_isBentUp 23 = .ok (.iload_n 2, 1) := by decide +kernel
theorem dX0_isBentUp_24 : decode cX0_isBentUp 24 = .ok (.ifCond .le 32, 3) := by decide +kernel
theorem dX0_isBentUp_27 : decode cX0_isBentUp 27 = .ok (.aload_n 0, 1) := by decide +kernel
theorem dX0_isBentUp_28 : decode cX0_isBentUp 28 = .ok (.iload_n 2, 1) := by decide +kernel
theorem dX0_isBentUp_29 : decode cX0_isBentUp 29 = .ok (.invokevirtual 47, 3) := by decide +kernel
theorem dX0_isBentUp_32 : decode cX0_isBentUp 32 = .ok (.ifCond .lt 22, 3) := by decide +kernel
theorem dX0_isBentUp_35 : decode cX0_isBentUp 35 = .ok (.iload_n 1, 1) := by decide +kernel
theorem dX0_isBentUp_36 : decode cX0_isBentUp 36 = .ok (.aload_n 0, 1) := by decide +kernel
theorem dX0_isBentUp_37 : decode cX0_isBentUp 37 = .ok (.getfield 15, 3) := by decide +kernel
theorem dX0_isBentUp_40 : decode cX0_isBentUp 40 = .ok (.iload_n 2, 1) := by decide +kernel
theorem dX0_isBentUp_41 : decode cX0_isBentUp 41 = .ok (.iaload, 1) := by decide +kernel
theorem dX0_isBentUp_42 : decode cX0_isBentUp 42 = .ok (.aload_n 0, 1) := by decide +kernel
theorem dX0_isBentUp_43 : decode cX0_isBentUp 43 = .ok (.iload_n 2, 1) := by decide +kernel
theorem dX0_isBentUp_44 : decode cX0_isBentUp 44 = .ok (.iconst 1, 1) := by decide +kernel
theorem dX0_isBentUp_45 : decode cX0_isBentUp 45 = .ok (.isub, 1) := by decide +kernel
theorem dX0_isBentUp_46 : decode cX0_isBentUp 46 = .ok (.invokevirtual 44, 3) := by decide +kernel
theorem dX0_isBentUp_49 : decode cX0_isBentUp 49 = .ok (.isub, 1) := by decide +kernel
theorem dX0_isBentUp_50 : decode cX0_isBentUp 50 = .ok (.imul, 1) := by decide +kernel
theorem dX0_isBentUp_51 : decode cX0_isBentUp 51 = .ok (.ifCond .ge 5, 3) := by decide +kernel
theorem dX0_isBentUp_54 : decode cX0_isBentUp 54 = .ok (.iconst 0, 1) := by decide +kernel
theorem dX0_isBentUp_55 : decode cX0_isBentUp 55 = .ok (.ireturn, 1) := by decide +kernel
theorem dX0_isBentUp_56 : decode cX0_isBentUp 56 = .ok (.iinc 2 1, 3) := by decide +kernel
theorem dX0_isBentUp_59 : decode cX0_isBentUp 59 = .ok (.goto (-57), 3) := by decide +kernel
theorem dX0_isBentUp_62 : decode cX0_isBentUp 62 = .ok (.iconst 1, 1) := by decide +kernel
theorem dX0_isBentUp_63 : decode cX0_isBentUp 63 = .ok (.ireturn, 1) := by decide +kernel
theorem dX0_top_0 : decode cX0_top 0 = .ok (.iload_n 1, 1) := by decide +kernel
theorem dX0_top_1 : decode cX0_top 1 = .ok (.aload_n 0, 1) := by decide +kernel
theorem dX0_top_2 : decode cX0_top 2 = .ok (.getfield 9, 3) := by decide +kernel
theorem dX0_top_5 : decode cX0_top 5 = .ok (.iconst 0, 1) := by decide +kernel
theorem dX0_top_6 : decode cX0_top 6 = .ok (.iaload, 1) := by decide +kernel
theorem dX0_top_7 : decode cX0_top 7 = .ok (.imul, 1) := by decide +kernel
theorem dX0_top_8 : decode cX0_top 8 = .ok (.i2l, 1) := by decide +kernel
theorem dX0_top_9 : decode cX0_top 9 = .ok (.iload_n 1, 1) := by decide +kernel
theorem dX0_top_10 : decode cX0_top 10 = .ok (.aload_n 0, 1) := by decide +kernel
theorem dX0_top_11 : decode cX0_top 11 = .ok (.getfield 15, 3) := by decide +kernel
theorem dX0_top_14 : decode cX0_top 14 = .ok (.iconst 0, 1) := by decide +kernel
theorem dX0_top_15 : decode cX0_top 15 = .ok (.iaload, 1) := by decide +kernel
theorem dX0_top_16 : decode cX0_top 16 = .ok (.imul, 1) := by decide +kernel
theorem dX0_top_17 : decode cX0_top 17 = .ok (.i2l, 1) := by decide +kernel
theorem dX0_top_18 : decode cX0_top 18 = .ok (.iload_n 1, 1) := by decide +kernel
theorem dX0_top_19 : decode cX0_top 19 = .ok (.aload_n 0, 1) := by decide +kernel
theorem dX0_top_20 : decode cX0_top 20 = .ok (.getfield 18, 3) := by decide +kernel
theorem dX0_top_23 : decode cX0_top 23 = .ok (.iconst 0, 1) := by decide +kernel
theorem dX0_top_24 : decode cX0_top 24 = .ok (.iaload, 1) := by decide +kernel
theorem dX0_top_25 : decode cX0_top 25 = .ok (.imul, 1) := by decide +kernel
theorem dX0_top_26 : decode cX0_top 26 = .ok (.i2l, 1) := by decide +kernel
theorem dX0_top_27 : decode cX0_top 27 = .ok (.invokestatic 50, 3) := by decide +kernel
theorem dX0_top_30 : decode cX0_top 30 = .ok (.lstore_n 2, 1) := by decide +kernel
theorem dX0_top_31 : decode cX0_top 31 = .ok (.iconst 1, 1) := by decide +kernel
theorem dX0_top_32 : decode cX0_top 32 = .ok (.istore 4, 2) := by decide +kernel
theorem dX0_top_34 : decode cX0_top 34 = .ok (.iload 4, 2) := by decide +kernel
theorem dX0_top_36 : decode cX0_top 36 = .ok (.aload_n 0, 1) := by decide +kernel
theorem dX0_top_37 : decode cX0_top 37 = .ok (.getfield 21, 3) := by decide +kernel
theorem dX0_top_40 : decode cX0_top 40 = .ok (.if_icmp .ge 47, 3) := by decide +kernel
theorem dX0_top_43 : decode cX0_top 43 = .ok (.lload_n 2, 1) := by decide +kernel
theorem dX0_top_44 : decode cX0_top 44 = .ok (.iload_n 1, 1) := by decide +kernel
theorem dX0_top_45 : decode cX0_top 45 = .ok (.aload_n 0, 1) := by decide +kernel
theorem dX0_top_46 : decode cX0_top 46 = .ok (.getfield 9, 3) := by decide +kernel
theorem dX0_top_49 : decode cX0_top 49 = .ok (.iload 4, 2) := by decide +kernel
theorem dX0_top_51 : decode cX0_top 51 = .ok (.iaload, 1) := by decide +kernel
theorem dX0_top_52 : decode cX0_top 52 = .ok (.imul, 1) := by decide +kernel
theorem dX0_top_53 : decode cX0_top 53 = .ok (.i2l, 1) := by decide +kernel
theorem dX0_top_54 : decode cX0_top 54 = .ok (.iload_n 1, 1) := by decide +kernel
theorem dX0_top_55 : decode cX0_top 55 = .ok (.aload_n 0, 1) := by decide +kernel
theorem dX0_top_56 : decode cX0_top 56 = .ok (.getfield 15, 3) := by decide +kernel
theorem dX0_top_59 : decode cX0_top 59 = .ok (.iload 4, 2) := by decide +kernel
theorem dX0_top_61 : decode cX0_top 61 = .ok (.iaload, 1) := by decide +kernel
theorem dX0_top_62 : decode cX0_top 62 = .ok (.imul, 1) := by decide +kernel
theorem dX0_top_63 : decode cX0_top 63 = .ok (.i2l, 1) := by decide +kernel
theorem dX0_top_64 : decode cX0_top 64 = .ok (.iload_n 1, 1) := by decide +kernel
theorem dX0_top_65 : decode cX0_top 65 = .ok (.aload_n 0, 1) := by decide +kernel
theorem dX0_top_66 : decode cX0_top 66 = .ok (.getfield 18, 3) := by decide +kernel
theorem dX0_top_69 : decode cX0_top 69 = .ok (.iload 4, 2) := by decide +kernel
theorem dX0_top_71 : decode cX0_top 71 = .ok (.iaload, 1) := by decide +kernel
theorem dX0_top_72 : decode cX0_top 72 = .ok (.imul, 1) := by decide +kernel
theorem dX0_top_73 : decode cX0_top 73 = .ok (.i2l, 1) := by decide +kernel
theorem dX0_top_74 : decode cX0_top 74 = .ok (.invokestatic 50, 3) := by decide +kernel
theorem dX0_top_77 : decode cX0_top 77 = .ok (.invokestatic 54, 3) := by decide +kernel
theorem dX0_top_80 : decode cX0_top 80 = .ok (.lstore_n 2, 1) := by decide +kernel
theorem dX0_top_81 : decode cX0_top 81 = .ok (.iinc 4 1, 3) := by decide +kernel
theorem dX0_top_84 : decode cX0_top 84 = .ok (.goto (-50), 3) := by decide +kernel
theorem dX0_top_87 : decode cX0_top 87 = .ok (.lload_n 2, 1) := by decide +kernel
theorem dX0_top_88 : decode cX0_top 88 = .ok (.lreturn, 1) := by decide +kernel
theorem dX0_topOfPiece_0 : decode cX0_topOfPiece 0 = .ok (.lload_n 0, 1) := by decide +kernel
theorem dX0_topOfPiece_1 : decode cX0_topOfPiece 1 = .ok (.lload_n 0, 1) := by decide +kernel
theorem dX0_topOfPiece_2 : decode cX0_topOfPiece 2 = .ok (.lload_n 2, 1) := by decide +kernel
theorem dX0_topOfPiece_3 : decode cX0_topOfPiece 3 = .ok (.ladd, 1) := by decide +kernel
theorem dX0_topOfPiece_4 : decode cX0_topOfPiece 4 = .ok (.lload 4, 2) := by decide +kernel
theorem dX0_topOfPiece_6 : decode cX0_topOfPiece 6 = .ok (.ladd, 1) := by decide +kernel
theorem dX0_topOfPiece_7 : decode cX0_topOfPiece 7 = .ok (.invokestatic 54, 3) := by decide +kernel
theorem dX0_topOfPiece_10 : decode cX0_topOfPiece 10 = .ok (.lstore 6, 2) := by decide +kernel
theorem dX0_topOfPiece_12 : decode cX0_topOfPiece 12 = .ok (.lload 4, 2) := by decide +kernel
theorem dX0_topOfPiece_14 : decode cX0_topOfPiece 14 = .ok (.lconst 0, 1) := by decide +kernel
theorem dX0_topOfPiece_15 : decode cX0_topOfPiece 15 = .ok (.lcmp, 1) := by decide +kernel
theorem dX0_topOfPiece_16 : decode cX0_topOfPiece 16 = .ok (.ifCond .ge 38, 3) := by decide +kernel
theorem dX0_topOfPiece_19 : decode cX0_topOfPiece 19 = .ok (.lload_n 2, 1) := by decide +kernel
theorem dX0_topOfPiece_20 : decode cX0_topOfPiece 20 = .ok (.lconst 0, 1) := by decide +kernel
theorem dX0_topOfPiece_21 : decode cX0_topOfPiece 21 = .ok (.lcmp, 1) := by decide +kernel
theorem dX0_topOfPiece_22 : decode cX0_topOfPiece 22 = .ok (.ifCond .le 32, 3) := by decide +kernel
theorem dX0_topOfPiece_25 : decode cX0_topOfPiece 25 = .ok (.lload_n 2, 1) := by decide +kernel
theorem dX0_topOfPiece_26 : decode cX0_topOfPiece 26 = .ok (.ldc2_w 58, 3) := by decide +kernel
theorem dX0_topOfPiece_29 : decode cX0_topOfPiece 29 = .ok (.lload 4, 2) := by decide +kernel
theorem dX0_topOfPiece_31 : decode cX0_topOfPiece 31 = .ok (.lmul, 1) := by decide +kernel
theorem dX0_topOfPiece_32 : decode cX0_topOfPiece 32 = .ok (.ladd, 1) := by decide +kernel
theorem dX0_topOfPiece_33 : decode cX0_topOfPiece 33 = .ok (.lconst 0, 1) := by decide +kernel
theorem dX0_topOfPiece_34 : decode cX0_topOfPiece 34 = .ok (.lcmp, 1) := by decide +kernel
theorem dX0_topOfPiece_35 : decode cX0_topOfPiece 35 = .ok (.ifCond .ge 19, 3) := by decide +kernel
theorem dX0_topOfPiece_38 : decode cX0_topOfPiece 38 = .ok (.lload_n 0, 1) := by decide +kernel
theorem dX0_topOfPiece_39 : decode cX0_topOfPiece 39 = .ok (.lload_n 2, 1) := by decide +kernel
theorem dX0_topOfPiece_40 : decode cX0_topOfPiece 40 = .ok (.lload_n 2, 1) := by decide +kernel
theorem dX0_topOfPiece_41 : decode cX0_topOfPiece 41 = .ok (.lmul, 1) := by decide +kernel
theorem dX0_topOfPiece_42 : decode cX0_topOfPiece 42 = .ok (.ldc2_w 60, 3) := by decide +kernel
theorem dX0_topOfPiece_45 : decode cX0_topOfPiece 45 = .ok (.lload 4, 2) := by decide +kernel
theorem dX0_topOfPiece_47 : decode cX0_topOfPiece 47 = .ok (.lmul, 1) := by decide +kernel
theorem dX0_topOfPiece_48 : decode cX0_topOfPiece 48 = .ok (.invokestatic 62, 3) := by decide +kernel
theorem dX0_topOfPiece_51 : decode cX0_topOfPiece 51 = .ok (.lsub, 1) := by decide +kernel
theorem dX0_topOfPiece_52 : decode cX0_topOfPiece 52 = .ok (.lstore 6, 2) := by decide +kernel
theorem dX0_topOfPiece_54 : decode cX0_topOfPiece 54 = .ok (.lload 6, 2) := by decide +kernel
theorem dX0_topOfPiece_56 : decode cX0_topOfPiece 56 = .ok (.lreturn, 1) := by decide +kernel
theorem dX1_init_0 : decode cX1_init 0 = .ok (.aload_n 0, 1) := by decide +kernel
theorem dX1_init_1 : decode cX1_init 1 = .ok (.invokespecial 1, 3) := by decide +kernel
theorem dX1_init_4 : decode cX1_init 4 = .ok (.aload_n 0, 1) := by decide +kernel
theorem dX1_init_5 : decode cX1_init 5 = .ok (.iconst 0, 1) := by decide +kernel
theorem dX1_init_6 : decode cX1_init 6 = .ok (.putfield 7, 3) := by decide +kernel
theorem dX1_init_9 : decode cX1_init 9 = .ok (.aload_n 0, 1) := by decide +kernel
theorem dX1_init_10 : decode cX1_init 10 = .ok (.iconst 0, 1) := by decide +kernel
theorem dX1_init_11 : decode cX1_init 11 = .ok (.putfield 13, 3) := by decide +kernel
theorem dX1_init_14 : decode cX1_init 14 = .ok (.return_, 1) := by decide +kernel
theorem dX1_becomeAll_0 : decode cX1_becomeAll 0 = .ok (.aload_n 0, 1) := by decide +kernel
theorem dX1_becomeAll_1 : decode cX1_becomeAll 1 = .ok (.iload_n 1, 1) := by decide +kernel
theorem dX1_becomeAll_2 : decode cX1_becomeAll 2 = .ok (.ineg, 1) := by decide +kernel
theorem dX1_becomeAll_3 : decode cX1_becomeAll 3 = .ok (.putfield 7, 3) := by decide +kernel
theorem dX1_becomeAll_6 : decode cX1_becomeAll 6 = .ok (.aload_n 0, 1) := by decide +kernel
theorem dX1_becomeAll_7 : decode cX1_becomeAll 7 = .ok (.iload_n 1, 1) := by decide +kernel
theorem dX1_becomeAll_8 : decode cX1_becomeAll 8 = .ok (.putfield 13, 3) := by decide +kernel
theorem dX1_becomeAll_11 : decode cX1_becomeAll 11 = .ok (.return_, 1) := by decide +kernel
theorem dX1_require_0 : decode cX1_require 0 = .ok (.iload_n 2, 1) := by decide +kernel
theorem dX1_require_1 : decode cX1_require 1 = .ok (.ifCond .le 19, 3) := by decide +kernel
theorem dX1_require_4 : decode cX1_require 4 = .ok (.aload_n 0, 1) := by decide +kernel
theorem dX1_require_5 : decode cX1_require 5 = .ok (.aload_n 0, 1) := by decide +kernel
theorem dX1_require_6 : decode cX1_require 6 = .ok (.getfield 7, 3) := by decide +kernel
theorem dX1_require_9 : decode cX1_require 9 = .ok (.iload_n 1, 1) := by decide +kernel
theorem dX1_require_10 : decode cX1_require 10 = .ok (.ineg, 1) := by decide +kernel
theorem dX1_require_11 : decode cX1_require 11 = .ok (.invokestatic 16, 3) := by decide +kernel
theorem dX1_require_14 : decode cX1_require 14 = .ok (.putfield 7, 3) := by decide +kernel
theorem dX1_require_17 : decode cX1_require 17 = .ok (.goto 15, 3) := by decide +kernel
theorem dX1_require_20 : decode cX1_require 20 = .ok (.aload_n 0, 1) := by decide +kernel
theorem dX1_require_21 : decode cX1_require 21 = .ok (.aload_n 0, 1) := by decide +kernel
theorem dX1_require_22 : decode cX1_require 22 = .ok (.getfield 13, 3) := by decide +kernel
theorem dX1_require_25 : decode cX1_require 25 = .ok (.iload_n 1, 1) := by decide +kernel
theorem dX1_require_26 : decode cX1_require 26 = .ok (.invokestatic 22, 3) := by decide +kernel
theorem dX1_require_29 : decode cX1_require 29 = .ok (.putfield 13, 3) := by decide +kernel
theorem dX1_require_32 : decode cX1_require 32 = .ok (.return_, 1) := by decide +kernel
theorem dX1_size_0 : decode cX1_size 0 = .ok (.iconst 0, 1) := by decide +kernel
theorem dX1_size_1 : decode cX1_size 1 = .ok (.aload_n 0, 1) := by decide +kernel
theorem dX1_size_2 : decode cX1_size 2 = .ok (.getfield 13, 3) := by decide +kernel
theorem dX1_size_5 : decode cX1_size 5 = .ok (.aload_n 0, 1) := by decide +kernel
theorem dX1_size_6 : decode cX1_size 6 = .ok (.getfield 7, 3) := by decide +kernel
theorem dX1_size_9 : decode cX1_size 9 = .ok (.isub, 1) := by decide +kernel
theorem dX1_size_10 : decode cX1_size 10 = .ok (.iconst 1, 1) := by decide +kernel
theorem dX1_size_11 : decode cX1_size 11 = .ok (.iadd, 1) := by decide +kernel
theorem dX1_size_12 : decode cX1_size 12 = .ok (.invokestatic 16, 3) := by decide +kernel
theorem dX1_size_15 : decode cX1_size 15 = .ok (.ireturn, 1) := by decide +kernel
theorem dX2_init_0 : decode cX2_init 0 = .ok (.aload_n 0, 1) := by decide +kernel
theorem dX2_init_1 : decode cX2_init 1 = .ok (.invokespecial 3, 3) := by decide +kernel
theorem dX2_init_4 : decode cX2_init 4 = .ok (.aload_n 0, 1) := by decide +kernel
theorem dX2_init_5 : decode cX2_init 5 = .ok (.bipush 32, 2) := by decide +kernel
theorem dX2_init_7 : decode cX2_init 7 = .ok (.newarray .int, 2) := by decide +kernel
theorem dX2_init_9 : decode cX2_init 9 = .ok (.putfield 9, 3) := by decide +kernel
theorem dX2_init_12 : decode cX2_init 12 = .ok (.aload_n 0, 1) := by decide +kernel
theorem dX2_init_13 : decode cX2_init 13 = .ok (.iconst 0, 1) := by decide +kernel
theorem dX2_init_14 : decode cX2_init 14 = .ok (.putfield 15, 3) := by decide +kernel
theorem dX2_init_17 : decode cX2_init 17 = .ok (.aload_n 0, 1) := by decide +kernel
theorem dX2_init_18 : decode cX2_init 18 = .ok (.lconst 0, 1) := by decide +kernel
theorem dX2_init_19 : decode cX2_init 19 = .ok (.putfield 19, 3) := by decide +kernel
theorem dX2_init_22 : decode cX2_init 22 = .ok (.aload_n 0, 1) := by decide +kernel
theorem dX2_init_23 : decode cX2_init 23 = .ok (.lconst 0, 1) := by decide +kernel
theorem dX2_init_24 : decode cX2_init 24 = .ok (.putfield 23, 3) := by decide +kernel
theorem dX2_init_27 : decode cX2_init 27 = .ok (.aload_n 0, 1) := by decide +kernel
theorem dX2_init_28 : decode cX2_init 28 = .ok (.lconst 0, 1) := by decide +kernel
theorem dX2_init_29 : decode cX2_init 29 = .ok (.putfield 26, 3) := by decide +kernel
theorem dX2_init_32 : decode cX2_init 32 = .ok (.return_, 1) := by decide +kernel
theorem dX2_search_0 : decode cX2_search 0 = .ok (.aload_n 0, 1) := by decide +kernel
theorem dX2_search_1 : decode cX2_search 1 = .ok (.iconst 0, 1) := by decide +kernel
theorem dX2_search_2 : decode cX2_search 2 = .ok (.putfield 15, 3) := by decide +kernel
theorem dX2_search_5 : decode cX2_search 5 = .ok (.iconst 0, 1) := by decide +kernel
theorem dX2_search_6 : decode cX2_search 6 = .ok (.istore_n 2, 1) := by decide +kernel
theorem dX2_search_7 : decode cX2_search 7 = .ok (.iload_n 2, 1) := by decide +kernel
theorem dX2_search_8 : decode cX2_search 8 = .ok (.aload_n 1, 1) := by decide +kernel
theorem dX2_search_9 : decode cX2_search 9 = .ok (.getfield 29, 3) := by decide +kernel
theorem dX2_search_12 : decode cX2_search 12 = .ok (.if_icmp .ge 57, 3) := by decide +kernel
theorem dX2_search_15 : decode cX2_search 15 = .ok (.aload_n 0, 1) := by decide +kernel
theorem dX2_search_16 : decode cX2_search 16 = .ok (.aload_n 1, 1) := by decide +kernel
theorem dX2_search_17 : decode cX2_search 17 = .ok (.getfield 34, 3) := by decide +kernel
theorem dX2_search_20 : decode cX2_search 20 = .ok (.iload_n 2, 1) := by decide +kernel
theorem dX2_search_21 : decode cX2_search 21 = .ok (.iaload, 1) := by decide +kernel
theorem dX2_search_22 : decode cX2_search 22 = .ok (.i2l, 1) := by decide +kernel
theorem dX2_search_23 : decode cX2_search 23 = .ok (.aload_n 1, 1) := by decide +kernel
theorem dX2_search_24 : decode cX2_search 24 = .ok (.getfield 36, 3) := by decide +kernel
theorem dX2_search_27 : decode cX2_search 27 = .ok (.iload_n 2, 1) := by decide +kernel
theorem dX2_search_28 : decode cX2_search 28 = .ok (.iaload, 1) := by decide +kernel
theorem dX2_search_29 : decode cX2_search 29 = .ok (.i2l, 1) := by decide +kernel
theorem dX2_search_30 : decode cX2_search 30 = .ok (.aload_n 1, 1) := by decide +kernel
theorem dX2_search_31 : decode cX2_search 31 = .ok (.getfield 38, 3) := by decide +kernel
theorem dX2_search_34 : decode cX2_search 34 = .ok (.iload_n 2, 1) := by decide +kernel
theorem dX2_search_35 : decode cX2_search 35 = .ok (.iaload, 1) := by decide +kernel
theorem dX2_search_36 : decode cX2_search 36 = .ok (.i2l, 1) := by decide +kernel
theorem dX2_search_37 : decode cX2_search 37 = .ok (.invokevirtual 40, 3) := by decide +kernel
theorem dX2_search_40 : decode cX2_search 40 = .ok (.ifCond .eq 23, 3) := by decide +kernel
theorem dX2_search_43 : decode cX2_search 43 = .ok (.aload_n 0, 1) := by decide +kernel
theorem dX2_search_44 : decode cX2_search 44 = .ok (.iload_n 2, 1) := by decide +kernel
theorem dX2_search_45 : decode cX2_search 45 = .ok (.iload_n 2, 1) := by decide +kernel
theorem dX2_search_46 : decode cX2_search 46 = .ok (.aload_n 1, 1) := by decide +kernel
theorem dX2_search_47 : decode cX2_search 47 = .ok (.getfield 29, 3) := by decide +kernel
theorem dX2_search_50 : decode cX2_search 50 = .ok (.iconst 1, 1) := by decide +kernel
theorem dX2_search_51 : decode cX2_search 51 = .ok (.isub, 1) := by decide +kernel
theorem dX2_search_52 : decode cX2_search 52 = .ok (.if_icmp .ne 7, 3) := by decide +kernel
theorem dX2_search_55 : decode cX2_search 55 = .ok (.iconst 1, 1) := by decide +kernel
theorem dX2_search_56 : decode cX2_search 56 = .ok (.goto 4, 3) := by decide +kernel
theorem dX2_search_59 : decode cX2_search 59 = .ok (.iconst 0, 1) := by decide +kernel
theorem dX2_search_60 : decode cX2_search 60 = .ok (.invokevirtual 44, 3) := by decide +kernel
theorem dX2_search_63 : decode cX2_search 63 = .ok (.iinc 2 1, 3) := by decide +kernel
theorem dX2_search_66 : decode cX2_search 66 = .ok (.goto (-59), 3) := by decide +kernel
theorem dX2_search_69 : decode cX2_search 69 = .ok (.return_, 1) := by decide +kernel
theorem dX2_take_0 : decode cX2_take 0 = .ok (.lload 5, 2) := by decide +kernel
theorem dX2_take_2 : decode cX2_take 2 = .ok (.lconst 0, 1) := by decide +kernel
theorem dX2_take_3 : decode cX2_take 3 = .ok (.lcmp, 1) := by decide +kernel
theorem dX2_take_4 : decode cX2_take 4 = .ok (.ifCond .eq 8, 3) := by decide +kernel
theorem dX2_take_7 : decode cX2_take 7 = .ok (.lload 5, 2) := by decide +kernel
theorem dX2_take_9 : decode cX2_take 9 = .ok (.goto 4, 3) := by decide +kernel
theorem dX2_take_12 : decode cX2_take 12 = .ok (.lload_n 3, 1) := by decide +kernel
theorem dX2_take_13 : decode cX2_take 13 = .ok (.lstore 7, 2) := by decide +kernel
theorem dX2_take_15 : decode cX2_take 15 = .ok (.lload 7, 2) := by decide +kernel
theorem dX2_take_17 : decode cX2_take 17 = .ok (.lconst 0, 1) := by decide +kernel
theorem dX2_take_18 : decode cX2_take 18 = .ok (.lcmp, 1) := by decide +kernel
theorem dX2_take_19 : decode cX2_take 19 = .ok (.ifCond .ge 7, 3) := by decide +kernel
theorem dX2_take_22 : decode cX2_take 22 = .ok (.iconst (-1), 1) := by decide +kernel
theorem dX2_take_23 : decode cX2_take 23 = .ok (.goto 4, 3) := by decide +kernel
theorem dX2_take_26 : decode cX2_take 26 = .ok (.iconst 1, 1) := by decide +kernel
theorem dX2_take_27 : decode cX2_take 27 = .ok (.istore 9, 2) := by decide +kernel
theorem dX2_take_29 : decode cX2_take 29 = .ok (.aload_n 0, 1) := by decide +kernel
theorem dX2_take_30 : decode cX2_take 30 = .ok (.iload 9, 2) := by decide +kernel
theorem dX2_take_32 : decode cX2_take 32 = .ok (.i2l, 1) := by decide +kernel
theorem dX2_take_33 : decode cX2_take 33 = .ok (.lload_n 1, 1) := by decide +kernel
theorem dX2_take_34 : decode cX2_take 34 = .ok (.lmul, 1) := by decide +kernel
theorem dX2_take_35 : decode cX2_take 35 = .ok (.ldc2_w 48, 3) := by decide +kernel
theorem dX2_take_38 : decode cX2_take 38 = .ok (.lmul, 1) := by decide +kernel
theorem dX2_take_39 : decode cX2_take 39 = .ok (.ldc2_w 48, 3) := by decide +kernel
theorem dX2_take_42 : decode cX2_take 42 = .ok (.lmul, 1) := by decide +kernel
theorem dX2_take_43 : decode cX2_take 43 = .ok (.putfield 19, 3) := by decide +kernel
theorem dX2_take_46 : decode cX2_take 46 = .ok (.aload_n 0, 1) := by decide +kernel
theorem dX2_take_47 : decode cX2_take 47 = .ok (.iload 9, 2) := by decide +kernel
theorem dX2_take_49 : decode cX2_take 49 = .ok (.i2l, 1) := by decide +kernel
theorem dX2_take_50 : decode cX2_take 50 = .ok (.lload_n 3, 1) := by decide +kernel
theorem dX2_take_51 : decode cX2_take 51 = .ok (.lmul, 1) := by decide +kernel
theorem dX2_take_52 : decode cX2_take 52 = .ok (.ldc2_w 48, 3) := by decide +kernel
theorem dX2_take_55 : decode cX2_take 55 = .ok (.lmul, 1) := by decide +kernel
theorem dX2_take_56 : decode cX2_take 56 = .ok (.putfield 23, 3) := by decide +kernel
theorem dX2_take_59 : decode cX2_take 59 = .ok (.aload_n 0, 1) := by decide +kernel
theorem dX2_take_60 : decode cX2_take 60 = .ok (.iload 9, 2) := by decide +kernel
theorem dX2_take_62 : decode cX2_take 62 = .ok (.i2l, 1) := by decide +kernel
theorem dX2_take_63 : decode cX2_take 63 = .ok (.lload 5, 2) := by decide +kernel
theorem dX2_take_65 : decode cX2_take 65 = .ok (.lmul, 1) := by decide +kernel
theorem dX2_take_66 : decode cX2_take 66 = .ok (.putfield 26, 3) := by decide +kernel
theorem dX2_take_69 : decode cX2_take 69 = .ok (.lload 7, 2) := by decide +kernel
theorem dX2_take_71 : decode cX2_take 71 = .ok (.lconst 0, 1) := by decide +kernel
theorem dX2_take_72 : decode cX2_take 72 = .ok (.lcmp, 1) := by decide +kernel
theorem dX2_take_73 : decode cX2_take 73 = .ok (.ifCond .eq 16, 3) := by decide +kernel
theorem dX2_take_76 : decode cX2_take 76 = .ok (.aload_n 0, 1) := by decide +kernel
theorem dX2_take_77 : decode cX2_take 77 = .ok (.invokevirtual 50, 3) := by decide +kernel
theorem dX2_take_80 : decode cX2_take 80 = .ok (.lconst 0, 1) := by decide +kernel
theorem dX2_take_81 : decode cX2_take 81 = .ok (.lcmp, 1) := by decide +kernel
theorem dX2_take_82 : decode cX2_take 82 = .ok (.ifCond .lt 7, 3) := by decide +kernel
theorem dX2_take_85 : decode cX2_take 85 = .ok (.iconst 1, 1) := by decide +kernel
theorem dX2_take_86 : decode cX2_take 86 = .ok (.goto 4, 3) := by decide +kernel
theorem dX2_take_89 : decode cX2_take 89 = .ok (.iconst 0, 1) := by decide +kernel
theorem dX2_take_90 : decode cX2_take 90 = .ok (.ireturn, 1) := by decide +kernel
theorem dX2_discriminant_0 : decode cX2_discriminant 0 = .ok (.aload_n 0, 1) := by decide +kernel
theorem dX2_discriminant_1 : decode cX2_discriminant 1 = .ok (.getfield 23, 3) := by decide +kernel
theorem dX2_discriminant_4 : decode cX2_discriminant 4 = .ok (.aload_n 0, 1) := by decide +kernel
theorem dX2_discriminant_5 : decode cX2_discriminant 5 = .ok (.getfield 23, 3) := by decide +kernel
theorem dX2_discriminant_8 : decode cX2_discriminant 8 = .ok (.lmul, 1) := by decide +kernel
theorem dX2_discriminant_9 : decode cX2_discriminant 9 = .ok (.ldc2_w 54, 3) := by decide +kernel
theorem dX2_discriminant_12 : decode cX2_discriminant 12 = .ok (.aload_n 0, 1) := by decide +kernel
theorem dX2_discriminant_13 : decode cX2_discriminant 13 = .ok (.getfield 19, 3) := by decide +kernel
theorem dX2_discriminant_16 : decode cX2_discriminant 16 = .ok (.lmul, 1) := by decide +kernel
theorem dX2_discriminant_17 : decode cX2_discriminant 17 = .ok (.aload_n 0, 1) := by decide +kernel
theorem dX2_discriminant_18 : decode cX2_discriminant 18 = .ok (.getfield 26, 3) := by decide +kernel
theorem dX2_discriminant_21 : decode cX2_discriminant 21 = .ok (.lmul, 1) := by decide +kernel
theorem dX2_discriminant_22 : decode cX2_discriminant 22 = .ok (.lsub, 1) := by decide +kernel
theorem dX2_discriminant_23 : decode cX2_discriminant 23 = .ok (.lreturn, 1) := by decide +kernel
theorem dX2_searchPiece_0 : decode cX2_searchPiece 0 = .ok (.aload_n 0, 1) := by decide +kernel
theorem dX2_searchPiece_1 : decode cX2_searchPiece 1 = .ok (.getfield 26, 3) := by decide +kernel
theorem dX2_searchPiece_4 : decode cX2_searchPiece 4 = .ok (.lconst 0, 1) := by decide +kernel
theorem dX2_searchPiece_5 : decode cX2_searchPiece 5 = .ok (.lcmp, 1) := by decide +kernel
theorem dX2_searchPiece_6 : decode cX2_searchPiece 6 = .ok (.ifCond .le 19, 3) := by decide +kernel
theorem dX2_searchPiece_9 : decode cX2_searchPiece 9 = .ok (.aload_n 0, 1) := by decide +kernel
theorem dX2_searchPiece_10 : decode cX2_searchPiece 10 = .ok (.invokevirtual 50, 3) := by decide +kernel
theorem dX2_searchPiece_13 : decode cX2_searchPiece 13 = .ok (.lconst 0, 1) := by decide +kernel
theorem dX2_searchPiece_14 : decode cX2_searchPiece 14 = .ok (.lcmp, 1) := by decide +kernel
theorem dX2_searchPiece_15 : decode cX2_searchPiece 15 = .ok (.ifCond .le 10, 3) := by decide +kernel
theorem dX2_searchPiece_18 : decode cX2_searchPiece 18 = .ok (.aload_n 0, 1) := by decide +kernel
theorem dX2_searchPiece_19 : decode cX2_searchPiece 19 = .ok (.iload_n 1, 1) := by decide +kernel
theorem dX2_searchPiece_20 : decode cX2_searchPiece 20 = .ok (.iload_n 2, 1) := by decide +kernel
theorem dX2_searchPiece_21 : decode cX2_searchPiece 21 = .ok (.iconst 1, 1) := by decide +kernel
theorem dX2_searchPiece_22 : decode cX2_searchPiece 22 = .ok (.invokevirtual 56, 3) := by decide +kernel
theorem dX2_searchPiece_25 : decode cX2_searchPiece 25 = .ok (.aload_n 0, 1) := by decide +kernel
theorem dX2_searchPiece_26 : decode cX2_searchPiece 26 = .ok (.iload_n 1, 1) := by decide +kernel
theorem dX2_searchPiece_27 : decode cX2_searchPiece 27 = .ok (.iload_n 2, 1) := by decide +kernel
theorem dX2_searchPiece_28 : decode cX2_searchPiece 28 = .ok (.iconst 0, 1) := by decide +kernel
theorem dX2_searchPiece_29 : decode cX2_searchPiece 29 = .ok (.invokevirtual 56, 3) := by decide +kernel
theorem dX2_searchPiece_32 : decode cX2_searchPiece 32 = .ok (.return_, 1) := by decide +kernel
theorem dX2_keepRoot_0 : decode cX2_keepRoot 0 = .ok (.aload_n 0, 1) := by decide +kernel
theorem dX2_keepRoot_1 : decode cX2_keepRoot 1 = .ok (.lconst 0, 1) := by decide +kernel
theorem dX2_keepRoot_2 : decode cX2_keepRoot 2 = .ok (.iload_n 3, 1) := by decide +kernel
theorem dX2_keepRoot_3 : decode cX2_keepRoot 3 = .ok (.invokevirtual 60, 3) := by decide +kernel
theorem dX2_keepRoot_6 : decode cX2_keepRoot 6 = .ok (.ifCond .le 4, 3) := by decide +kernel
theorem dX2_keepRoot_9 : decode cX2_keepRoot 9 = .ok (.return_, 1) := by decide +kernel
theorem dX2_keepRoot_10 : decode cX2_keepRoot 10 = .ok (.aload_n 0, 1) := by decide +kernel
theorem dX2_keepRoot_11 : decode cX2_keepRoot 11 = .ok (.ldc2_w 48, 3) := by decide +kernel
theorem dX2_keepRoot_14 : decode cX2_keepRoot 14 = .ok (.iload_n 3, 1) := by decide +kernel
theorem dX2_keepRoot_15 : decode cX2_keepRoot 15 = .ok (.invokevirtual 60, 3) := by decide +kernel
theorem dX2_keepRoot_18 : decode cX2_keepRoot 18 = .ok (.istore 4, 2) := by decide +kernel
theorem dX2_keepRoot_20 : decode cX2_keepRoot 20 = .ok (.iload 4, 2) := by decide +kernel
theorem dX2_keepRoot_22 : decode cX2_keepRoot 22 = .ok (.ifCond .lt 24, 3) := by decide +kernel
theorem dX2_keepRoot_25 : decode cX2_keepRoot 25 = .ok (.iload 4, 2) := by decide +kernel
theorem dX2_keepRoot_27 : decode cX2_keepRoot 27 = .ok (.ifCond .ne 7, 3) := by decide +kernel
theorem dX2_keepRoot_30 : decode cX2_keepRoot 30 = .ok (.iload_n 2, 1) := by decide +kernel
theorem dX2_keepRoot_31 : decode cX2_keepRoot 31 = .ok (.ifCond .eq 15, 3) := by decide +kernel
theorem dX2_keepRoot_34 : decode cX2_keepRoot 34 = .ok (.aload_n 0, 1) := by decide +kernel
theorem dX2_keepRoot_35 : decode cX2_keepRoot 35 = .ok (.getfield 15, 3) := by decide +kernel
theorem dX2_keepRoot_38 : decode cX2_keepRoot 38 = .ok (.aload_n 0, 1) := by decide +kernel
theorem dX2_keepRoot_39 : decode cX2_keepRoot 39 = .ok (.getfield 9, 3) := by decide +kernel
theorem dX2_keepRoot_42 : decode cX2_keepRoot 42 = .ok (.arraylength, 1) := by decide +kernel
theorem dX2_keepRoot_43 : decode cX2_keepRoot 43 = .ok (.if_icmp .lt 4, 3) := by decide +kernel
theorem dX2_keepRoot_46 : decode cX2_keepRoot 46 = .ok (.return_, 1) := by decide +kernel
theorem dX2_keepRoot_47 : decode cX2_keepRoot 47 = .ok (.iload 4, 2) := by decide +kernel
theorem dX2_keepRoot_49 : decode cX2_keepRoot 49 = .ok (.ifCond .ne 8, 3) := by decide +kernel
theorem dX2_keepRoot_52 : decode cX2_keepRoot 52 = .ok (.bipush 64, 2) := by decide +kernel
theorem dX2_keepRoot_54 : decode cX2_keepRoot 54 = .ok (.goto 8, 3) := by decide +kernel
theorem dX2_keepRoot_57 : decode cX2_keepRoot 57 = .ok (.aload_n 0, 1) := by decide +kernel
theorem dX2_keepRoot_58 : decode cX2_keepRoot 58 = .ok (.iload_n 3, 1) := by decide +kernel
theorem dX2_keepRoot_59 : decode cX2_keepRoot 59 = .ok (.invokevirtual 64, 3) := by decide +kernel
theorem dX2_keepRoot_62 : decode cX2_keepRoot 62 = .ok (.istore 5, 2) := by decide +kernel
theorem dX2_keepRoot_64 : decode cX2_keepRoot 64 = .ok (.aload_n 0, 1) := by decide +kernel
theorem dX2_keepRoot_65 : decode cX2_keepRoot 65 = .ok (.getfield 9, 3) := by decide +kernel
theorem dX2_keepRoot_68 : decode cX2_keepRoot 68 = .ok (.aload_n 0, 1) := by decide +kernel
theorem dX2_keepRoot_69 : decode cX2_keepRoot 69 = .ok (.getfield 15, 3) := by decide +kernel
theorem dX2_keepRoot_72 : decode cX2_keepRoot 72 = .ok (.iload_n 1, 1) := by decide +kernel
theorem dX2_keepRoot_73 : decode cX2_keepRoot 73 = .ok (.bipush 64, 2) := by decide +kernel
theorem dX2_keepRoot_75 : decode cX2_keepRoot 75 = .ok (.imul, 1) := by decide +kernel
theorem dX2_keepRoot_76 : decode cX2_keepRoot 76 = .ok (.iload 5, 2) := by decide +kernel
theorem dX2_keepRoot_78 : decode cX2_keepRoot 78 = .ok (.iadd, 1) := by decide +kernel
theorem dX2_keepRoot_79 : decode cX2_keepRoot 79 = .ok (.iastore, 1) := by decide +kernel
theorem dX2_keepRoot_80 : decode cX2_keepRoot 80 = .ok (.aload_n 0, 1) := by decide +kernel
theorem dX2_keepRoot_81 : decode cX2_keepRoot 81 = .ok (.dup, 1) := by decide +kernel
theorem dX2_keepRoot_82 : decode cX2_keepRoot 82 = .ok (.getfield 15, 3) := by decide +kernel
theorem dX2_keepRoot_85 : decode cX2_keepRoot 85 = .ok (.iconst 1, 1) := by decide +kernel
theorem dX2_keepRoot_86 : decode cX2_keepRoot 86 = .ok (.iadd, 1) := by decide +kernel
theorem dX2_keepRoot_87 : decode cX2_keepRoot 87 = .ok (.putfield 15, 3) := by decide +kernel
theorem dX2_keepRoot_90 : decode cX2_keepRoot 90 = .ok (.return_, 1) := by decide +kernel
theorem dX2_boxInside_0 : decode cX2_boxInside 0 = .ok (.iconst 0, 1) := by decide +kernel
theorem dX2_boxInside_1 : decode cX2_boxInside 1 = .ok (.istore_n 2, 1) := by decide +kernel
theorem dX2_boxInside_2 : decode cX2_boxInside 2 = .ok (.bipush 32, 2) := by decide +kernel
theorem dX2_boxInside_4 : decode cX2_boxInside 4 = .ok (.istore_n 3, 1) := by decide +kernel
theorem dX2_boxInside_5 : decode cX2_boxInside 5 = .ok (.iload_n 3, 1) := by decide +kernel
theorem dX2_boxInside_6 : decode cX2_boxInside 6 = .ok (.ifCond .le 26, 3) := by decide +kernel
theorem dX2_boxInside_9 : decode cX2_boxInside 9 = .ok (.aload_n 0, 1) := by decide +kernel
theorem dX2_boxInside_10 : decode cX2_boxInside 10 = .ok (.iload_n 2, 1) := by decide +kernel
theorem dX2_boxInside_11 : decode cX2_boxInside 11 = .ok (.iload_n 3, 1) := by decide +kernel
theorem dX2_boxInside_12 : decode cX2_boxInside 12 = .ok (.iadd, 1) := by decide +kernel
theorem dX2_boxInside_13 : decode cX2_boxInside 13 = .ok (.i2l, 1) := by decide +kernel
theorem dX2_boxInside_14 : decode cX2_boxInside 14 = .ok (.iload_n 1, 1) := by decide +kernel
theorem dX2_boxInside_15 : decode cX2_boxInside 15 = .ok (.invokevirtual 60, 3) := by decide +kernel
theorem dX2_boxInside_18 : decode cX2_boxInside 18 = .ok (.ifCond .gt 7, 3) := by decide +kernel
theorem dX2_boxInside_21 : decode cX2_boxInside 21 = .ok (.iload_n 2, 1) := by decide +kernel
theorem dX2_boxInside_22 : decode cX2_boxInside 22 = .ok (.iload_n 3, 1) := by decide +kernel
theorem dX2_boxInside_23 : decode cX2_boxInside 23 = .ok (.iadd, 1) := by decide +kernel
theorem dX2_boxInside_24 : decode cX2_boxInside 24 = .ok (.istore_n 2, 1) := by decide +kernel
theorem dX2_boxInside_25 : decode cX2_boxInside 25 = .ok (.iload_n 3, 1) := by decide +kernel
theorem dX2_boxInside_26 : decode cX2_boxInside 26 = .ok (.iconst 2, 1) := by decide +kernel
theorem dX2_boxInside_27 : decode cX2_boxInside 27 = .ok (.idiv, 1) := by decide +kernel
theorem dX2_boxInside_28 : decode cX2_boxInside 28 = .ok (.istore_n 3, 1) := by decide +kernel
theorem dX2_boxInside_29 : decode cX2_boxInside 29 = .ok (.goto (-24), 3) := by decide +kernel
theorem dX2_boxInside_32 : decode cX2_boxInside 32 = .ok (.iload_n 2, 1) := by decide +kernel
theorem dX2_boxInside_33 : decode cX2_boxInside 33 = .ok (.ireturn, 1) := by decide +kernel
theorem dX2_sideOfRoot_0 : decode cX2_sideOfRoot 0 = .ok (.aload_n 0, 1) := by decide +kernel
theorem dX2_sideOfRoot_1 : decode cX2_sideOfRoot 1 = .ok (.getfield 26, 3) := by decide +kernel
theorem dX2_sideOfRoot_4 : decode cX2_sideOfRoot 4 = .ok (.lload_n 1, 1) := by decide +kernel
theorem dX2_sideOfRoot_5 : decode cX2_sideOfRoot 5 = .ok (.lmul, 1) := by decide +kernel
theorem dX2_sideOfRoot_6 : decode cX2_sideOfRoot 6 = .ok (.aload_n 0, 1) := by decide +kernel
theorem dX2_sideOfRoot_7 : decode cX2_sideOfRoot 7 = .ok (.getfield 23, 3) := by decide +kernel
theorem dX2_sideOfRoot_10 : decode cX2_sideOfRoot 10 = .ok (.ladd, 1) := by decide +kernel
theorem dX2_sideOfRoot_11 : decode cX2_sideOfRoot 11 = .ok (.lload_n 1, 1) := by decide +kernel
theorem dX2_sideOfRoot_12 : decode cX2_sideOfRoot 12 = .ok (.lmul, 1) := by decide +kernel
theorem dX2_sideOfRoot_13 : decode cX2_sideOfRoot 13 = .ok (.aload_n 0, 1) := by decide +kernel
theorem dX2_sideOfRoot_14 : decode cX2_sideOfRoot 14 = .ok (.getfield 19, 3) := by decide +kernel
theorem dX2_sideOfRoot_17 : decode cX2_sideOfRoot 17 = .ok (.ladd, 1) := by decide +kernel
theorem dX2_sideOfRoot_18 : decode cX2_sideOfRoot 18 = .ok (.lstore 4, 2) := by decide +kernel
theorem dX2_sideOfRoot_20 : decode cX2_sideOfRoot 20 = .ok (.ldc2_w 68, 3) := by decide +kernel
theorem dX2_sideOfRoot_23 : decode cX2_sideOfRoot 23 = .ok (.aload_n 0, 1) := by decide +kernel
theorem dX2_sideOfRoot_24 : decode cX2_sideOfRoot 24 = .ok (.getfield 26, 3) := by decide +kernel
theorem dX2_sideOfRoot_27 : decode cX2_sideOfRoot 27 = .ok (.lmul, 1) := by decide +kernel
theorem dX2_sideOfRoot_28 : decode cX2_sideOfRoot 28 = .ok (.lload_n 1, 1) := by decide +kernel
theorem dX2_sideOfRoot_29 : decode cX2_sideOfRoot 29 = .ok (.lmul, 1) := by decide +kernel
theorem dX2_sideOfRoot_30 : decode cX2_sideOfRoot 30 = .ok (.aload_n 0, 1) := by decide +kernel
theorem dX2_sideOfRoot_31 : decode cX2_sideOfRoot 31 = .ok (.getfield 23, 3) := by decide +kernel
theorem dX2_sideOfRoot_34 : decode cX2_sideOfRoot 34 = .ok (.ladd, 1) := by decide +kernel
theorem dX2_sideOfRoot_35 : decode cX2_sideOfRoot 35 = .ok (.lstore 6, 2) := by decide +kernel
theorem dX2_sideOfRoot_37 : decode cX2_sideOfRoot 37 = .ok (.iload_n 3, 1) := by decide +kernel
theorem dX2_sideOfRoot_38 : decode cX2_sideOfRoot 38 = .ok (.ifCond .eq 34, 3) := by decide +kernel
theorem dX2_sideOfRoot_41 : decode cX2_sideOfRoot 41 = .ok (.lload 4, 2) := by decide +kernel
theorem dX2_sideOfRoot_43 : decode cX2_sideOfRoot 43 = .ok (.lconst 0, 1) := by decide +kernel
theorem dX2_sideOfRoot_44 : decode cX2_sideOfRoot 44 = .ok (.lcmp, 1) := by decide +kernel
theorem dX2_sideOfRoot_45 : decode cX2_sideOfRoot 45 = .ok (.ifCond .lt 10, 3) := by decide +kernel
theorem dX2_sideOfRoot_48 : decode cX2_sideOfRoot 48 = .ok (.lload 6, 2) := by decide +kernel
theorem dX2_sideOfRoot_50 : decode cX2_sideOfRoot 50 = .ok (.lconst 0, 1) := by decide +kernel
theorem dX2_sideOfRoot_51 : decode cX2_sideOfRoot 51 = .ok (.lcmp, 1) := by decide +kernel
theorem dX2_sideOfRoot_52 : decode cX2_sideOfRoot 52 = .ok (.ifCond .le 7, 3) := by decide +kernel
theorem dX2_sideOfRoot_55 : decode cX2_sideOfRoot 55 = .ok (.iconst 1, 1) := by decide +kernel
theorem dX2_sideOfRoot_56 : decode cX2_sideOfRoot 56 = .ok (.goto 15, 3) := by decide +kernel
theorem dX2_sideOfRoot_59 : decode cX2_sideOfRoot 59 = .ok (.lload 4, 2) := by decide +kernel
theorem dX2_sideOfRoot_61 : decode cX2_sideOfRoot 61 = .ok (.lconst 0, 1) := by decide +kernel
theorem dX2_sideOfRoot_62 : decode cX2_sideOfRoot 62 = .ok (.lcmp, 1) := by decide +kernel
theorem dX2_sideOfRoot_63 : decode cX2_sideOfRoot 63 = .ok (.ifCond .ne 7, 3) := by decide +kernel
theorem dX2_sideOfRoot_66 : decode cX2_sideOfRoot 66 = .ok (.iconst 0, 1) := by decide +kernel
theorem dX2_sideOfRoot_67 : decode cX2_sideOfRoot 67 = .ok (.goto 4, 3) := by decide +kernel
theorem dX2_sideOfRoot_70 : decode cX2_sideOfRoot 70 = .ok (.iconst (-1), 1) := by decide +kernel
theorem dX2_sideOfRoot_71 : decode cX2_sideOfRoot 71 = .ok (.ireturn, 1) := by decide +kernel
theorem dX2_sideOfRoot_72 : decode cX2_sideOfRoot 72 = .ok (.lload 4, 2) := by decide +kernel
theorem dX2_sideOfRoot_74 : decode cX2_sideOfRoot 74 = .ok (.lconst 0, 1) := by decide +kernel
theorem dX2_sideOfRoot_75 : decode cX2_sideOfRoot 75 = .ok (.lcmp, 1) := by decide +kernel
theorem dX2_sideOfRoot_76 : decode cX2_sideOfRoot 76 = .ok (.ifCond .lt 10, 3) := by decide +kernel
theorem dX2_sideOfRoot_79 : decode cX2_sideOfRoot 79 = .ok (.lload 6, 2) := by decide +kernel
theorem dX2_sideOfRoot_81 : decode cX2_sideOfRoot 81 = .ok (.lconst 0, 1) := by decide +kernel
theorem dX2_sideOfRoot_82 : decode cX2_sideOfRoot 82 = .ok (.lcmp, 1) := by decide +kernel
theorem dX2_sideOfRoot_83 : decode cX2_sideOfRoot 83 = .ok (.ifCond .ge 7, 3) := by decide +kernel
theorem dX2_sideOfRoot_86 : decode cX2_sideOfRoot 86 = .ok (.iconst (-1), 1) := by decide +kernel
theorem dX2_sideOfRoot_87 : decode cX2_sideOfRoot 87 = .ok (.goto 15, 3) := by decide +kernel
theorem dX2_sideOfRoot_90 : decode cX2_sideOfRoot 90 = .ok (.lload 4, 2) := by decide +kernel
theorem dX2_sideOfRoot_92 : decode cX2_sideOfRoot 92 = .ok (.lconst 0, 1) := by decide +kernel
theorem dX2_sideOfRoot_93 : decode cX2_sideOfRoot 93 = .ok (.lcmp, 1) := by decide +kernel
theorem dX2_sideOfRoot_94 : decode cX2_sideOfRoot 94 = .ok (.ifCond .ne 7, 3) := by decide +kernel
theorem dX2_sideOfRoot_97 : decode cX2_sideOfRoot 97 = .ok (.iconst 0, 1) := by decide +kernel
theorem dX2_sideOfRoot_98 : decode cX2_sideOfRoot 98 = .ok (.goto 4, 3) := by decide +kernel
theorem dX2_sideOfRoot_101 : decode cX2_sideOfRoot 101 = .ok (.iconst 1, 1) := by decide +kernel
theorem dX2_sideOfRoot_102 : decode cX2_sideOfRoot 102 = .ok (.ireturn, 1) := by decide +kernel
theorem dJ9_floorDiv_7cf53_0 : decode cJ9_floorDiv_7cf53 0 = .ok (.iload_n 0, 1) := by decide +kernel
theorem dJ9_floorDiv_7cf53_1 : decode cJ9_floorDiv_7cf53 1 = .ok (.iload_n 1, 1) := by decide +kernel
theorem dJ9_floorDiv_7cf53_2 : decode cJ9_floorDiv_7cf53 2 = .ok (.idiv, 1) := by decide +kernel
theorem dJ9_floorDiv_7cf53_3 : decode cJ9_floorDiv_7cf53 3 = .ok (.istore_n 2, 1) := by decide +kernel
theorem dJ9_floorDiv_7cf53_4 : decode cJ9_floorDiv_7cf53 4 = .ok (.iload_n 0, 1) := by decide +kernel
theorem dJ9_floorDiv_7cf53_5 : decode cJ9_floorDiv_7cf53 5 = .ok (.iload_n 1, 1) := by decide +kernel
theorem dJ9_floorDiv_7cf53_6 : decode cJ9_floorDiv_7cf53 6 = .ok (.ixor, 1) := by decide +kernel
theorem dJ9_floorDiv_7cf53_7 : decode cJ9_floorDiv_7cf53 7 = .ok (.ifCond .ge 14, 3) := by decide +kernel
theorem dJ9_floorDiv_7cf53_10 : decode cJ9_floorDiv_7cf53 10 = .ok (.iload_n 2, 1) := by decide +kernel
theorem dJ9_floorDiv_7cf53_11 : decode cJ9_floorDiv_7cf53 11 = .ok (.iload_n 1, 1) := by decide +kernel
theorem dJ9_floorDiv_7cf53_12 : decode cJ9_floorDiv_7cf53 12 = .ok (.imul, 1) := by decide +kernel
theorem dJ9_floorDiv_7cf53_13 : decode cJ9_floorDiv_7cf53 13 = .ok (.iload_n 0, 1) := by decide +kernel
theorem dJ9_floorDiv_7cf53_14 : decode cJ9_floorDiv_7cf53 14 = .ok (.if_icmp .eq 7, 3) := by decide +kernel
theorem dJ9_floorDiv_7cf53_17 : decode cJ9_floorDiv_7cf53 17 = .ok (.iload_n 2, 1) := by decide +kernel
theorem dJ9_floorDiv_7cf53_18 : decode cJ9_floorDiv_7cf53 18 = .ok (.iconst 1, 1) := by decide +kernel
theorem dJ9_floorDiv_7cf53_19 : decode cJ9_floorDiv_7cf53 19 = .ok (.isub, 1) := by decide +kernel
theorem dJ9_floorDiv_7cf53_20 : decode cJ9_floorDiv_7cf53 20 = .ok (.ireturn, 1) := by decide +kernel
theorem dJ9_floorDiv_7cf53_21 : decode cJ9_floorDiv_7cf53 21 = .ok (.iload_n 2, 1) := by decide +kernel
theorem dJ9_floorDiv_7cf53_22 : decode cJ9_floorDiv_7cf53 22 = .ok (.ireturn, 1) := by decide +kernel
theorem dJ9_floorDiv_f86c9_0 : decode cJ9_floorDiv_f86c9 0 = .ok (.lload_n 0, 1) := by decide +kernel
theorem dJ9_floorDiv_f86c9_1 : decode cJ9_floorDiv_f86c9 1 = .ok (.lload_n 2, 1) := by decide +kernel
theorem dJ9_floorDiv_f86c9_2 : decode cJ9_floorDiv_f86c9 2 = .ok (.ldiv, 1) := by decide +kernel
theorem dJ9_floorDiv_f86c9_3 : decode cJ9_floorDiv_f86c9 3 = .ok (.lstore 4, 2) := by decide +kernel
theorem dJ9_floorDiv_f86c9_5 : decode cJ9_floorDiv_f86c9 5 = .ok (.lload_n 0, 1) := by decide +kernel
theorem dJ9_floorDiv_f86c9_6 : decode cJ9_floorDiv_f86c9 6 = .ok (.lload_n 2, 1) := by decide +kernel
theorem dJ9_floorDiv_f86c9_7 : decode cJ9_floorDiv_f86c9 7 = .ok (.lxor, 1) := by decide +kernel
theorem dJ9_floorDiv_f86c9_8 : decode cJ9_floorDiv_f86c9 8 = .ok (.lconst 0, 1) := by decide +kernel
theorem dJ9_floorDiv_f86c9_9 : decode cJ9_floorDiv_f86c9 9 = .ok (.lcmp, 1) := by decide +kernel
theorem dJ9_floorDiv_f86c9_10 : decode cJ9_floorDiv_f86c9 10 = .ok (.ifCond .ge 17, 3) := by decide +kernel
theorem dJ9_floorDiv_f86c9_13 : decode cJ9_floorDiv_f86c9 13 = .ok (.lload 4, 2) := by decide +kernel
theorem dJ9_floorDiv_f86c9_15 : decode cJ9_floorDiv_f86c9 15 = .ok (.lload_n 2, 1) := by decide +kernel
theorem dJ9_floorDiv_f86c9_16 : decode cJ9_floorDiv_f86c9 16 = .ok (.lmul, 1) := by decide +kernel
theorem dJ9_floorDiv_f86c9_17 : decode cJ9_floorDiv_f86c9 17 = .ok (.lload_n 0, 1) := by decide +kernel
theorem dJ9_floorDiv_f86c9_18 : decode cJ9_floorDiv_f86c9 18 = .ok (.lcmp, 1) := by decide +kernel
theorem dJ9_floorDiv_f86c9_19 : decode cJ9_floorDiv_f86c9 19 = .ok (.ifCond .eq 8, 3) := by decide +kernel
theorem dJ9_floorDiv_f86c9_22 : decode cJ9_floorDiv_f86c9 22 = .ok (.lload 4, 2) := by decide +kernel
theorem dJ9_floorDiv_f86c9_24 : decode cJ9_floorDiv_f86c9 24 = .ok (.lconst 1, 1) := by decide +kernel
theorem dJ9_floorDiv_f86c9_25 : decode cJ9_floorDiv_f86c9 25 = .ok (.lsub, 1) := by decide +kernel
theorem dJ9_floorDiv_f86c9_26 : decode cJ9_floorDiv_f86c9 26 = .ok (.lreturn, 1) := by decide +kernel
theorem dJ9_floorDiv_f86c9_27 : decode cJ9_floorDiv_f86c9 27 = .ok (.lload 4, 2) := by decide +kernel
theorem dJ9_floorDiv_f86c9_29 : decode cJ9_floorDiv_f86c9 29 = .ok (.lreturn, 1) := by decide +kernel
theorem dJ9_abs_067f4_0 : decode cJ9_abs_067f4 0 = .ok (.lload_n 0, 1) := by decide +kernel
theorem dJ9_abs_067f4_1 : decode cJ9_abs_067f4 1 = .ok (.lconst 0, 1) := by decide +kernel
theorem dJ9_abs_067f4_2 : decode cJ9_abs_067f4 2 = .ok (.lcmp, 1) := by decide +kernel
theorem dJ9_abs_067f4_3 : decode cJ9_abs_067f4 3 = .ok (.ifCond .ge 8, 3) := by decide +kernel
theorem dJ9_abs_067f4_6 : decode cJ9_abs_067f4 6 = .ok (.lload_n 0, 1) := by decide +kernel
theorem dJ9_abs_067f4_7 : decode cJ9_abs_067f4 7 = .ok (.lneg, 1) := by decide +kernel
theorem dJ9_abs_067f4_8 : decode cJ9_abs_067f4 8 = .ok (.goto 4, 3) := by decide +kernel
theorem dJ9_abs_067f4_11 : decode cJ9_abs_067f4 11 = .ok (.lload_n 0, 1) := by decide +kernel
theorem dJ9_abs_067f4_12 : decode cJ9_abs_067f4 12 = .ok (.lreturn, 1) := by decide +kernel
theorem dJ9_max_7cf53_0 : decode cJ9_max_7cf53 0 = .ok (.iload_n 0, 1) := by decide +kernel
theorem dJ9_max_7cf53_1 : decode cJ9_max_7cf53 1 = .ok (.iload_n 1, 1) := by decide +kernel
theorem dJ9_max_7cf53_2 : decode cJ9_max_7cf53 2 = .ok (.if_icmp .lt 7, 3) := by decide +kernel
theorem dJ9_max_7cf53_5 : decode cJ9_max_7cf53 5 = .ok (.iload_n 0, 1) := by decide +kernel
theorem dJ9_max_7cf53_6 : decode cJ9_max_7cf53 6 = .ok (.goto 4, 3) := by decide +kernel
theorem dJ9_max_7cf53_9 : decode cJ9_max_7cf53 9 = .ok (.iload_n 1, 1) := by decide +kernel
theorem dJ9_max_7cf53_10 : decode cJ9_max_7cf53 10 = .ok (.ireturn, 1) := by decide +kernel
theorem dJ9_max_f86c9_0 : decode cJ9_max_f86c9 0 = .ok (.lload_n 0, 1) := by decide +kernel
theorem dJ9_max_f86c9_1 : decode cJ9_max_f86c9 1 = .ok (.lload_n 2, 1) := by decide +kernel
theorem dJ9_max_f86c9_2 : decode cJ9_max_f86c9 2 = .ok (.lcmp, 1) := by decide +kernel
theorem dJ9_max_f86c9_3 : decode cJ9_max_f86c9 3 = .ok (.ifCond .lt 7, 3) := by decide +kernel
theorem dJ9_max_f86c9_6 : decode cJ9_max_f86c9 6 = .ok (.lload_n 0, 1) := by decide +kernel
theorem dJ9_max_f86c9_7 : decode cJ9_max_f86c9 7 = .ok (.goto 4, 3) := by decide +kernel
theorem dJ9_max_f86c9_10 : decode cJ9_max_f86c9 10 = .ok (.lload_n 2, 1) := by decide +kernel
theorem dJ9_max_f86c9_11 : decode cJ9_max_f86c9 11 = .ok (.lreturn, 1) := by decide +kernel
theorem dJ9_min_7cf53_0 : decode cJ9_min_7cf53 0 = .ok (.iload_n 0, 1) := by decide +kernel
theorem dJ9_min_7cf53_1 : decode cJ9_min_7cf53 1 = .ok (.iload_n 1, 1) := by decide +kernel
theorem dJ9_min_7cf53_2 : decode cJ9_min_7cf53 2 = .ok (.if_icmp .gt 7, 3) := by decide +kernel
theorem dJ9_min_7cf53_5 : decode cJ9_min_7cf53 5 = .ok (.iload_n 0, 1) := by decide +kernel
theorem dJ9_min_7cf53_6 : decode cJ9_min_7cf53 6 = .ok (.goto 4, 3) := by decide +kernel
theorem dJ9_min_7cf53_9 : decode cJ9_min_7cf53 9 = .ok (.iload_n 1, 1) := by decide +kernel
theorem dJ9_min_7cf53_10 : decode cJ9_min_7cf53 10 = .ok (.ireturn, 1) := by decide +kernel
end
section
theorem dX3_init_0 : decode cX3_init 0 = .ok (.aload_n 0, 1) := by decide +kernel
theorem dX3_init_1 : decode cX3_init 1 = .ok (.invokespecial 1, 3) := by decide +kernel
theorem dX3_init_4 : decode cX3_init 4 = .ok (.aload_n 0, 1) := by decide +kernel
theorem dX3_init_5 : decode cX3_init 5 = .ok (.bipush 6, 2) := by decide +kernel
theorem dX3_init_7 : decode cX3_init 7 = .ok (.anewarray 9, 3) := by decide +kernel
theorem dX3_init_10 : decode cX3_init 10 = .ok (.putfield 11, 3) := by decide +kernel
theorem dX3_init_13 : decode cX3_init 13 = .ok (.aload_n 0, 1) := by decide +kernel
theorem dX3_init_14 : decode cX3_init 14 = .ok (.new 9, 3) := by decide +kernel
theorem dX3_init_17 : decode cX3_init 17 = .ok (.dup, 1) := by decide +kernel
theorem dX3_init_18 : decode cX3_init 18 = .ok (.invokespecial 15, 3) := by decide +kernel
theorem dX3_init_21 : decode cX3_init 21 = .ok (.putfield 16, 3) := by decide +kernel
theorem dX3_init_24 : decode cX3_init 24 = .ok (.aload_n 0, 1) := by decide +kernel
theorem dX3_init_25 : decode cX3_init 25 = .ok (.new 20, 3) := by decide +kernel
theorem dX3_init_28 : decode cX3_init 28 = .ok (.dup, 1) := by decide +kernel
theorem dX3_init_29 : decode cX3_init 29 = .ok (.invokespecial 22, 3) := by decide +kernel
theorem dX3_init_32 : decode cX3_init 32 = .ok (.putfield 23, 3) := by decide +kernel
theorem dX3_init_35 : decode cX3_init 35 = .ok (.aload_n 0, 1) := by decide +kernel
theorem dX3_init_36 : decode cX3_init 36 = .ok (.new 27, 3) := by decide +kernel
theorem dX3_init_39 : decode cX3_init 39 = .ok (.dup, 1) := by decide +kernel
theorem dX3_init_40 : decode cX3_init 40 = .ok (.invokespecial 29, 3) := by decide +kernel
theorem dX3_init_43 : decode cX3_init 43 = .ok (.putfield 30, 3) := by decide +kernel
theorem dX3_init_46 : decode cX3_init 46 = .ok (.aload_n 0, 1) := by decide +kernel
theorem dX3_init_47 : decode cX3_init 47 = .ok (.bipush 17, 2) := by decide +kernel
theorem dX3_init_49 : decode cX3_init 49 = .ok (.newarray .int, 2) := by decide +kernel
theorem dX3_init_51 : decode cX3_init 51 = .ok (.putfield 34, 3) := by decide +kernel
theorem dX3_init_54 : decode cX3_init 54 = .ok (.aload_n 0, 1) := by decide +kernel
theorem dX3_init_55 : decode cX3_init 55 = .ok (.iconst 0, 1) := by decide +kernel
theorem dX3_init_56 : decode cX3_init 56 = .ok (.putfield 38, 3) := by decide +kernel
theorem dX3_init_59 : decode cX3_init 59 = .ok (.iconst 0, 1) := by decide +kernel
theorem dX3_init_60 : decode cX3_init 60 = .ok (.istore_n 1, 1) := by decide +kernel
theorem dX3_init_61 : decode cX3_init 61 = .ok (.iload_n 1, 1) := by decide +kernel
theorem dX3_init_62 : decode cX3_init 62 = .ok (.bipush 6, 2) := by decide +kernel
theorem dX3_init_64 : decode cX3_init 64 = .ok (.if_icmp .ge 22, 3) := by decide +kernel
theorem dX3_init_67 : decode cX3_init 67 = .ok (.aload_n 0, 1) := by decide +kernel
theorem dX3_init_68 : decode cX3_init 68 = .ok (.getfield 11, 3) := by decide +kernel
theorem dX3_init_71 : decode cX3_init 71 = .ok (.iload_n 1, 1) := by decide +kernel
theorem dX3_init_72 : decode cX3_init 72 = .ok (.new 9, 3) := by decide +kernel
theorem dX3_init_75 : decode cX3_init 75 = .ok (.dup, 1) := by decide +kernel
theorem dX3_init_76 : decode cX3_init 76 = .ok (.invokespecial 15, 3) := by decide +kernel
theorem dX3_init_79 : decode cX3_init 79 = .ok (.aastore, 1) := by decide +kernel
theorem dX3_init_80 : decode cX3_init 80 = .ok (.iinc 1 1, 3) := by decide +kernel
theorem dX3_init_83 : decode cX3_init 83 = .ok (.goto (-22), 3) := by decide +kernel
theorem dX3_init_86 : decode cX3_init 86 = .ok (.return_, 1) := by decide +kernel
theorem dX3_pieces_0 : decode cX3_pieces 0 = .ok (.iload_n 1, 1) := by decide +kernel
theorem dX3_pieces_1 : decode cX3_pieces 1 = .ok (.invokestatic 42, 3) := by decide +kernel
theorem dX3_pieces_4 : decode cX3_pieces 4 = .ok (.ifCond .eq 6, 3) := by decide +kernel
theorem dX3_pieces_7 : decode cX3_pieces 7 = .ok (.bipush (-2), 2) := by decide +kernel
theorem dX3_pieces_9 : decode cX3_pieces 9 = .ok (.ireturn, 1) := by decide +kernel
theorem dX3_pieces_10 : decode cX3_pieces 10 = .ok (.iload_n 2, 1) := by decide +kernel
theorem dX3_pieces_11 : decode cX3_pieces 11 = .ok (.iconst 1, 1) := by decide +kernel
theorem dX3_pieces_12 : decode cX3_pieces 12 = .ok (.if_icmp .lt 9, 3) := by decide +kernel
theorem dX3_pieces_15 : decode cX3_pieces 15 = .ok (.iload_n 2, 1) := by decide +kernel
theorem dX3_pieces_16 : decode cX3_pieces 16 = .ok (.bipush 16, 2) := by decide +kernel
theorem dX3_pieces_18 : decode cX3_pieces 18 = .ok (.if_icmp .le 6, 3) := by decide +kernel
theorem dX3_pieces_21 : decode cX3_pieces 21 = .ok (.bipush (-3), 2) := by decide +kernel
theorem dX3_pieces_23 : decode cX3_pieces 23 = .ok (.ireturn, 1) := by decide +kernel
theorem dX3_pieces_24 : decode cX3_pieces 24 = .ok (.aload_n 0, 1) := by decide +kernel
theorem dX3_pieces_25 : decode cX3_pieces 25 = .ok (.getfield 11, 3) := by decide +kernel
theorem dX3_pieces_28 : decode cX3_pieces 28 = .ok (.iload_n 1, 1) := by decide +kernel
theorem dX3_pieces_29 : decode cX3_pieces 29 = .ok (.aaload, 1) := by decide +kernel
theorem dX3_pieces_30 : decode cX3_pieces 30 = .ok (.iload_n 2, 1) := by decide +kernel
theorem dX3_pieces_31 : decode cX3_pieces 31 = .ok (.invokevirtual 46, 3) := by decide +kernel
theorem dX3_pieces_34 : decode cX3_pieces 34 = .ok (.iconst 1, 1) := by decide +kernel
theorem dX3_pieces_35 : decode cX3_pieces 35 = .ok (.ireturn, 1) := by decide +kernel
theorem dX3_piece_0 : decode cX3_piece 0 = .ok (.aload_n 0, 1) := by decide +kernel
theorem dX3_piece_1 : decode cX3_piece 1 = .ok (.iload_n 1, 1) := by decide +kernel
theorem dX3_piece_2 : decode cX3_piece 2 = .ok (.iload_n 2, 1) := by decide +kernel
theorem dX3_piece_3 : decode cX3_piece 3 = .ok (.invokevirtual 50, 3) := by decide +kernel
theorem dX3_piece_6 : decode cX3_piece 6 = .ok (.ifCond .eq 6, 3) := by decide +kernel
theorem dX3_piece_9 : decode cX3_piece 9 = .ok (.bipush (-2), 2) := by decide +kernel
theorem dX3_piece_11 : decode cX3_piece 11 = .ok (.ireturn, 1) := by decide +kernel
theorem dX3_piece_12 : decode cX3_piece 12 = .ok (.iload_n 3, 1) := by decide +kernel
theorem dX3_piece_13 : decode cX3_piece 13 = .ok (.ldc 54, 2) := by decide +kernel
theorem dX3_piece_15 : decode cX3_piece 15 = .ok (.invokestatic 55, 3) := by decide +kernel
theorem dX3_piece_18 : decode cX3_piece 18 = .ok (.ifCond .ne 23, 3) := by decide +kernel
theorem dX3_piece_21 : decode cX3_piece 21 = .ok (.iload 4, 2) := by decide +kernel
theorem dX3_piece_23 : decode cX3_piece 23 = .ok (.ldc 54, 2) := by decide +kernel
theorem dX3_piece_25 : decode cX3_piece 25 = .ok (.invokestatic 55, 3) := by decide +kernel
theorem dX3_piece_28 : decode cX3_piece 28 = .ok (.ifCond .ne 13, 3) := by decide +kernel
theorem dX3_piece_31 : decode cX3_piece 31 = .ok (.iload 5, 2) := by decide +kernel
theorem dX3_piece_33 : decode cX3_piece 33 = .ok (.ldc 54, 2) := by decide +kernel
theorem dX3_piece_35 : decode cX3_piece 35 = .ok (.invokestatic 55, 3) := by decide +kernel
theorem dX3_piece_38 : decode cX3_piece 38 = .ok (.ifCond .eq 6, 3) := by decide +kernel
theorem dX3_piece_41 : decode cX3_piece 41 = .ok (.bipush (-5), 2) := by decide +kernel
theorem dX3_piece_43 : decode cX3_piece 43 = .ok (.ireturn, 1) := by decide +kernel
theorem dX3_piece_44 : decode cX3_piece 44 = .ok (.aload_n 0, 1) := by decide +kernel
theorem dX3_piece_45 : decode cX3_piece 45 = .ok (.getfield 11, 3) := by decide +kernel
theorem dX3_piece_48 : decode cX3_piece 48 = .ok (.iload_n 1, 1) := by decide +kernel
theorem dX3_piece_49 : decode cX3_piece 49 = .ok (.aaload, 1) := by decide +kernel
theorem dX3_piece_50 : decode cX3_piece 50 = .ok (.iload_n 2, 1) := by decide +kernel
theorem dX3_piece_51 : decode cX3_piece 51 = .ok (.iload_n 3, 1) := by decide +kernel
theorem dX3_piece_52 : decode cX3_piece 52 = .ok (.iload 4, 2) := by decide +kernel
theorem dX3_piece_54 : decode cX3_piece 54 = .ok (.iload 5, 2) := by decide +kernel
theorem dX3_piece_56 : decode cX3_piece 56 = .ok (.invokevirtual 58, 3) := by decide +kernel
theorem dX3_piece_59 : decode cX3_piece 59 = .ok (.iconst 1, 1) := by decide +kernel
theorem dX3_piece_60 : decode cX3_piece 60 = .ok (.ireturn, 1) := by decide +kernel
theorem dX3_of_0 : decode cX3_of 0 = .ok (.aload_n 0, 1) := by decide +kernel
theorem dX3_of_1 : decode cX3_of 1 = .ok (.iload_n 1, 1) := by decide +kernel
theorem dX3_of_2 : decode cX3_of 2 = .ok (.iload_n 2, 1) := by decide +kernel
theorem dX3_of_3 : decode cX3_of 3 = .ok (.invokevirtual 50, 3) := by decide +kernel
theorem dX3_of_6 : decode cX3_of 6 = .ok (.ifCond .eq 6, 3) := by decide +kernel
theorem dX3_of_9 : decode cX3_of 9 = .ok (.ldc 62, 2) := by decide +kernel
theorem dX3_of_11 : decode cX3_of 11 = .ok (.ireturn, 1) := by decide +kernel
theorem dX3_of_12 : decode cX3_of 12 = .ok (.iload_n 3, 1) := by decide +kernel
theorem dX3_of_13 : decode cX3_of 13 = .ok (.tableswitch 63 0 2 #[27, 39, 51], 27) := by decide +kernel
theorem dX3_of_40 : decode cX3_of 40 = .ok (.aload_n 0, 1) := by decide +kernel
theorem dX3_of_41 : decode cX3_of 41 = .ok (.getfield 11, 3) := by decide +kernel
theorem dX3_of_44 : decode cX3_of 44 = .ok (.iload_n 1, 1) := by decide +kernel
theorem dX3_of_45 : decode cX3_of 45 = .ok (.aaload, 1) := by decide +kernel
theorem dX3_of_46 : decode cX3_of 46 = .ok (.getfield 63, 3) := by decide +kernel
theorem dX3_of_49 : decode cX3_of 49 = .ok (.iload_n 2, 1) := by decide +kernel
theorem dX3_of_50 : decode cX3_of 50 = .ok (.iaload, 1) := by decide +kernel
theorem dX3_of_51 : decode cX3_of 51 = .ok (.ireturn, 1) := by decide +kernel
theorem dX3_of_52 : decode cX3_of 52 = .ok (.aload_n 0, 1) := by decide +kernel
theorem dX3_of_53 : decode cX3_of 53 = .ok (.getfield 11, 3) := by decide +kernel
theorem dX3_of_56 : decode cX3_of 56 = .ok (.iload_n 1, 1) := by decide +kernel
theorem dX3_of_57 : decode cX3_of 57 = .ok (.aaload, 1) := by decide +kernel
theorem dX3_of_58 : decode cX3_of 58 = .ok (.getfield 66, 3) := by decide +kernel
theorem dX3_of_61 : decode cX3_of 61 = .ok (.iload_n 2, 1) := by decide +kernel
theorem dX3_of_62 : decode cX3_of 62 = .ok (.iaload, 1) := by decide +kernel
theorem dX3_of_63 : decode cX3_of 63 = .ok (.ireturn, 1) := by decide +kernel
theorem dX3_of_64 : decode cX3_of 64 = .ok (.aload_n 0, 1) := by decide +kernel
theorem dX3_of_65 : decode cX3_of 65 = .ok (.getfield 11, 3) := by decide +kernel
theorem dX3_of_68 : decode cX3_of 68 = .ok (.iload_n 1, 1) := by decide +kernel
theorem dX3_of_69 : decode cX3_of 69 = .ok (.aaload, 1) := by decide +kernel
theorem dX3_of_70 : decode cX3_of 70 = .ok (.getfield 69, 3) := by decide +kernel
theorem dX3_of_73 : decode cX3_of 73 = .ok (.iload_n 2, 1) := by decide +kernel
theorem dX3_of_74 : decode cX3_of 74 = .ok (.iaload, 1) := by decide +kernel
theorem dX3_of_75 : decode cX3_of 75 = .ok (.ireturn, 1) := by decide +kernel
theorem dX3_of_76 : decode cX3_of 76 = .ok (.ldc 62, 2) := by decide +kernel
theorem dX3_of_78 : decode cX3_of 78 = .ok (.ireturn, 1) := by decide +kernel
theorem dX3_value_0 : decode cX3_value 0 = .ok (.iload_n 1, 1) := by decide +kernel
theorem dX3_value_1 : decode cX3_value 1 = .ok (.invokestatic 42, 3) := by decide +kernel
theorem dX3_value_4 : decode cX3_value 4 = .ok (.ifCond .ne 22, 3) := by decide +kernel
theorem dX3_value_7 : decode cX3_value 7 = .ok (.iload 4, 2) := by decide +kernel
theorem dX3_value_9 : decode cX3_value 9 = .ok (.invokestatic 72, 3) := by decide +kernel
theorem dX3_value_12 : decode cX3_value 12 = .ok (.ifCond .ne 14, 3) := by decide +kernel
theorem dX3_value_15 : decode cX3_value 15 = .ok (.iload_n 3, 1) := by decide +kernel
theorem dX3_value_16 : decode cX3_value 16 = .ok (.iconst 1, 1) := by decide +kernel
theorem dX3_value_17 : decode cX3_value 17 = .ok (.if_icmp .lt 9, 3) := by decide +kernel
theorem dX3_value_20 : decode cX3_value 20 = .ok (.iload_n 3, 1) := by decide +kernel
theorem dX3_value_21 : decode cX3_value 21 = .ok (.bipush 64, 2) := by decide +kernel
theorem dX3_value_23 : decode cX3_value 23 = .ok (.if_icmp .le 7, 3) := by decide +kernel
theorem dX3_value_26 : decode cX3_value 26 = .ok (.ldc2_w 75, 3) := by decide +kernel
theorem dX3_value_29 : decode cX3_value 29 = .ok (.lreturn, 1) := by decide +kernel
theorem dX3_value_30 : decode cX3_value 30 = .ok (.aload_n 0, 1) := by decide +kernel
theorem dX3_value_31 : decode cX3_value 31 = .ok (.getfield 11, 3) := by decide +kernel
theorem dX3_value_34 : decode cX3_value 34 = .ok (.iload_n 1, 1) := by decide +kernel
theorem dX3_value_35 : decode cX3_value 35 = .ok (.aaload, 1) := by decide +kernel
theorem dX3_value_36 : decode cX3_value 36 = .ok (.astore 5, 2) := by decide +kernel
theorem dX3_value_38 : decode cX3_value 38 = .ok (.iload_n 2, 1) := by decide +kernel
theorem dX3_value_39 : decode cX3_value 39 = .ok (.ifCond .lt 14, 3) := by decide +kernel
theorem dX3_value_42 : decode cX3_value 42 = .ok (.iload_n 2, 1) := by decide +kernel
theorem dX3_value_43 : decode cX3_value 43 = .ok (.aload 5, 2) := by decide +kernel
theorem dX3_value_45 : decode cX3_value 45 = .ok (.getfield 77, 3) := by decide +kernel
theorem dX3_value_48 : decode cX3_value 48 = .ok (.iload_n 3, 1) := by decide +kernel
theorem dX3_value_49 : decode cX3_value 49 = .ok (.imul, 1) := by decide +kernel
theorem dX3_value_50 : decode cX3_value 50 = .ok (.if_icmp .le 7, 3) := by decide +kernel
theorem dX3_value_53 : decode cX3_value 53 = .ok (.ldc2_w 75, 3) := by decide +kernel
theorem dX3_value_56 : decode cX3_value 56 = .ok (.lreturn, 1) := by decide +kernel
theorem dX3_value_57 : decode cX3_value 57 = .ok (.iload_n 2, 1) := by decide +kernel
theorem dX3_value_58 : decode cX3_value 58 = .ok (.iload_n 3, 1) := by decide +kernel
theorem dX3_value_59 : decode cX3_value 59 = .ok (.idiv, 1) := by decide +kernel
theorem dX3_value_60 : decode cX3_value 60 = .ok (.aload 5, 2) := by decide +kernel
theorem dX3_value_62 : decode cX3_value 62 = .ok (.getfield 77, 3) := by decide +kernel
theorem dX3_value_65 : decode cX3_value 65 = .ok (.iconst 1, 1) := by decide +kernel
theorem dX3_value_66 : decode cX3_value 66 = .ok (.isub, 1) := by decide +kernel
theorem dX3_value_67 : decode cX3_value 67 = .ok (.invokestatic 80, 3) := by decide +kernel
theorem dX3_value_70 : decode cX3_value 70 = .ok (.istore 6, 2) := by decide +kernel
theorem dX3_value_72 : decode cX3_value 72 = .ok (.iload_n 2, 1) := by decide +kernel
theorem dX3_value_73 : decode cX3_value 73 = .ok (.iload 6, 2) := by decide +kernel
theorem dX3_value_75 : decode cX3_value 75 = .ok (.iload_n 3, 1) := by decide +kernel
theorem dX3_value_76 : decode cX3_value 76 = .ok (.imul, 1) := by decide +kernel
theorem dX3_value_77 : decode cX3_value 77 = .ok (.isub, 1) := by decide +kernel
theorem dX3_value_78 : decode cX3_value 78 = .ok (.i2l, 1) := by decide +kernel
theorem dX3_value_79 : decode cX3_value 79 = .ok (.lstore 7, 2) := by decide +kernel
theorem dX3_value_81 : decode cX3_value 81 = .ok (.aload 5, 2) := by decide +kernel
theorem dX3_value_83 : decode cX3_value 83 = .ok (.getfield 63, 3) := by decide +kernel
theorem dX3_value_86 : decode cX3_value 86 = .ok (.iload 6, 2) := by decide +kernel
theorem dX3_value_88 : decode cX3_value 88 = .ok (.iaload, 1) := by decide +kernel
theorem dX3_value_89 : decode cX3_value 89 = .ok (.i2l, 1) := by decide +kernel
theorem dX3_value_90 : decode cX3_value 90 = .ok (.iload_n 3, 1) := by decide +kernel
theorem dX3_value_91 : decode cX3_value 91 = .ok (.i2l, 1) := by decide +kernel
theorem dX3_value_92 : decode cX3_value 92 = .ok (.lmul, 1) := by decide +kernel
theorem dX3_value_93 : decode cX3_value 93 = .ok (.aload 5, 2) := by decide +kernel
theorem dX3_value_95 : decode cX3_value 95 = .ok (.getfield 66, 3) := by decide +kernel
theorem dX3_value_98 : decode cX3_value 98 = .ok (.iload 6, 2) := by decide +kernel
theorem dX3_value_100 : decode cX3_value 100 = .ok (.iaload, 1) := by decide +kernel
theorem dX3_value_101 : decode cX3_value 101 = .ok (.i2l, 1) := by decide +kernel
theorem dX3_value_102 : decode cX3_value 102 = .ok (.lload 7, 2) := by decide +kernel
theorem dX3_value_104 : decode cX3_value 104 = .ok (.lmul, 1) := by decide +kernel
theorem dX3_value_105 : decode cX3_value 105 = .ok (.ladd, 1) := by decide +kernel
theorem dX3_value_106 : decode cX3_value 106 = .ok (.iload_n 3, 1) := by decide +kernel
theorem dX3_value_107 : decode cX3_value 107 = .ok (.i2l, 1) := by decide +kernel
theorem dX3_value_108 : decode cX3_value 108 = .ok (.lmul, 1) := by decide +kernel
theorem dX3_value_109 : decode cX3_value 109 = .ok (.aload 5, 2) := by decide +kernel
theorem dX3_value_111 : decode cX3_value 111 = .ok (.getfield 69, 3) := by decide +kernel
theorem dX3_value_114 : decode cX3_value 114 = .ok (.iload 6, 2) := by decide +kernel
theorem dX3_value_116 : decode cX3_value 116 = .ok (.iaload, 1) := by decide +kernel
theorem dX3_value_117 : decode cX3_value 117 = .ok (.i2l, 1) := by decide +kernel
theorem dX3_value_118 : decode cX3_value 118 = .ok (.lload 7, 2) := by decide +kernel
theorem dX3_value_120 : decode cX3_value 120 = .ok (.lmul, 1) := by decide +kernel
theorem dX3_value_121 : decode cX3_value 121 = .ok (.lload 7, 2) := by decide +kernel
theorem dX3_value_123 : decode cX3_value 123 = .ok (.lmul, 1) := by decide +kernel
theorem dX3_value_124 : decode cX3_value 124 = .ok (.ladd, 1) := by decide +kernel
theorem dX3_value_125 : decode cX3_value 125 = .ok (.lstore 9, 2) := by decide +kernel
theorem dX3_value_127 : decode cX3_value 127 = .ok (.lload 9, 2) := by decide +kernel
theorem dX3_value_129 : decode cX3_value 129 = .ok (.iload_n 3, 1) := by decide +kernel
theorem dX3_value_130 : decode cX3_value 130 = .ok (.i2l, 1) := by decide +kernel
theorem dX3_value_131 : decode cX3_value 131 = .ok (.iload_n 3, 1) := by decide +kernel
theorem dX3_value_132 : decode cX3_value 132 = .ok (.i2l, 1) := by decide +kernel
theorem dX3_value_133 : decode cX3_value 133 = .ok (.lmul, 1) := by decide +kernel
theorem dX3_value_134 : decode cX3_value 134 = .ok (.iload 4, 2) := by decide +kernel
theorem dX3_value_136 : decode cX3_value 136 = .ok (.invokestatic 86, 3) := by decide +kernel
theorem dX3_value_139 : decode cX3_value 139 = .ok (.lreturn, 1) := by decide +kernel
theorem dX3_join_0 : decode cX3_join 0 = .ok (.iload_n 1, 1) := by decide +kernel
theorem dX3_join_1 : decode cX3_join 1 = .ok (.invokestatic 42, 3) := by decide +kernel
theorem dX3_join_4 : decode cX3_join 4 = .ok (.ifCond .ne 21, 3) := by decide +kernel
theorem dX3_join_7 : decode cX3_join 7 = .ok (.iload_n 2, 1) := by decide +kernel
theorem dX3_join_8 : decode cX3_join 8 = .ok (.iconst 1, 1) := by decide +kernel
theorem dX3_join_9 : decode cX3_join 9 = .ok (.if_icmp .lt 16, 3) := by decide +kernel
theorem dX3_join_12 : decode cX3_join 12 = .ok (.iload_n 2, 1) := by decide +kernel
theorem dX3_join_13 : decode cX3_join 13 = .ok (.aload_n 0, 1) := by decide +kernel
theorem dX3_join_14 : decode cX3_join 14 = .ok (.getfield 11, 3) := by decide +kernel
theorem dX3_join_17 : decode cX3_join 17 = .ok (.iload_n 1, 1) := by decide +kernel
theorem dX3_join_18 : decode cX3_join 18 = .ok (.aaload, 1) := by decide +kernel
theorem dX3_join_19 : decode cX3_join 19 = .ok (.getfield 77, 3) := by decide +kernel
theorem dX3_join_22 : decode cX3_join 22 = .ok (.if_icmp .lt 6, 3) := by decide +kernel
theorem dX3_join_25 : decode cX3_join 25 = .ok (.bipush (-2), 2) := by decide +kernel
theorem dX3_join_27 : decode cX3_join 27 = .ok (.ireturn, 1) := by decide +kernel
theorem dX3_join_28 : decode cX3_join 28 = .ok (.aload_n 0, 1) := by decide +kernel
theorem dX3_join_29 : decode cX3_join 29 = .ok (.getfield 11, 3) := by decide +kernel
theorem dX3_join_32 : decode cX3_join 32 = .ok (.iload_n 1, 1) := by decide +kernel
theorem dX3_join_33 : decode cX3_join 33 = .ok (.aaload, 1) := by decide +kernel
theorem dX3_join_34 : decode cX3_join 34 = .ok (.iload_n 2, 1) := by decide +kernel
theorem dX3_join_35 : decode cX3_join 35 = .ok (.invokevirtual 90, 3) := by decide +kernel
theorem dX3_join_38 : decode cX3_join 38 = .ok (.ireturn, 1) := by decide +kernel
theorem dX3_has_0 : decode cX3_has 0 = .ok (.iload_n 1, 1) := by decide +kernel
theorem dX3_has_1 : decode cX3_has 1 = .ok (.invokestatic 42, 3) := by decide +kernel
theorem dX3_has_4 : decode cX3_has 4 = .ok (.ifCond .eq 6, 3) := by decide +kernel
theorem dX3_has_7 : decode cX3_has 7 = .ok (.bipush (-2), 2) := by decide +kernel
theorem dX3_has_9 : decode cX3_has 9 = .ok (.ireturn, 1) := by decide +kernel
theorem dX3_has_10 : decode cX3_has 10 = .ok (.iload_n 2, 1) := by decide +kernel
theorem dX3_has_11 : decode cX3_has 11 = .ok (.iconst 1, 1) := by decide +kernel
theorem dX3_has_12 : decode cX3_has 12 = .ok (.if_icmp .lt 8, 3) := by decide +kernel
theorem dX3_has_15 : decode cX3_has 15 = .ok (.iload_n 2, 1) := by decide +kernel
theorem dX3_has_16 : decode cX3_has 16 = .ok (.iconst 4, 1) := by decide +kernel
theorem dX3_has_17 : decode cX3_has 17 = .ok (.if_icmp .le 6, 3) := by decide +kernel
theorem dX3_has_20 : decode cX3_has 20 = .ok (.bipush (-3), 2) := by decide +kernel
theorem dX3_has_22 : decode cX3_has 22 = .ok (.ireturn, 1) := by decide +kernel
theorem dX3_has_23 : decode cX3_has 23 = .ok (.iload_n 2, 1) := by decide +kernel
theorem dX3_has_24 : decode cX3_has 24 = .ok (.invokestatic 94, 3) := by decide +kernel
theorem dX3_has_27 : decode cX3_has 27 = .ok (.istore_n 3, 1) := by decide +kernel
theorem dX3_has_28 : decode cX3_has 28 = .ok (.iload_n 2, 1) := by decide +kernel
theorem dX3_has_29 : decode cX3_has 29 = .ok (.invokestatic 97, 3) := by decide +kernel
theorem dX3_has_32 : decode cX3_has 32 = .ok (.ifCond .eq 16, 3) := by decide +kernel
theorem dX3_has_35 : decode cX3_has 35 = .ok (.aload_n 0, 1) := by decide +kernel
theorem dX3_has_36 : decode cX3_has 36 = .ok (.getfield 11, 3) := by decide +kernel
theorem dX3_has_39 : decode cX3_has 39 = .ok (.iload_n 1, 1) := by decide +kernel
theorem dX3_has_40 : decode cX3_has 40 = .ok (.aaload, 1) := by decide +kernel
theorem dX3_has_41 : decode cX3_has 41 = .ok (.iload_n 3, 1) := by decide +kernel
theorem dX3_has_42 : decode cX3_has 42 = .ok (.invokevirtual 100, 3) := by decide +kernel
theorem dX3_has_45 : decode cX3_has 45 = .ok (.goto 13, 3) := by decide +kernel
theorem dX3_has_48 : decode cX3_has 48 = .ok (.aload_n 0, 1) := by decide +kernel
theorem dX3_has_49 : decode cX3_has 49 = .ok (.getfield 11, 3) := by decide +kernel
theorem dX3_has_52 : decode cX3_has 52 = .ok (.iload_n 1, 1) := by decide +kernel
theorem dX3_has_53 : decode cX3_has 53 = .ok (.aaload, 1) := by decide +kernel
theorem dX3_has_54 : decode cX3_has 54 = .ok (.iload_n 3, 1) := by decide +kernel
theorem dX3_has_55 : decode cX3_has 55 = .ok (.invokevirtual 103, 3) := by decide +kernel
theorem dX3_has_58 : decode cX3_has 58 = .ok (.istore 4, 2) := by decide +kernel
theorem dX3_has_60 : decode cX3_has 60 = .ok (.iload 4, 2) := by decide +kernel
theorem dX3_has_62 : decode cX3_has 62 = .ok (.ifCond .eq 7, 3) := by decide +kernel
theorem dX3_has_65 : decode cX3_has 65 = .ok (.iconst 1, 1) := by decide +kernel
theorem dX3_has_66 : decode cX3_has 66 = .ok (.goto 4, 3) := by decide +kernel
theorem dX3_has_69 : decode cX3_has 69 = .ok (.iconst 0, 1) := by decide +kernel
theorem dX3_has_70 : decode cX3_has 70 = .ok (.ireturn, 1) := by decide +kernel
theorem dX3_end_0 : decode cX3_end 0 = .ok (.iload_n 1, 1) := by decide +kernel
theorem dX3_end_1 : decode cX3_end 1 = .ok (.invokestatic 42, 3) := by decide +kernel
theorem dX3_end_4 : decode cX3_end 4 = .ok (.ifCond .eq 6, 3) := by decide +kernel
theorem dX3_end_7 : decode cX3_end 7 = .ok (.ldc 62, 2) := by decide +kernel
theorem dX3_end_9 : decode cX3_end 9 = .ok (.ireturn, 1) := by decide +kernel
theorem dX3_end_10 : decode cX3_end 10 = .ok (.iload_n 2, 1) := by decide +kernel
theorem dX3_end_11 : decode cX3_end 11 = .ok (.lookupswitch 50 #[(0, 25), (1, 37)], 25) := by decide +kernel
theorem dX3_end_36 : decode cX3_end 36 = .ok (.aload_n 0, 1) := by decide +kernel
theorem dX3_end_37 : decode cX3_end 37 = .ok (.getfield 11, 3) := by decide +kernel
theorem dX3_end_40 : decode cX3_end 40 = .ok (.iload_n 1, 1) := by decide +kernel
theorem dX3_end_41 : decode cX3_end 41 = .ok (.aaload, 1) := by decide +kernel
theorem dX3_end_42 : decode cX3_end 42 = .ok (.iconst 1, 1) := by decide +kernel
theorem dX3_end_43 : decode cX3_end 43 = .ok (.invokevirtual 106, 3) := by decide +kernel
theorem dX3_end_46 : decode cX3_end 46 = .ok (.l2i, 1) := by decide +kernel
theorem dX3_end_47 : decode cX3_end 47 = .ok (.ireturn, 1) := by decide +kernel
theorem dX3_end_48 : decode cX3_end 48 = .ok (.aload_n 0, 1) := by decide +kernel
theorem dX3_end_49 : decode cX3_end 49 = .ok (.getfield 11, 3) := by decide +kernel
theorem dX3_end_52 : decode cX3_end 52 = .ok (.iload_n 1, 1) := by decide +kernel
theorem dX3_end_53 : decode cX3_end 53 = .ok (.aaload, 1) := by decide +kernel
theorem dX3_end_54 : decode cX3_end 54 = .ok (.iconst (-1), 1) := by decide +kernel
theorem dX3_end_55 : decode cX3_end 55 = .ok (.invokevirtual 106, 3) := by decide +kernel
theorem dX3_end_58 : decode cX3_end 58 = .ok (.lneg, 1) := by decide +kernel
theorem dX3_end_59 : decode cX3_end 59 = .ok (.l2i, 1) := by decide +kernel
theorem dX3_end_60 : decode cX3_end 60 = .ok (.ireturn, 1) := by decide +kernel
theorem dX3_end_61 : decode cX3_end 61 = .ok (.ldc 62, 2) := by decide +kernel
theorem dX3_end_63 : decode cX3_end 63 = .ok (.ireturn, 1) := by decide +kernel
theorem dX3_zeros_0 : decode cX3_zeros 0 = .ok (.iload_n 1, 1) := by decide +kernel
theorem dX3_zeros_1 : decode cX3_zeros 1 = .ok (.invokestatic 42, 3) := by decide +kernel
theorem dX3_zeros_4 : decode cX3_zeros 4 = .ok (.ifCond .eq 6, 3) := by decide +kernel
theorem dX3_zeros_7 : decode cX3_zeros 7 = .ok (.bipush (-2), 2) := by decide +kernel
theorem dX3_zeros_9 : decode cX3_zeros 9 = .ok (.ireturn, 1) := by decide +kernel
theorem dX3_zeros_10 : decode cX3_zeros 10 = .ok (.aload_n 0, 1) := by decide +kernel
theorem dX3_zeros_11 : decode cX3_zeros 11 = .ok (.aload_n 0, 1) := by decide +kernel
theorem dX3_zeros_12 : decode cX3_zeros 12 = .ok (.getfield 11, 3) := by decide +kernel
theorem dX3_zeros_15 : decode cX3_zeros 15 = .ok (.iload_n 1, 1) := by decide +kernel
theorem dX3_zeros_16 : decode cX3_zeros 16 = .ok (.aaload, 1) := by decide +kernel
theorem dX3_zeros_17 : decode cX3_zeros 17 = .ok (.invokevirtual 110, 3) := by decide +kernel
theorem dX3_zeros_20 : decode cX3_zeros 20 = .ok (.ireturn, 1) := by decide +kernel
theorem dX3_zero_0 : decode cX3_zero 0 = .ok (.iload_n 1, 1) := by decide +kernel
theorem dX3_zero_1 : decode cX3_zero 1 = .ok (.invokestatic 42, 3) := by decide +kernel
theorem dX3_zero_4 : decode cX3_zero 4 = .ok (.ifCond .eq 6, 3) := by decide +kernel
theorem dX3_zero_7 : decode cX3_zero 7 = .ok (.bipush (-2), 2) := by decide +kernel
theorem dX3_zero_9 : decode cX3_zero 9 = .ok (.ireturn, 1) := by decide +kernel
theorem dX3_zero_10 : decode cX3_zero 10 = .ok (.aload_n 0, 1) := by decide +kernel
theorem dX3_zero_11 : decode cX3_zero 11 = .ok (.aload_n 0, 1) := by decide +kernel
theorem dX3_zero_12 : decode cX3_zero 12 = .ok (.getfield 11, 3) := by decide +kernel
theorem dX3_zero_15 : decode cX3_zero 15 = .ok (.iload_n 1, 1) := by decide +kernel
theorem dX3_zero_16 : decode cX3_zero 16 = .ok (.aaload, 1) := by decide +kernel
theorem dX3_zero_17 : decode cX3_zero 17 = .ok (.invokevirtual 110, 3) := by decide +kernel
theorem dX3_zero_20 : decode cX3_zero 20 = .ok (.istore_n 3, 1) := by decide +kernel
theorem dX3_zero_21 : decode cX3_zero 21 = .ok (.iload_n 3, 1) := by decide +kernel
theorem dX3_zero_22 : decode cX3_zero 22 = .ok (.bipush (-4), 2) := by decide +kernel
theorem dX3_zero_24 : decode cX3_zero 24 = .ok (.if_icmp .ne 6, 3) := by decide +kernel
theorem dX3_zero_27 : decode cX3_zero 27 = .ok (.bipush (-4), 2) := by decide +kernel
theorem dX3_zero_29 : decode cX3_zero 29 = .ok (.ireturn, 1) := by decide +kernel
theorem dX3_zero_30 : decode cX3_zero 30 = .ok (.iload_n 2, 1) := by decide +kernel
theorem dX3_zero_31 : decode cX3_zero 31 = .ok (.ifCond .lt 8, 3) := by decide +kernel
theorem dX3_zero_34 : decode cX3_zero 34 = .ok (.iload_n 2, 1) := by decide +kernel
theorem dX3_zero_35 : decode cX3_zero 35 = .ok (.iload_n 3, 1) := by decide +kernel
theorem dX3_zero_36 : decode cX3_zero 36 = .ok (.if_icmp .lt 6, 3) := by decide +kernel
theorem dX3_zero_39 : decode cX3_zero 39 = .ok (.bipush (-2), 2) := by decide +kernel
theorem dX3_zero_41 : decode cX3_zero 41 = .ok (.ireturn, 1) := by decide +kernel
theorem dX3_zero_42 : decode cX3_zero 42 = .ok (.aload_n 0, 1) := by decide +kernel
theorem dX3_zero_43 : decode cX3_zero 43 = .ok (.getfield 23, 3) := by decide +kernel
theorem dX3_zero_46 : decode cX3_zero 46 = .ok (.getfield 114, 3) := by decide +kernel
theorem dX3_zero_49 : decode cX3_zero 49 = .ok (.iload_n 2, 1) := by decide +kernel
theorem dX3_zero_50 : decode cX3_zero 50 = .ok (.iaload, 1) := by decide +kernel
theorem dX3_zero_51 : decode cX3_zero 51 = .ok (.ireturn, 1) := by decide +kernel
theorem dX3_area_0 : decode cX3_area 0 = .ok (.iload_n 1, 1) := by decide +kernel
theorem dX3_area_1 : decode cX3_area 1 = .ok (.invokestatic 42, 3) := by decide +kernel
theorem dX3_area_4 : decode cX3_area 4 = .ok (.ifCond .ne 11, 3) := by decide +kernel
theorem dX3_area_7 : decode cX3_area 7 = .ok (.iload 4, 2) := by decide +kernel
theorem dX3_area_9 : decode cX3_area 9 = .ok (.invokestatic 72, 3) := by decide +kernel
theorem dX3_area_12 : decode cX3_area 12 = .ok (.ifCond .eq 7, 3) := by decide +kernel
theorem dX3_area_15 : decode cX3_area 15 = .ok (.ldc2_w 75, 3) := by decide +kernel
theorem dX3_area_18 : decode cX3_area 18 = .ok (.lreturn, 1) := by decide +kernel
theorem dX3_area_19 : decode cX3_area 19 = .ok (.aload_n 0, 1) := by decide +kernel
theorem dX3_area_20 : decode cX3_area 20 = .ok (.getfield 11, 3) := by decide +kernel
theorem dX3_area_23 : decode cX3_area 23 = .ok (.iload_n 1, 1) := by decide +kernel
theorem dX3_area_24 : decode cX3_area 24 = .ok (.aaload, 1) := by decide +kernel
theorem dX3_area_25 : decode cX3_area 25 = .ok (.astore 5, 2) := by decide +kernel
theorem dX3_area_27 : decode cX3_area 27 = .ok (.iload_n 2, 1) := by decide +kernel
theorem dX3_area_28 : decode cX3_area 28 = .ok (.ifCond .lt 17, 3) := by decide +kernel
theorem dX3_area_31 : decode cX3_area 31 = .ok (.iload_n 2, 1) := by decide +kernel
theorem dX3_area_32 : decode cX3_area 32 = .ok (.iload_n 3, 1) := by decide +kernel
theorem dX3_area_33 : decode cX3_area 33 = .ok (.if_icmp .gt 12, 3) := by decide +kernel
theorem dX3_area_36 : decode cX3_area 36 = .ok (.iload_n 3, 1) := by decide +kernel
theorem dX3_area_37 : decode cX3_area 37 = .ok (.aload 5, 2) := by decide +kernel
theorem dX3_area_39 : decode cX3_area 39 = .ok (.getfield 77, 3) := by decide +kernel
theorem dX3_area_42 : decode cX3_area 42 = .ok (.if_icmp .le 7, 3) := by decide +kernel
theorem dX3_area_45 : decode cX3_area 45 = .ok (.ldc2_w 75, 3) := by decide +kernel
theorem dX3_area_48 : decode cX3_area 48 = .ok (.lreturn, 1) := by decide +kernel
theorem dX3_area_49 : decode cX3_area 49 = .ok (.lconst 0, 1) := by decide +kernel
theorem dX3_area_50 : decode cX3_area 50 = .ok (.lstore 6, 2) := by decide +kernel
theorem dX3_area_52 : decode cX3_area 52 = .ok (.iload_n 2, 1) := by decide +kernel
theorem dX3_area_53 : decode cX3_area 53 = .ok (.istore 8, 2) := by decide +kernel
theorem dX3_area_55 : decode cX3_area 55 = .ok (.iload 8, 2) := by decide +kernel
theorem dX3_area_57 : decode cX3_area 57 = .ok (.iload_n 3, 1) := by decide +kernel
theorem dX3_area_58 : decode cX3_area 58 = .ok (.if_icmp .ge 55, 3) := by decide +kernel
theorem dX3_area_61 : decode cX3_area 61 = .ok (.lload 6, 2) := by decide +kernel
theorem dX3_area_63 : decode cX3_area 63 = .ok (.ldc2_w 117, 3) := by decide +kernel
theorem dX3_area_66 : decode cX3_area 66 = .ok (.aload 5, 2) := by decide +kernel
theorem dX3_area_68 : decode cX3_area 68 = .ok (.getfield 63, 3) := by decide +kernel
theorem dX3_area_71 : decode cX3_area 71 = .ok (.iload 8, 2) := by decide +kernel
theorem dX3_area_73 : decode cX3_area 73 = .ok (.iaload, 1) := by decide +kernel
theorem dX3_area_74 : decode cX3_area 74 = .ok (.i2l, 1) := by decide +kernel
theorem dX3_area_75 : decode cX3_area 75 = .ok (.lmul, 1) := by decide +kernel
theorem dX3_area_76 : decode cX3_area 76 = .ok (.ldc2_w 119, 3) := by decide +kernel
theorem dX3_area_79 : decode cX3_area 79 = .ok (.aload 5, 2) := by decide +kernel
theorem dX3_area_81 : decode cX3_area 81 = .ok (.getfield 66, 3) := by decide +kernel
theorem dX3_area_84 : decode cX3_area 84 = .ok (.iload 8, 2) := by decide +kernel
theorem dX3_area_86 : decode cX3_area 86 = .ok (.iaload, 1) := by decide +kernel
theorem dX3_area_87 : decode cX3_area 87 = .ok (.i2l, 1) := by decide +kernel
theorem dX3_area_88 : decode cX3_area 88 = .ok (.lmul, 1) := by decide +kernel
theorem dX3_area_89 : decode cX3_area 89 = .ok (.ladd, 1) := by decide +kernel
theorem dX3_area_90 : decode cX3_area 90 = .ok (.ldc2_w 121, 3) := by decide +kernel
theorem dX3_area_93 : decode cX3_area 93 = .ok (.aload 5, 2) := by decide +kernel
theorem dX3_area_95 : decode cX3_area 95 = .ok (.getfield 69, 3) := by decide +kernel
theorem dX3_area_98 : decode cX3_area 98 = .ok (.iload 8, 2) := by decide +kernel
theorem dX3_area_100 : decode cX3_area 100 = .ok (.iaload, 1) := by decide +kernel
theorem dX3_area_101 : decode cX3_area 101 = .ok (.i2l, 1) := by decide +kernel
theorem dX3_area_102 : decode cX3_area 102 = .ok (.lmul, 1) := by decide +kernel
theorem dX3_area_103 : decode cX3_area 103 = .ok (.ladd, 1) := by decide +kernel
theorem dX3_area_104 : decode cX3_area 104 = .ok (.ladd, 1) := by decide +kernel
theorem dX3_area_105 : decode cX3_area 105 = .ok (.lstore 6, 2) := by decide +kernel
theorem dX3_area_107 : decode cX3_area 107 = .ok (.iinc 8 1, 3) := by decide +kernel
theorem dX3_area_110 : decode cX3_area 110 = .ok (.goto (-55), 3) := by decide +kernel
theorem dX3_area_113 : decode cX3_area 113 = .ok (.lload 6, 2) := by decide +kernel
theorem dX3_area_115 : decode cX3_area 115 = .ok (.ldc2_w 117, 3) := by decide +kernel
theorem dX3_area_118 : decode cX3_area 118 = .ok (.iload 4, 2) := by decide +kernel
theorem dX3_area_120 : decode cX3_area 120 = .ok (.invokestatic 86, 3) := by decide +kernel
theorem dX3_area_123 : decode cX3_area 123 = .ok (.lreturn, 1) := by decide +kernel
theorem dX3_same_0 : decode cX3_same 0 = .ok (.iload_n 1, 1) := by decide +kernel
theorem dX3_same_1 : decode cX3_same 1 = .ok (.invokestatic 42, 3) := by decide +kernel
theorem dX3_same_4 : decode cX3_same 4 = .ok (.ifCond .ne 10, 3) := by decide +kernel
theorem dX3_same_7 : decode cX3_same 7 = .ok (.iload_n 2, 1) := by decide +kernel
theorem dX3_same_8 : decode cX3_same 8 = .ok (.invokestatic 42, 3) := by decide +kernel
theorem dX3_same_11 : decode cX3_same 11 = .ok (.ifCond .eq 6, 3) := by decide +kernel
theorem dX3_same_14 : decode cX3_same 14 = .ok (.bipush (-2), 2) := by decide +kernel
theorem dX3_same_16 : decode cX3_same 16 = .ok (.ireturn, 1) := by decide +kernel
theorem dX3_same_17 : decode cX3_same 17 = .ok (.aload_n 0, 1) := by decide +kernel
theorem dX3_same_18 : decode cX3_same 18 = .ok (.getfield 11, 3) := by decide +kernel
theorem dX3_same_21 : decode cX3_same 21 = .ok (.iload_n 1, 1) := by decide +kernel
theorem dX3_same_22 : decode cX3_same 22 = .ok (.aaload, 1) := by decide +kernel
theorem dX3_same_23 : decode cX3_same 23 = .ok (.aload_n 0, 1) := by decide +kernel
theorem dX3_same_24 : decode cX3_same 24 = .ok (.getfield 11, 3) := by decide +kernel
theorem dX3_same_27 : decode cX3_same 27 = .ok (.iload_n 2, 1) := by decide +kernel
theorem dX3_same_28 : decode cX3_same 28 = .ok (.aaload, 1) := by decide +kernel
theorem dX3_same_29 : decode cX3_same 29 = .ok (.invokevirtual 123, 3) := by decide +kernel
theorem dX3_same_32 : decode cX3_same 32 = .ok (.ifCond .eq 7, 3) := by decide +kernel
theorem dX3_same_35 : decode cX3_same 35 = .ok (.iconst 1, 1) := by decide +kernel
theorem dX3_same_36 : decode cX3_same 36 = .ok (.goto 4, 3) := by decide +kernel
theorem dX3_same_39 : decode cX3_same 39 = .ok (.iconst 0, 1) := by decide +kernel
theorem dX3_same_40 : decode cX3_same 40 = .ok (.ireturn, 1) := by decide +kernel
theorem dX3_meets_0 : decode cX3_meets 0 = .ok (.iload_n 1, 1) := by decide +kernel
theorem dX3_meets_1 : decode cX3_meets 1 = .ok (.invokestatic 42, 3) := by decide +kernel
theorem dX3_meets_4 : decode cX3_meets 4 = .ok (.ifCond .ne 10, 3) := by decide +kernel
theorem dX3_meets_7 : decode cX3_meets 7 = .ok (.iload_n 2, 1) := by decide +kernel
theorem dX3_meets_8 : decode cX3_meets 8 = .ok (.invokestatic 42, 3) := by decide +kernel
theorem dX3_meets_11 : decode cX3_meets 11 = .ok (.ifCond .eq 6, 3) := by decide +kernel
theorem dX3_meets_14 : decode cX3_meets 14 = .ok (.bipush (-2), 2) := by decide +kernel
theorem dX3_meets_16 : decode cX3_meets 16 = .ok (.ireturn, 1) := by decide +kernel
theorem dX3_meets_17 : decode cX3_meets 17 = .ok (.aload_n 0, 1) := by decide +kernel
theorem dX3_meets_18 : decode cX3_meets 18 = .ok (.getfield 11, 3) := by decide +kernel
theorem dX3_meets_21 : decode cX3_meets 21 = .ok (.iload_n 1, 1) := by decide +kernel
theorem dX3_meets_22 : decode cX3_meets 22 = .ok (.aaload, 1) := by decide +kernel
theorem dX3_meets_23 : decode cX3_meets 23 = .ok (.getfield 77, 3) := by decide +kernel
theorem dX3_meets_26 : decode cX3_meets 26 = .ok (.aload_n 0, 1) := by decide +kernel
theorem dX3_meets_27 : decode cX3_meets 27 = .ok (.getfield 11, 3) := by decide +kernel
theorem dX3_meets_30 : decode cX3_meets 30 = .ok (.iload_n 2, 1) := by decide +kernel
theorem dX3_meets_31 : decode cX3_meets 31 = .ok (.aaload, 1) := by decide +kernel
theorem dX3_meets_32 : decode cX3_meets 32 = .ok (.getfield 77, 3) := by decide +kernel
theorem dX3_meets_35 : decode cX3_meets 35 = .ok (.if_icmp .eq 6, 3) := by decide +kernel
theorem dX3_meets_38 : decode cX3_meets 38 = .ok (.bipush (-4), 2) := by decide +kernel
theorem dX3_meets_40 : decode cX3_meets 40 = .ok (.ireturn, 1) := by decide +kernel
theorem dX3_meets_41 : decode cX3_meets 41 = .ok (.aload_n 0, 1) := by decide +kernel
theorem dX3_meets_42 : decode cX3_meets 42 = .ok (.getfield 16, 3) := by decide +kernel
theorem dX3_meets_45 : decode cX3_meets 45 = .ok (.aload_n 0, 1) := by decide +kernel
theorem dX3_meets_46 : decode cX3_meets 46 = .ok (.getfield 11, 3) := by decide +kernel
theorem dX3_meets_49 : decode cX3_meets 49 = .ok (.iload_n 1, 1) := by decide +kernel
theorem dX3_meets_50 : decode cX3_meets 50 = .ok (.aaload, 1) := by decide +kernel
theorem dX3_meets_51 : decode cX3_meets 51 = .ok (.iconst 1, 1) := by decide +kernel
theorem dX3_meets_52 : decode cX3_meets 52 = .ok (.aload_n 0, 1) := by decide +kernel
theorem dX3_meets_53 : decode cX3_meets 53 = .ok (.getfield 11, 3) := by decide +kernel
theorem dX3_meets_56 : decode cX3_meets 56 = .ok (.iload_n 2, 1) := by decide +kernel
theorem dX3_meets_57 : decode cX3_meets 57 = .ok (.aaload, 1) := by decide +kernel
theorem dX3_meets_58 : decode cX3_meets 58 = .ok (.iconst (-1), 1) := by decide +kernel
theorem dX3_meets_59 : decode cX3_meets 59 = .ok (.invokevirtual 127, 3) := by decide +kernel
theorem dX3_meets_62 : decode cX3_meets 62 = .ok (.aload_n 0, 1) := by decide +kernel
theorem dX3_meets_63 : decode cX3_meets 63 = .ok (.aload_n 0, 1) := by decide +kernel
theorem dX3_meets_64 : decode cX3_meets 64 = .ok (.getfield 16, 3) := by decide +kernel
theorem dX3_meets_67 : decode cX3_meets 67 = .ok (.invokevirtual 110, 3) := by decide +kernel
theorem dX3_meets_70 : decode cX3_meets 70 = .ok (.ireturn, 1) := by decide +kernel
theorem dX3_mix_0 : decode cX3_mix 0 = .ok (.iload_n 1, 1) := by decide +kernel
theorem dX3_mix_1 : decode cX3_mix 1 = .ok (.invokestatic 42, 3) := by decide +kernel
theorem dX3_mix_4 : decode cX3_mix 4 = .ok (.ifCond .ne 18, 3) := by decide +kernel
theorem dX3_mix_7 : decode cX3_mix 7 = .ok (.iload_n 2, 1) := by decide +kernel
theorem dX3_mix_8 : decode cX3_mix 8 = .ok (.invokestatic 42, 3) := by decide +kernel
theorem dX3_mix_11 : decode cX3_mix 11 = .ok (.ifCond .ne 11, 3) := by decide +kernel
theorem dX3_mix_14 : decode cX3_mix 14 = .ok (.iload 4, 2) := by decide +kernel
theorem dX3_mix_16 : decode cX3_mix 16 = .ok (.invokestatic 42, 3) := by decide +kernel
theorem dX3_mix_19 : decode cX3_mix 19 = .ok (.ifCond .eq 6, 3) := by decide +kernel
theorem dX3_mix_22 : decode cX3_mix 22 = .ok (.bipush (-2), 2) := by decide +kernel
theorem dX3_mix_24 : decode cX3_mix 24 = .ok (.ireturn, 1) := by decide +kernel
theorem dX3_mix_25 : decode cX3_mix 25 = .ok (.iload_n 3, 1) := by decide +kernel
theorem dX3_mix_26 : decode cX3_mix 26 = .ok (.bipush 100, 2) := by decide +kernel
theorem dX3_mix_28 : decode cX3_mix 28 = .ok (.invokestatic 55, 3) := by decide +kernel
theorem dX3_mix_31 : decode cX3_mix 31 = .ok (.ifCond .ne 13, 3) := by decide +kernel
theorem dX3_mix_34 : decode cX3_mix 34 = .ok (.iload 5, 2) := by decide +kernel
theorem dX3_mix_36 : decode cX3_mix 36 = .ok (.bipush 100, 2) := by decide +kernel
theorem dX3_mix_38 : decode cX3_mix 38 = .ok (.invokestatic 55, 3) := by decide +kernel
theorem dX3_mix_41 : decode cX3_mix 41 = .ok (.ifCond .eq 6, 3) := by decide +kernel
theorem dX3_mix_44 : decode cX3_mix 44 = .ok (.bipush (-3), 2) := by decide +kernel
theorem dX3_mix_46 : decode cX3_mix 46 = .ok (.ireturn, 1) := by decide +kernel
theorem dX3_mix_47 : decode cX3_mix 47 = .ok (.aload_n 0, 1) := by decide +kernel
theorem dX3_mix_48 : decode cX3_mix 48 = .ok (.getfield 11, 3) := by decide +kernel
theorem dX3_mix_51 : decode cX3_mix 51 = .ok (.iload_n 2, 1) := by decide +kernel
theorem dX3_mix_52 : decode cX3_mix 52 = .ok (.aaload, 1) := by decide +kernel
theorem dX3_mix_53 : decode cX3_mix 53 = .ok (.getfield 77, 3) := by decide +kernel
theorem dX3_mix_56 : decode cX3_mix 56 = .ok (.aload_n 0, 1) := by decide +kernel
theorem dX3_mix_57 : decode cX3_mix 57 = .ok (.getfield 11, 3) := by decide +kernel
theorem dX3_mix_60 : decode cX3_mix 60 = .ok (.iload 4, 2) := by decide +kernel
theorem dX3_mix_62 : decode cX3_mix 62 = .ok (.aaload, 1) := by decide +kernel
theorem dX3_mix_63 : decode cX3_mix 63 = .ok (.getfield 77, 3) := by decide +kernel
theorem dX3_mix_66 : decode cX3_mix 66 = .ok (.if_icmp .eq 6, 3) := by decide +kernel
theorem dX3_mix_69 : decode cX3_mix 69 = .ok (.bipush (-4), 2) := by decide +kernel
theorem dX3_mix_71 : decode cX3_mix 71 = .ok (.ireturn, 1) := by decide +kernel
theorem dX3_mix_72 : decode cX3_mix 72 = .ok (.aload_n 0, 1) := by decide +kernel
theorem dX3_mix_73 : decode cX3_mix 73 = .ok (.getfield 16, 3) := by decide +kernel
theorem dX3_mix_76 : decode cX3_mix 76 = .ok (.aload_n 0, 1) := by decide +kernel
theorem dX3_mix_77 : decode cX3_mix 77 = .ok (.getfield 11, 3) := by decide +kernel
theorem dX3_mix_80 : decode cX3_mix 80 = .ok (.iload_n 2, 1) := by decide +kernel
theorem dX3_mix_81 : decode cX3_mix 81 = .ok (.aaload, 1) := by decide +kernel
theorem dX3_mix_82 : decode cX3_mix 82 = .ok (.iload_n 3, 1) := by decide +kernel
theorem dX3_mix_83 : decode cX3_mix 83 = .ok (.aload_n 0, 1) := by decide +kernel
theorem dX3_mix_84 : decode cX3_mix 84 = .ok (.getfield 11, 3) := by decide +kernel
theorem dX3_mix_87 : decode cX3_mix 87 = .ok (.iload 4, 2) := by decide +kernel
theorem dX3_mix_89 : decode cX3_mix 89 = .ok (.aaload, 1) := by decide +kernel
theorem dX3_mix_90 : decode cX3_mix 90 = .ok (.iload 5, 2) := by decide +kernel
theorem dX3_mix_92 : decode cX3_mix 92 = .ok (.invokevirtual 127, 3) := by decide +kernel
theorem dX3_mix_95 : decode cX3_mix 95 = .ok (.aload_n 0, 1) := by decide +kernel
theorem dX3_mix_96 : decode cX3_mix 96 = .ok (.aload_n 0, 1) := by decide +kernel
theorem dX3_mix_97 : decode cX3_mix 97 = .ok (.getfield 11, 3) := by decide +kernel
theorem dX3_mix_100 : decode cX3_mix 100 = .ok (.iload_n 1, 1) := by decide +kernel
theorem dX3_mix_101 : decode cX3_mix 101 = .ok (.aaload, 1) := by decide +kernel
theorem dX3_mix_102 : decode cX3_mix 102 = .ok (.invokevirtual 131, 3) := by decide +kernel
theorem dX3_mix_105 : decode cX3_mix 105 = .ok (.ireturn, 1) := by decide +kernel
theorem dX3_refine_0 : decode cX3_refine 0 = .ok (.iload_n 1, 1) := by decide +kernel
theorem dX3_refine_1 : decode cX3_refine 1 = .ok (.invokestatic 42, 3) := by decide +kernel
theorem dX3_refine_4 : decode cX3_refine 4 = .ok (.ifCond .ne 10, 3) := by decide +kernel
theorem dX3_refine_7 : decode cX3_refine 7 = .ok (.iload_n 2, 1) := by decide +kernel
theorem dX3_refine_8 : decode cX3_refine 8 = .ok (.invokestatic 42, 3) := by decide +kernel
theorem dX3_refine_11 : decode cX3_refine 11 = .ok (.ifCond .eq 6, 3) := by decide +kernel
theorem dX3_refine_14 : decode cX3_refine 14 = .ok (.bipush (-2), 2) := by decide +kernel
theorem dX3_refine_16 : decode cX3_refine 16 = .ok (.ireturn, 1) := by decide +kernel
theorem dX3_refine_17 : decode cX3_refine 17 = .ok (.aload_n 0, 1) := by decide +kernel
theorem dX3_refine_18 : decode cX3_refine 18 = .ok (.getfield 11, 3) := by decide +kernel
theorem dX3_refine_21 : decode cX3_refine 21 = .ok (.iload_n 2, 1) := by decide +kernel
theorem dX3_refine_22 : decode cX3_refine 22 = .ok (.aaload, 1) := by decide +kernel
theorem dX3_refine_23 : decode cX3_refine 23 = .ok (.getfield 77, 3) := by decide +kernel
theorem dX3_refine_26 : decode cX3_refine 26 = .ok (.bipush 8, 2) := by decide +kernel
theorem dX3_refine_28 : decode cX3_refine 28 = .ok (.if_icmp .le 6, 3) := by decide +kernel
theorem dX3_refine_31 : decode cX3_refine 31 = .ok (.bipush (-4), 2) := by decide +kernel
theorem dX3_refine_33 : decode cX3_refine 33 = .ok (.ireturn, 1) := by decide +kernel
theorem dX3_refine_34 : decode cX3_refine 34 = .ok (.aload_n 0, 1) := by decide +kernel
theorem dX3_refine_35 : decode cX3_refine 35 = .ok (.getfield 16, 3) := by decide +kernel
theorem dX3_refine_38 : decode cX3_refine 38 = .ok (.aload_n 0, 1) := by decide +kernel
theorem dX3_refine_39 : decode cX3_refine 39 = .ok (.getfield 11, 3) := by decide +kernel
theorem dX3_refine_42 : decode cX3_refine 42 = .ok (.iload_n 2, 1) := by decide +kernel
theorem dX3_refine_43 : decode cX3_refine 43 = .ok (.aaload, 1) := by decide +kernel
theorem dX3_refine_44 : decode cX3_refine 44 = .ok (.invokevirtual 134, 3) := by decide +kernel
theorem dX3_refine_47 : decode cX3_refine 47 = .ok (.aload_n 0, 1) := by decide +kernel
theorem dX3_refine_48 : decode cX3_refine 48 = .ok (.aload_n 0, 1) := by decide +kernel
theorem dX3_refine_49 : decode cX3_refine 49 = .ok (.getfield 11, 3) := by decide +kernel
theorem dX3_refine_52 : decode cX3_refine 52 = .ok (.iload_n 1, 1) := by decide +kernel
theorem dX3_refine_53 : decode cX3_refine 53 = .ok (.aaload, 1) := by decide +kernel
theorem dX3_refine_54 : decode cX3_refine 54 = .ok (.invokevirtual 131, 3) := by decide +kernel
theorem dX3_refine_57 : decode cX3_refine 57 = .ok (.ireturn, 1) := by decide +kernel
theorem dX3_slope_0 : decode cX3_slope 0 = .ok (.iload_n 1, 1) := by decide +kernel
theorem dX3_slope_1 : decode cX3_slope 1 = .ok (.invokestatic 42, 3) := by decide +kernel
theorem dX3_slope_4 : decode cX3_slope 4 = .ok (.ifCond .ne 10, 3) := by decide +kernel
theorem dX3_slope_7 : decode cX3_slope 7 = .ok (.iload_n 2, 1) := by decide +kernel
theorem dX3_slope_8 : decode cX3_slope 8 = .ok (.invokestatic 42, 3) := by decide +kernel
theorem dX3_slope_11 : decode cX3_slope 11 = .ok (.ifCond .eq 6, 3) := by decide +kernel
theorem dX3_slope_14 : decode cX3_slope 14 = .ok (.bipush (-2), 2) := by decide +kernel
theorem dX3_slope_16 : decode cX3_slope 16 = .ok (.ireturn, 1) := by decide +kernel
theorem dX3_slope_17 : decode cX3_slope 17 = .ok (.aload_n 0, 1) := by decide +kernel
theorem dX3_slope_18 : decode cX3_slope 18 = .ok (.getfield 16, 3) := by decide +kernel
theorem dX3_slope_21 : decode cX3_slope 21 = .ok (.aload_n 0, 1) := by decide +kernel
theorem dX3_slope_22 : decode cX3_slope 22 = .ok (.getfield 11, 3) := by decide +kernel
theorem dX3_slope_25 : decode cX3_slope 25 = .ok (.iload_n 2, 1) := by decide +kernel
theorem dX3_slope_26 : decode cX3_slope 26 = .ok (.aaload, 1) := by decide +kernel
theorem dX3_slope_27 : decode cX3_slope 27 = .ok (.invokevirtual 138, 3) := by decide +kernel
theorem dX3_slope_30 : decode cX3_slope 30 = .ok (.aload_n 0, 1) := by decide +kernel
theorem dX3_slope_31 : decode cX3_slope 31 = .ok (.aload_n 0, 1) := by decide +kernel
theorem dX3_slope_32 : decode cX3_slope 32 = .ok (.getfield 11, 3) := by decide +kernel
theorem dX3_slope_35 : decode cX3_slope 35 = .ok (.iload_n 1, 1) := by decide +kernel
theorem dX3_slope_36 : decode cX3_slope 36 = .ok (.aaload, 1) := by decide +kernel
theorem dX3_slope_37 : decode cX3_slope 37 = .ok (.invokevirtual 131, 3) := by decide +kernel
theorem dX3_slope_40 : decode cX3_slope 40 = .ok (.ireturn, 1) := by decide +kernel
theorem dX3_push_0 : decode cX3_push 0 = .ok (.iload_n 1, 1) := by decide +kernel
theorem dX3_push_1 : decode cX3_push 1 = .ok (.invokestatic 42, 3) := by decide +kernel
theorem dX3_push_4 : decode cX3_push 4 = .ok (.ifCond .eq 6, 3) := by decide +kernel
theorem dX3_push_7 : decode cX3_push 7 = .ok (.bipush (-2), 2) := by decide +kernel
theorem dX3_push_9 : decode cX3_push 9 = .ok (.ireturn, 1) := by decide +kernel
theorem dX3_push_10 : decode cX3_push 10 = .ok (.iload_n 2, 1) := by decide +kernel
theorem dX3_push_11 : decode cX3_push 11 = .ok (.ldc 54, 2) := by decide +kernel
theorem dX3_push_13 : decode cX3_push 13 = .ok (.invokestatic 55, 3) := by decide +kernel
theorem dX3_push_16 : decode cX3_push 16 = .ok (.ifCond .eq 6, 3) := by decide +kernel
theorem dX3_push_19 : decode cX3_push 19 = .ok (.bipush (-3), 2) := by decide +kernel
theorem dX3_push_21 : decode cX3_push 21 = .ok (.ireturn, 1) := by decide +kernel
theorem dX3_push_22 : decode cX3_push 22 = .ok (.aload_n 0, 1) := by decide +kernel
theorem dX3_push_23 : decode cX3_push 23 = .ok (.getfield 16, 3) := by decide +kernel
theorem dX3_push_26 : decode cX3_push 26 = .ok (.aload_n 0, 1) := by decide +kernel
theorem dX3_push_27 : decode cX3_push 27 = .ok (.getfield 11, 3) := by decide +kernel
theorem dX3_push_30 : decode cX3_push 30 = .ok (.iload_n 1, 1) := by decide +kernel
theorem dX3_push_31 : decode cX3_push 31 = .ok (.aaload, 1) := by decide +kernel
theorem dX3_push_32 : decode cX3_push 32 = .ok (.iload_n 2, 1) := by decide +kernel
theorem dX3_push_33 : decode cX3_push 33 = .ok (.invokevirtual 141, 3) := by decide +kernel
theorem dX3_push_36 : decode cX3_push 36 = .ok (.aload_n 0, 1) := by decide +kernel
theorem dX3_push_37 : decode cX3_push 37 = .ok (.aload_n 0, 1) := by decide +kernel
theorem dX3_push_38 : decode cX3_push 38 = .ok (.getfield 11, 3) := by decide +kernel
theorem dX3_push_41 : decode cX3_push 41 = .ok (.iload_n 1, 1) := by decide +kernel
theorem dX3_push_42 : decode cX3_push 42 = .ok (.aaload, 1) := by decide +kernel
theorem dX3_push_43 : decode cX3_push 43 = .ok (.invokevirtual 131, 3) := by decide +kernel
theorem dX3_push_46 : decode cX3_push 46 = .ok (.ireturn, 1) := by decide +kernel
theorem dX3_point_0 : decode cX3_point 0 = .ok (.iload_n 1, 1) := by decide +kernel
theorem dX3_point_1 : decode cX3_point 1 = .ok (.sipush 1000, 3) := by decide +kernel
theorem dX3_point_4 : decode cX3_point 4 = .ok (.invokestatic 55, 3) := by decide +kernel
theorem dX3_point_7 : decode cX3_point 7 = .ok (.ifCond .eq 6, 3) := by decide +kernel
theorem dX3_point_10 : decode cX3_point 10 = .ok (.bipush (-3), 2) := by decide +kernel
theorem dX3_point_12 : decode cX3_point 12 = .ok (.ireturn, 1) := by decide +kernel
theorem dX3_point_13 : decode cX3_point 13 = .ok (.aload_n 0, 1) := by decide +kernel
theorem dX3_point_14 : decode cX3_point 14 = .ok (.getfield 38, 3) := by decide +kernel
theorem dX3_point_17 : decode cX3_point 17 = .ok (.bipush 17, 2) := by decide +kernel
theorem dX3_point_19 : decode cX3_point 19 = .ok (.if_icmp .lt 6, 3) := by decide +kernel
theorem dX3_point_22 : decode cX3_point 22 = .ok (.bipush (-6), 2) := by decide +kernel
theorem dX3_point_24 : decode cX3_point 24 = .ok (.ireturn, 1) := by decide +kernel
theorem dX3_point_25 : decode cX3_point 25 = .ok (.aload_n 0, 1) := by decide +kernel
theorem dX3_point_26 : decode cX3_point 26 = .ok (.getfield 34, 3) := by decide +kernel
theorem dX3_point_29 : decode cX3_point 29 = .ok (.aload_n 0, 1) := by decide +kernel
theorem dX3_point_30 : decode cX3_point 30 = .ok (.getfield 38, 3) := by decide +kernel
theorem dX3_point_33 : decode cX3_point 33 = .ok (.iload_n 1, 1) := by decide +kernel
theorem dX3_point_34 : decode cX3_point 34 = .ok (.iastore, 1) := by decide +kernel
theorem dX3_point_35 : decode cX3_point 35 = .ok (.aload_n 0, 1) := by decide +kernel
theorem dX3_point_36 : decode cX3_point 36 = .ok (.dup, 1) := by decide +kernel
theorem dX3_point_37 : decode cX3_point 37 = .ok (.getfield 38, 3) := by decide +kernel
theorem dX3_point_40 : decode cX3_point 40 = .ok (.iconst 1, 1) := by decide +kernel
theorem dX3_point_41 : decode cX3_point 41 = .ok (.iadd, 1) := by decide +kernel
theorem dX3_point_42 : decode cX3_point 42 = .ok (.putfield 38, 3) := by decide +kernel
theorem dX3_point_45 : decode cX3_point 45 = .ok (.aload_n 0, 1) := by decide +kernel
theorem dX3_point_46 : decode cX3_point 46 = .ok (.getfield 38, 3) := by decide +kernel
theorem dX3_point_49 : decode cX3_point 49 = .ok (.ireturn, 1) := by decide +kernel
theorem dX3_clear_0 : decode cX3_clear 0 = .ok (.aload_n 0, 1) := by decide +kernel
theorem dX3_clear_1 : decode cX3_clear 1 = .ok (.getfield 38, 3) := by decide +kernel
theorem dX3_clear_4 : decode cX3_clear 4 = .ok (.istore_n 1, 1) := by decide +kernel
theorem dX3_clear_5 : decode cX3_clear 5 = .ok (.aload_n 0, 1) := by decide +kernel
theorem dX3_clear_6 : decode cX3_clear 6 = .ok (.iconst 0, 1) := by decide +kernel
theorem dX3_clear_7 : decode cX3_clear 7 = .ok (.putfield 38, 3) := by decide +kernel
theorem dX3_clear_10 : decode cX3_clear 10 = .ok (.iload_n 1, 1) := by decide +kernel
theorem dX3_clear_11 : decode cX3_clear 11 = .ok (.ireturn, 1) := by decide +kernel
theorem dX3_slopes_0 : decode cX3_slopes 0 = .ok (.iload_n 1, 1) := by decide +kernel
theorem dX3_slopes_1 : decode cX3_slopes 1 = .ok (.invokestatic 145, 3) := by decide +kernel
theorem dX3_slopes_4 : decode cX3_slopes 4 = .ok (.ifCond .ne 19, 3) := by decide +kernel
theorem dX3_slopes_7 : decode cX3_slopes 7 = .ok (.iload_n 2, 1) := by decide +kernel
theorem dX3_slopes_8 : decode cX3_slopes 8 = .ok (.ifCond .lt 15, 3) := by decide +kernel
theorem dX3_slopes_11 : decode cX3_slopes 11 = .ok (.iload_n 2, 1) := by decide +kernel
theorem dX3_slopes_12 : decode cX3_slopes 12 = .ok (.iconst 2, 1) := by decide +kernel
theorem dX3_slopes_13 : decode cX3_slopes 13 = .ok (.if_icmp .gt 10, 3) := by decide +kernel
theorem dX3_slopes_16 : decode cX3_slopes 16 = .ok (.aload_n 0, 1) := by decide +kernel
theorem dX3_slopes_17 : decode cX3_slopes 17 = .ok (.invokevirtual 148, 3) := by decide +kernel
theorem dX3_slopes_20 : decode cX3_slopes 20 = .ok (.ifCond .eq 6, 3) := by decide +kernel
theorem dX3_slopes_23 : decode cX3_slopes 23 = .ok (.ldc 62, 2) := by decide +kernel
theorem dX3_slopes_25 : decode cX3_slopes 25 = .ok (.ireturn, 1) := by decide +kernel
theorem dX3_slopes_26 : decode cX3_slopes 26 = .ok (.aload_n 0, 1) := by decide +kernel
theorem dX3_slopes_27 : decode cX3_slopes 27 = .ok (.iload_n 1, 1) := by decide +kernel
theorem dX3_slopes_28 : decode cX3_slopes 28 = .ok (.invokevirtual 152, 3) := by decide +kernel
theorem dX3_slopes_31 : decode cX3_slopes 31 = .ok (.iload_n 2, 1) := by decide +kernel
theorem dX3_slopes_32 : decode cX3_slopes 32 = .ok (.iconst 2, 1) := by decide +kernel
theorem dX3_slopes_33 : decode cX3_slopes 33 = .ok (.if_icmp .ne 11, 3) := by decide +kernel
theorem dX3_slopes_36 : decode cX3_slopes 36 = .ok (.aload_n 0, 1) := by decide +kernel
theorem dX3_slopes_37 : decode cX3_slopes 37 = .ok (.getfield 30, 3) := by decide +kernel
theorem dX3_slopes_40 : decode cX3_slopes 40 = .ok (.invokevirtual 155, 3) := by decide +kernel
theorem dX3_slopes_43 : decode cX3_slopes 43 = .ok (.ireturn, 1) := by decide +kernel
theorem dX3_slopes_44 : decode cX3_slopes 44 = .ok (.aload_n 0, 1) := by decide +kernel
theorem dX3_slopes_45 : decode cX3_slopes 45 = .ok (.getfield 30, 3) := by decide +kernel
theorem dX3_slopes_48 : decode cX3_slopes 48 = .ok (.invokevirtual 155, 3) := by decide +kernel
theorem dX3_slopes_51 : decode cX3_slopes 51 = .ok (.ifCond .ne 7, 3) := by decide +kernel
theorem dX3_slopes_54 : decode cX3_slopes 54 = .ok (.sipush 2000, 3) := by decide +kernel
theorem dX3_slopes_57 : decode cX3_slopes 57 = .ok (.ireturn, 1) := by decide +kernel
theorem dX3_slopes_58 : decode cX3_slopes 58 = .ok (.iload_n 2, 1) := by decide +kernel
theorem dX3_slopes_59 : decode cX3_slopes 59 = .ok (.ifCond .ne 13, 3) := by decide +kernel
theorem dX3_slopes_62 : decode cX3_slopes 62 = .ok (.aload_n 0, 1) := by decide +kernel
theorem dX3_slopes_63 : decode cX3_slopes 63 = .ok (.getfield 30, 3) := by decide +kernel
theorem dX3_slopes_66 : decode cX3_slopes 66 = .ok (.getfield 158, 3) := by decide +kernel
theorem dX3_slopes_69 : decode cX3_slopes 69 = .ok (.goto 10, 3) := by decide +kernel
theorem dX3_slopes_72 : decode cX3_slopes 72 = .ok (.aload_n 0, 1) := by decide +kernel
theorem dX3_slopes_73 : decode cX3_slopes 73 = .ok (.getfield 30, 3) := by decide +kernel
theorem dX3_slopes_76 : decode cX3_slopes 76 = .ok (.getfield 161, 3) := by decide +kernel
theorem dX3_slopes_79 : decode cX3_slopes 79 = .ok (.ireturn, 1) := by decide +kernel
theorem dX3_best_0 : decode cX3_best 0 = .ok (.iload_n 1, 1) := by decide +kernel
theorem dX3_best_1 : decode cX3_best 1 = .ok (.invokestatic 145, 3) := by decide +kernel
theorem dX3_best_4 : decode cX3_best 4 = .ok (.ifCond .ne 10, 3) := by decide +kernel
theorem dX3_best_7 : decode cX3_best 7 = .ok (.aload_n 0, 1) := by decide +kernel
theorem dX3_best_8 : decode cX3_best 8 = .ok (.invokevirtual 148, 3) := by decide +kernel
theorem dX3_best_11 : decode cX3_best 11 = .ok (.ifCond .eq 6, 3) := by decide +kernel
theorem dX3_best_14 : decode cX3_best 14 = .ok (.ldc 62, 2) := by decide +kernel
theorem dX3_best_16 : decode cX3_best 16 = .ok (.ireturn, 1) := by decide +kernel
theorem dX3_best_17 : decode cX3_best 17 = .ok (.aload_n 0, 1) := by decide +kernel
theorem dX3_best_18 : decode cX3_best 18 = .ok (.iload_n 1, 1) := by decide +kernel
theorem dX3_best_19 : decode cX3_best 19 = .ok (.invokevirtual 152, 3) := by decide +kernel
theorem dX3_best_22 : decode cX3_best 22 = .ok (.aload_n 0, 1) := by decide +kernel
theorem dX3_best_23 : decode cX3_best 23 = .ok (.getfield 30, 3) := by decide +kernel
theorem dX3_best_26 : decode cX3_best 26 = .ok (.invokevirtual 155, 3) := by decide +kernel
theorem dX3_best_29 : decode cX3_best 29 = .ok (.ifCond .ne 7, 3) := by decide +kernel
theorem dX3_best_32 : decode cX3_best 32 = .ok (.sipush 2000, 3) := by decide +kernel
theorem dX3_best_35 : decode cX3_best 35 = .ok (.ireturn, 1) := by decide +kernel
theorem dX3_best_36 : decode cX3_best 36 = .ok (.aload_n 0, 1) := by decide +kernel
theorem dX3_best_37 : decode cX3_best 37 = .ok (.getfield 30, 3) := by decide +kernel
theorem dX3_best_40 : decode cX3_best 40 = .ok (.getfield 158, 3) := by decide +kernel
theorem dX3_best_43 : decode cX3_best 43 = .ok (.aload_n 0, 1) := by decide +kernel
theorem dX3_best_44 : decode cX3_best 44 = .ok (.getfield 30, 3) := by decide +kernel
theorem dX3_best_47 : decode cX3_best 47 = .ok (.getfield 161, 3) := by decide +kernel
theorem dX3_best_50 : decode cX3_best 50 = .ok (.aload_n 0, 1) := by decide +kernel
theorem dX3_best_51 : decode cX3_best 51 = .ok (.invokevirtual 164, 3) := by decide +kernel
theorem dX3_best_54 : decode cX3_best 54 = .ok (.invokestatic 80, 3) := by decide +kernel
theorem dX3_best_57 : decode cX3_best 57 = .ok (.invokestatic 167, 3) := by decide +kernel
theorem dX3_best_60 : decode cX3_best 60 = .ok (.ireturn, 1) := by decide +kernel
theorem dX3_bend_0 : decode cX3_bend 0 = .ok (.iload_n 1, 1) := by decide +kernel
theorem dX3_bend_1 : decode cX3_bend 1 = .ok (.sipush 1000, 3) := by decide +kernel
theorem dX3_bend_4 : decode cX3_bend 4 = .ok (.invokestatic 55, 3) := by decide +kernel
theorem dX3_bend_7 : decode cX3_bend 7 = .ok (.ifCond .eq 7, 3) := by decide +kernel
theorem dX3_bend_10 : decode cX3_bend 10 = .ok (.ldc2_w 170, 3) := by decide +kernel
theorem dX3_bend_13 : decode cX3_bend 13 = .ok (.lreturn, 1) := by decide +kernel
theorem dX3_bend_14 : decode cX3_bend 14 = .ok (.aload_n 0, 1) := by decide +kernel
theorem dX3_bend_15 : decode cX3_bend 15 = .ok (.invokevirtual 148, 3) := by decide +kernel
theorem dX3_bend_18 : decode cX3_bend 18 = .ok (.ifCond .eq 7, 3) := by decide +kernel
theorem dX3_bend_21 : decode cX3_bend 21 = .ok (.ldc2_w 172, 3) := by decide +kernel
theorem dX3_bend_24 : decode cX3_bend 24 = .ok (.lreturn, 1) := by decide +kernel
theorem dX3_bend_25 : decode cX3_bend 25 = .ok (.aload_n 0, 1) := by decide +kernel
theorem dX3_bend_26 : decode cX3_bend 26 = .ok (.iload_n 1, 1) := by decide +kernel
theorem dX3_bend_27 : decode cX3_bend 27 = .ok (.invokevirtual 174, 3) := by decide +kernel
theorem dX3_bend_30 : decode cX3_bend 30 = .ok (.lconst 0, 1) := by decide +kernel
theorem dX3_bend_31 : decode cX3_bend 31 = .ok (.lstore_n 2, 1) := by decide +kernel
theorem dX3_bend_32 : decode cX3_bend 32 = .ok (.iconst 0, 1) := by decide +kernel
theorem dX3_bend_33 : decode cX3_bend 33 = .ok (.istore 4, 2) := by decide +kernel
theorem dX3_bend_35 : decode cX3_bend 35 = .ok (.iload 4, 2) := by decide +kernel
theorem dX3_bend_37 : decode cX3_bend 37 = .ok (.aload_n 0, 1) := by decide +kernel
theorem dX3_bend_38 : decode cX3_bend 38 = .ok (.getfield 16, 3) := by decide +kernel
theorem dX3_bend_41 : decode cX3_bend 41 = .ok (.getfield 77, 3) := by decide +kernel
theorem dX3_bend_44 : decode cX3_bend 44 = .ok (.if_icmp .ge 35, 3) := by decide +kernel
theorem dX3_bend_47 : decode cX3_bend 47 = .ok (.lload_n 2, 1) := by decide +kernel
theorem dX3_bend_48 : decode cX3_bend 48 = .ok (.aload_n 0, 1) := by decide +kernel
theorem dX3_bend_49 : decode cX3_bend 49 = .ok (.getfield 16, 3) := by decide +kernel
theorem dX3_bend_52 : decode cX3_bend 52 = .ok (.getfield 69, 3) := by decide +kernel
theorem dX3_bend_55 : decode cX3_bend 55 = .ok (.iload 4, 2) := by decide +kernel
theorem dX3_bend_57 : decode cX3_bend 57 = .ok (.iaload, 1) := by decide +kernel
theorem dX3_bend_58 : decode cX3_bend 58 = .ok (.i2l, 1) := by decide +kernel
theorem dX3_bend_59 : decode cX3_bend 59 = .ok (.aload_n 0, 1) := by decide +kernel
theorem dX3_bend_60 : decode cX3_bend 60 = .ok (.getfield 16, 3) := by decide +kernel
theorem dX3_bend_63 : decode cX3_bend 63 = .ok (.getfield 69, 3) := by decide +kernel
theorem dX3_bend_66 : decode cX3_bend 66 = .ok (.iload 4, 2) := by decide +kernel
theorem dX3_bend_68 : decode cX3_bend 68 = .ok (.iaload, 1) := by decide +kernel
theorem dX3_bend_69 : decode cX3_bend 69 = .ok (.i2l, 1) := by decide +kernel
theorem dX3_bend_70 : decode cX3_bend 70 = .ok (.lmul, 1) := by decide +kernel
theorem dX3_bend_71 : decode cX3_bend 71 = .ok (.ladd, 1) := by decide +kernel
theorem dX3_bend_72 : decode cX3_bend 72 = .ok (.lstore_n 2, 1) := by decide +kernel
theorem dX3_bend_73 : decode cX3_bend 73 = .ok (.iinc 4 1, 3) := by decide +kernel
theorem dX3_bend_76 : decode cX3_bend 76 = .ok (.goto (-41), 3) := by decide +kernel
theorem dX3_bend_79 : decode cX3_bend 79 = .ok (.lload_n 2, 1) := by decide +kernel
theorem dX3_bend_80 : decode cX3_bend 80 = .ok (.lreturn, 1) := by decide +kernel
theorem dX3_spline_0 : decode cX3_spline 0 = .ok (.iload_n 1, 1) := by decide +kernel
theorem dX3_spline_1 : decode cX3_spline 1 = .ok (.invokestatic 42, 3) := by decide +kernel
theorem dX3_spline_4 : decode cX3_spline 4 = .ok (.ifCond .eq 6, 3) := by decide +kernel
theorem dX3_spline_7 : decode cX3_spline 7 = .ok (.bipush (-2), 2) := by decide +kernel
theorem dX3_spline_9 : decode cX3_spline 9 = .ok (.ireturn, 1) := by decide +kernel
theorem dX3_spline_10 : decode cX3_spline 10 = .ok (.iload_n 2, 1) := by decide +kernel
theorem dX3_spline_11 : decode cX3_spline 11 = .ok (.sipush 1000, 3) := by decide +kernel
theorem dX3_spline_14 : decode cX3_spline 14 = .ok (.invokestatic 55, 3) := by decide +kernel
theorem dX3_spline_17 : decode cX3_spline 17 = .ok (.ifCond .eq 6, 3) := by decide +kernel
theorem dX3_spline_20 : decode cX3_spline 20 = .ok (.bipush (-3), 2) := by decide +kernel
theorem dX3_spline_22 : decode cX3_spline 22 = .ok (.ireturn, 1) := by decide +kernel
theorem dX3_spline_23 : decode cX3_spline 23 = .ok (.aload_n 0, 1) := by decide +kernel
theorem dX3_spline_24 : decode cX3_spline 24 = .ok (.invokevirtual 148, 3) := by decide +kernel
theorem dX3_spline_27 : decode cX3_spline 27 = .ok (.ifCond .eq 6, 3) := by decide +kernel
theorem dX3_spline_30 : decode cX3_spline 30 = .ok (.bipush (-4), 2) := by decide +kernel
theorem dX3_spline_32 : decode cX3_spline 32 = .ok (.ireturn, 1) := by decide +kernel
theorem dX3_spline_33 : decode cX3_spline 33 = .ok (.aload_n 0, 1) := by decide +kernel
theorem dX3_spline_34 : decode cX3_spline 34 = .ok (.iload_n 2, 1) := by decide +kernel
theorem dX3_spline_35 : decode cX3_spline 35 = .ok (.invokevirtual 174, 3) := by decide +kernel
theorem dX3_spline_38 : decode cX3_spline 38 = .ok (.aload_n 0, 1) := by decide +kernel
theorem dX3_spline_39 : decode cX3_spline 39 = .ok (.aload_n 0, 1) := by decide +kernel
theorem dX3_spline_40 : decode cX3_spline 40 = .ok (.getfield 11, 3) := by decide +kernel
theorem dX3_spline_43 : decode cX3_spline 43 = .ok (.iload_n 1, 1) := by decide +kernel
theorem dX3_spline_44 : decode cX3_spline 44 = .ok (.aaload, 1) := by decide +kernel
theorem dX3_spline_45 : decode cX3_spline 45 = .ok (.invokevirtual 131, 3) := by decide +kernel
theorem dX3_spline_48 : decode cX3_spline 48 = .ok (.ireturn, 1) := by decide +kernel
theorem dX3_count_0 : decode cX3_count 0 = .ok (.iload_n 1, 1) := by decide +kernel
theorem dX3_count_1 : decode cX3_count 1 = .ok (.invokestatic 42, 3) := by decide +kernel
theorem dX3_count_4 : decode cX3_count 4 = .ok (.ifCond .eq 6, 3) := by decide +kernel
theorem dX3_count_7 : decode cX3_count 7 = .ok (.bipush (-2), 2) := by decide +kernel
theorem dX3_count_9 : decode cX3_count 9 = .ok (.ireturn, 1) := by decide +kernel
theorem dX3_count_10 : decode cX3_count 10 = .ok (.iload_n 2, 1) := by decide +kernel
theorem dX3_count_11 : decode cX3_count 11 = .ok (.tableswitch 57 0 2 #[25, 35, 46], 25) := by decide +kernel
theorem dX3_count_36 : decode cX3_count 36 = .ok (.aload_n 0, 1) := by decide +kernel
theorem dX3_count_37 : decode cX3_count 37 = .ok (.getfield 11, 3) := by decide +kernel
theorem dX3_count_40 : decode cX3_count 40 = .ok (.iload_n 1, 1) := by decide +kernel
theorem dX3_count_41 : decode cX3_count 41 = .ok (.aaload, 1) := by decide +kernel
theorem dX3_count_42 : decode cX3_count 42 = .ok (.getfield 77, 3) := by decide +kernel
theorem dX3_count_45 : decode cX3_count 45 = .ok (.ireturn, 1) := by decide +kernel
theorem dX3_count_46 : decode cX3_count 46 = .ok (.aload_n 0, 1) := by decide +kernel
theorem dX3_count_47 : decode cX3_count 47 = .ok (.getfield 11, 3) := by decide +kernel
theorem dX3_count_50 : decode cX3_count 50 = .ok (.iload_n 1, 1) := by decide +kernel
theorem dX3_count_51 : decode cX3_count 51 = .ok (.aaload, 1) := by decide +kernel
theorem dX3_count_52 : decode cX3_count 52 = .ok (.iconst (-1), 1) := by decide +kernel
theorem dX3_count_53 : decode cX3_count 53 = .ok (.invokevirtual 177, 3) := by decide +kernel
theorem dX3_count_56 : decode cX3_count 56 = .ok (.ireturn, 1) := by decide +kernel
theorem dX3_count_57 : decode cX3_count 57 = .ok (.aload_n 0, 1) := by decide +kernel
theorem dX3_count_58 : decode cX3_count 58 = .ok (.getfield 11, 3) := by decide +kernel
theorem dX3_count_61 : decode cX3_count 61 = .ok (.iload_n 1, 1) := by decide +kernel
theorem dX3_count_62 : decode cX3_count 62 = .ok (.aaload, 1) := by decide +kernel
theorem dX3_count_63 : decode cX3_count 63 = .ok (.iconst 2, 1) := by decide +kernel
theorem dX3_count_64 : decode cX3_count 64 = .ok (.invokevirtual 177, 3) := by decide +kernel
theorem dX3_count_67 : decode cX3_count 67 = .ok (.ireturn, 1) := by decide +kernel
theorem dX3_count_68 : decode cX3_count 68 = .ok (.bipush (-3), 2) := by decide +kernel
theorem dX3_count_70 : decode cX3_count 70 = .ok (.ireturn, 1) := by decide +kernel
theorem dX3_isNoPlace_0 : decode cX3_isNoPlace 0 = .ok (.iload_n 0, 1) := by decide +kernel
theorem dX3_isNoPlace_1 : decode cX3_isNoPlace 1 = .ok (.ifCond .lt 9, 3) := by decide +kernel
theorem dX3_isNoPlace_4 : decode cX3_isNoPlace 4 = .ok (.iload_n 0, 1) := by decide +kernel
theorem dX3_isNoPlace_5 : decode cX3_isNoPlace 5 = .ok (.bipush 6, 2) := by decide +kernel
theorem dX3_isNoPlace_7 : decode cX3_isNoPlace 7 = .ok (.if_icmp .lt 7, 3) := by decide +kernel
theorem dX3_isNoPlace_10 : decode cX3_isNoPlace 10 = .ok (.iconst 1, 1) := by decide +kernel
theorem dX3_isNoPlace_11 : decode cX3_isNoPlace 11 = .ok (.goto 4, 3) := by decide +kernel
theorem dX3_isNoPlace_14 : decode cX3_isNoPlace 14 = .ok (.iconst 0, 1) := by decide +kernel
theorem dX3_isNoPlace_15 : decode cX3_isNoPlace 15 = .ok (.ireturn, 1) := by decide +kernel
theorem dX3_isNoPiece_0 : decode cX3_isNoPiece 0 = .ok (.iload_n 1, 1) := by decide +kernel
theorem dX3_isNoPiece_1 : decode cX3_isNoPiece 1 = .ok (.invokestatic 42, 3) := by decide +kernel
theorem dX3_isNoPiece_4 : decode cX3_isNoPiece 4 = .ok (.ifCond .ne 20, 3) := by decide +kernel
theorem dX3_isNoPiece_7 : decode cX3_isNoPiece 7 = .ok (.iload_n 2, 1) := by decide +kernel
theorem dX3_isNoPiece_8 : decode cX3_isNoPiece 8 = .ok (.ifCond .lt 16, 3) := by decide +kernel
theorem dX3_isNoPiece_11 : decode cX3_isNoPiece 11 = .ok (.iload_n 2, 1) := by decide +kernel
theorem dX3_isNoPiece_12 : decode cX3_isNoPiece 12 = .ok (.aload_n 0, 1) := by decide +kernel
theorem dX3_isNoPiece_13 : decode cX3_isNoPiece 13 = .ok (.getfield 11, 3) := by decide +kernel
theorem dX3_isNoPiece_16 : decode cX3_isNoPiece 16 = .ok (.iload_n 1, 1) := by decide +kernel
theorem dX3_isNoPiece_17 : decode cX3_isNoPiece 17 = .ok (.aaload, 1) := by decide +kernel
theorem dX3_isNoPiece_18 : decode cX3_isNoPiece 18 = .ok (.getfield 77, 3) := by decide +kernel
theorem dX3_isNoPiece_21 : decode cX3_isNoPiece 21 = .ok (.if_icmp .lt 7, 3) := by decide +kernel
theorem dX3_isNoPiece_24 : decode cX3_isNoPiece 24 = .ok (.iconst 1, 1) := by decide +kernel
theorem dX3_isNoPiece_25 : decode cX3_isNoPiece 25 = .ok (.goto 4, 3) := by decide +kernel
theorem dX3_isNoPiece_28 : decode cX3_isNoPiece 28 = .ok (.iconst 0, 1) := by decide +kernel
theorem dX3_isNoPiece_29 : decode cX3_isNoPiece 29 = .ok (.ireturn, 1) := by decide +kernel
theorem dX3_isNoPart_0 : decode cX3_isNoPart 0 = .ok (.iload_n 0, 1) := by decide +kernel
theorem dX3_isNoPart_1 : decode cX3_isNoPart 1 = .ok (.ifCond .eq 12, 3) := by decide +kernel
theorem dX3_isNoPart_4 : decode cX3_isNoPart 4 = .ok (.iload_n 0, 1) := by decide +kernel
theorem dX3_isNoPart_5 : decode cX3_isNoPart 5 = .ok (.iconst 1, 1) := by decide +kernel
theorem dX3_isNoPart_6 : decode cX3_isNoPart 6 = .ok (.if_icmp .eq 7, 3) := by decide +kernel
theorem dX3_isNoPart_9 : decode cX3_isNoPart 9 = .ok (.iconst 1, 1) := by decide +kernel
theorem dX3_isNoPart_10 : decode cX3_isNoPart 10 = .ok (.goto 4, 3) := by decide +kernel
theorem dX3_isNoPart_13 : decode cX3_isNoPart 13 = .ok (.iconst 0, 1) := by decide +kernel
theorem dX3_isNoPart_14 : decode cX3_isNoPart 14 = .ok (.ireturn, 1) := by decide +kernel
theorem dX3_isNoShape_0 : decode cX3_isNoShape 0 = .ok (.iload_n 0, 1) := by decide +kernel
theorem dX3_isNoShape_1 : decode cX3_isNoShape 1 = .ok (.ifCond .lt 8, 3) := by decide +kernel
theorem dX3_isNoShape_4 : decode cX3_isNoShape 4 = .ok (.iload_n 0, 1) := by decide +kernel
theorem dX3_isNoShape_5 : decode cX3_isNoShape 5 = .ok (.iconst 4, 1) := by decide +kernel
theorem dX3_isNoShape_6 : decode cX3_isNoShape 6 = .ok (.if_icmp .le 7, 3) := by decide +kernel
theorem dX3_isNoShape_9 : decode cX3_isNoShape 9 = .ok (.iconst 1, 1) := by decide +kernel
theorem dX3_isNoShape_10 : decode cX3_isNoShape 10 = .ok (.goto 4, 3) := by decide +kernel
theorem dX3_isNoShape_13 : decode cX3_isNoShape 13 = .ok (.iconst 0, 1) := by decide +kernel
theorem dX3_isNoShape_14 : decode cX3_isNoShape 14 = .ok (.ireturn, 1) := by decide +kernel
theorem dX3_isBeyond_0 : decode cX3_isBeyond 0 = .ok (.iload_n 0, 1) := by decide +kernel
theorem dX3_isBeyond_1 : decode cX3_isBeyond 1 = .ok (.iload_n 1, 1) := by decide +kernel
theorem dX3_isBeyond_2 : decode cX3_isBeyond 2 = .ok (.ineg, 1) := by decide +kernel
theorem dX3_isBeyond_3 : decode cX3_isBeyond 3 = .ok (.if_icmp .lt 8, 3) := by decide +kernel
theorem dX3_isBeyond_6 : decode cX3_isBeyond 6 = .ok (.iload_n 0, 1) := by decide +kernel
theorem dX3_isBeyond_7 : decode cX3_isBeyond 7 = .ok (.iload_n 1, 1) := by decide +kernel
theorem dX3_isBeyond_8 : decode cX3_isBeyond 8 = .ok (.if_icmp .le 7, 3) := by decide +kernel
theorem dX3_isBeyond_11 : decode cX3_isBeyond 11 = .ok (.iconst 1, 1) := by decide +kernel
theorem dX3_isBeyond_12 : decode cX3_isBeyond 12 = .ok (.goto 4, 3) := by decide +kernel
theorem dX3_isBeyond_15 : decode cX3_isBeyond 15 = .ok (.iconst 0, 1) := by decide +kernel
theorem dX3_isBeyond_16 : decode cX3_isBeyond 16 = .ok (.ireturn, 1) := by decide +kernel
theorem dX3_hasTooFewPoints_0 : decode cX3_hasTooFewPoints 0 = .ok (.aload_n 0, 1) := by decide +kernel
theorem dX3_hasTooFewPoints_1 : decode cX3_hasTooFewPoints 1 = .ok (.getfield 38, 3) := by decide +kernel
theorem dX3_hasTooFewPoints_4 : decode cX3_hasTooFewPoints 4 = .ok (.iconst 2, 1) := by decide +kernel
theorem dX3_hasTooFewPoints_5 : decode cX3_hasTooFewPoints 5 = .ok (.if_icmp .ge 7, 3) := by decide +kernel
theorem dX3_hasTooFewPoints_8 : decode cX3_hasTooFewPoints 8 = .ok (.iconst 1, 1) := by decide +kernel
theorem dX3_hasTooFewPoints_9 : decode cX3_hasTooFewPoints 9 = .ok (.goto 4, 3) := by decide +kernel
theorem dX3_hasTooFewPoints_12 : decode cX3_hasTooFewPoints 12 = .ok (.iconst 0, 1) := by decide +kernel
theorem dX3_hasTooFewPoints_13 : decode cX3_hasTooFewPoints 13 = .ok (.ireturn, 1) := by decide +kernel
theorem dX3_signOfShape_0 : decode cX3_signOfShape 0 = .ok (.iload_n 0, 1) := by decide +kernel
theorem dX3_signOfShape_1 : decode cX3_signOfShape 1 = .ok (.iconst 2, 1) := by decide +kernel
theorem dX3_signOfShape_2 : decode cX3_signOfShape 2 = .ok (.if_icmp .eq 8, 3) := by decide +kernel
theorem dX3_signOfShape_5 : decode cX3_signOfShape 5 = .ok (.iload_n 0, 1) := by decide +kernel
theorem dX3_signOfShape_6 : decode cX3_signOfShape 6 = .ok (.iconst 4, 1) := by decide +kernel
theorem dX3_signOfShape_7 : decode cX3_signOfShape 7 = .ok (.if_icmp .ne 7, 3) := by decide +kernel
theorem dX3_signOfShape_10 : decode cX3_signOfShape 10 = .ok (.iconst (-1), 1) := by decide +kernel
theorem dX3_signOfShape_11 : decode cX3_signOfShape 11 = .ok (.goto 4, 3) := by decide +kernel
theorem dX3_signOfShape_14 : decode cX3_signOfShape 14 = .ok (.iconst 1, 1) := by decide +kernel
theorem dX3_signOfShape_15 : decode cX3_signOfShape 15 = .ok (.ireturn, 1) := by decide +kernel
theorem dX3_isBent_0 : decode cX3_isBent 0 = .ok (.iload_n 0, 1) := by decide +kernel
theorem dX3_isBent_1 : decode cX3_isBent 1 = .ok (.iconst 3, 1) := by decide +kernel
theorem dX3_isBent_2 : decode cX3_isBent 2 = .ok (.if_icmp .eq 8, 3) := by decide +kernel
theorem dX3_isBent_5 : decode cX3_isBent 5 = .ok (.iload_n 0, 1) := by decide +kernel
theorem dX3_isBent_6 : decode cX3_isBent 6 = .ok (.iconst 4, 1) := by decide +kernel
theorem dX3_isBent_7 : decode cX3_isBent 7 = .ok (.if_icmp .ne 7, 3) := by decide +kernel
theorem dX3_isBent_10 : decode cX3_isBent 10 = .ok (.iconst 1, 1) := by decide +kernel
theorem dX3_isBent_11 : decode cX3_isBent 11 = .ok (.goto 4, 3) := by decide +kernel
theorem dX3_isBent_14 : decode cX3_isBent 14 = .ok (.iconst 0, 1) := by decide +kernel
theorem dX3_isBent_15 : decode cX3_isBent 15 = .ok (.ireturn, 1) := by decide +kernel
theorem dX3_keepDraft_0 : decode cX3_keepDraft 0 = .ok (.aload_n 0, 1) := by decide +kernel
theorem dX3_keepDraft_1 : decode cX3_keepDraft 1 = .ok (.getfield 16, 3) := by decide +kernel
theorem dX3_keepDraft_4 : decode cX3_keepDraft 4 = .ok (.invokevirtual 180, 3) := by decide +kernel
theorem dX3_keepDraft_7 : decode cX3_keepDraft 7 = .ok (.ifCond .ne 6, 3) := by decide +kernel
theorem dX3_keepDraft_10 : decode cX3_keepDraft 10 = .ok (.bipush (-5), 2) := by decide +kernel
theorem dX3_keepDraft_12 : decode cX3_keepDraft 12 = .ok (.ireturn, 1) := by decide +kernel
theorem dX3_keepDraft_13 : decode cX3_keepDraft 13 = .ok (.aload_n 1, 1) := by decide +kernel
theorem dX3_keepDraft_14 : decode cX3_keepDraft 14 = .ok (.aload_n 0, 1) := by decide +kernel
theorem dX3_keepDraft_15 : decode cX3_keepDraft 15 = .ok (.getfield 16, 3) := by decide +kernel
theorem dX3_keepDraft_18 : decode cX3_keepDraft 18 = .ok (.invokevirtual 183, 3) := by decide +kernel
theorem dX3_keepDraft_21 : decode cX3_keepDraft 21 = .ok (.iconst 1, 1) := by decide +kernel
theorem dX3_keepDraft_22 : decode cX3_keepDraft 22 = .ok (.ireturn, 1) := by decide +kernel
theorem dX3_countZeros_0 : decode cX3_countZeros 0 = .ok (.aload_n 1, 1) := by decide +kernel
theorem dX3_countZeros_1 : decode cX3_countZeros 1 = .ok (.invokevirtual 186, 3) := by decide +kernel
theorem dX3_countZeros_4 : decode cX3_countZeros 4 = .ok (.ifCond .eq 6, 3) := by decide +kernel
theorem dX3_countZeros_7 : decode cX3_countZeros 7 = .ok (.bipush (-4), 2) := by decide +kernel
theorem dX3_countZeros_9 : decode cX3_countZeros 9 = .ok (.ireturn, 1) := by decide +kernel
theorem dX3_countZeros_10 : decode cX3_countZeros 10 = .ok (.aload_n 0, 1) := by decide +kernel
theorem dX3_countZeros_11 : decode cX3_countZeros 11 = .ok (.getfield 23, 3) := by decide +kernel
theorem dX3_countZeros_14 : decode cX3_countZeros 14 = .ok (.aload_n 1, 1) := by decide +kernel
theorem dX3_countZeros_15 : decode cX3_countZeros 15 = .ok (.invokevirtual 189, 3) := by decide +kernel
theorem dX3_countZeros_18 : decode cX3_countZeros 18 = .ok (.aload_n 0, 1) := by decide +kernel
theorem dX3_countZeros_19 : decode cX3_countZeros 19 = .ok (.getfield 23, 3) := by decide +kernel
theorem dX3_countZeros_22 : decode cX3_countZeros 22 = .ok (.getfield 192, 3) := by decide +kernel
theorem dX3_countZeros_25 : decode cX3_countZeros 25 = .ok (.ireturn, 1) := by decide +kernel
theorem dX3_partInLowestTerms_0 : decode cX3_partInLowestTerms 0 = .ok (.lload_n 0, 1) := by decide +kernel
theorem dX3_partInLowestTerms_1 : decode cX3_partInLowestTerms 1 = .ok (.invokestatic 195, 3) := by decide +kernel
theorem dX3_partInLowestTerms_4 : decode cX3_partInLowestTerms 4 = .ok (.lload_n 2, 1) := by decide +kernel
theorem dX3_partInLowestTerms_5 : decode cX3_partInLowestTerms 5 = .ok (.invokestatic 199, 3) := by decide +kernel
theorem dX3_partInLowestTerms_8 : decode cX3_partInLowestTerms 8 = .ok (.lstore 5, 2) := by decide +kernel
theorem dX3_partInLowestTerms_10 : decode cX3_partInLowestTerms 10 = .ok (.iload 4, 2) := by decide +kernel
theorem dX3_partInLowestTerms_12 : decode cX3_partInLowestTerms 12 = .ok (.ifCond .ne 7, 3) := by decide +kernel
theorem dX3_partInLowestTerms_15 : decode cX3_partInLowestTerms 15 = .ok (.lload_n 0, 1) := by decide +kernel
theorem dX3_partInLowestTerms_16 : decode cX3_partInLowestTerms 16 = .ok (.goto 4, 3) := by decide +kernel
theorem dX3_partInLowestTerms_19 : decode cX3_partInLowestTerms 19 = .ok (.lload_n 2, 1) := by decide +kernel
theorem dX3_partInLowestTerms_20 : decode cX3_partInLowestTerms 20 = .ok (.lload 5, 2) := by decide +kernel
theorem dX3_partInLowestTerms_22 : decode cX3_partInLowestTerms 22 = .ok (.ldiv, 1) := by decide +kernel
theorem dX3_partInLowestTerms_23 : decode cX3_partInLowestTerms 23 = .ok (.lreturn, 1) := by decide +kernel
theorem dX3_commonDivisor_0 : decode cX3_commonDivisor 0 = .ok (.iconst 0, 1) := by decide +kernel
theorem dX3_commonDivisor_1 : decode cX3_commonDivisor 1 = .ok (.istore 4, 2) := by decide +kernel
theorem dX3_commonDivisor_3 : decode cX3_commonDivisor 3 = .ok (.iload 4, 2) := by decide +kernel
theorem dX3_commonDivisor_5 : decode cX3_commonDivisor 5 = .ok (.bipush 100, 2) := by decide +kernel
theorem dX3_commonDivisor_7 : decode cX3_commonDivisor 7 = .ok (.if_icmp .ge 25, 3) := by decide +kernel
theorem dX3_commonDivisor_10 : decode cX3_commonDivisor 10 = .ok (.lload_n 2, 1) := by decide +kernel
theorem dX3_commonDivisor_11 : decode cX3_commonDivisor 11 = .ok (.lconst 0, 1) := by decide +kernel
theorem dX3_commonDivisor_12 : decode cX3_commonDivisor 12 = .ok (.lcmp, 1) := by decide +kernel
theorem dX3_commonDivisor_13 : decode cX3_commonDivisor 13 = .ok (.ifCond .eq 19, 3) := by decide +kernel
theorem dX3_commonDivisor_16 : decode cX3_commonDivisor 16 = .ok (.lload_n 0, 1) := by decide +kernel
theorem dX3_commonDivisor_17 : decode cX3_commonDivisor 17 = .ok (.lload_n 2, 1) := by decide +kernel
theorem dX3_commonDivisor_18 : decode cX3_commonDivisor 18 = .ok (.lrem, 1) := by decide +kernel
theorem dX3_commonDivisor_19 : decode cX3_commonDivisor 19 = .ok (.lstore 5, 2) := by decide +kernel
theorem dX3_commonDivisor_21 : decode cX3_commonDivisor 21 = .ok (.lload_n 2, 1) := by decide +kernel
theorem dX3_commonDivisor_22 : decode cX3_commonDivisor 22 = .ok (.lstore_n 0, 1) := by decide +kernel
theorem dX3_commonDivisor_23 : decode cX3_commonDivisor 23 = .ok (.lload 5, 2) := by decide +kernel
theorem dX3_commonDivisor_25 : decode cX3_commonDivisor 25 = .ok (.lstore_n 2, 1) := by decide +kernel
theorem dX3_commonDivisor_26 : decode cX3_commonDivisor 26 = .ok (.iinc 4 1, 3) := by decide +kernel
theorem dX3_commonDivisor_29 : decode cX3_commonDivisor 29 = .ok (.goto (-26), 3) := by decide +kernel
theorem dX3_commonDivisor_32 : decode cX3_commonDivisor 32 = .ok (.lconst 1, 1) := by decide +kernel
theorem dX3_commonDivisor_33 : decode cX3_commonDivisor 33 = .ok (.lload_n 0, 1) := by decide +kernel
theorem dX3_commonDivisor_34 : decode cX3_commonDivisor 34 = .ok (.invokestatic 203, 3) := by decide +kernel
theorem dX3_commonDivisor_37 : decode cX3_commonDivisor 37 = .ok (.lreturn, 1) := by decide +kernel
theorem dX3_draftSpline_0 : decode cX3_draftSpline 0 = .ok (.iload_n 1, 1) := by decide +kernel
theorem dX3_draftSpline_1 : decode cX3_draftSpline 1 = .ok (.istore_n 2, 1) := by decide +kernel
theorem dX3_draftSpline_2 : decode cX3_draftSpline 2 = .ok (.aload_n 0, 1) := by decide +kernel
theorem dX3_draftSpline_3 : decode cX3_draftSpline 3 = .ok (.getfield 16, 3) := by decide +kernel
theorem dX3_draftSpline_6 : decode cX3_draftSpline 6 = .ok (.aload_n 0, 1) := by decide +kernel
theorem dX3_draftSpline_7 : decode cX3_draftSpline 7 = .ok (.getfield 38, 3) := by decide +kernel
theorem dX3_draftSpline_10 : decode cX3_draftSpline 10 = .ok (.iconst 1, 1) := by decide +kernel
theorem dX3_draftSpline_11 : decode cX3_draftSpline 11 = .ok (.isub, 1) := by decide +kernel
theorem dX3_draftSpline_12 : decode cX3_draftSpline 12 = .ok (.invokevirtual 46, 3) := by decide +kernel
theorem dX3_draftSpline_15 : decode cX3_draftSpline 15 = .ok (.iconst 0, 1) := by decide +kernel
theorem dX3_draftSpline_16 : decode cX3_draftSpline 16 = .ok (.istore_n 3, 1) := by decide +kernel
theorem dX3_draftSpline_17 : decode cX3_draftSpline 17 = .ok (.iload_n 3, 1) := by decide +kernel
theorem dX3_draftSpline_18 : decode cX3_draftSpline 18 = .ok (.aload_n 0, 1) := by decide +kernel
theorem dX3_draftSpline_19 : decode cX3_draftSpline 19 = .ok (.getfield 16, 3) := by decide +kernel
theorem dX3_draftSpline_22 : decode cX3_draftSpline 22 = .ok (.getfield 77, 3) := by decide +kernel
theorem dX3_draftSpline_25 : decode cX3_draftSpline 25 = .ok (.if_icmp .ge 52, 3) := by decide +kernel
theorem dX3_draftSpline_28 : decode cX3_draftSpline 28 = .ok (.aload_n 0, 1) := by decide +kernel
theorem dX3_draftSpline_29 : decode cX3_draftSpline 29 = .ok (.getfield 34, 3) := by decide +kernel
theorem dX3_draftSpline_32 : decode cX3_draftSpline 32 = .ok (.iload_n 3, 1) := by decide +kernel
theorem dX3_draftSpline_33 : decode cX3_draftSpline 33 = .ok (.iconst 1, 1) := by decide +kernel
theorem dX3_draftSpline_34 : decode cX3_draftSpline 34 = .ok (.iadd, 1) := by decide +kernel
theorem dX3_draftSpline_35 : decode cX3_draftSpline 35 = .ok (.iaload, 1) := by decide +kernel
theorem dX3_draftSpline_36 : decode cX3_draftSpline 36 = .ok (.aload_n 0, 1) := by decide +kernel
theorem dX3_draftSpline_37 : decode cX3_draftSpline 37 = .ok (.getfield 34, 3) := by decide +kernel
theorem dX3_draftSpline_40 : decode cX3_draftSpline 40 = .ok (.iload_n 3, 1) := by decide +kernel
theorem dX3_draftSpline_41 : decode cX3_draftSpline 41 = .ok (.iaload, 1) := by decide +kernel
theorem dX3_draftSpline_42 : decode cX3_draftSpline 42 = .ok (.isub, 1) := by decide +kernel
theorem dX3_draftSpline_43 : decode cX3_draftSpline 43 = .ok (.istore 4, 2) := by decide +kernel
theorem dX3_draftSpline_45 : decode cX3_draftSpline 45 = .ok (.aload_n 0, 1) := by decide +kernel
theorem dX3_draftSpline_46 : decode cX3_draftSpline 46 = .ok (.getfield 16, 3) := by decide +kernel
theorem dX3_draftSpline_49 : decode cX3_draftSpline 49 = .ok (.iload_n 3, 1) := by decide +kernel
theorem dX3_draftSpline_50 : decode cX3_draftSpline 50 = .ok (.aload_n 0, 1) := by decide +kernel
theorem dX3_draftSpline_51 : decode cX3_draftSpline 51 = .ok (.getfield 34, 3) := by decide +kernel
theorem dX3_draftSpline_54 : decode cX3_draftSpline 54 = .ok (.iload_n 3, 1) := by decide +kernel
theorem dX3_draftSpline_55 : decode cX3_draftSpline 55 = .ok (.iaload, 1) := by decide +kernel
theorem dX3_draftSpline_56 : decode cX3_draftSpline 56 = .ok (.iload_n 2, 1) := by decide +kernel
theorem dX3_draftSpline_57 : decode cX3_draftSpline 57 = .ok (.iload 4, 2) := by decide +kernel
theorem dX3_draftSpline_59 : decode cX3_draftSpline 59 = .ok (.iload_n 2, 1) := by decide +kernel
theorem dX3_draftSpline_60 : decode cX3_draftSpline 60 = .ok (.isub, 1) := by decide +kernel
theorem dX3_draftSpline_61 : decode cX3_draftSpline 61 = .ok (.invokevirtual 58, 3) := by decide +kernel
theorem dX3_draftSpline_64 : decode cX3_draftSpline 64 = .ok (.iconst 2, 1) := by decide +kernel
theorem dX3_draftSpline_65 : decode cX3_draftSpline 65 = .ok (.iload 4, 2) := by decide +kernel
theorem dX3_draftSpline_67 : decode cX3_draftSpline 67 = .ok (.imul, 1) := by decide +kernel
theorem dX3_draftSpline_68 : decode cX3_draftSpline 68 = .ok (.iload_n 2, 1) := by decide +kernel
theorem dX3_draftSpline_69 : decode cX3_draftSpline 69 = .ok (.isub, 1) := by decide +kernel
theorem dX3_draftSpline_70 : decode cX3_draftSpline 70 = .ok (.istore_n 2, 1) := by decide +kernel
theorem dX3_draftSpline_71 : decode cX3_draftSpline 71 = .ok (.iinc 3 1, 3) := by decide +kernel
theorem dX3_draftSpline_74 : decode cX3_draftSpline 74 = .ok (.goto (-57), 3) := by decide +kernel
theorem dX3_draftSpline_77 : decode cX3_draftSpline 77 = .ok (.return_, 1) := by decide +kernel
theorem dX3_findSlopes_0 : decode cX3_findSlopes 0 = .ok (.aload_n 0, 1) := by decide +kernel
theorem dX3_findSlopes_1 : decode cX3_findSlopes 1 = .ok (.iconst 0, 1) := by decide +kernel
theorem dX3_findSlopes_2 : decode cX3_findSlopes 2 = .ok (.invokevirtual 174, 3) := by decide +kernel
theorem dX3_findSlopes_5 : decode cX3_findSlopes 5 = .ok (.aload_n 0, 1) := by decide +kernel
theorem dX3_findSlopes_6 : decode cX3_findSlopes 6 = .ok (.getfield 30, 3) := by decide +kernel
theorem dX3_findSlopes_9 : decode cX3_findSlopes 9 = .ok (.sipush 1000, 3) := by decide +kernel
theorem dX3_findSlopes_12 : decode cX3_findSlopes 12 = .ok (.invokevirtual 205, 3) := by decide +kernel
theorem dX3_findSlopes_15 : decode cX3_findSlopes 15 = .ok (.iload_n 1, 1) := by decide +kernel
theorem dX3_findSlopes_16 : decode cX3_findSlopes 16 = .ok (.ifCond .ne 4, 3) := by decide +kernel
theorem dX3_findSlopes_19 : decode cX3_findSlopes 19 = .ok (.return_, 1) := by decide +kernel
theorem dX3_findSlopes_20 : decode cX3_findSlopes 20 = .ok (.iload_n 1, 1) := by decide +kernel
theorem dX3_findSlopes_21 : decode cX3_findSlopes 21 = .ok (.invokestatic 94, 3) := by decide +kernel
theorem dX3_findSlopes_24 : decode cX3_findSlopes 24 = .ok (.istore_n 2, 1) := by decide +kernel
theorem dX3_findSlopes_25 : decode cX3_findSlopes 25 = .ok (.iload_n 2, 1) := by decide +kernel
theorem dX3_findSlopes_26 : decode cX3_findSlopes 26 = .ok (.istore_n 3, 1) := by decide +kernel
theorem dX3_findSlopes_27 : decode cX3_findSlopes 27 = .ok (.iconst 0, 1) := by decide +kernel
theorem dX3_findSlopes_28 : decode cX3_findSlopes 28 = .ok (.istore 4, 2) := by decide +kernel
theorem dX3_findSlopes_30 : decode cX3_findSlopes 30 = .ok (.iload 4, 2) := by decide +kernel
theorem dX3_findSlopes_32 : decode cX3_findSlopes 32 = .ok (.aload_n 0, 1) := by decide +kernel
theorem dX3_findSlopes_33 : decode cX3_findSlopes 33 = .ok (.getfield 16, 3) := by decide +kernel
theorem dX3_findSlopes_36 : decode cX3_findSlopes 36 = .ok (.getfield 77, 3) := by decide +kernel
theorem dX3_findSlopes_39 : decode cX3_findSlopes 39 = .ok (.if_icmp .ge 83, 3) := by decide +kernel
theorem dX3_findSlopes_42 : decode cX3_findSlopes 42 = .ok (.iload_n 1, 1) := by decide +kernel
theorem dX3_findSlopes_43 : decode cX3_findSlopes 43 = .ok (.invokestatic 97, 3) := by decide +kernel
theorem dX3_findSlopes_46 : decode cX3_findSlopes 46 = .ok (.ifCond .eq 27, 3) := by decide +kernel
theorem dX3_findSlopes_49 : decode cX3_findSlopes 49 = .ok (.aload_n 0, 1) := by decide +kernel
theorem dX3_findSlopes_50 : decode cX3_findSlopes 50 = .ok (.getfield 30, 3) := by decide +kernel
theorem dX3_findSlopes_53 : decode cX3_findSlopes 53 = .ok (.iload_n 2, 1) := by decide +kernel
theorem dX3_findSlopes_54 : decode cX3_findSlopes 54 = .ok (.aload_n 0, 1) := by decide +kernel
theorem dX3_findSlopes_55 : decode cX3_findSlopes 55 = .ok (.getfield 16, 3) := by decide +kernel
theorem dX3_findSlopes_58 : decode cX3_findSlopes 58 = .ok (.getfield 69, 3) := by decide +kernel
theorem dX3_findSlopes_61 : decode cX3_findSlopes 61 = .ok (.iload 4, 2) := by decide +kernel
theorem dX3_findSlopes_63 : decode cX3_findSlopes 63 = .ok (.iaload, 1) := by decide +kernel
theorem dX3_findSlopes_64 : decode cX3_findSlopes 64 = .ok (.imul, 1) := by decide +kernel
theorem dX3_findSlopes_65 : decode cX3_findSlopes 65 = .ok (.iload_n 3, 1) := by decide +kernel
theorem dX3_findSlopes_66 : decode cX3_findSlopes 66 = .ok (.ineg, 1) := by decide +kernel
theorem dX3_findSlopes_67 : decode cX3_findSlopes 67 = .ok (.invokevirtual 208, 3) := by decide +kernel
theorem dX3_findSlopes_70 : decode cX3_findSlopes 70 = .ok (.goto 43, 3) := by decide +kernel
theorem dX3_findSlopes_73 : decode cX3_findSlopes 73 = .ok (.aload_n 0, 1) := by decide +kernel
theorem dX3_findSlopes_74 : decode cX3_findSlopes 74 = .ok (.getfield 30, 3) := by decide +kernel
theorem dX3_findSlopes_77 : decode cX3_findSlopes 77 = .ok (.iload_n 2, 1) := by decide +kernel
theorem dX3_findSlopes_78 : decode cX3_findSlopes 78 = .ok (.aload_n 0, 1) := by decide +kernel
theorem dX3_findSlopes_79 : decode cX3_findSlopes 79 = .ok (.getfield 16, 3) := by decide +kernel
theorem dX3_findSlopes_82 : decode cX3_findSlopes 82 = .ok (.getfield 66, 3) := by decide +kernel
theorem dX3_findSlopes_85 : decode cX3_findSlopes 85 = .ok (.iload 4, 2) := by decide +kernel
theorem dX3_findSlopes_87 : decode cX3_findSlopes 87 = .ok (.iaload, 1) := by decide +kernel
theorem dX3_findSlopes_88 : decode cX3_findSlopes 88 = .ok (.imul, 1) := by decide +kernel
theorem dX3_findSlopes_89 : decode cX3_findSlopes 89 = .ok (.iload_n 3, 1) := by decide +kernel
theorem dX3_findSlopes_90 : decode cX3_findSlopes 90 = .ok (.invokevirtual 208, 3) := by decide +kernel
theorem dX3_findSlopes_93 : decode cX3_findSlopes 93 = .ok (.aload_n 0, 1) := by decide +kernel
theorem dX3_findSlopes_94 : decode cX3_findSlopes 94 = .ok (.getfield 30, 3) := by decide +kernel
theorem dX3_findSlopes_97 : decode cX3_findSlopes 97 = .ok (.iload_n 2, 1) := by decide +kernel
theorem dX3_findSlopes_98 : decode cX3_findSlopes 98 = .ok (.aload_n 0, 1) := by decide +kernel
theorem dX3_findSlopes_99 : decode cX3_findSlopes 99 = .ok (.getfield 16, 3) := by decide +kernel
theorem dX3_findSlopes_102 : decode cX3_findSlopes 102 = .ok (.iload 4, 2) := by decide +kernel
theorem dX3_findSlopes_104 : decode cX3_findSlopes 104 = .ok (.invokevirtual 212, 3) := by decide +kernel
theorem dX3_findSlopes_107 : decode cX3_findSlopes 107 = .ok (.imul, 1) := by decide +kernel
theorem dX3_findSlopes_108 : decode cX3_findSlopes 108 = .ok (.iload_n 3, 1) := by decide +kernel
theorem dX3_findSlopes_109 : decode cX3_findSlopes 109 = .ok (.ineg, 1) := by decide +kernel
theorem dX3_findSlopes_110 : decode cX3_findSlopes 110 = .ok (.invokevirtual 208, 3) := by decide +kernel
theorem dX3_findSlopes_113 : decode cX3_findSlopes 113 = .ok (.iload_n 3, 1) := by decide +kernel
theorem dX3_findSlopes_114 : decode cX3_findSlopes 114 = .ok (.ineg, 1) := by decide +kernel
theorem dX3_findSlopes_115 : decode cX3_findSlopes 115 = .ok (.istore_n 3, 1) := by decide +kernel
theorem dX3_findSlopes_116 : decode cX3_findSlopes 116 = .ok (.iinc 4 1, 3) := by decide +kernel
theorem dX3_findSlopes_119 : decode cX3_findSlopes 119 = .ok (.goto (-89), 3) := by decide +kernel
theorem dX3_findSlopes_122 : decode cX3_findSlopes 122 = .ok (.return_, 1) := by decide +kernel
theorem dX3_leastBentOfAll_0 : decode cX3_leastBentOfAll 0 = .ok (.iconst 0, 1) := by decide +kernel
theorem dX3_leastBentOfAll_1 : decode cX3_leastBentOfAll 1 = .ok (.istore_n 1, 1) := by decide +kernel
theorem dX3_leastBentOfAll_2 : decode cX3_leastBentOfAll 2 = .ok (.iconst 1, 1) := by decide +kernel
theorem dX3_leastBentOfAll_3 : decode cX3_leastBentOfAll 3 = .ok (.istore_n 2, 1) := by decide +kernel
theorem dX3_leastBentOfAll_4 : decode cX3_leastBentOfAll 4 = .ok (.iconst 0, 1) := by decide +kernel
theorem dX3_leastBentOfAll_5 : decode cX3_leastBentOfAll 5 = .ok (.istore_n 3, 1) := by decide +kernel
theorem dX3_leastBentOfAll_6 : decode cX3_leastBentOfAll 6 = .ok (.iload_n 3, 1) := by decide +kernel
theorem dX3_leastBentOfAll_7 : decode cX3_leastBentOfAll 7 = .ok (.aload_n 0, 1) := by decide +kernel
theorem dX3_leastBentOfAll_8 : decode cX3_leastBentOfAll 8 = .ok (.getfield 16, 3) := by decide +kernel
theorem dX3_leastBentOfAll_11 : decode cX3_leastBentOfAll 11 = .ok (.getfield 77, 3) := by decide +kernel
theorem dX3_leastBentOfAll_14 : decode cX3_leastBentOfAll 14 = .ok (.if_icmp .ge 26, 3) := by decide +kernel
theorem dX3_leastBentOfAll_17 : decode cX3_leastBentOfAll 17 = .ok (.iload_n 1, 1) := by decide +kernel
theorem dX3_leastBentOfAll_18 : decode cX3_leastBentOfAll 18 = .ok (.iload_n 2, 1) := by decide +kernel
theorem dX3_leastBentOfAll_19 : decode cX3_leastBentOfAll 19 = .ok (.aload_n 0, 1) := by decide +kernel
theorem dX3_leastBentOfAll_20 : decode cX3_leastBentOfAll 20 = .ok (.getfield 16, 3) := by decide +kernel
theorem dX3_leastBentOfAll_23 : decode cX3_leastBentOfAll 23 = .ok (.getfield 69, 3) := by decide +kernel
theorem dX3_leastBentOfAll_26 : decode cX3_leastBentOfAll 26 = .ok (.iload_n 3, 1) := by decide +kernel
theorem dX3_leastBentOfAll_27 : decode cX3_leastBentOfAll 27 = .ok (.iaload, 1) := by decide +kernel
theorem dX3_leastBentOfAll_28 : decode cX3_leastBentOfAll 28 = .ok (.imul, 1) := by decide +kernel
theorem dX3_leastBentOfAll_29 : decode cX3_leastBentOfAll 29 = .ok (.iadd, 1) := by decide +kernel
theorem dX3_leastBentOfAll_30 : decode cX3_leastBentOfAll 30 = .ok (.istore_n 1, 1) := by decide +kernel
theorem dX3_leastBentOfAll_31 : decode cX3_leastBentOfAll 31 = .ok (.iload_n 2, 1) := by decide +kernel
theorem dX3_leastBentOfAll_32 : decode cX3_leastBentOfAll 32 = .ok (.ineg, 1) := by decide +kernel
theorem dX3_leastBentOfAll_33 : decode cX3_leastBentOfAll 33 = .ok (.istore_n 2, 1) := by decide +kernel
theorem dX3_leastBentOfAll_34 : decode cX3_leastBentOfAll 34 = .ok (.iinc 3 1, 3) := by decide +kernel
theorem dX3_leastBentOfAll_37 : decode cX3_leastBentOfAll 37 = .ok (.goto (-31), 3) := by decide +kernel
theorem dX3_leastBentOfAll_40 : decode cX3_leastBentOfAll 40 = .ok (.iconst 1, 1) := by decide +kernel
theorem dX3_leastBentOfAll_41 : decode cX3_leastBentOfAll 41 = .ok (.aload_n 0, 1) := by decide +kernel
theorem dX3_leastBentOfAll_42 : decode cX3_leastBentOfAll 42 = .ok (.getfield 16, 3) := by decide +kernel
theorem dX3_leastBentOfAll_45 : decode cX3_leastBentOfAll 45 = .ok (.getfield 77, 3) := by decide +kernel
theorem dX3_leastBentOfAll_48 : decode cX3_leastBentOfAll 48 = .ok (.invokestatic 167, 3) := by decide +kernel
theorem dX3_leastBentOfAll_51 : decode cX3_leastBentOfAll 51 = .ok (.istore_n 3, 1) := by decide +kernel
theorem dX3_leastBentOfAll_52 : decode cX3_leastBentOfAll 52 = .ok (.iload_n 3, 1) := by decide +kernel
theorem dX3_leastBentOfAll_53 : decode cX3_leastBentOfAll 53 = .ok (.iconst 2, 1) := by decide +kernel
theorem dX3_leastBentOfAll_54 : decode cX3_leastBentOfAll 54 = .ok (.iload_n 1, 1) := by decide +kernel
theorem dX3_leastBentOfAll_55 : decode cX3_leastBentOfAll 55 = .ok (.imul, 1) := by decide +kernel
theorem dX3_leastBentOfAll_56 : decode cX3_leastBentOfAll 56 = .ok (.isub, 1) := by decide +kernel
theorem dX3_leastBentOfAll_57 : decode cX3_leastBentOfAll 57 = .ok (.iconst 2, 1) := by decide +kernel
theorem dX3_leastBentOfAll_58 : decode cX3_leastBentOfAll 58 = .ok (.iload_n 3, 1) := by decide +kernel
theorem dX3_leastBentOfAll_59 : decode cX3_leastBentOfAll 59 = .ok (.imul, 1) := by decide +kernel
theorem dX3_leastBentOfAll_60 : decode cX3_leastBentOfAll 60 = .ok (.invokestatic 215, 3) := by decide +kernel
theorem dX3_leastBentOfAll_63 : decode cX3_leastBentOfAll 63 = .ok (.ineg, 1) := by decide +kernel
theorem dX3_leastBentOfAll_64 : decode cX3_leastBentOfAll 64 = .ok (.ireturn, 1) := by decide +kernel
end
section
theorem dX4_init_0 : decode cX4_init 0 = .ok (.aload_n 0, 1) := by decide +kernel
theorem dX4_init_1 : decode cX4_init 1 = .ok (.invokespecial 1, 3) := by decide +kernel
theorem dX4_init_4 : decode cX4_init 4 = .ok (.aload_n 0, 1) := by decide +kernel
theorem dX4_init_5 : decode cX4_init 5 = .ok (.bipush 6, 2) := by decide +kernel
theorem dX4_init_7 : decode cX4_init 7 = .ok (.newarray .int, 2) := by decide +kernel
theorem dX4_init_9 : decode cX4_init 9 = .ok (.putfield 7, 3) := by decide +kernel
theorem dX4_init_12 : decode cX4_init 12 = .ok (.aload_n 0, 1) := by decide +kernel
theorem dX4_init_13 : decode cX4_init 13 = .ok (.bipush 96, 2) := by decide +kernel
theorem dX4_init_15 : decode cX4_init 15 = .ok (.newarray .int, 2) := by decide +kernel
theorem dX4_init_17 : decode cX4_init 17 = .ok (.putfield 13, 3) := by decide +kernel
theorem dX4_init_20 : decode cX4_init 20 = .ok (.aload_n 0, 1) := by decide +kernel
theorem dX4_init_21 : decode cX4_init 21 = .ok (.bipush 96, 2) := by decide +kernel
theorem dX4_init_23 : decode cX4_init 23 = .ok (.newarray .int, 2) := by decide +kernel
theorem dX4_init_25 : decode cX4_init 25 = .ok (.putfield 16, 3) := by decide +kernel
theorem dX4_init_28 : decode cX4_init 28 = .ok (.aload_n 0, 1) := by decide +kernel
theorem dX4_init_29 : decode cX4_init 29 = .ok (.bipush 96, 2) := by decide +kernel
theorem dX4_init_31 : decode cX4_init 31 = .ok (.newarray .int, 2) := by decide +kernel
theorem dX4_init_33 : decode cX4_init 33 = .ok (.putfield 19, 3) := by decide +kernel
theorem dX4_init_36 : decode cX4_init 36 = .ok (.aload_n 0, 1) := by decide +kernel
theorem dX4_init_37 : decode cX4_init 37 = .ok (.bipush 17, 2) := by decide +kernel
theorem dX4_init_39 : decode cX4_init 39 = .ok (.newarray .int, 2) := by decide +kernel
theorem dX4_init_41 : decode cX4_init 41 = .ok (.putfield 22, 3) := by decide +kernel
theorem dX4_init_44 : decode cX4_init 44 = .ok (.aload_n 0, 1) := by decide +kernel
theorem dX4_init_45 : decode cX4_init 45 = .ok (.bipush 16, 2) := by decide +kernel
theorem dX4_init_47 : decode cX4_init 47 = .ok (.newarray .long, 2) := by decide +kernel
theorem dX4_init_49 : decode cX4_init 49 = .ok (.putfield 25, 3) := by decide +kernel
theorem dX4_init_52 : decode cX4_init 52 = .ok (.aload_n 0, 1) := by decide +kernel
theorem dX4_init_53 : decode cX4_init 53 = .ok (.bipush 16, 2) := by decide +kernel
theorem dX4_init_55 : decode cX4_init 55 = .ok (.newarray .long, 2) := by decide +kernel
theorem dX4_init_57 : decode cX4_init 57 = .ok (.putfield 29, 3) := by decide +kernel
theorem dX4_init_60 : decode cX4_init 60 = .ok (.aload_n 0, 1) := by decide +kernel
theorem dX4_init_61 : decode cX4_init 61 = .ok (.bipush 16, 2) := by decide +kernel
theorem dX4_init_63 : decode cX4_init 63 = .ok (.newarray .long, 2) := by decide +kernel
theorem dX4_init_65 : decode cX4_init 65 = .ok (.putfield 32, 3) := by decide +kernel
theorem dX4_init_68 : decode cX4_init 68 = .ok (.aload_n 0, 1) := by decide +kernel
theorem dX4_init_69 : decode cX4_init 69 = .ok (.bipush 40, 2) := by decide +kernel
theorem dX4_init_71 : decode cX4_init 71 = .ok (.newarray .int, 2) := by decide +kernel
theorem dX4_init_73 : decode cX4_init 73 = .ok (.putfield 35, 3) := by decide +kernel
theorem dX4_init_76 : decode cX4_init 76 = .ok (.aload_n 0, 1) := by decide +kernel
theorem dX4_init_77 : decode cX4_init 77 = .ok (.bipush 17, 2) := by decide +kernel
theorem dX4_init_79 : decode cX4_init 79 = .ok (.newarray .int, 2) := by decide +kernel
theorem dX4_init_81 : decode cX4_init 81 = .ok (.putfield 38, 3) := by decide +kernel
theorem dX4_init_84 : decode cX4_init 84 = .ok (.iconst 0, 1) := by decide +kernel
theorem dX4_init_85 : decode cX4_init 85 = .ok (.istore_n 1, 1) := by decide +kernel
theorem dX4_init_86 : decode cX4_init 86 = .ok (.iload_n 1, 1) := by decide +kernel
theorem dX4_init_87 : decode cX4_init 87 = .ok (.bipush 6, 2) := by decide +kernel
theorem dX4_init_89 : decode cX4_init 89 = .ok (.if_icmp .ge 16, 3) := by decide +kernel
theorem dX4_init_92 : decode cX4_init 92 = .ok (.aload_n 0, 1) := by decide +kernel
theorem dX4_init_93 : decode cX4_init 93 = .ok (.getfield 7, 3) := by decide +kernel
theorem dX4_init_96 : decode cX4_init 96 = .ok (.iload_n 1, 1) := by decide +kernel
theorem dX4_init_97 : decode cX4_init 97 = .ok (.iconst 1, 1) := by decide +kernel
theorem dX4_init_98 : decode cX4_init 98 = .ok (.iastore, 1) := by decide +kernel
theorem dX4_init_99 : decode cX4_init 99 = .ok (.iinc 1 1, 3) := by decide +kernel
theorem dX4_init_102 : decode cX4_init 102 = .ok (.goto (-16), 3) := by decide +kernel
theorem dX4_init_105 : decode cX4_init 105 = .ok (.return_, 1) := by decide +kernel
theorem dX4_in_0 : decode cX4_in 0 = .ok (.lload_n 0, 1) := by decide +kernel
theorem dX4_in_1 : decode cX4_in 1 = .ok (.lload_n 2, 1) := by decide +kernel
theorem dX4_in_2 : decode cX4_in 2 = .ok (.lcmp, 1) := by decide +kernel
theorem dX4_in_3 : decode cX4_in 3 = .ok (.ifCond .lt 14, 3) := by decide +kernel
theorem dX4_in_6 : decode cX4_in 6 = .ok (.lload_n 0, 1) := by decide +kernel
theorem dX4_in_7 : decode cX4_in 7 = .ok (.lload 4, 2) := by decide +kernel
theorem dX4_in_9 : decode cX4_in 9 = .ok (.lcmp, 1) := by decide +kernel
theorem dX4_in_10 : decode cX4_in 10 = .ok (.ifCond .gt 7, 3) := by decide +kernel
theorem dX4_in_13 : decode cX4_in 13 = .ok (.iconst 1, 1) := by decide +kernel
theorem dX4_in_14 : decode cX4_in 14 = .ok (.goto 4, 3) := by decide +kernel
theorem dX4_in_17 : decode cX4_in 17 = .ok (.iconst 0, 1) := by decide +kernel
theorem dX4_in_18 : decode cX4_in 18 = .ok (.ireturn, 1) := by decide +kernel
theorem dX4_isPlace_0 : decode cX4_isPlace 0 = .ok (.iload_n 0, 1) := by decide +kernel
theorem dX4_isPlace_1 : decode cX4_isPlace 1 = .ok (.i2l, 1) := by decide +kernel
theorem dX4_isPlace_2 : decode cX4_isPlace 2 = .ok (.lconst 0, 1) := by decide +kernel
theorem dX4_isPlace_3 : decode cX4_isPlace 3 = .ok (.ldc2_w 41, 3) := by decide +kernel
theorem dX4_isPlace_6 : decode cX4_isPlace 6 = .ok (.invokestatic 43, 3) := by decide +kernel
theorem dX4_isPlace_9 : decode cX4_isPlace 9 = .ok (.ireturn, 1) := by decide +kernel
theorem dX4_isSmall_0 : decode cX4_isSmall 0 = .ok (.lload_n 0, 1) := by decide +kernel
theorem dX4_isSmall_1 : decode cX4_isSmall 1 = .ok (.ldc2_w 47, 3) := by decide +kernel
theorem dX4_isSmall_4 : decode cX4_isSmall 4 = .ok (.ldc2_w 49, 3) := by decide +kernel
theorem dX4_isSmall_7 : decode cX4_isSmall 7 = .ok (.invokestatic 43, 3) := by decide +kernel
theorem dX4_isSmall_10 : decode cX4_isSmall 10 = .ok (.ireturn, 1) := by decide +kernel
theorem dX4_pieces_0 : decode cX4_pieces 0 = .ok (.iload_n 1, 1) := by decide +kernel
theorem dX4_pieces_1 : decode cX4_pieces 1 = .ok (.invokestatic 51, 3) := by decide +kernel
theorem dX4_pieces_4 : decode cX4_pieces 4 = .ok (.ifCond .ne 6, 3) := by decide +kernel
theorem dX4_pieces_7 : decode cX4_pieces 7 = .ok (.bipush (-2), 2) := by decide +kernel
theorem dX4_pieces_9 : decode cX4_pieces 9 = .ok (.ireturn, 1) := by decide +kernel
theorem dX4_pieces_10 : decode cX4_pieces 10 = .ok (.iload_n 2, 1) := by decide +kernel
theorem dX4_pieces_11 : decode cX4_pieces 11 = .ok (.i2l, 1) := by decide +kernel
theorem dX4_pieces_12 : decode cX4_pieces 12 = .ok (.lconst 1, 1) := by decide +kernel
theorem dX4_pieces_13 : decode cX4_pieces 13 = .ok (.ldc2_w 55, 3) := by decide +kernel
theorem dX4_pieces_16 : decode cX4_pieces 16 = .ok (.invokestatic 43, 3) := by decide +kernel
theorem dX4_pieces_19 : decode cX4_pieces 19 = .ok (.ifCond .ne 6, 3) := by decide +kernel
theorem dX4_pieces_22 : decode cX4_pieces 22 = .ok (.bipush (-3), 2) := by decide +kernel
theorem dX4_pieces_24 : decode cX4_pieces 24 = .ok (.ireturn, 1) := by decide +kernel
theorem dX4_pieces_25 : decode cX4_pieces 25 = .ok (.aload_n 0, 1) := by decide +kernel
theorem dX4_pieces_26 : decode cX4_pieces 26 = .ok (.getfield 7, 3) := by decide +kernel
theorem dX4_pieces_29 : decode cX4_pieces 29 = .ok (.iload_n 1, 1) := by decide +kernel
theorem dX4_pieces_30 : decode cX4_pieces 30 = .ok (.iload_n 2, 1) := by decide +kernel
theorem dX4_pieces_31 : decode cX4_pieces 31 = .ok (.iastore, 1) := by decide +kernel
theorem dX4_pieces_32 : decode cX4_pieces 32 = .ok (.iconst 0, 1) := by decide +kernel
theorem dX4_pieces_33 : decode cX4_pieces 33 = .ok (.istore_n 3, 1) := by decide +kernel
theorem dX4_pieces_34 : decode cX4_pieces 34 = .ok (.iload_n 3, 1) := by decide +kernel
theorem dX4_pieces_35 : decode cX4_pieces 35 = .ok (.bipush 16, 2) := by decide +kernel
theorem dX4_pieces_37 : decode cX4_pieces 37 = .ok (.if_icmp .ge 45, 3) := by decide +kernel
theorem dX4_pieces_40 : decode cX4_pieces 40 = .ok (.aload_n 0, 1) := by decide +kernel
theorem dX4_pieces_41 : decode cX4_pieces 41 = .ok (.getfield 13, 3) := by decide +kernel
theorem dX4_pieces_44 : decode cX4_pieces 44 = .ok (.bipush 16, 2) := by decide +kernel
theorem dX4_pieces_46 : decode cX4_pieces 46 = .ok (.iload_n 1, 1) := by decide +kernel
theorem dX4_pieces_47 : decode cX4_pieces 47 = .ok (.imul, 1) := by decide +kernel
theorem dX4_pieces_48 : decode cX4_pieces 48 = .ok (.iload_n 3, 1) := by decide +kernel
theorem dX4_pieces_49 : decode cX4_pieces 49 = .ok (.iadd, 1) := by decide +kernel
theorem dX4_pieces_50 : decode cX4_pieces 50 = .ok (.iconst 0, 1) := by decide +kernel
theorem dX4_pieces_51 : decode cX4_pieces 51 = .ok (.iastore, 1) := by decide +kernel
theorem dX4_pieces_52 : decode cX4_pieces 52 = .ok (.aload_n 0, 1) := by decide +kernel
theorem dX4_pieces_53 : decode cX4_pieces 53 = .ok (.getfield 16, 3) := by decide +kernel
theorem dX4_pieces_56 : decode cX4_pieces 56 = .ok (.bipush 16, 2) := by decide +kernel
theorem dX4_pieces_58 : decode cX4_pieces 58 = .ok (.iload_n 1, 1) := by decide +kernel
theorem dX4_pieces_59 : decode cX4_pieces 59 = .ok (.imul, 1) := by decide +kernel
theorem dX4_pieces_60 : decode cX4_pieces 60 = .ok (.iload_n 3, 1) := by decide +kernel
theorem dX4_pieces_61 : decode cX4_pieces 61 = .ok (.iadd, 1) := by decide +kernel
theorem dX4_pieces_62 : decode cX4_pieces 62 = .ok (.iconst 0, 1) := by decide +kernel
theorem dX4_pieces_63 : decode cX4_pieces 63 = .ok (.iastore, 1) := by decide +kernel
theorem dX4_pieces_64 : decode cX4_pieces 64 = .ok (.aload_n 0, 1) := by decide +kernel
theorem dX4_pieces_65 : decode cX4_pieces 65 = .ok (.getfield 19, 3) := by decide +kernel
theorem dX4_pieces_68 : decode cX4_pieces 68 = .ok (.bipush 16, 2) := by decide +kernel
theorem dX4_pieces_70 : decode cX4_pieces 70 = .ok (.iload_n 1, 1) := by decide +kernel
theorem dX4_pieces_71 : decode cX4_pieces 71 = .ok (.imul, 1) := by decide +kernel
theorem dX4_pieces_72 : decode cX4_pieces 72 = .ok (.iload_n 3, 1) := by decide +kernel
theorem dX4_pieces_73 : decode cX4_pieces 73 = .ok (.iadd, 1) := by decide +kernel
theorem dX4_pieces_74 : decode cX4_pieces 74 = .ok (.iconst 0, 1) := by decide +kernel
theorem dX4_pieces_75 : decode cX4_pieces 75 = .ok (.iastore, 1) := by decide +kernel
theorem dX4_pieces_76 : decode cX4_pieces 76 = .ok (.iinc 3 1, 3) := by decide +kernel
theorem dX4_pieces_79 : decode cX4_pieces 79 = .ok (.goto (-45), 3) := by decide +kernel
theorem dX4_pieces_82 : decode cX4_pieces 82 = .ok (.iconst 1, 1) := by decide +kernel
theorem dX4_pieces_83 : decode cX4_pieces 83 = .ok (.ireturn, 1) := by decide +kernel
theorem dX4_piece_0 : decode cX4_piece 0 = .ok (.iload_n 1, 1) := by decide +kernel
theorem dX4_piece_1 : decode cX4_piece 1 = .ok (.invokestatic 51, 3) := by decide +kernel
theorem dX4_piece_4 : decode cX4_piece 4 = .ok (.ifCond .eq 21, 3) := by decide +kernel
theorem dX4_piece_7 : decode cX4_piece 7 = .ok (.iload_n 2, 1) := by decide +kernel
theorem dX4_piece_8 : decode cX4_piece 8 = .ok (.i2l, 1) := by decide +kernel
theorem dX4_piece_9 : decode cX4_piece 9 = .ok (.lconst 0, 1) := by decide +kernel
theorem dX4_piece_10 : decode cX4_piece 10 = .ok (.aload_n 0, 1) := by decide +kernel
theorem dX4_piece_11 : decode cX4_piece 11 = .ok (.getfield 7, 3) := by decide +kernel
theorem dX4_piece_14 : decode cX4_piece 14 = .ok (.iload_n 1, 1) := by decide +kernel
theorem dX4_piece_15 : decode cX4_piece 15 = .ok (.iaload, 1) := by decide +kernel
theorem dX4_piece_16 : decode cX4_piece 16 = .ok (.iconst 1, 1) := by decide +kernel
theorem dX4_piece_17 : decode cX4_piece 17 = .ok (.isub, 1) := by decide +kernel
theorem dX4_piece_18 : decode cX4_piece 18 = .ok (.i2l, 1) := by decide +kernel
theorem dX4_piece_19 : decode cX4_piece 19 = .ok (.invokestatic 43, 3) := by decide +kernel
theorem dX4_piece_22 : decode cX4_piece 22 = .ok (.ifCond .ne 6, 3) := by decide +kernel
theorem dX4_piece_25 : decode cX4_piece 25 = .ok (.bipush (-2), 2) := by decide +kernel
theorem dX4_piece_27 : decode cX4_piece 27 = .ok (.ireturn, 1) := by decide +kernel
theorem dX4_piece_28 : decode cX4_piece 28 = .ok (.iload_n 3, 1) := by decide +kernel
theorem dX4_piece_29 : decode cX4_piece 29 = .ok (.i2l, 1) := by decide +kernel
theorem dX4_piece_30 : decode cX4_piece 30 = .ok (.invokestatic 57, 3) := by decide +kernel
theorem dX4_piece_33 : decode cX4_piece 33 = .ok (.ifCond .eq 21, 3) := by decide +kernel
theorem dX4_piece_36 : decode cX4_piece 36 = .ok (.iload 4, 2) := by decide +kernel
theorem dX4_piece_38 : decode cX4_piece 38 = .ok (.i2l, 1) := by decide +kernel
theorem dX4_piece_39 : decode cX4_piece 39 = .ok (.invokestatic 57, 3) := by decide +kernel
theorem dX4_piece_42 : decode cX4_piece 42 = .ok (.ifCond .eq 12, 3) := by decide +kernel
theorem dX4_piece_45 : decode cX4_piece 45 = .ok (.iload 5, 2) := by decide +kernel
theorem dX4_piece_47 : decode cX4_piece 47 = .ok (.i2l, 1) := by decide +kernel
theorem dX4_piece_48 : decode cX4_piece 48 = .ok (.invokestatic 57, 3) := by decide +kernel
theorem dX4_piece_51 : decode cX4_piece 51 = .ok (.ifCond .ne 6, 3) := by decide +kernel
theorem dX4_piece_54 : decode cX4_piece 54 = .ok (.bipush (-5), 2) := by decide +kernel
theorem dX4_piece_56 : decode cX4_piece 56 = .ok (.ireturn, 1) := by decide +kernel
theorem dX4_piece_57 : decode cX4_piece 57 = .ok (.aload_n 0, 1) := by decide +kernel
theorem dX4_piece_58 : decode cX4_piece 58 = .ok (.getfield 13, 3) := by decide +kernel
theorem dX4_piece_61 : decode cX4_piece 61 = .ok (.bipush 16, 2) := by decide +kernel
theorem dX4_piece_63 : decode cX4_piece 63 = .ok (.iload_n 1, 1) := by decide +kernel
theorem dX4_piece_64 : decode cX4_piece 64 = .ok (.imul, 1) := by decide +kernel
theorem dX4_piece_65 : decode cX4_piece 65 = .ok (.iload_n 2, 1) := by decide +kernel
theorem dX4_piece_66 : decode cX4_piece 66 = .ok (.iadd, 1) := by decide +kernel
theorem dX4_piece_67 : decode cX4_piece 67 = .ok (.iload_n 3, 1) := by decide +kernel
theorem dX4_piece_68 : decode cX4_piece 68 = .ok (.iastore, 1) := by decide +kernel
theorem dX4_piece_69 : decode cX4_piece 69 = .ok (.aload_n 0, 1) := by decide +kernel
theorem dX4_piece_70 : decode cX4_piece 70 = .ok (.getfield 16, 3) := by decide +kernel
theorem dX4_piece_73 : decode cX4_piece 73 = .ok (.bipush 16, 2) := by decide +kernel
theorem dX4_piece_75 : decode cX4_piece 75 = .ok (.iload_n 1, 1) := by decide +kernel
theorem dX4_piece_76 : decode cX4_piece 76 = .ok (.imul, 1) := by decide +kernel
theorem dX4_piece_77 : decode cX4_piece 77 = .ok (.iload_n 2, 1) := by decide +kernel
theorem dX4_piece_78 : decode cX4_piece 78 = .ok (.iadd, 1) := by decide +kernel
theorem dX4_piece_79 : decode cX4_piece 79 = .ok (.iload 4, 2) := by decide +kernel
theorem dX4_piece_81 : decode cX4_piece 81 = .ok (.iastore, 1) := by decide +kernel
theorem dX4_piece_82 : decode cX4_piece 82 = .ok (.aload_n 0, 1) := by decide +kernel
theorem dX4_piece_83 : decode cX4_piece 83 = .ok (.getfield 19, 3) := by decide +kernel
theorem dX4_piece_86 : decode cX4_piece 86 = .ok (.bipush 16, 2) := by decide +kernel
theorem dX4_piece_88 : decode cX4_piece 88 = .ok (.iload_n 1, 1) := by decide +kernel
theorem dX4_piece_89 : decode cX4_piece 89 = .ok (.imul, 1) := by decide +kernel
theorem dX4_piece_90 : decode cX4_piece 90 = .ok (.iload_n 2, 1) := by decide +kernel
theorem dX4_piece_91 : decode cX4_piece 91 = .ok (.iadd, 1) := by decide +kernel
theorem dX4_piece_92 : decode cX4_piece 92 = .ok (.iload 5, 2) := by decide +kernel
theorem dX4_piece_94 : decode cX4_piece 94 = .ok (.iastore, 1) := by decide +kernel
theorem dX4_piece_95 : decode cX4_piece 95 = .ok (.iconst 1, 1) := by decide +kernel
theorem dX4_piece_96 : decode cX4_piece 96 = .ok (.ireturn, 1) := by decide +kernel
theorem dX4_of_0 : decode cX4_of 0 = .ok (.iload_n 1, 1) := by decide +kernel
theorem dX4_of_1 : decode cX4_of 1 = .ok (.invokestatic 51, 3) := by decide +kernel
theorem dX4_of_4 : decode cX4_of 4 = .ok (.ifCond .eq 33, 3) := by decide +kernel
theorem dX4_of_7 : decode cX4_of 7 = .ok (.iload_n 2, 1) := by decide +kernel
theorem dX4_of_8 : decode cX4_of 8 = .ok (.i2l, 1) := by decide +kernel
theorem dX4_of_9 : decode cX4_of 9 = .ok (.lconst 0, 1) := by decide +kernel
theorem dX4_of_10 : decode cX4_of 10 = .ok (.aload_n 0, 1) := by decide +kernel
theorem dX4_of_11 : decode cX4_of 11 = .ok (.getfield 7, 3) := by decide +kernel
theorem dX4_of_14 : decode cX4_of 14 = .ok (.iload_n 1, 1) := by decide +kernel
theorem dX4_of_15 : decode cX4_of 15 = .ok (.iaload, 1) := by decide +kernel
theorem dX4_of_16 : decode cX4_of 16 = .ok (.iconst 1, 1) := by decide +kernel
theorem dX4_of_17 : decode cX4_of 17 = .ok (.isub, 1) := by decide +kernel
theorem dX4_of_18 : decode cX4_of 18 = .ok (.i2l, 1) := by decide +kernel
theorem dX4_of_19 : decode cX4_of 19 = .ok (.invokestatic 43, 3) := by decide +kernel
theorem dX4_of_22 : decode cX4_of 22 = .ok (.ifCond .eq 15, 3) := by decide +kernel
theorem dX4_of_25 : decode cX4_of 25 = .ok (.iload_n 3, 1) := by decide +kernel
theorem dX4_of_26 : decode cX4_of 26 = .ok (.i2l, 1) := by decide +kernel
theorem dX4_of_27 : decode cX4_of 27 = .ok (.lconst 0, 1) := by decide +kernel
theorem dX4_of_28 : decode cX4_of 28 = .ok (.ldc2_w 61, 3) := by decide +kernel
theorem dX4_of_31 : decode cX4_of 31 = .ok (.invokestatic 43, 3) := by decide +kernel
theorem dX4_of_34 : decode cX4_of 34 = .ok (.ifCond .ne 6, 3) := by decide +kernel
theorem dX4_of_37 : decode cX4_of 37 = .ok (.ldc 63, 2) := by decide +kernel
theorem dX4_of_39 : decode cX4_of 39 = .ok (.ireturn, 1) := by decide +kernel
theorem dX4_of_40 : decode cX4_of 40 = .ok (.iload_n 3, 1) := by decide +kernel
theorem dX4_of_41 : decode cX4_of 41 = .ok (.ifCond .ne 17, 3) := by decide +kernel
theorem dX4_of_44 : decode cX4_of 44 = .ok (.aload_n 0, 1) := by decide +kernel
theorem dX4_of_45 : decode cX4_of 45 = .ok (.getfield 13, 3) := by decide +kernel
theorem dX4_of_48 : decode cX4_of 48 = .ok (.bipush 16, 2) := by decide +kernel
theorem dX4_of_50 : decode cX4_of 50 = .ok (.iload_n 1, 1) := by decide +kernel
theorem dX4_of_51 : decode cX4_of 51 = .ok (.imul, 1) := by decide +kernel
theorem dX4_of_52 : decode cX4_of 52 = .ok (.iload_n 2, 1) := by decide +kernel
theorem dX4_of_53 : decode cX4_of 53 = .ok (.iadd, 1) := by decide +kernel
theorem dX4_of_54 : decode cX4_of 54 = .ok (.iaload, 1) := by decide +kernel
theorem dX4_of_55 : decode cX4_of 55 = .ok (.goto 33, 3) := by decide +kernel
theorem dX4_of_58 : decode cX4_of 58 = .ok (.iload_n 3, 1) := by decide +kernel
theorem dX4_of_59 : decode cX4_of 59 = .ok (.iconst 1, 1) := by decide +kernel
theorem dX4_of_60 : decode cX4_of 60 = .ok (.if_icmp .ne 17, 3) := by decide +kernel
theorem dX4_of_63 : decode cX4_of 63 = .ok (.aload_n 0, 1) := by decide +kernel
theorem dX4_of_64 : decode cX4_of 64 = .ok (.getfield 16, 3) := by decide +kernel
theorem dX4_of_67 : decode cX4_of 67 = .ok (.bipush 16, 2) := by decide +kernel
theorem dX4_of_69 : decode cX4_of 69 = .ok (.iload_n 1, 1) := by decide +kernel
theorem dX4_of_70 : decode cX4_of 70 = .ok (.imul, 1) := by decide +kernel
theorem dX4_of_71 : decode cX4_of 71 = .ok (.iload_n 2, 1) := by decide +kernel
theorem dX4_of_72 : decode cX4_of 72 = .ok (.iadd, 1) := by decide +kernel
theorem dX4_of_73 : decode cX4_of 73 = .ok (.iaload, 1) := by decide +kernel
theorem dX4_of_74 : decode cX4_of 74 = .ok (.goto 14, 3) := by decide +kernel
theorem dX4_of_77 : decode cX4_of 77 = .ok (.aload_n 0, 1) := by decide +kernel
theorem dX4_of_78 : decode cX4_of 78 = .ok (.getfield 19, 3) := by decide +kernel
theorem dX4_of_81 : decode cX4_of 81 = .ok (.bipush 16, 2) := by decide +kernel
theorem dX4_of_83 : decode cX4_of 83 = .ok (.iload_n 1, 1) := by decide +kernel
theorem dX4_of_84 : decode cX4_of 84 = .ok (.imul, 1) := by decide +kernel
theorem dX4_of_85 : decode cX4_of 85 = .ok (.iload_n 2, 1) := by decide +kernel
theorem dX4_of_86 : decode cX4_of 86 = .ok (.iadd, 1) := by decide +kernel
theorem dX4_of_87 : decode cX4_of 87 = .ok (.iaload, 1) := by decide +kernel
theorem dX4_of_88 : decode cX4_of 88 = .ok (.ireturn, 1) := by decide +kernel
theorem dX4_look_0 : decode cX4_look 0 = .ok (.aload_n 0, 1) := by decide +kernel
theorem dX4_look_1 : decode cX4_look 1 = .ok (.aload_n 0, 1) := by decide +kernel
theorem dX4_look_2 : decode cX4_look 2 = .ok (.getfield 7, 3) := by decide +kernel
theorem dX4_look_5 : decode cX4_look 5 = .ok (.iload_n 1, 1) := by decide +kernel
theorem dX4_look_6 : decode cX4_look 6 = .ok (.iaload, 1) := by decide +kernel
theorem dX4_look_7 : decode cX4_look 7 = .ok (.putfield 64, 3) := by decide +kernel
theorem dX4_look_10 : decode cX4_look 10 = .ok (.iconst 0, 1) := by decide +kernel
theorem dX4_look_11 : decode cX4_look 11 = .ok (.istore_n 2, 1) := by decide +kernel
theorem dX4_look_12 : decode cX4_look 12 = .ok (.iload_n 2, 1) := by decide +kernel
theorem dX4_look_13 : decode cX4_look 13 = .ok (.aload_n 0, 1) := by decide +kernel
theorem dX4_look_14 : decode cX4_look 14 = .ok (.getfield 64, 3) := by decide +kernel
theorem dX4_look_17 : decode cX4_look 17 = .ok (.if_icmp .ge 63, 3) := by decide +kernel
theorem dX4_look_20 : decode cX4_look 20 = .ok (.aload_n 0, 1) := by decide +kernel
theorem dX4_look_21 : decode cX4_look 21 = .ok (.getfield 25, 3) := by decide +kernel
theorem dX4_look_24 : decode cX4_look 24 = .ok (.iload_n 2, 1) := by decide +kernel
theorem dX4_look_25 : decode cX4_look 25 = .ok (.aload_n 0, 1) := by decide +kernel
theorem dX4_look_26 : decode cX4_look 26 = .ok (.getfield 13, 3) := by decide +kernel
theorem dX4_look_29 : decode cX4_look 29 = .ok (.bipush 16, 2) := by decide +kernel
theorem dX4_look_31 : decode cX4_look 31 = .ok (.iload_n 1, 1) := by decide +kernel
theorem dX4_look_32 : decode cX4_look 32 = .ok (.imul, 1) := by decide +kernel
theorem dX4_look_33 : decode cX4_look 33 = .ok (.iload_n 2, 1) := by decide +kernel
theorem dX4_look_34 : decode cX4_look 34 = .ok (.iadd, 1) := by decide +kernel
theorem dX4_look_35 : decode cX4_look 35 = .ok (.iaload, 1) := by decide +kernel
theorem dX4_look_36 : decode cX4_look 36 = .ok (.i2l, 1) := by decide +kernel
theorem dX4_look_37 : decode cX4_look 37 = .ok (.lastore, 1) := by decide +kernel
theorem dX4_look_38 : decode cX4_look 38 = .ok (.aload_n 0, 1) := by decide +kernel
theorem dX4_look_39 : decode cX4_look 39 = .ok (.getfield 29, 3) := by decide +kernel
theorem dX4_look_42 : decode cX4_look 42 = .ok (.iload_n 2, 1) := by decide +kernel
theorem dX4_look_43 : decode cX4_look 43 = .ok (.aload_n 0, 1) := by decide +kernel
theorem dX4_look_44 : decode cX4_look 44 = .ok (.getfield 16, 3) := by decide +kernel
theorem dX4_look_47 : decode cX4_look 47 = .ok (.bipush 16, 2) := by decide +kernel
theorem dX4_look_49 : decode cX4_look 49 = .ok (.iload_n 1, 1) := by decide +kernel
theorem dX4_look_50 : decode cX4_look 50 = .ok (.imul, 1) := by decide +kernel
theorem dX4_look_51 : decode cX4_look 51 = .ok (.iload_n 2, 1) := by decide +kernel
theorem dX4_look_52 : decode cX4_look 52 = .ok (.iadd, 1) := by decide +kernel
theorem dX4_look_53 : decode cX4_look 53 = .ok (.iaload, 1) := by decide +kernel
theorem dX4_look_54 : decode cX4_look 54 = .ok (.i2l, 1) := by decide +kernel
theorem dX4_look_55 : decode cX4_look 55 = .ok (.lastore, 1) := by decide +kernel
theorem dX4_look_56 : decode cX4_look 56 = .ok (.aload_n 0, 1) := by decide +kernel
theorem dX4_look_57 : decode cX4_look 57 = .ok (.getfield 32, 3) := by decide +kernel
theorem dX4_look_60 : decode cX4_look 60 = .ok (.iload_n 2, 1) := by decide +kernel
theorem dX4_look_61 : decode cX4_look 61 = .ok (.aload_n 0, 1) := by decide +kernel
theorem dX4_look_62 : decode cX4_look 62 = .ok (.getfield 19, 3) := by decide +kernel
theorem dX4_look_65 : decode cX4_look 65 = .ok (.bipush 16, 2) := by decide +kernel
theorem dX4_look_67 : decode cX4_look 67 = .ok (.iload_n 1, 1) := by decide +kernel
theorem dX4_look_68 : decode cX4_look 68 = .ok (.imul, 1) := by decide +kernel
theorem dX4_look_69 : decode cX4_look 69 = .ok (.iload_n 2, 1) := by decide +kernel
theorem dX4_look_70 : decode cX4_look 70 = .ok (.iadd, 1) := by decide +kernel
theorem dX4_look_71 : decode cX4_look 71 = .ok (.iaload, 1) := by decide +kernel
theorem dX4_look_72 : decode cX4_look 72 = .ok (.i2l, 1) := by decide +kernel
theorem dX4_look_73 : decode cX4_look 73 = .ok (.lastore, 1) := by decide +kernel
theorem dX4_look_74 : decode cX4_look 74 = .ok (.iinc 2 1, 3) := by decide +kernel
theorem dX4_look_77 : decode cX4_look 77 = .ok (.goto (-65), 3) := by decide +kernel
theorem dX4_look_80 : decode cX4_look 80 = .ok (.return_, 1) := by decide +kernel
theorem dX4_lay_0 : decode cX4_lay 0 = .ok (.iconst 1, 1) := by decide +kernel
theorem dX4_lay_1 : decode cX4_lay 1 = .ok (.istore_n 2, 1) := by decide +kernel
theorem dX4_lay_2 : decode cX4_lay 2 = .ok (.iconst 0, 1) := by decide +kernel
theorem dX4_lay_3 : decode cX4_lay 3 = .ok (.istore_n 3, 1) := by decide +kernel
theorem dX4_lay_4 : decode cX4_lay 4 = .ok (.iload_n 3, 1) := by decide +kernel
theorem dX4_lay_5 : decode cX4_lay 5 = .ok (.aload_n 0, 1) := by decide +kernel
theorem dX4_lay_6 : decode cX4_lay 6 = .ok (.getfield 64, 3) := by decide +kernel
theorem dX4_lay_9 : decode cX4_lay 9 = .ok (.if_icmp .ge 55, 3) := by decide +kernel
theorem dX4_lay_12 : decode cX4_lay 12 = .ok (.iload_n 2, 1) := by decide +kernel
theorem dX4_lay_13 : decode cX4_lay 13 = .ok (.ifCond .eq 43, 3) := by decide +kernel
theorem dX4_lay_16 : decode cX4_lay 16 = .ok (.aload_n 0, 1) := by decide +kernel
theorem dX4_lay_17 : decode cX4_lay 17 = .ok (.getfield 25, 3) := by decide +kernel
theorem dX4_lay_20 : decode cX4_lay 20 = .ok (.iload_n 3, 1) := by decide +kernel
theorem dX4_lay_21 : decode cX4_lay 21 = .ok (.laload, 1) := by decide +kernel
theorem dX4_lay_22 : decode cX4_lay 22 = .ok (.invokestatic 57, 3) := by decide +kernel
theorem dX4_lay_25 : decode cX4_lay 25 = .ok (.ifCond .eq 31, 3) := by decide +kernel
theorem dX4_lay_28 : decode cX4_lay 28 = .ok (.aload_n 0, 1) := by decide +kernel
theorem dX4_lay_29 : decode cX4_lay 29 = .ok (.getfield 29, 3) := by decide +kernel
theorem dX4_lay_32 : decode cX4_lay 32 = .ok (.iload_n 3, 1) := by decide +kernel
theorem dX4_lay_33 : decode cX4_lay 33 = .ok (.laload, 1) := by decide +kernel
theorem dX4_lay_34 : decode cX4_lay 34 = .ok (.invokestatic 57, 3) := by decide +kernel
theorem dX4_lay_37 : decode cX4_lay 37 = .ok (.ifCond .eq 19, 3) := by decide +kernel
theorem dX4_lay_40 : decode cX4_lay 40 = .ok (.aload_n 0, 1) := by decide +kernel
theorem dX4_lay_41 : decode cX4_lay 41 = .ok (.getfield 32, 3) := by decide +kernel
theorem dX4_lay_44 : decode cX4_lay 44 = .ok (.iload_n 3, 1) := by decide +kernel
theorem dX4_lay_45 : decode cX4_lay 45 = .ok (.laload, 1) := by decide +kernel
theorem dX4_lay_46 : decode cX4_lay 46 = .ok (.invokestatic 57, 3) := by decide +kernel
theorem dX4_lay_49 : decode cX4_lay 49 = .ok (.ifCond .eq 7, 3) := by decide +kernel
theorem dX4_lay_52 : decode cX4_lay 52 = .ok (.iconst 1, 1) := by decide +kernel
theorem dX4_lay_53 : decode cX4_lay 53 = .ok (.goto 4, 3) := by decide +kernel
theorem dX4_lay_56 : decode cX4_lay 56 = .ok (.iconst 0, 1) := by decide +kernel
theorem dX4_lay_57 : decode cX4_lay 57 = .ok (.istore_n 2, 1) := by decide +kernel
theorem dX4_lay_58 : decode cX4_lay 58 = .ok (.iinc 3 1, 3) := by decide +kernel
theorem dX4_lay_61 : decode cX4_lay 61 = .ok (.goto (-57), 3) := by decide +kernel
theorem dX4_lay_64 : decode cX4_lay 64 = .ok (.iload_n 2, 1) := by decide +kernel
theorem dX4_lay_65 : decode cX4_lay 65 = .ok (.ifCond .ne 6, 3) := by decide +kernel
theorem dX4_lay_68 : decode cX4_lay 68 = .ok (.bipush (-5), 2) := by decide +kernel
theorem dX4_lay_70 : decode cX4_lay 70 = .ok (.ireturn, 1) := by decide +kernel
theorem dX4_lay_71 : decode cX4_lay 71 = .ok (.aload_n 0, 1) := by decide +kernel
theorem dX4_lay_72 : decode cX4_lay 72 = .ok (.getfield 7, 3) := by decide +kernel
theorem dX4_lay_75 : decode cX4_lay 75 = .ok (.iload_n 1, 1) := by decide +kernel
theorem dX4_lay_76 : decode cX4_lay 76 = .ok (.aload_n 0, 1) := by decide +kernel
theorem dX4_lay_77 : decode cX4_lay 77 = .ok (.getfield 64, 3) := by decide +kernel
theorem dX4_lay_80 : decode cX4_lay 80 = .ok (.iastore, 1) := by decide +kernel
theorem dX4_lay_81 : decode cX4_lay 81 = .ok (.iconst 0, 1) := by decide +kernel
theorem dX4_lay_82 : decode cX4_lay 82 = .ok (.istore_n 3, 1) := by decide +kernel
theorem dX4_lay_83 : decode cX4_lay 83 = .ok (.iload_n 3, 1) := by decide +kernel
theorem dX4_lay_84 : decode cX4_lay 84 = .ok (.aload_n 0, 1) := by decide +kernel
theorem dX4_lay_85 : decode cX4_lay 85 = .ok (.getfield 64, 3) := by decide +kernel
theorem dX4_lay_88 : decode cX4_lay 88 = .ok (.if_icmp .ge 63, 3) := by decide +kernel
theorem dX4_lay_91 : decode cX4_lay 91 = .ok (.aload_n 0, 1) := by decide +kernel
theorem dX4_lay_92 : decode cX4_lay 92 = .ok (.getfield 13, 3) := by decide +kernel
theorem dX4_lay_95 : decode cX4_lay 95 = .ok (.bipush 16, 2) := by decide +kernel
theorem dX4_lay_97 : decode cX4_lay 97 = .ok (.iload_n 1, 1) := by decide +kernel
theorem dX4_lay_98 : decode cX4_lay 98 = .ok (.imul, 1) := by decide +kernel
theorem dX4_lay_99 : decode cX4_lay 99 = .ok (.iload_n 3, 1) := by decide +kernel
theorem dX4_lay_100 : decode cX4_lay 100 = .ok (.iadd, 1) := by decide +kernel
theorem dX4_lay_101 : decode cX4_lay 101 = .ok (.aload_n 0, 1) := by decide +kernel
theorem dX4_lay_102 : decode cX4_lay 102 = .ok (.getfield 25, 3) := by decide +kernel
theorem dX4_lay_105 : decode cX4_lay 105 = .ok (.iload_n 3, 1) := by decide +kernel
theorem dX4_lay_106 : decode cX4_lay 106 = .ok (.laload, 1) := by decide +kernel
theorem dX4_lay_107 : decode cX4_lay 107 = .ok (.l2i, 1) := by decide +kernel
theorem dX4_lay_108 : decode cX4_lay 108 = .ok (.iastore, 1) := by decide +kernel
theorem dX4_lay_109 : decode cX4_lay 109 = .ok (.aload_n 0, 1) := by decide +kernel
theorem dX4_lay_110 : decode cX4_lay 110 = .ok (.getfield 16, 3) := by decide +kernel
theorem dX4_lay_113 : decode cX4_lay 113 = .ok (.bipush 16, 2) := by decide +kernel
theorem dX4_lay_115 : decode cX4_lay 115 = .ok (.iload_n 1, 1) := by decide +kernel
theorem dX4_lay_116 : decode cX4_lay 116 = .ok (.imul, 1) := by decide +kernel
theorem dX4_lay_117 : decode cX4_lay 117 = .ok (.iload_n 3, 1) := by decide +kernel
theorem dX4_lay_118 : decode cX4_lay 118 = .ok (.iadd, 1) := by decide +kernel
theorem dX4_lay_119 : decode cX4_lay 119 = .ok (.aload_n 0, 1) := by decide +kernel
theorem dX4_lay_120 : decode cX4_lay 120 = .ok (.getfield 29, 3) := by decide +kernel
theorem dX4_lay_123 : decode cX4_lay 123 = .ok (.iload_n 3, 1) := by decide +kernel
theorem dX4_lay_124 : decode cX4_lay 124 = .ok (.laload, 1) := by decide +kernel
theorem dX4_lay_125 : decode cX4_lay 125 = .ok (.l2i, 1) := by decide +kernel
theorem dX4_lay_126 : decode cX4_lay 126 = .ok (.iastore, 1) := by decide +kernel
theorem dX4_lay_127 : decode cX4_lay 127 = .ok (.aload_n 0, 1) := by decide +kernel
theorem dX4_lay_128 : decode cX4_lay 128 = .ok (.getfield 19, 3) := by decide +kernel
theorem dX4_lay_131 : decode cX4_lay 131 = .ok (.bipush 16, 2) := by decide +kernel
theorem dX4_lay_133 : decode cX4_lay 133 = .ok (.iload_n 1, 1) := by decide +kernel
theorem dX4_lay_134 : decode cX4_lay 134 = .ok (.imul, 1) := by decide +kernel
theorem dX4_lay_135 : decode cX4_lay 135 = .ok (.iload_n 3, 1) := by decide +kernel
theorem dX4_lay_136 : decode cX4_lay 136 = .ok (.iadd, 1) := by decide +kernel
theorem dX4_lay_137 : decode cX4_lay 137 = .ok (.aload_n 0, 1) := by decide +kernel
theorem dX4_lay_138 : decode cX4_lay 138 = .ok (.getfield 32, 3) := by decide +kernel
theorem dX4_lay_141 : decode cX4_lay 141 = .ok (.iload_n 3, 1) := by decide +kernel
theorem dX4_lay_142 : decode cX4_lay 142 = .ok (.laload, 1) := by decide +kernel
theorem dX4_lay_143 : decode cX4_lay 143 = .ok (.l2i, 1) := by decide +kernel
theorem dX4_lay_144 : decode cX4_lay 144 = .ok (.iastore, 1) := by decide +kernel
theorem dX4_lay_145 : decode cX4_lay 145 = .ok (.iinc 3 1, 3) := by decide +kernel
theorem dX4_lay_148 : decode cX4_lay 148 = .ok (.goto (-65), 3) := by decide +kernel
theorem dX4_lay_151 : decode cX4_lay 151 = .ok (.iconst 1, 1) := by decide +kernel
theorem dX4_lay_152 : decode cX4_lay 152 = .ok (.ireturn, 1) := by decide +kernel
theorem dX4_common_0 : decode cX4_common 0 = .ok (.lload_n 0, 1) := by decide +kernel
theorem dX4_common_1 : decode cX4_common 1 = .ok (.lconst 0, 1) := by decide +kernel
theorem dX4_common_2 : decode cX4_common 2 = .ok (.lcmp, 1) := by decide +kernel
theorem dX4_common_3 : decode cX4_common 3 = .ok (.ifCond .ge 8, 3) := by decide +kernel
theorem dX4_common_6 : decode cX4_common 6 = .ok (.lload_n 0, 1) := by decide +kernel
theorem dX4_common_7 : decode cX4_common 7 = .ok (.lneg, 1) := by decide +kernel
theorem dX4_common_8 : decode cX4_common 8 = .ok (.goto 4, 3) := by decide +kernel
theorem dX4_common_11 : decode cX4_common 11 = .ok (.lload_n 0, 1) := by decide +kernel
theorem dX4_common_12 : decode cX4_common 12 = .ok (.lstore 4, 2) := by decide +kernel
theorem dX4_common_14 : decode cX4_common 14 = .ok (.lload_n 2, 1) := by decide +kernel
theorem dX4_common_15 : decode cX4_common 15 = .ok (.lstore 6, 2) := by decide +kernel
theorem dX4_common_17 : decode cX4_common 17 = .ok (.lload 6, 2) := by decide +kernel
theorem dX4_common_19 : decode cX4_common 19 = .ok (.lconst 0, 1) := by decide +kernel
theorem dX4_common_20 : decode cX4_common 20 = .ok (.lcmp, 1) := by decide +kernel
theorem dX4_common_21 : decode cX4_common 21 = .ok (.ifCond .eq 21, 3) := by decide +kernel
theorem dX4_common_24 : decode cX4_common 24 = .ok (.lload 4, 2) := by decide +kernel
theorem dX4_common_26 : decode cX4_common 26 = .ok (.lload 6, 2) := by decide +kernel
theorem dX4_common_28 : decode cX4_common 28 = .ok (.lrem, 1) := by decide +kernel
theorem dX4_common_29 : decode cX4_common 29 = .ok (.lstore 8, 2) := by decide +kernel
theorem dX4_common_31 : decode cX4_common 31 = .ok (.lload 6, 2) := by decide +kernel
theorem dX4_common_33 : decode cX4_common 33 = .ok (.lstore 4, 2) := by decide +kernel
theorem dX4_common_35 : decode cX4_common 35 = .ok (.lload 8, 2) := by decide +kernel
theorem dX4_common_37 : decode cX4_common 37 = .ok (.lstore 6, 2) := by decide +kernel
theorem dX4_common_39 : decode cX4_common 39 = .ok (.goto (-22), 3) := by decide +kernel
theorem dX4_common_42 : decode cX4_common 42 = .ok (.lload 4, 2) := by decide +kernel
theorem dX4_common_44 : decode cX4_common 44 = .ok (.lreturn, 1) := by decide +kernel
theorem dX4_told_0 : decode cX4_told 0 = .ok (.lload_n 0, 1) := by decide +kernel
theorem dX4_told_1 : decode cX4_told 1 = .ok (.lload_n 2, 1) := by decide +kernel
theorem dX4_told_2 : decode cX4_told 2 = .ok (.invokestatic 68, 3) := by decide +kernel
theorem dX4_told_5 : decode cX4_told 5 = .ok (.lstore 5, 2) := by decide +kernel
theorem dX4_told_7 : decode cX4_told 7 = .ok (.iload 4, 2) := by decide +kernel
theorem dX4_told_9 : decode cX4_told 9 = .ok (.ifCond .ne 10, 3) := by decide +kernel
theorem dX4_told_12 : decode cX4_told 12 = .ok (.lload_n 0, 1) := by decide +kernel
theorem dX4_told_13 : decode cX4_told 13 = .ok (.lload 5, 2) := by decide +kernel
theorem dX4_told_15 : decode cX4_told 15 = .ok (.ldiv, 1) := by decide +kernel
theorem dX4_told_16 : decode cX4_told 16 = .ok (.goto 7, 3) := by decide +kernel
theorem dX4_told_19 : decode cX4_told 19 = .ok (.lload_n 2, 1) := by decide +kernel
theorem dX4_told_20 : decode cX4_told 20 = .ok (.lload 5, 2) := by decide +kernel
theorem dX4_told_22 : decode cX4_told 22 = .ok (.ldiv, 1) := by decide +kernel
theorem dX4_told_23 : decode cX4_told 23 = .ok (.lreturn, 1) := by decide +kernel
theorem dX4_value_0 : decode cX4_value 0 = .ok (.iload_n 1, 1) := by decide +kernel
theorem dX4_value_1 : decode cX4_value 1 = .ok (.invokestatic 51, 3) := by decide +kernel
theorem dX4_value_4 : decode cX4_value 4 = .ok (.ifCond .eq 44, 3) := by decide +kernel
theorem dX4_value_7 : decode cX4_value 7 = .ok (.iload_n 3, 1) := by decide +kernel
theorem dX4_value_8 : decode cX4_value 8 = .ok (.i2l, 1) := by decide +kernel
theorem dX4_value_9 : decode cX4_value 9 = .ok (.lconst 1, 1) := by decide +kernel
theorem dX4_value_10 : decode cX4_value 10 = .ok (.ldc2_w 72, 3) := by decide +kernel
theorem dX4_value_13 : decode cX4_value 13 = .ok (.invokestatic 43, 3) := by decide +kernel
theorem dX4_value_16 : decode cX4_value 16 = .ok (.ifCond .eq 32, 3) := by decide +kernel
theorem dX4_value_19 : decode cX4_value 19 = .ok (.iload_n 2, 1) := by decide +kernel
theorem dX4_value_20 : decode cX4_value 20 = .ok (.i2l, 1) := by decide +kernel
theorem dX4_value_21 : decode cX4_value 21 = .ok (.lconst 0, 1) := by decide +kernel
theorem dX4_value_22 : decode cX4_value 22 = .ok (.aload_n 0, 1) := by decide +kernel
theorem dX4_value_23 : decode cX4_value 23 = .ok (.getfield 7, 3) := by decide +kernel
theorem dX4_value_26 : decode cX4_value 26 = .ok (.iload_n 1, 1) := by decide +kernel
theorem dX4_value_27 : decode cX4_value 27 = .ok (.iaload, 1) := by decide +kernel
theorem dX4_value_28 : decode cX4_value 28 = .ok (.iload_n 3, 1) := by decide +kernel
theorem dX4_value_29 : decode cX4_value 29 = .ok (.imul, 1) := by decide +kernel
theorem dX4_value_30 : decode cX4_value 30 = .ok (.i2l, 1) := by decide +kernel
theorem dX4_value_31 : decode cX4_value 31 = .ok (.invokestatic 43, 3) := by decide +kernel
theorem dX4_value_34 : decode cX4_value 34 = .ok (.ifCond .eq 14, 3) := by decide +kernel
theorem dX4_value_37 : decode cX4_value 37 = .ok (.iload 4, 2) := by decide +kernel
theorem dX4_value_39 : decode cX4_value 39 = .ok (.i2l, 1) := by decide +kernel
theorem dX4_value_40 : decode cX4_value 40 = .ok (.lconst 0, 1) := by decide +kernel
theorem dX4_value_41 : decode cX4_value 41 = .ok (.lconst 1, 1) := by decide +kernel
theorem dX4_value_42 : decode cX4_value 42 = .ok (.invokestatic 43, 3) := by decide +kernel
theorem dX4_value_45 : decode cX4_value 45 = .ok (.ifCond .ne 7, 3) := by decide +kernel
theorem dX4_value_48 : decode cX4_value 48 = .ok (.ldc2_w 74, 3) := by decide +kernel
theorem dX4_value_51 : decode cX4_value 51 = .ok (.lreturn, 1) := by decide +kernel
theorem dX4_value_52 : decode cX4_value 52 = .ok (.iload_n 2, 1) := by decide +kernel
theorem dX4_value_53 : decode cX4_value 53 = .ok (.iload_n 3, 1) := by decide +kernel
theorem dX4_value_54 : decode cX4_value 54 = .ok (.idiv, 1) := by decide +kernel
theorem dX4_value_55 : decode cX4_value 55 = .ok (.aload_n 0, 1) := by decide +kernel
theorem dX4_value_56 : decode cX4_value 56 = .ok (.getfield 7, 3) := by decide +kernel
theorem dX4_value_59 : decode cX4_value 59 = .ok (.iload_n 1, 1) := by decide +kernel
theorem dX4_value_60 : decode cX4_value 60 = .ok (.iaload, 1) := by decide +kernel
theorem dX4_value_61 : decode cX4_value 61 = .ok (.if_icmp .ge 9, 3) := by decide +kernel
theorem dX4_value_64 : decode cX4_value 64 = .ok (.iload_n 2, 1) := by decide +kernel
theorem dX4_value_65 : decode cX4_value 65 = .ok (.iload_n 3, 1) := by decide +kernel
theorem dX4_value_66 : decode cX4_value 66 = .ok (.idiv, 1) := by decide +kernel
theorem dX4_value_67 : decode cX4_value 67 = .ok (.goto 11, 3) := by decide +kernel
theorem dX4_value_70 : decode cX4_value 70 = .ok (.aload_n 0, 1) := by decide +kernel
theorem dX4_value_71 : decode cX4_value 71 = .ok (.getfield 7, 3) := by decide +kernel
theorem dX4_value_74 : decode cX4_value 74 = .ok (.iload_n 1, 1) := by decide +kernel
theorem dX4_value_75 : decode cX4_value 75 = .ok (.iaload, 1) := by decide +kernel
theorem dX4_value_76 : decode cX4_value 76 = .ok (.iconst 1, 1) := by decide +kernel
theorem dX4_value_77 : decode cX4_value 77 = .ok (.isub, 1) := by decide +kernel
theorem dX4_value_78 : decode cX4_value 78 = .ok (.istore 5, 2) := by decide +kernel
theorem dX4_value_80 : decode cX4_value 80 = .ok (.iload_n 2, 1) := by decide +kernel
theorem dX4_value_81 : decode cX4_value 81 = .ok (.iload 5, 2) := by decide +kernel
theorem dX4_value_83 : decode cX4_value 83 = .ok (.iload_n 3, 1) := by decide +kernel
theorem dX4_value_84 : decode cX4_value 84 = .ok (.imul, 1) := by decide +kernel
theorem dX4_value_85 : decode cX4_value 85 = .ok (.isub, 1) := by decide +kernel
theorem dX4_value_86 : decode cX4_value 86 = .ok (.i2l, 1) := by decide +kernel
theorem dX4_value_87 : decode cX4_value 87 = .ok (.lstore 6, 2) := by decide +kernel
theorem dX4_value_89 : decode cX4_value 89 = .ok (.bipush 16, 2) := by decide +kernel
theorem dX4_value_91 : decode cX4_value 91 = .ok (.iload_n 1, 1) := by decide +kernel
theorem dX4_value_92 : decode cX4_value 92 = .ok (.imul, 1) := by decide +kernel
theorem dX4_value_93 : decode cX4_value 93 = .ok (.iload 5, 2) := by decide +kernel
theorem dX4_value_95 : decode cX4_value 95 = .ok (.iadd, 1) := by decide +kernel
theorem dX4_value_96 : decode cX4_value 96 = .ok (.istore 8, 2) := by decide +kernel
theorem dX4_value_98 : decode cX4_value 98 = .ok (.aload_n 0, 1) := by decide +kernel
theorem dX4_value_99 : decode cX4_value 99 = .ok (.getfield 13, 3) := by decide +kernel
theorem dX4_value_102 : decode cX4_value 102 = .ok (.iload 8, 2) := by decide +kernel
theorem dX4_value_104 : decode cX4_value 104 = .ok (.iaload, 1) := by decide +kernel
theorem dX4_value_105 : decode cX4_value 105 = .ok (.i2l, 1) := by decide +kernel
theorem dX4_value_106 : decode cX4_value 106 = .ok (.iload_n 3, 1) := by decide +kernel
theorem dX4_value_107 : decode cX4_value 107 = .ok (.i2l, 1) := by decide +kernel
theorem dX4_value_108 : decode cX4_value 108 = .ok (.lmul, 1) := by decide +kernel
theorem dX4_value_109 : decode cX4_value 109 = .ok (.iload_n 3, 1) := by decide +kernel
theorem dX4_value_110 : decode cX4_value 110 = .ok (.i2l, 1) := by decide +kernel
theorem dX4_value_111 : decode cX4_value 111 = .ok (.lmul, 1) := by decide +kernel
theorem dX4_value_112 : decode cX4_value 112 = .ok (.aload_n 0, 1) := by decide +kernel
theorem dX4_value_113 : decode cX4_value 113 = .ok (.getfield 16, 3) := by decide +kernel
theorem dX4_value_116 : decode cX4_value 116 = .ok (.iload 8, 2) := by decide +kernel
theorem dX4_value_118 : decode cX4_value 118 = .ok (.iaload, 1) := by decide +kernel
theorem dX4_value_119 : decode cX4_value 119 = .ok (.i2l, 1) := by decide +kernel
theorem dX4_value_120 : decode cX4_value 120 = .ok (.lload 6, 2) := by decide +kernel
theorem dX4_value_122 : decode cX4_value 122 = .ok (.lmul, 1) := by decide +kernel
theorem dX4_value_123 : decode cX4_value 123 = .ok (.iload_n 3, 1) := by decide +kernel
theorem dX4_value_124 : decode cX4_value 124 = .ok (.i2l, 1) := by decide +kernel
theorem dX4_value_125 : decode cX4_value 125 = .ok (.lmul, 1) := by decide +kernel
theorem dX4_value_126 : decode cX4_value 126 = .ok (.ladd, 1) := by decide +kernel
theorem dX4_value_127 : decode cX4_value 127 = .ok (.aload_n 0, 1) := by decide +kernel
theorem dX4_value_128 : decode cX4_value 128 = .ok (.getfield 19, 3) := by decide +kernel
theorem dX4_value_131 : decode cX4_value 131 = .ok (.iload 8, 2) := by decide +kernel
theorem dX4_value_133 : decode cX4_value 133 = .ok (.iaload, 1) := by decide +kernel
theorem dX4_value_134 : decode cX4_value 134 = .ok (.i2l, 1) := by decide +kernel
theorem dX4_value_135 : decode cX4_value 135 = .ok (.lload 6, 2) := by decide +kernel
theorem dX4_value_137 : decode cX4_value 137 = .ok (.lmul, 1) := by decide +kernel
theorem dX4_value_138 : decode cX4_value 138 = .ok (.lload 6, 2) := by decide +kernel
theorem dX4_value_140 : decode cX4_value 140 = .ok (.lmul, 1) := by decide +kernel
theorem dX4_value_141 : decode cX4_value 141 = .ok (.ladd, 1) := by decide +kernel
theorem dX4_value_142 : decode cX4_value 142 = .ok (.iload_n 3, 1) := by decide +kernel
theorem dX4_value_143 : decode cX4_value 143 = .ok (.i2l, 1) := by decide +kernel
theorem dX4_value_144 : decode cX4_value 144 = .ok (.iload_n 3, 1) := by decide +kernel
theorem dX4_value_145 : decode cX4_value 145 = .ok (.i2l, 1) := by decide +kernel
theorem dX4_value_146 : decode cX4_value 146 = .ok (.lmul, 1) := by decide +kernel
theorem dX4_value_147 : decode cX4_value 147 = .ok (.iload 4, 2) := by decide +kernel
theorem dX4_value_149 : decode cX4_value 149 = .ok (.invokestatic 76, 3) := by decide +kernel
theorem dX4_value_152 : decode cX4_value 152 = .ok (.lreturn, 1) := by decide +kernel
theorem dX4_joinOf_0 : decode cX4_joinOf 0 = .ok (.aload_n 0, 1) := by decide +kernel
theorem dX4_joinOf_1 : decode cX4_joinOf 1 = .ok (.getfield 25, 3) := by decide +kernel
theorem dX4_joinOf_4 : decode cX4_joinOf 4 = .ok (.iload_n 1, 1) := by decide +kernel
theorem dX4_joinOf_5 : decode cX4_joinOf 5 = .ok (.iconst 1, 1) := by decide +kernel
theorem dX4_joinOf_6 : decode cX4_joinOf 6 = .ok (.isub, 1) := by decide +kernel
theorem dX4_joinOf_7 : decode cX4_joinOf 7 = .ok (.laload, 1) := by decide +kernel
theorem dX4_joinOf_8 : decode cX4_joinOf 8 = .ok (.aload_n 0, 1) := by decide +kernel
theorem dX4_joinOf_9 : decode cX4_joinOf 9 = .ok (.getfield 29, 3) := by decide +kernel
theorem dX4_joinOf_12 : decode cX4_joinOf 12 = .ok (.iload_n 1, 1) := by decide +kernel
theorem dX4_joinOf_13 : decode cX4_joinOf 13 = .ok (.iconst 1, 1) := by decide +kernel
theorem dX4_joinOf_14 : decode cX4_joinOf 14 = .ok (.isub, 1) := by decide +kernel
theorem dX4_joinOf_15 : decode cX4_joinOf 15 = .ok (.laload, 1) := by decide +kernel
theorem dX4_joinOf_16 : decode cX4_joinOf 16 = .ok (.ladd, 1) := by decide +kernel
theorem dX4_joinOf_17 : decode cX4_joinOf 17 = .ok (.aload_n 0, 1) := by decide +kernel
theorem dX4_joinOf_18 : decode cX4_joinOf 18 = .ok (.getfield 32, 3) := by decide +kernel
theorem dX4_joinOf_21 : decode cX4_joinOf 21 = .ok (.iload_n 1, 1) := by decide +kernel
theorem dX4_joinOf_22 : decode cX4_joinOf 22 = .ok (.iconst 1, 1) := by decide +kernel
theorem dX4_joinOf_23 : decode cX4_joinOf 23 = .ok (.isub, 1) := by decide +kernel
theorem dX4_joinOf_24 : decode cX4_joinOf 24 = .ok (.laload, 1) := by decide +kernel
theorem dX4_joinOf_25 : decode cX4_joinOf 25 = .ok (.ladd, 1) := by decide +kernel
theorem dX4_joinOf_26 : decode cX4_joinOf 26 = .ok (.aload_n 0, 1) := by decide +kernel
theorem dX4_joinOf_27 : decode cX4_joinOf 27 = .ok (.getfield 25, 3) := by decide +kernel
theorem dX4_joinOf_30 : decode cX4_joinOf 30 = .ok (.iload_n 1, 1) := by decide +kernel
theorem dX4_joinOf_31 : decode cX4_joinOf 31 = .ok (.laload, 1) := by decide +kernel
theorem dX4_joinOf_32 : decode cX4_joinOf 32 = .ok (.lcmp, 1) := by decide +kernel
theorem dX4_joinOf_33 : decode cX4_joinOf 33 = .ok (.ifCond .eq 5, 3) := by decide +kernel
theorem dX4_joinOf_36 : decode cX4_joinOf 36 = .ok (.iconst (-1), 1) := by decide +kernel
theorem dX4_joinOf_37 : decode cX4_joinOf 37 = .ok (.ireturn, 1) := by decide +kernel
theorem dX4_joinOf_38 : decode cX4_joinOf 38 = .ok (.aload_n 0, 1) := by decide +kernel
theorem dX4_joinOf_39 : decode cX4_joinOf 39 = .ok (.getfield 29, 3) := by decide +kernel
theorem dX4_joinOf_42 : decode cX4_joinOf 42 = .ok (.iload_n 1, 1) := by decide +kernel
theorem dX4_joinOf_43 : decode cX4_joinOf 43 = .ok (.iconst 1, 1) := by decide +kernel
theorem dX4_joinOf_44 : decode cX4_joinOf 44 = .ok (.isub, 1) := by decide +kernel
theorem dX4_joinOf_45 : decode cX4_joinOf 45 = .ok (.laload, 1) := by decide +kernel
theorem dX4_joinOf_46 : decode cX4_joinOf 46 = .ok (.ldc2_w 61, 3) := by decide +kernel
theorem dX4_joinOf_49 : decode cX4_joinOf 49 = .ok (.aload_n 0, 1) := by decide +kernel
theorem dX4_joinOf_50 : decode cX4_joinOf 50 = .ok (.getfield 32, 3) := by decide +kernel
theorem dX4_joinOf_53 : decode cX4_joinOf 53 = .ok (.iload_n 1, 1) := by decide +kernel
theorem dX4_joinOf_54 : decode cX4_joinOf 54 = .ok (.iconst 1, 1) := by decide +kernel
theorem dX4_joinOf_55 : decode cX4_joinOf 55 = .ok (.isub, 1) := by decide +kernel
theorem dX4_joinOf_56 : decode cX4_joinOf 56 = .ok (.laload, 1) := by decide +kernel
theorem dX4_joinOf_57 : decode cX4_joinOf 57 = .ok (.lmul, 1) := by decide +kernel
theorem dX4_joinOf_58 : decode cX4_joinOf 58 = .ok (.ladd, 1) := by decide +kernel
theorem dX4_joinOf_59 : decode cX4_joinOf 59 = .ok (.aload_n 0, 1) := by decide +kernel
theorem dX4_joinOf_60 : decode cX4_joinOf 60 = .ok (.getfield 29, 3) := by decide +kernel
theorem dX4_joinOf_63 : decode cX4_joinOf 63 = .ok (.iload_n 1, 1) := by decide +kernel
theorem dX4_joinOf_64 : decode cX4_joinOf 64 = .ok (.laload, 1) := by decide +kernel
theorem dX4_joinOf_65 : decode cX4_joinOf 65 = .ok (.lcmp, 1) := by decide +kernel
theorem dX4_joinOf_66 : decode cX4_joinOf 66 = .ok (.ifCond .eq 7, 3) := by decide +kernel
theorem dX4_joinOf_69 : decode cX4_joinOf 69 = .ok (.iconst 0, 1) := by decide +kernel
theorem dX4_joinOf_70 : decode cX4_joinOf 70 = .ok (.goto 26, 3) := by decide +kernel
theorem dX4_joinOf_73 : decode cX4_joinOf 73 = .ok (.aload_n 0, 1) := by decide +kernel
theorem dX4_joinOf_74 : decode cX4_joinOf 74 = .ok (.getfield 32, 3) := by decide +kernel
theorem dX4_joinOf_77 : decode cX4_joinOf 77 = .ok (.iload_n 1, 1) := by decide +kernel
theorem dX4_joinOf_78 : decode cX4_joinOf 78 = .ok (.iconst 1, 1) := by decide +kernel
theorem dX4_joinOf_79 : decode cX4_joinOf 79 = .ok (.isub, 1) := by decide +kernel
theorem dX4_joinOf_80 : decode cX4_joinOf 80 = .ok (.laload, 1) := by decide +kernel
theorem dX4_joinOf_81 : decode cX4_joinOf 81 = .ok (.aload_n 0, 1) := by decide +kernel
theorem dX4_joinOf_82 : decode cX4_joinOf 82 = .ok (.getfield 32, 3) := by decide +kernel
theorem dX4_joinOf_85 : decode cX4_joinOf 85 = .ok (.iload_n 1, 1) := by decide +kernel
theorem dX4_joinOf_86 : decode cX4_joinOf 86 = .ok (.laload, 1) := by decide +kernel
theorem dX4_joinOf_87 : decode cX4_joinOf 87 = .ok (.lcmp, 1) := by decide +kernel
theorem dX4_joinOf_88 : decode cX4_joinOf 88 = .ok (.ifCond .eq 7, 3) := by decide +kernel
theorem dX4_joinOf_91 : decode cX4_joinOf 91 = .ok (.iconst 1, 1) := by decide +kernel
theorem dX4_joinOf_92 : decode cX4_joinOf 92 = .ok (.goto 4, 3) := by decide +kernel
theorem dX4_joinOf_95 : decode cX4_joinOf 95 = .ok (.iconst 2, 1) := by decide +kernel
theorem dX4_joinOf_96 : decode cX4_joinOf 96 = .ok (.ireturn, 1) := by decide +kernel
theorem dX4_join_0 : decode cX4_join 0 = .ok (.iload_n 1, 1) := by decide +kernel
theorem dX4_join_1 : decode cX4_join 1 = .ok (.invokestatic 51, 3) := by decide +kernel
theorem dX4_join_4 : decode cX4_join 4 = .ok (.ifCond .eq 21, 3) := by decide +kernel
theorem dX4_join_7 : decode cX4_join 7 = .ok (.iload_n 2, 1) := by decide +kernel
theorem dX4_join_8 : decode cX4_join 8 = .ok (.i2l, 1) := by decide +kernel
theorem dX4_join_9 : decode cX4_join 9 = .ok (.lconst 1, 1) := by decide +kernel
theorem dX4_join_10 : decode cX4_join 10 = .ok (.aload_n 0, 1) := by decide +kernel
theorem dX4_join_11 : decode cX4_join 11 = .ok (.getfield 7, 3) := by decide +kernel
theorem dX4_join_14 : decode cX4_join 14 = .ok (.iload_n 1, 1) := by decide +kernel
theorem dX4_join_15 : decode cX4_join 15 = .ok (.iaload, 1) := by decide +kernel
theorem dX4_join_16 : decode cX4_join 16 = .ok (.iconst 1, 1) := by decide +kernel
theorem dX4_join_17 : decode cX4_join 17 = .ok (.isub, 1) := by decide +kernel
theorem dX4_join_18 : decode cX4_join 18 = .ok (.i2l, 1) := by decide +kernel
theorem dX4_join_19 : decode cX4_join 19 = .ok (.invokestatic 43, 3) := by decide +kernel
theorem dX4_join_22 : decode cX4_join 22 = .ok (.ifCond .ne 6, 3) := by decide +kernel
theorem dX4_join_25 : decode cX4_join 25 = .ok (.bipush (-2), 2) := by decide +kernel
theorem dX4_join_27 : decode cX4_join 27 = .ok (.ireturn, 1) := by decide +kernel
theorem dX4_join_28 : decode cX4_join 28 = .ok (.aload_n 0, 1) := by decide +kernel
theorem dX4_join_29 : decode cX4_join 29 = .ok (.iload_n 1, 1) := by decide +kernel
theorem dX4_join_30 : decode cX4_join 30 = .ok (.invokevirtual 80, 3) := by decide +kernel
theorem dX4_join_33 : decode cX4_join 33 = .ok (.aload_n 0, 1) := by decide +kernel
theorem dX4_join_34 : decode cX4_join 34 = .ok (.iload_n 2, 1) := by decide +kernel
theorem dX4_join_35 : decode cX4_join 35 = .ok (.invokevirtual 84, 3) := by decide +kernel
theorem dX4_join_38 : decode cX4_join 38 = .ok (.ireturn, 1) := by decide +kernel
theorem dX4_hasShape_0 : decode cX4_hasShape 0 = .ok (.iload_n 1, 1) := by decide +kernel
theorem dX4_hasShape_1 : decode cX4_hasShape 1 = .ok (.iconst 2, 1) := by decide +kernel
theorem dX4_hasShape_2 : decode cX4_hasShape 2 = .ok (.irem, 1) := by decide +kernel
theorem dX4_hasShape_3 : decode cX4_hasShape 3 = .ok (.iconst 1, 1) := by decide +kernel
theorem dX4_hasShape_4 : decode cX4_hasShape 4 = .ok (.if_icmp .ne 7, 3) := by decide +kernel
theorem dX4_hasShape_7 : decode cX4_hasShape 7 = .ok (.lconst 1, 1) := by decide +kernel
theorem dX4_hasShape_8 : decode cX4_hasShape 8 = .ok (.goto 6, 3) := by decide +kernel
theorem dX4_hasShape_11 : decode cX4_hasShape 11 = .ok (.ldc2_w 88, 3) := by decide +kernel
theorem dX4_hasShape_14 : decode cX4_hasShape 14 = .ok (.lstore_n 2, 1) := by decide +kernel
theorem dX4_hasShape_15 : decode cX4_hasShape 15 = .ok (.iconst 1, 1) := by decide +kernel
theorem dX4_hasShape_16 : decode cX4_hasShape 16 = .ok (.istore 4, 2) := by decide +kernel
theorem dX4_hasShape_18 : decode cX4_hasShape 18 = .ok (.iconst 0, 1) := by decide +kernel
theorem dX4_hasShape_19 : decode cX4_hasShape 19 = .ok (.istore 5, 2) := by decide +kernel
theorem dX4_hasShape_21 : decode cX4_hasShape 21 = .ok (.iload 5, 2) := by decide +kernel
theorem dX4_hasShape_23 : decode cX4_hasShape 23 = .ok (.aload_n 0, 1) := by decide +kernel
theorem dX4_hasShape_24 : decode cX4_hasShape 24 = .ok (.getfield 64, 3) := by decide +kernel
theorem dX4_hasShape_27 : decode cX4_hasShape 27 = .ok (.if_icmp .ge 191, 3) := by decide +kernel
theorem dX4_hasShape_30 : decode cX4_hasShape 30 = .ok (.lload_n 2, 1) := by decide +kernel
theorem dX4_hasShape_31 : decode cX4_hasShape 31 = .ok (.aload_n 0, 1) := by decide +kernel
theorem dX4_hasShape_32 : decode cX4_hasShape 32 = .ok (.getfield 29, 3) := by decide +kernel
theorem dX4_hasShape_35 : decode cX4_hasShape 35 = .ok (.iload 5, 2) := by decide +kernel
theorem dX4_hasShape_37 : decode cX4_hasShape 37 = .ok (.laload, 1) := by decide +kernel
theorem dX4_hasShape_38 : decode cX4_hasShape 38 = .ok (.lmul, 1) := by decide +kernel
theorem dX4_hasShape_39 : decode cX4_hasShape 39 = .ok (.lstore 6, 2) := by decide +kernel
theorem dX4_hasShape_41 : decode cX4_hasShape 41 = .ok (.lload_n 2, 1) := by decide +kernel
theorem dX4_hasShape_42 : decode cX4_hasShape 42 = .ok (.aload_n 0, 1) := by decide +kernel
theorem dX4_hasShape_43 : decode cX4_hasShape 43 = .ok (.getfield 29, 3) := by decide +kernel
theorem dX4_hasShape_46 : decode cX4_hasShape 46 = .ok (.iload 5, 2) := by decide +kernel
theorem dX4_hasShape_48 : decode cX4_hasShape 48 = .ok (.laload, 1) := by decide +kernel
theorem dX4_hasShape_49 : decode cX4_hasShape 49 = .ok (.ldc2_w 61, 3) := by decide +kernel
theorem dX4_hasShape_52 : decode cX4_hasShape 52 = .ok (.aload_n 0, 1) := by decide +kernel
theorem dX4_hasShape_53 : decode cX4_hasShape 53 = .ok (.getfield 32, 3) := by decide +kernel
theorem dX4_hasShape_56 : decode cX4_hasShape 56 = .ok (.iload 5, 2) := by decide +kernel
theorem dX4_hasShape_58 : decode cX4_hasShape 58 = .ok (.laload, 1) := by decide +kernel
theorem dX4_hasShape_59 : decode cX4_hasShape 59 = .ok (.lmul, 1) := by decide +kernel
theorem dX4_hasShape_60 : decode cX4_hasShape 60 = .ok (.ladd, 1) := by decide +kernel
theorem dX4_hasShape_61 : decode cX4_hasShape 61 = .ok (.lmul, 1) := by decide +kernel
theorem dX4_hasShape_62 : decode cX4_hasShape 62 = .ok (.lstore 8, 2) := by decide +kernel
theorem dX4_hasShape_64 : decode cX4_hasShape 64 = .ok (.iload_n 1, 1) := by decide +kernel
theorem dX4_hasShape_65 : decode cX4_hasShape 65 = .ok (.iconst 3, 1) := by decide +kernel
theorem dX4_hasShape_66 : decode cX4_hasShape 66 = .ok (.if_icmp .ge 81, 3) := by decide +kernel
theorem dX4_hasShape_69 : decode cX4_hasShape 69 = .ok (.iload 4, 2) := by decide +kernel
theorem dX4_hasShape_71 : decode cX4_hasShape 71 = .ok (.ifCond .eq 70, 3) := by decide +kernel
theorem dX4_hasShape_74 : decode cX4_hasShape 74 = .ok (.lload 6, 2) := by decide +kernel
theorem dX4_hasShape_76 : decode cX4_hasShape 76 = .ok (.lconst 0, 1) := by decide +kernel
theorem dX4_hasShape_77 : decode cX4_hasShape 77 = .ok (.lcmp, 1) := by decide +kernel
theorem dX4_hasShape_78 : decode cX4_hasShape 78 = .ok (.ifCond .lt 63, 3) := by decide +kernel
theorem dX4_hasShape_81 : decode cX4_hasShape 81 = .ok (.lload 8, 2) := by decide +kernel
theorem dX4_hasShape_83 : decode cX4_hasShape 83 = .ok (.lconst 0, 1) := by decide +kernel
theorem dX4_hasShape_84 : decode cX4_hasShape 84 = .ok (.lcmp, 1) := by decide +kernel
theorem dX4_hasShape_85 : decode cX4_hasShape 85 = .ok (.ifCond .lt 56, 3) := by decide +kernel
theorem dX4_hasShape_88 : decode cX4_hasShape 88 = .ok (.iload 5, 2) := by decide +kernel
theorem dX4_hasShape_90 : decode cX4_hasShape 90 = .ok (.ifCond .eq 47, 3) := by decide +kernel
theorem dX4_hasShape_93 : decode cX4_hasShape 93 = .ok (.lload_n 2, 1) := by decide +kernel
theorem dX4_hasShape_94 : decode cX4_hasShape 94 = .ok (.aload_n 0, 1) := by decide +kernel
theorem dX4_hasShape_95 : decode cX4_hasShape 95 = .ok (.getfield 25, 3) := by decide +kernel
theorem dX4_hasShape_98 : decode cX4_hasShape 98 = .ok (.iload 5, 2) := by decide +kernel
theorem dX4_hasShape_100 : decode cX4_hasShape 100 = .ok (.laload, 1) := by decide +kernel
theorem dX4_hasShape_101 : decode cX4_hasShape 101 = .ok (.lmul, 1) := by decide +kernel
theorem dX4_hasShape_102 : decode cX4_hasShape 102 = .ok (.lload_n 2, 1) := by decide +kernel
theorem dX4_hasShape_103 : decode cX4_hasShape 103 = .ok (.aload_n 0, 1) := by decide +kernel
theorem dX4_hasShape_104 : decode cX4_hasShape 104 = .ok (.getfield 25, 3) := by decide +kernel
theorem dX4_hasShape_107 : decode cX4_hasShape 107 = .ok (.iload 5, 2) := by decide +kernel
theorem dX4_hasShape_109 : decode cX4_hasShape 109 = .ok (.iconst 1, 1) := by decide +kernel
theorem dX4_hasShape_110 : decode cX4_hasShape 110 = .ok (.isub, 1) := by decide +kernel
theorem dX4_hasShape_111 : decode cX4_hasShape 111 = .ok (.laload, 1) := by decide +kernel
theorem dX4_hasShape_112 : decode cX4_hasShape 112 = .ok (.aload_n 0, 1) := by decide +kernel
theorem dX4_hasShape_113 : decode cX4_hasShape 113 = .ok (.getfield 29, 3) := by decide +kernel
theorem dX4_hasShape_116 : decode cX4_hasShape 116 = .ok (.iload 5, 2) := by decide +kernel
theorem dX4_hasShape_118 : decode cX4_hasShape 118 = .ok (.iconst 1, 1) := by decide +kernel
theorem dX4_hasShape_119 : decode cX4_hasShape 119 = .ok (.isub, 1) := by decide +kernel
theorem dX4_hasShape_120 : decode cX4_hasShape 120 = .ok (.laload, 1) := by decide +kernel
theorem dX4_hasShape_121 : decode cX4_hasShape 121 = .ok (.ladd, 1) := by decide +kernel
theorem dX4_hasShape_122 : decode cX4_hasShape 122 = .ok (.aload_n 0, 1) := by decide +kernel
theorem dX4_hasShape_123 : decode cX4_hasShape 123 = .ok (.getfield 32, 3) := by decide +kernel
theorem dX4_hasShape_126 : decode cX4_hasShape 126 = .ok (.iload 5, 2) := by decide +kernel
theorem dX4_hasShape_128 : decode cX4_hasShape 128 = .ok (.iconst 1, 1) := by decide +kernel
theorem dX4_hasShape_129 : decode cX4_hasShape 129 = .ok (.isub, 1) := by decide +kernel
theorem dX4_hasShape_130 : decode cX4_hasShape 130 = .ok (.laload, 1) := by decide +kernel
theorem dX4_hasShape_131 : decode cX4_hasShape 131 = .ok (.ladd, 1) := by decide +kernel
theorem dX4_hasShape_132 : decode cX4_hasShape 132 = .ok (.lmul, 1) := by decide +kernel
theorem dX4_hasShape_133 : decode cX4_hasShape 133 = .ok (.lcmp, 1) := by decide +kernel
theorem dX4_hasShape_134 : decode cX4_hasShape 134 = .ok (.ifCond .lt 7, 3) := by decide +kernel
theorem dX4_hasShape_137 : decode cX4_hasShape 137 = .ok (.iconst 1, 1) := by decide +kernel
theorem dX4_hasShape_138 : decode cX4_hasShape 138 = .ok (.goto 4, 3) := by decide +kernel
theorem dX4_hasShape_141 : decode cX4_hasShape 141 = .ok (.iconst 0, 1) := by decide +kernel
theorem dX4_hasShape_142 : decode cX4_hasShape 142 = .ok (.istore 4, 2) := by decide +kernel
theorem dX4_hasShape_144 : decode cX4_hasShape 144 = .ok (.goto 68, 3) := by decide +kernel
theorem dX4_hasShape_147 : decode cX4_hasShape 147 = .ok (.iload 4, 2) := by decide +kernel
theorem dX4_hasShape_149 : decode cX4_hasShape 149 = .ok (.ifCond .eq 60, 3) := by decide +kernel
theorem dX4_hasShape_152 : decode cX4_hasShape 152 = .ok (.lload 8, 2) := by decide +kernel
theorem dX4_hasShape_154 : decode cX4_hasShape 154 = .ok (.lload 6, 2) := by decide +kernel
theorem dX4_hasShape_156 : decode cX4_hasShape 156 = .ok (.lcmp, 1) := by decide +kernel
theorem dX4_hasShape_157 : decode cX4_hasShape 157 = .ok (.ifCond .lt 52, 3) := by decide +kernel
theorem dX4_hasShape_160 : decode cX4_hasShape 160 = .ok (.iload 5, 2) := by decide +kernel
theorem dX4_hasShape_162 : decode cX4_hasShape 162 = .ok (.ifCond .eq 43, 3) := by decide +kernel
theorem dX4_hasShape_165 : decode cX4_hasShape 165 = .ok (.aload_n 0, 1) := by decide +kernel
theorem dX4_hasShape_166 : decode cX4_hasShape 166 = .ok (.iload 5, 2) := by decide +kernel
theorem dX4_hasShape_168 : decode cX4_hasShape 168 = .ok (.invokevirtual 84, 3) := by decide +kernel
theorem dX4_hasShape_171 : decode cX4_hasShape 171 = .ok (.ifCond .lt 38, 3) := by decide +kernel
theorem dX4_hasShape_174 : decode cX4_hasShape 174 = .ok (.lload 6, 2) := by decide +kernel
theorem dX4_hasShape_176 : decode cX4_hasShape 176 = .ok (.lload_n 2, 1) := by decide +kernel
theorem dX4_hasShape_177 : decode cX4_hasShape 177 = .ok (.aload_n 0, 1) := by decide +kernel
theorem dX4_hasShape_178 : decode cX4_hasShape 178 = .ok (.getfield 29, 3) := by decide +kernel
theorem dX4_hasShape_181 : decode cX4_hasShape 181 = .ok (.iload 5, 2) := by decide +kernel
theorem dX4_hasShape_183 : decode cX4_hasShape 183 = .ok (.iconst 1, 1) := by decide +kernel
theorem dX4_hasShape_184 : decode cX4_hasShape 184 = .ok (.isub, 1) := by decide +kernel
theorem dX4_hasShape_185 : decode cX4_hasShape 185 = .ok (.laload, 1) := by decide +kernel
theorem dX4_hasShape_186 : decode cX4_hasShape 186 = .ok (.ldc2_w 61, 3) := by decide +kernel
theorem dX4_hasShape_189 : decode cX4_hasShape 189 = .ok (.aload_n 0, 1) := by decide +kernel
theorem dX4_hasShape_190 : decode cX4_hasShape 190 = .ok (.getfield 32, 3) := by decide +kernel
theorem dX4_hasShape_193 : decode cX4_hasShape 193 = .ok (.iload 5, 2) := by decide +kernel
theorem dX4_hasShape_195 : decode cX4_hasShape 195 = .ok (.iconst 1, 1) := by decide +kernel
theorem dX4_hasShape_196 : decode cX4_hasShape 196 = .ok (.isub, 1) := by decide +kernel
theorem dX4_hasShape_197 : decode cX4_hasShape 197 = .ok (.laload, 1) := by decide +kernel
theorem dX4_hasShape_198 : decode cX4_hasShape 198 = .ok (.lmul, 1) := by decide +kernel
theorem dX4_hasShape_199 : decode cX4_hasShape 199 = .ok (.ladd, 1) := by decide +kernel
theorem dX4_hasShape_200 : decode cX4_hasShape 200 = .ok (.lmul, 1) := by decide +kernel
theorem dX4_hasShape_201 : decode cX4_hasShape 201 = .ok (.lcmp, 1) := by decide +kernel
theorem dX4_hasShape_202 : decode cX4_hasShape 202 = .ok (.ifCond .lt 7, 3) := by decide +kernel
theorem dX4_hasShape_205 : decode cX4_hasShape 205 = .ok (.iconst 1, 1) := by decide +kernel
theorem dX4_hasShape_206 : decode cX4_hasShape 206 = .ok (.goto 4, 3) := by decide +kernel
theorem dX4_hasShape_209 : decode cX4_hasShape 209 = .ok (.iconst 0, 1) := by decide +kernel
theorem dX4_hasShape_210 : decode cX4_hasShape 210 = .ok (.istore 4, 2) := by decide +kernel
theorem dX4_hasShape_212 : decode cX4_hasShape 212 = .ok (.iinc 5 1, 3) := by decide +kernel
theorem dX4_hasShape_215 : decode cX4_hasShape 215 = .ok (.goto (-194), 3) := by decide +kernel
theorem dX4_hasShape_218 : decode cX4_hasShape 218 = .ok (.iload 4, 2) := by decide +kernel
theorem dX4_hasShape_220 : decode cX4_hasShape 220 = .ok (.ireturn, 1) := by decide +kernel
theorem dX4_has_0 : decode cX4_has 0 = .ok (.iload_n 1, 1) := by decide +kernel
theorem dX4_has_1 : decode cX4_has 1 = .ok (.invokestatic 51, 3) := by decide +kernel
theorem dX4_has_4 : decode cX4_has 4 = .ok (.ifCond .ne 6, 3) := by decide +kernel
theorem dX4_has_7 : decode cX4_has 7 = .ok (.bipush (-2), 2) := by decide +kernel
theorem dX4_has_9 : decode cX4_has 9 = .ok (.ireturn, 1) := by decide +kernel
theorem dX4_has_10 : decode cX4_has 10 = .ok (.iload_n 2, 1) := by decide +kernel
theorem dX4_has_11 : decode cX4_has 11 = .ok (.i2l, 1) := by decide +kernel
theorem dX4_has_12 : decode cX4_has 12 = .ok (.lconst 1, 1) := by decide +kernel
theorem dX4_has_13 : decode cX4_has 13 = .ok (.ldc2_w 90, 3) := by decide +kernel
theorem dX4_has_16 : decode cX4_has 16 = .ok (.invokestatic 43, 3) := by decide +kernel
theorem dX4_has_19 : decode cX4_has 19 = .ok (.ifCond .ne 6, 3) := by decide +kernel
theorem dX4_has_22 : decode cX4_has 22 = .ok (.bipush (-3), 2) := by decide +kernel
theorem dX4_has_24 : decode cX4_has 24 = .ok (.ireturn, 1) := by decide +kernel
theorem dX4_has_25 : decode cX4_has 25 = .ok (.aload_n 0, 1) := by decide +kernel
theorem dX4_has_26 : decode cX4_has 26 = .ok (.iload_n 1, 1) := by decide +kernel
theorem dX4_has_27 : decode cX4_has 27 = .ok (.invokevirtual 80, 3) := by decide +kernel
theorem dX4_has_30 : decode cX4_has 30 = .ok (.aload_n 0, 1) := by decide +kernel
theorem dX4_has_31 : decode cX4_has 31 = .ok (.iload_n 2, 1) := by decide +kernel
theorem dX4_has_32 : decode cX4_has 32 = .ok (.invokevirtual 92, 3) := by decide +kernel
theorem dX4_has_35 : decode cX4_has 35 = .ok (.ifCond .eq 7, 3) := by decide +kernel
theorem dX4_has_38 : decode cX4_has 38 = .ok (.iconst 1, 1) := by decide +kernel
theorem dX4_has_39 : decode cX4_has 39 = .ok (.goto 4, 3) := by decide +kernel
theorem dX4_has_42 : decode cX4_has 42 = .ok (.iconst 0, 1) := by decide +kernel
theorem dX4_has_43 : decode cX4_has 43 = .ok (.ireturn, 1) := by decide +kernel
theorem dX4_end_0 : decode cX4_end 0 = .ok (.iload_n 1, 1) := by decide +kernel
theorem dX4_end_1 : decode cX4_end 1 = .ok (.invokestatic 51, 3) := by decide +kernel
theorem dX4_end_4 : decode cX4_end 4 = .ok (.ifCond .eq 13, 3) := by decide +kernel
theorem dX4_end_7 : decode cX4_end 7 = .ok (.iload_n 2, 1) := by decide +kernel
theorem dX4_end_8 : decode cX4_end 8 = .ok (.i2l, 1) := by decide +kernel
theorem dX4_end_9 : decode cX4_end 9 = .ok (.lconst 0, 1) := by decide +kernel
theorem dX4_end_10 : decode cX4_end 10 = .ok (.lconst 1, 1) := by decide +kernel
theorem dX4_end_11 : decode cX4_end 11 = .ok (.invokestatic 43, 3) := by decide +kernel
theorem dX4_end_14 : decode cX4_end 14 = .ok (.ifCond .ne 6, 3) := by decide +kernel
theorem dX4_end_17 : decode cX4_end 17 = .ok (.ldc 63, 2) := by decide +kernel
theorem dX4_end_19 : decode cX4_end 19 = .ok (.ireturn, 1) := by decide +kernel
theorem dX4_end_20 : decode cX4_end 20 = .ok (.aload_n 0, 1) := by decide +kernel
theorem dX4_end_21 : decode cX4_end 21 = .ok (.iload_n 1, 1) := by decide +kernel
theorem dX4_end_22 : decode cX4_end 22 = .ok (.invokevirtual 80, 3) := by decide +kernel
theorem dX4_end_25 : decode cX4_end 25 = .ok (.iload_n 2, 1) := by decide +kernel
theorem dX4_end_26 : decode cX4_end 26 = .ok (.ifCond .ne 7, 3) := by decide +kernel
theorem dX4_end_29 : decode cX4_end 29 = .ok (.lconst 1, 1) := by decide +kernel
theorem dX4_end_30 : decode cX4_end 30 = .ok (.goto 6, 3) := by decide +kernel
theorem dX4_end_33 : decode cX4_end 33 = .ok (.ldc2_w 88, 3) := by decide +kernel
theorem dX4_end_36 : decode cX4_end 36 = .ok (.lstore_n 3, 1) := by decide +kernel
theorem dX4_end_37 : decode cX4_end 37 = .ok (.lload_n 3, 1) := by decide +kernel
theorem dX4_end_38 : decode cX4_end 38 = .ok (.aload_n 0, 1) := by decide +kernel
theorem dX4_end_39 : decode cX4_end 39 = .ok (.getfield 25, 3) := by decide +kernel
theorem dX4_end_42 : decode cX4_end 42 = .ok (.iconst 0, 1) := by decide +kernel
theorem dX4_end_43 : decode cX4_end 43 = .ok (.laload, 1) := by decide +kernel
theorem dX4_end_44 : decode cX4_end 44 = .ok (.lmul, 1) := by decide +kernel
theorem dX4_end_45 : decode cX4_end 45 = .ok (.lstore 5, 2) := by decide +kernel
theorem dX4_end_47 : decode cX4_end 47 = .ok (.iconst 0, 1) := by decide +kernel
theorem dX4_end_48 : decode cX4_end 48 = .ok (.istore 7, 2) := by decide +kernel
theorem dX4_end_50 : decode cX4_end 50 = .ok (.iload 7, 2) := by decide +kernel
theorem dX4_end_52 : decode cX4_end 52 = .ok (.aload_n 0, 1) := by decide +kernel
theorem dX4_end_53 : decode cX4_end 53 = .ok (.getfield 64, 3) := by decide +kernel
theorem dX4_end_56 : decode cX4_end 56 = .ok (.if_icmp .ge 160, 3) := by decide +kernel
theorem dX4_end_59 : decode cX4_end 59 = .ok (.lload_n 3, 1) := by decide +kernel
theorem dX4_end_60 : decode cX4_end 60 = .ok (.aload_n 0, 1) := by decide +kernel
theorem dX4_end_61 : decode cX4_end 61 = .ok (.getfield 25, 3) := by decide +kernel
theorem dX4_end_64 : decode cX4_end 64 = .ok (.iload 7, 2) := by decide +kernel
theorem dX4_end_66 : decode cX4_end 66 = .ok (.laload, 1) := by decide +kernel
theorem dX4_end_67 : decode cX4_end 67 = .ok (.lmul, 1) := by decide +kernel
theorem dX4_end_68 : decode cX4_end 68 = .ok (.lstore 8, 2) := by decide +kernel
theorem dX4_end_70 : decode cX4_end 70 = .ok (.lload_n 3, 1) := by decide +kernel
theorem dX4_end_71 : decode cX4_end 71 = .ok (.aload_n 0, 1) := by decide +kernel
theorem dX4_end_72 : decode cX4_end 72 = .ok (.getfield 29, 3) := by decide +kernel
theorem dX4_end_75 : decode cX4_end 75 = .ok (.iload 7, 2) := by decide +kernel
theorem dX4_end_77 : decode cX4_end 77 = .ok (.laload, 1) := by decide +kernel
theorem dX4_end_78 : decode cX4_end 78 = .ok (.lmul, 1) := by decide +kernel
theorem dX4_end_79 : decode cX4_end 79 = .ok (.lstore 10, 2) := by decide +kernel
theorem dX4_end_81 : decode cX4_end 81 = .ok (.lload_n 3, 1) := by decide +kernel
theorem dX4_end_82 : decode cX4_end 82 = .ok (.aload_n 0, 1) := by decide +kernel
theorem dX4_end_83 : decode cX4_end 83 = .ok (.getfield 32, 3) := by decide +kernel
theorem dX4_end_86 : decode cX4_end 86 = .ok (.iload 7, 2) := by decide +kernel
theorem dX4_end_88 : decode cX4_end 88 = .ok (.laload, 1) := by decide +kernel
theorem dX4_end_89 : decode cX4_end 89 = .ok (.lmul, 1) := by decide +kernel
theorem dX4_end_90 : decode cX4_end 90 = .ok (.lstore 12, 2) := by decide +kernel
theorem dX4_end_92 : decode cX4_end 92 = .ok (.lload 8, 2) := by decide +kernel
theorem dX4_end_94 : decode cX4_end 94 = .ok (.lload 5, 2) := by decide +kernel
theorem dX4_end_96 : decode cX4_end 96 = .ok (.lcmp, 1) := by decide +kernel
theorem dX4_end_97 : decode cX4_end 97 = .ok (.ifCond .le 8, 3) := by decide +kernel
theorem dX4_end_100 : decode cX4_end 100 = .ok (.lload 8, 2) := by decide +kernel
theorem dX4_end_102 : decode cX4_end 102 = .ok (.goto 5, 3) := by decide +kernel
theorem dX4_end_105 : decode cX4_end 105 = .ok (.lload 5, 2) := by decide +kernel
theorem dX4_end_107 : decode cX4_end 107 = .ok (.lstore 5, 2) := by decide +kernel
theorem dX4_end_109 : decode cX4_end 109 = .ok (.lload 8, 2) := by decide +kernel
theorem dX4_end_111 : decode cX4_end 111 = .ok (.lload 10, 2) := by decide +kernel
theorem dX4_end_113 : decode cX4_end 113 = .ok (.ladd, 1) := by decide +kernel
theorem dX4_end_114 : decode cX4_end 114 = .ok (.lload 12, 2) := by decide +kernel
theorem dX4_end_116 : decode cX4_end 116 = .ok (.ladd, 1) := by decide +kernel
theorem dX4_end_117 : decode cX4_end 117 = .ok (.lload 5, 2) := by decide +kernel
theorem dX4_end_119 : decode cX4_end 119 = .ok (.lcmp, 1) := by decide +kernel
theorem dX4_end_120 : decode cX4_end 120 = .ok (.ifCond .le 14, 3) := by decide +kernel
theorem dX4_end_123 : decode cX4_end 123 = .ok (.lload 8, 2) := by decide +kernel
theorem dX4_end_125 : decode cX4_end 125 = .ok (.lload 10, 2) := by decide +kernel
theorem dX4_end_127 : decode cX4_end 127 = .ok (.ladd, 1) := by decide +kernel
theorem dX4_end_128 : decode cX4_end 128 = .ok (.lload 12, 2) := by decide +kernel
theorem dX4_end_130 : decode cX4_end 130 = .ok (.ladd, 1) := by decide +kernel
theorem dX4_end_131 : decode cX4_end 131 = .ok (.goto 5, 3) := by decide +kernel
theorem dX4_end_134 : decode cX4_end 134 = .ok (.lload 5, 2) := by decide +kernel
theorem dX4_end_136 : decode cX4_end 136 = .ok (.lstore 5, 2) := by decide +kernel
theorem dX4_end_138 : decode cX4_end 138 = .ok (.lload 12, 2) := by decide +kernel
theorem dX4_end_140 : decode cX4_end 140 = .ok (.lconst 0, 1) := by decide +kernel
theorem dX4_end_141 : decode cX4_end 141 = .ok (.lcmp, 1) := by decide +kernel
theorem dX4_end_142 : decode cX4_end 142 = .ok (.ifCond .ge 68, 3) := by decide +kernel
theorem dX4_end_145 : decode cX4_end 145 = .ok (.lload 10, 2) := by decide +kernel
theorem dX4_end_147 : decode cX4_end 147 = .ok (.lconst 0, 1) := by decide +kernel
theorem dX4_end_148 : decode cX4_end 148 = .ok (.lcmp, 1) := by decide +kernel
theorem dX4_end_149 : decode cX4_end 149 = .ok (.ifCond .le 61, 3) := by decide +kernel
theorem dX4_end_152 : decode cX4_end 152 = .ok (.lload 10, 2) := by decide +kernel
theorem dX4_end_154 : decode cX4_end 154 = .ok (.ldc2_w 95, 3) := by decide +kernel
theorem dX4_end_157 : decode cX4_end 157 = .ok (.lload 12, 2) := by decide +kernel
theorem dX4_end_159 : decode cX4_end 159 = .ok (.lmul, 1) := by decide +kernel
theorem dX4_end_160 : decode cX4_end 160 = .ok (.lcmp, 1) := by decide +kernel
theorem dX4_end_161 : decode cX4_end 161 = .ok (.ifCond .ge 49, 3) := by decide +kernel
theorem dX4_end_164 : decode cX4_end 164 = .ok (.lload 10, 2) := by decide +kernel
theorem dX4_end_166 : decode cX4_end 166 = .ok (.lload 10, 2) := by decide +kernel
theorem dX4_end_168 : decode cX4_end 168 = .ok (.lmul, 1) := by decide +kernel
theorem dX4_end_169 : decode cX4_end 169 = .ok (.ldc2_w 97, 3) := by decide +kernel
theorem dX4_end_172 : decode cX4_end 172 = .ok (.lload 12, 2) := by decide +kernel
theorem dX4_end_174 : decode cX4_end 174 = .ok (.lmul, 1) := by decide +kernel
theorem dX4_end_175 : decode cX4_end 175 = .ok (.ladd, 1) := by decide +kernel
theorem dX4_end_176 : decode cX4_end 176 = .ok (.lconst 1, 1) := by decide +kernel
theorem dX4_end_177 : decode cX4_end 177 = .ok (.lsub, 1) := by decide +kernel
theorem dX4_end_178 : decode cX4_end 178 = .ok (.ldc2_w 97, 3) := by decide +kernel
theorem dX4_end_181 : decode cX4_end 181 = .ok (.lload 12, 2) := by decide +kernel
theorem dX4_end_183 : decode cX4_end 183 = .ok (.lmul, 1) := by decide +kernel
theorem dX4_end_184 : decode cX4_end 184 = .ok (.ldiv, 1) := by decide +kernel
theorem dX4_end_185 : decode cX4_end 185 = .ok (.lstore 14, 2) := by decide +kernel
theorem dX4_end_187 : decode cX4_end 187 = .ok (.lload 8, 2) := by decide +kernel
theorem dX4_end_189 : decode cX4_end 189 = .ok (.lload 14, 2) := by decide +kernel
theorem dX4_end_191 : decode cX4_end 191 = .ok (.ladd, 1) := by decide +kernel
theorem dX4_end_192 : decode cX4_end 192 = .ok (.lload 5, 2) := by decide +kernel
theorem dX4_end_194 : decode cX4_end 194 = .ok (.lcmp, 1) := by decide +kernel
theorem dX4_end_195 : decode cX4_end 195 = .ok (.ifCond .le 11, 3) := by decide +kernel
theorem dX4_end_198 : decode cX4_end 198 = .ok (.lload 8, 2) := by decide +kernel
theorem dX4_end_200 : decode cX4_end 200 = .ok (.lload 14, 2) := by decide +kernel
theorem dX4_end_202 : decode cX4_end 202 = .ok (.ladd, 1) := by decide +kernel
theorem dX4_end_203 : decode cX4_end 203 = .ok (.goto 5, 3) := by decide +kernel
theorem dX4_end_206 : decode cX4_end 206 = .ok (.lload 5, 2) := by decide +kernel
theorem dX4_end_208 : decode cX4_end 208 = .ok (.lstore 5, 2) := by decide +kernel
theorem dX4_end_210 : decode cX4_end 210 = .ok (.iinc 7 1, 3) := by decide +kernel
theorem dX4_end_213 : decode cX4_end 213 = .ok (.goto (-163), 3) := by decide +kernel
theorem dX4_end_216 : decode cX4_end 216 = .ok (.lload_n 3, 1) := by decide +kernel
theorem dX4_end_217 : decode cX4_end 217 = .ok (.lload 5, 2) := by decide +kernel
theorem dX4_end_219 : decode cX4_end 219 = .ok (.lmul, 1) := by decide +kernel
theorem dX4_end_220 : decode cX4_end 220 = .ok (.l2i, 1) := by decide +kernel
theorem dX4_end_221 : decode cX4_end 221 = .ok (.ireturn, 1) := by decide +kernel
theorem dX4_at_0 : decode cX4_at 0 = .ok (.ldc2_w 99, 3) := by decide +kernel
theorem dX4_at_3 : decode cX4_at 3 = .ok (.aload_n 0, 1) := by decide +kernel
theorem dX4_at_4 : decode cX4_at 4 = .ok (.getfield 25, 3) := by decide +kernel
theorem dX4_at_7 : decode cX4_at 7 = .ok (.iload_n 1, 1) := by decide +kernel
theorem dX4_at_8 : decode cX4_at 8 = .ok (.laload, 1) := by decide +kernel
theorem dX4_at_9 : decode cX4_at 9 = .ok (.lmul, 1) := by decide +kernel
theorem dX4_at_10 : decode cX4_at 10 = .ok (.ldc2_w 72, 3) := by decide +kernel
theorem dX4_at_13 : decode cX4_at 13 = .ok (.iload_n 2, 1) := by decide +kernel
theorem dX4_at_14 : decode cX4_at 14 = .ok (.i2l, 1) := by decide +kernel
theorem dX4_at_15 : decode cX4_at 15 = .ok (.lmul, 1) := by decide +kernel
theorem dX4_at_16 : decode cX4_at 16 = .ok (.aload_n 0, 1) := by decide +kernel
theorem dX4_at_17 : decode cX4_at 17 = .ok (.getfield 29, 3) := by decide +kernel
theorem dX4_at_20 : decode cX4_at 20 = .ok (.iload_n 1, 1) := by decide +kernel
theorem dX4_at_21 : decode cX4_at 21 = .ok (.laload, 1) := by decide +kernel
theorem dX4_at_22 : decode cX4_at 22 = .ok (.lmul, 1) := by decide +kernel
theorem dX4_at_23 : decode cX4_at 23 = .ok (.ladd, 1) := by decide +kernel
theorem dX4_at_24 : decode cX4_at 24 = .ok (.iload_n 2, 1) := by decide +kernel
theorem dX4_at_25 : decode cX4_at 25 = .ok (.i2l, 1) := by decide +kernel
theorem dX4_at_26 : decode cX4_at 26 = .ok (.iload_n 2, 1) := by decide +kernel
theorem dX4_at_27 : decode cX4_at 27 = .ok (.i2l, 1) := by decide +kernel
theorem dX4_at_28 : decode cX4_at 28 = .ok (.lmul, 1) := by decide +kernel
theorem dX4_at_29 : decode cX4_at 29 = .ok (.aload_n 0, 1) := by decide +kernel
theorem dX4_at_30 : decode cX4_at 30 = .ok (.getfield 32, 3) := by decide +kernel
theorem dX4_at_33 : decode cX4_at 33 = .ok (.iload_n 1, 1) := by decide +kernel
theorem dX4_at_34 : decode cX4_at 34 = .ok (.laload, 1) := by decide +kernel
theorem dX4_at_35 : decode cX4_at 35 = .ok (.lmul, 1) := by decide +kernel
theorem dX4_at_36 : decode cX4_at 36 = .ok (.ladd, 1) := by decide +kernel
theorem dX4_at_37 : decode cX4_at 37 = .ok (.lreturn, 1) := by decide +kernel
theorem dX4_slopeAt_0 : decode cX4_slopeAt 0 = .ok (.ldc2_w 72, 3) := by decide +kernel
theorem dX4_slopeAt_3 : decode cX4_slopeAt 3 = .ok (.aload_n 0, 1) := by decide +kernel
theorem dX4_slopeAt_4 : decode cX4_slopeAt 4 = .ok (.getfield 29, 3) := by decide +kernel
theorem dX4_slopeAt_7 : decode cX4_slopeAt 7 = .ok (.iload_n 1, 1) := by decide +kernel
theorem dX4_slopeAt_8 : decode cX4_slopeAt 8 = .ok (.laload, 1) := by decide +kernel
theorem dX4_slopeAt_9 : decode cX4_slopeAt 9 = .ok (.lmul, 1) := by decide +kernel
theorem dX4_slopeAt_10 : decode cX4_slopeAt 10 = .ok (.ldc2_w 61, 3) := by decide +kernel
theorem dX4_slopeAt_13 : decode cX4_slopeAt 13 = .ok (.iload_n 2, 1) := by decide +kernel
theorem dX4_slopeAt_14 : decode cX4_slopeAt 14 = .ok (.i2l, 1) := by decide +kernel
theorem dX4_slopeAt_15 : decode cX4_slopeAt 15 = .ok (.lmul, 1) := by decide +kernel
theorem dX4_slopeAt_16 : decode cX4_slopeAt 16 = .ok (.aload_n 0, 1) := by decide +kernel
theorem dX4_slopeAt_17 : decode cX4_slopeAt 17 = .ok (.getfield 32, 3) := by decide +kernel
theorem dX4_slopeAt_20 : decode cX4_slopeAt 20 = .ok (.iload_n 1, 1) := by decide +kernel
theorem dX4_slopeAt_21 : decode cX4_slopeAt 21 = .ok (.laload, 1) := by decide +kernel
theorem dX4_slopeAt_22 : decode cX4_slopeAt 22 = .ok (.lmul, 1) := by decide +kernel
theorem dX4_slopeAt_23 : decode cX4_slopeAt 23 = .ok (.ladd, 1) := by decide +kernel
theorem dX4_slopeAt_24 : decode cX4_slopeAt 24 = .ok (.lreturn, 1) := by decide +kernel
theorem dX4_sign_0 : decode cX4_sign 0 = .ok (.lload_n 0, 1) := by decide +kernel
theorem dX4_sign_1 : decode cX4_sign 1 = .ok (.lconst 0, 1) := by decide +kernel
theorem dX4_sign_2 : decode cX4_sign 2 = .ok (.lcmp, 1) := by decide +kernel
theorem dX4_sign_3 : decode cX4_sign 3 = .ok (.ifCond .le 7, 3) := by decide +kernel
theorem dX4_sign_6 : decode cX4_sign 6 = .ok (.iconst 1, 1) := by decide +kernel
theorem dX4_sign_7 : decode cX4_sign 7 = .ok (.goto 14, 3) := by decide +kernel
theorem dX4_sign_10 : decode cX4_sign 10 = .ok (.lload_n 0, 1) := by decide +kernel
theorem dX4_sign_11 : decode cX4_sign 11 = .ok (.lconst 0, 1) := by decide +kernel
theorem dX4_sign_12 : decode cX4_sign 12 = .ok (.lcmp, 1) := by decide +kernel
theorem dX4_sign_13 : decode cX4_sign 13 = .ok (.ifCond .ge 7, 3) := by decide +kernel
theorem dX4_sign_16 : decode cX4_sign 16 = .ok (.iconst (-1), 1) := by decide +kernel
theorem dX4_sign_17 : decode cX4_sign 17 = .ok (.goto 4, 3) := by decide +kernel
theorem dX4_sign_20 : decode cX4_sign 20 = .ok (.iconst 0, 1) := by decide +kernel
theorem dX4_sign_21 : decode cX4_sign 21 = .ok (.ireturn, 1) := by decide +kernel
theorem dX4_between_0 : decode cX4_between 0 = .ok (.aload_n 0, 1) := by decide +kernel
theorem dX4_between_1 : decode cX4_between 1 = .ok (.iload_n 1, 1) := by decide +kernel
theorem dX4_between_2 : decode cX4_between 2 = .ok (.iload_n 2, 1) := by decide +kernel
theorem dX4_between_3 : decode cX4_between 3 = .ok (.invokevirtual 101, 3) := by decide +kernel
theorem dX4_between_6 : decode cX4_between 6 = .ok (.invokestatic 105, 3) := by decide +kernel
theorem dX4_between_9 : decode cX4_between 9 = .ok (.istore_n 3, 1) := by decide +kernel
theorem dX4_between_10 : decode cX4_between 10 = .ok (.aload_n 0, 1) := by decide +kernel
theorem dX4_between_11 : decode cX4_between 11 = .ok (.iload_n 1, 1) := by decide +kernel
theorem dX4_between_12 : decode cX4_between 12 = .ok (.iload_n 2, 1) := by decide +kernel
theorem dX4_between_13 : decode cX4_between 13 = .ok (.iconst 1, 1) := by decide +kernel
theorem dX4_between_14 : decode cX4_between 14 = .ok (.iadd, 1) := by decide +kernel
theorem dX4_between_15 : decode cX4_between 15 = .ok (.invokevirtual 101, 3) := by decide +kernel
theorem dX4_between_18 : decode cX4_between 18 = .ok (.invokestatic 105, 3) := by decide +kernel
theorem dX4_between_21 : decode cX4_between 21 = .ok (.istore 4, 2) := by decide +kernel
theorem dX4_between_23 : decode cX4_between 23 = .ok (.iload_n 3, 1) := by decide +kernel
theorem dX4_between_24 : decode cX4_between 24 = .ok (.ifCond .ne 10, 3) := by decide +kernel
theorem dX4_between_27 : decode cX4_between 27 = .ok (.iload 4, 2) := by decide +kernel
theorem dX4_between_29 : decode cX4_between 29 = .ok (.ifCond .ne 5, 3) := by decide +kernel
theorem dX4_between_32 : decode cX4_between 32 = .ok (.iconst 0, 1) := by decide +kernel
theorem dX4_between_33 : decode cX4_between 33 = .ok (.ireturn, 1) := by decide +kernel
theorem dX4_between_34 : decode cX4_between 34 = .ok (.iload_n 3, 1) := by decide +kernel
theorem dX4_between_35 : decode cX4_between 35 = .ok (.ifCond .ne 24, 3) := by decide +kernel
theorem dX4_between_38 : decode cX4_between 38 = .ok (.aload_n 0, 1) := by decide +kernel
theorem dX4_between_39 : decode cX4_between 39 = .ok (.iload_n 1, 1) := by decide +kernel
theorem dX4_between_40 : decode cX4_between 40 = .ok (.iload_n 2, 1) := by decide +kernel
theorem dX4_between_41 : decode cX4_between 41 = .ok (.invokevirtual 109, 3) := by decide +kernel
theorem dX4_between_44 : decode cX4_between 44 = .ok (.invokestatic 105, 3) := by decide +kernel
theorem dX4_between_47 : decode cX4_between 47 = .ok (.iload 4, 2) := by decide +kernel
theorem dX4_between_49 : decode cX4_between 49 = .ok (.imul, 1) := by decide +kernel
theorem dX4_between_50 : decode cX4_between 50 = .ok (.ifCond .ge 7, 3) := by decide +kernel
theorem dX4_between_53 : decode cX4_between 53 = .ok (.iconst 1, 1) := by decide +kernel
theorem dX4_between_54 : decode cX4_between 54 = .ok (.goto 4, 3) := by decide +kernel
theorem dX4_between_57 : decode cX4_between 57 = .ok (.iconst 0, 1) := by decide +kernel
theorem dX4_between_58 : decode cX4_between 58 = .ok (.ireturn, 1) := by decide +kernel
theorem dX4_between_59 : decode cX4_between 59 = .ok (.iload 4, 2) := by decide +kernel
theorem dX4_between_61 : decode cX4_between 61 = .ok (.ifCond .ne 25, 3) := by decide +kernel
theorem dX4_between_64 : decode cX4_between 64 = .ok (.aload_n 0, 1) := by decide +kernel
theorem dX4_between_65 : decode cX4_between 65 = .ok (.iload_n 1, 1) := by decide +kernel
theorem dX4_between_66 : decode cX4_between 66 = .ok (.iload_n 2, 1) := by decide +kernel
theorem dX4_between_67 : decode cX4_between 67 = .ok (.iconst 1, 1) := by decide +kernel
theorem dX4_between_68 : decode cX4_between 68 = .ok (.iadd, 1) := by decide +kernel
theorem dX4_between_69 : decode cX4_between 69 = .ok (.invokevirtual 109, 3) := by decide +kernel
theorem dX4_between_72 : decode cX4_between 72 = .ok (.invokestatic 105, 3) := by decide +kernel
theorem dX4_between_75 : decode cX4_between 75 = .ok (.iload_n 3, 1) := by decide +kernel
theorem dX4_between_76 : decode cX4_between 76 = .ok (.imul, 1) := by decide +kernel
theorem dX4_between_77 : decode cX4_between 77 = .ok (.ifCond .le 7, 3) := by decide +kernel
theorem dX4_between_80 : decode cX4_between 80 = .ok (.iconst 1, 1) := by decide +kernel
theorem dX4_between_81 : decode cX4_between 81 = .ok (.goto 4, 3) := by decide +kernel
theorem dX4_between_84 : decode cX4_between 84 = .ok (.iconst 0, 1) := by decide +kernel
theorem dX4_between_85 : decode cX4_between 85 = .ok (.ireturn, 1) := by decide +kernel
theorem dX4_between_86 : decode cX4_between 86 = .ok (.iload_n 3, 1) := by decide +kernel
theorem dX4_between_87 : decode cX4_between 87 = .ok (.iload 4, 2) := by decide +kernel
theorem dX4_between_89 : decode cX4_between 89 = .ok (.if_icmp .eq 5, 3) := by decide +kernel
theorem dX4_between_92 : decode cX4_between 92 = .ok (.iconst 1, 1) := by decide +kernel
theorem dX4_between_93 : decode cX4_between 93 = .ok (.ireturn, 1) := by decide +kernel
theorem dX4_between_94 : decode cX4_between 94 = .ok (.aload_n 0, 1) := by decide +kernel
theorem dX4_between_95 : decode cX4_between 95 = .ok (.iload_n 1, 1) := by decide +kernel
theorem dX4_between_96 : decode cX4_between 96 = .ok (.iload_n 2, 1) := by decide +kernel
theorem dX4_between_97 : decode cX4_between 97 = .ok (.invokevirtual 109, 3) := by decide +kernel
theorem dX4_between_100 : decode cX4_between 100 = .ok (.invokestatic 105, 3) := by decide +kernel
theorem dX4_between_103 : decode cX4_between 103 = .ok (.aload_n 0, 1) := by decide +kernel
theorem dX4_between_104 : decode cX4_between 104 = .ok (.iload_n 1, 1) := by decide +kernel
theorem dX4_between_105 : decode cX4_between 105 = .ok (.iload_n 2, 1) := by decide +kernel
theorem dX4_between_106 : decode cX4_between 106 = .ok (.iconst 1, 1) := by decide +kernel
theorem dX4_between_107 : decode cX4_between 107 = .ok (.iadd, 1) := by decide +kernel
theorem dX4_between_108 : decode cX4_between 108 = .ok (.invokevirtual 109, 3) := by decide +kernel
theorem dX4_between_111 : decode cX4_between 111 = .ok (.invokestatic 105, 3) := by decide +kernel
theorem dX4_between_114 : decode cX4_between 114 = .ok (.imul, 1) := by decide +kernel
theorem dX4_between_115 : decode cX4_between 115 = .ok (.ifCond .ge 7, 3) := by decide +kernel
theorem dX4_between_118 : decode cX4_between 118 = .ok (.iconst 1, 1) := by decide +kernel
theorem dX4_between_119 : decode cX4_between 119 = .ok (.goto 4, 3) := by decide +kernel
theorem dX4_between_122 : decode cX4_between 122 = .ok (.iconst 0, 1) := by decide +kernel
theorem dX4_between_123 : decode cX4_between 123 = .ok (.istore 5, 2) := by decide +kernel
theorem dX4_between_125 : decode cX4_between 125 = .ok (.aload_n 0, 1) := by decide +kernel
theorem dX4_between_126 : decode cX4_between 126 = .ok (.getfield 29, 3) := by decide +kernel
theorem dX4_between_129 : decode cX4_between 129 = .ok (.iload_n 1, 1) := by decide +kernel
theorem dX4_between_130 : decode cX4_between 130 = .ok (.laload, 1) := by decide +kernel
theorem dX4_between_131 : decode cX4_between 131 = .ok (.aload_n 0, 1) := by decide +kernel
theorem dX4_between_132 : decode cX4_between 132 = .ok (.getfield 29, 3) := by decide +kernel
theorem dX4_between_135 : decode cX4_between 135 = .ok (.iload_n 1, 1) := by decide +kernel
theorem dX4_between_136 : decode cX4_between 136 = .ok (.laload, 1) := by decide +kernel
theorem dX4_between_137 : decode cX4_between 137 = .ok (.lmul, 1) := by decide +kernel
theorem dX4_between_138 : decode cX4_between 138 = .ok (.ldc2_w 90, 3) := by decide +kernel
theorem dX4_between_141 : decode cX4_between 141 = .ok (.aload_n 0, 1) := by decide +kernel
theorem dX4_between_142 : decode cX4_between 142 = .ok (.getfield 25, 3) := by decide +kernel
theorem dX4_between_145 : decode cX4_between 145 = .ok (.iload_n 1, 1) := by decide +kernel
theorem dX4_between_146 : decode cX4_between 146 = .ok (.laload, 1) := by decide +kernel
theorem dX4_between_147 : decode cX4_between 147 = .ok (.lmul, 1) := by decide +kernel
theorem dX4_between_148 : decode cX4_between 148 = .ok (.aload_n 0, 1) := by decide +kernel
theorem dX4_between_149 : decode cX4_between 149 = .ok (.getfield 32, 3) := by decide +kernel
theorem dX4_between_152 : decode cX4_between 152 = .ok (.iload_n 1, 1) := by decide +kernel
theorem dX4_between_153 : decode cX4_between 153 = .ok (.laload, 1) := by decide +kernel
theorem dX4_between_154 : decode cX4_between 154 = .ok (.lmul, 1) := by decide +kernel
theorem dX4_between_155 : decode cX4_between 155 = .ok (.lsub, 1) := by decide +kernel
theorem dX4_between_156 : decode cX4_between 156 = .ok (.lstore 6, 2) := by decide +kernel
theorem dX4_between_158 : decode cX4_between 158 = .ok (.iload 5, 2) := by decide +kernel
theorem dX4_between_160 : decode cX4_between 160 = .ok (.ifCond .eq 23, 3) := by decide +kernel
theorem dX4_between_163 : decode cX4_between 163 = .ok (.iload_n 3, 1) := by decide +kernel
theorem dX4_between_164 : decode cX4_between 164 = .ok (.aload_n 0, 1) := by decide +kernel
theorem dX4_between_165 : decode cX4_between 165 = .ok (.getfield 32, 3) := by decide +kernel
theorem dX4_between_168 : decode cX4_between 168 = .ok (.iload_n 1, 1) := by decide +kernel
theorem dX4_between_169 : decode cX4_between 169 = .ok (.laload, 1) := by decide +kernel
theorem dX4_between_170 : decode cX4_between 170 = .ok (.invokestatic 105, 3) := by decide +kernel
theorem dX4_between_173 : decode cX4_between 173 = .ok (.if_icmp .ne 10, 3) := by decide +kernel
theorem dX4_between_176 : decode cX4_between 176 = .ok (.lload 6, 2) := by decide +kernel
theorem dX4_between_178 : decode cX4_between 178 = .ok (.lconst 0, 1) := by decide +kernel
theorem dX4_between_179 : decode cX4_between 179 = .ok (.lcmp, 1) := by decide +kernel
theorem dX4_between_180 : decode cX4_between 180 = .ok (.ifCond .ge 7, 3) := by decide +kernel
theorem dX4_between_183 : decode cX4_between 183 = .ok (.iconst 0, 1) := by decide +kernel
theorem dX4_between_184 : decode cX4_between 184 = .ok (.goto 15, 3) := by decide +kernel
theorem dX4_between_187 : decode cX4_between 187 = .ok (.lload 6, 2) := by decide +kernel
theorem dX4_between_189 : decode cX4_between 189 = .ok (.lconst 0, 1) := by decide +kernel
theorem dX4_between_190 : decode cX4_between 190 = .ok (.lcmp, 1) := by decide +kernel
theorem dX4_between_191 : decode cX4_between 191 = .ok (.ifCond .ne 7, 3) := by decide +kernel
theorem dX4_between_194 : decode cX4_between 194 = .ok (.iconst 1, 1) := by decide +kernel
theorem dX4_between_195 : decode cX4_between 195 = .ok (.goto 4, 3) := by decide +kernel
theorem dX4_between_198 : decode cX4_between 198 = .ok (.iconst 2, 1) := by decide +kernel
theorem dX4_between_199 : decode cX4_between 199 = .ok (.ireturn, 1) := by decide +kernel
theorem dX4_findZeros_0 : decode cX4_findZeros 0 = .ok (.aload_n 0, 1) := by decide +kernel
theorem dX4_findZeros_1 : decode cX4_findZeros 1 = .ok (.iconst 0, 1) := by decide +kernel
theorem dX4_findZeros_2 : decode cX4_findZeros 2 = .ok (.putfield 112, 3) := by decide +kernel
theorem dX4_findZeros_5 : decode cX4_findZeros 5 = .ok (.iconst 0, 1) := by decide +kernel
theorem dX4_findZeros_6 : decode cX4_findZeros 6 = .ok (.istore_n 1, 1) := by decide +kernel
theorem dX4_findZeros_7 : decode cX4_findZeros 7 = .ok (.iload_n 1, 1) := by decide +kernel
theorem dX4_findZeros_8 : decode cX4_findZeros 8 = .ok (.aload_n 0, 1) := by decide +kernel
theorem dX4_findZeros_9 : decode cX4_findZeros 9 = .ok (.getfield 64, 3) := by decide +kernel
theorem dX4_findZeros_12 : decode cX4_findZeros 12 = .ok (.if_icmp .ge 122, 3) := by decide +kernel
theorem dX4_findZeros_15 : decode cX4_findZeros 15 = .ok (.aload_n 0, 1) := by decide +kernel
theorem dX4_findZeros_16 : decode cX4_findZeros 16 = .ok (.getfield 25, 3) := by decide +kernel
theorem dX4_findZeros_19 : decode cX4_findZeros 19 = .ok (.iload_n 1, 1) := by decide +kernel
theorem dX4_findZeros_20 : decode cX4_findZeros 20 = .ok (.laload, 1) := by decide +kernel
theorem dX4_findZeros_21 : decode cX4_findZeros 21 = .ok (.lconst 0, 1) := by decide +kernel
theorem dX4_findZeros_22 : decode cX4_findZeros 22 = .ok (.lcmp, 1) := by decide +kernel
theorem dX4_findZeros_23 : decode cX4_findZeros 23 = .ok (.ifCond .ne 27, 3) := by decide +kernel
theorem dX4_findZeros_26 : decode cX4_findZeros 26 = .ok (.aload_n 0, 1) := by decide +kernel
theorem dX4_findZeros_27 : decode cX4_findZeros 27 = .ok (.getfield 29, 3) := by decide +kernel
theorem dX4_findZeros_30 : decode cX4_findZeros 30 = .ok (.iload_n 1, 1) := by decide +kernel
theorem dX4_findZeros_31 : decode cX4_findZeros 31 = .ok (.laload, 1) := by decide +kernel
theorem dX4_findZeros_32 : decode cX4_findZeros 32 = .ok (.lconst 0, 1) := by decide +kernel
theorem dX4_findZeros_33 : decode cX4_findZeros 33 = .ok (.lcmp, 1) := by decide +kernel
theorem dX4_findZeros_34 : decode cX4_findZeros 34 = .ok (.ifCond .ne 16, 3) := by decide +kernel
theorem dX4_findZeros_37 : decode cX4_findZeros 37 = .ok (.aload_n 0, 1) := by decide +kernel
theorem dX4_findZeros_38 : decode cX4_findZeros 38 = .ok (.getfield 32, 3) := by decide +kernel
theorem dX4_findZeros_41 : decode cX4_findZeros 41 = .ok (.iload_n 1, 1) := by decide +kernel
theorem dX4_findZeros_42 : decode cX4_findZeros 42 = .ok (.laload, 1) := by decide +kernel
theorem dX4_findZeros_43 : decode cX4_findZeros 43 = .ok (.lconst 0, 1) := by decide +kernel
theorem dX4_findZeros_44 : decode cX4_findZeros 44 = .ok (.lcmp, 1) := by decide +kernel
theorem dX4_findZeros_45 : decode cX4_findZeros 45 = .ok (.ifCond .ne 5, 3) := by decide +kernel
theorem dX4_findZeros_48 : decode cX4_findZeros 48 = .ok (.iconst 0, 1) := by decide +kernel
theorem dX4_findZeros_49 : decode cX4_findZeros 49 = .ok (.ireturn, 1) := by decide +kernel
theorem dX4_findZeros_50 : decode cX4_findZeros 50 = .ok (.iconst 0, 1) := by decide +kernel
theorem dX4_findZeros_51 : decode cX4_findZeros 51 = .ok (.istore_n 2, 1) := by decide +kernel
theorem dX4_findZeros_52 : decode cX4_findZeros 52 = .ok (.iload_n 2, 1) := by decide +kernel
theorem dX4_findZeros_53 : decode cX4_findZeros 53 = .ok (.bipush 64, 2) := by decide +kernel
theorem dX4_findZeros_55 : decode cX4_findZeros 55 = .ok (.if_icmp .ge 73, 3) := by decide +kernel
theorem dX4_findZeros_58 : decode cX4_findZeros 58 = .ok (.aload_n 0, 1) := by decide +kernel
theorem dX4_findZeros_59 : decode cX4_findZeros 59 = .ok (.iload_n 1, 1) := by decide +kernel
theorem dX4_findZeros_60 : decode cX4_findZeros 60 = .ok (.iload_n 2, 1) := by decide +kernel
theorem dX4_findZeros_61 : decode cX4_findZeros 61 = .ok (.invokevirtual 101, 3) := by decide +kernel
theorem dX4_findZeros_64 : decode cX4_findZeros 64 = .ok (.lconst 0, 1) := by decide +kernel
theorem dX4_findZeros_65 : decode cX4_findZeros 65 = .ok (.lcmp, 1) := by decide +kernel
theorem dX4_findZeros_66 : decode cX4_findZeros 66 = .ok (.ifCond .ne 7, 3) := by decide +kernel
theorem dX4_findZeros_69 : decode cX4_findZeros 69 = .ok (.iconst 1, 1) := by decide +kernel
theorem dX4_findZeros_70 : decode cX4_findZeros 70 = .ok (.goto 4, 3) := by decide +kernel
theorem dX4_findZeros_73 : decode cX4_findZeros 73 = .ok (.iconst 0, 1) := by decide +kernel
theorem dX4_findZeros_74 : decode cX4_findZeros 74 = .ok (.aload_n 0, 1) := by decide +kernel
theorem dX4_findZeros_75 : decode cX4_findZeros 75 = .ok (.iload_n 1, 1) := by decide +kernel
theorem dX4_findZeros_76 : decode cX4_findZeros 76 = .ok (.iload_n 2, 1) := by decide +kernel
theorem dX4_findZeros_77 : decode cX4_findZeros 77 = .ok (.invokevirtual 115, 3) := by decide +kernel
theorem dX4_findZeros_80 : decode cX4_findZeros 80 = .ok (.iadd, 1) := by decide +kernel
theorem dX4_findZeros_81 : decode cX4_findZeros 81 = .ok (.istore_n 3, 1) := by decide +kernel
theorem dX4_findZeros_82 : decode cX4_findZeros 82 = .ok (.iconst 0, 1) := by decide +kernel
theorem dX4_findZeros_83 : decode cX4_findZeros 83 = .ok (.istore 4, 2) := by decide +kernel
theorem dX4_findZeros_85 : decode cX4_findZeros 85 = .ok (.iload 4, 2) := by decide +kernel
theorem dX4_findZeros_87 : decode cX4_findZeros 87 = .ok (.iload_n 3, 1) := by decide +kernel
theorem dX4_findZeros_88 : decode cX4_findZeros 88 = .ok (.if_icmp .ge 34, 3) := by decide +kernel
theorem dX4_findZeros_91 : decode cX4_findZeros 91 = .ok (.aload_n 0, 1) := by decide +kernel
theorem dX4_findZeros_92 : decode cX4_findZeros 92 = .ok (.getfield 35, 3) := by decide +kernel
theorem dX4_findZeros_95 : decode cX4_findZeros 95 = .ok (.aload_n 0, 1) := by decide +kernel
theorem dX4_findZeros_96 : decode cX4_findZeros 96 = .ok (.getfield 112, 3) := by decide +kernel
theorem dX4_findZeros_99 : decode cX4_findZeros 99 = .ok (.bipush 64, 2) := by decide +kernel
theorem dX4_findZeros_101 : decode cX4_findZeros 101 = .ok (.iload_n 1, 1) := by decide +kernel
theorem dX4_findZeros_102 : decode cX4_findZeros 102 = .ok (.imul, 1) := by decide +kernel
theorem dX4_findZeros_103 : decode cX4_findZeros 103 = .ok (.iload_n 2, 1) := by decide +kernel
theorem dX4_findZeros_104 : decode cX4_findZeros 104 = .ok (.iadd, 1) := by decide +kernel
theorem dX4_findZeros_105 : decode cX4_findZeros 105 = .ok (.iastore, 1) := by decide +kernel
theorem dX4_findZeros_106 : decode cX4_findZeros 106 = .ok (.aload_n 0, 1) := by decide +kernel
theorem dX4_findZeros_107 : decode cX4_findZeros 107 = .ok (.dup, 1) := by decide +kernel
theorem dX4_findZeros_108 : decode cX4_findZeros 108 = .ok (.getfield 112, 3) := by decide +kernel
theorem dX4_findZeros_111 : decode cX4_findZeros 111 = .ok (.iconst 1, 1) := by decide +kernel
theorem dX4_findZeros_112 : decode cX4_findZeros 112 = .ok (.iadd, 1) := by decide +kernel
theorem dX4_findZeros_113 : decode cX4_findZeros 113 = .ok (.putfield 112, 3) := by decide +kernel
theorem dX4_findZeros_116 : decode cX4_findZeros 116 = .ok (.iinc 4 1, 3) := by decide +kernel
theorem dX4_findZeros_119 : decode cX4_findZeros 119 = .ok (.goto (-34), 3) := by decide +kernel
theorem dX4_findZeros_122 : decode cX4_findZeros 122 = .ok (.iinc 2 1, 3) := by decide +kernel
theorem dX4_findZeros_125 : decode cX4_findZeros 125 = .ok (.goto (-73), 3) := by decide +kernel
theorem dX4_findZeros_128 : decode cX4_findZeros 128 = .ok (.iinc 1 1, 3) := by decide +kernel
theorem dX4_findZeros_131 : decode cX4_findZeros 131 = .ok (.goto (-124), 3) := by decide +kernel
theorem dX4_findZeros_134 : decode cX4_findZeros 134 = .ok (.aload_n 0, 1) := by decide +kernel
theorem dX4_findZeros_135 : decode cX4_findZeros 135 = .ok (.aload_n 0, 1) := by decide +kernel
theorem dX4_findZeros_136 : decode cX4_findZeros 136 = .ok (.getfield 64, 3) := by decide +kernel
theorem dX4_findZeros_139 : decode cX4_findZeros 139 = .ok (.iconst 1, 1) := by decide +kernel
theorem dX4_findZeros_140 : decode cX4_findZeros 140 = .ok (.isub, 1) := by decide +kernel
theorem dX4_findZeros_141 : decode cX4_findZeros 141 = .ok (.bipush 64, 2) := by decide +kernel
theorem dX4_findZeros_143 : decode cX4_findZeros 143 = .ok (.invokevirtual 101, 3) := by decide +kernel
theorem dX4_findZeros_146 : decode cX4_findZeros 146 = .ok (.lconst 0, 1) := by decide +kernel
theorem dX4_findZeros_147 : decode cX4_findZeros 147 = .ok (.lcmp, 1) := by decide +kernel
theorem dX4_findZeros_148 : decode cX4_findZeros 148 = .ok (.ifCond .ne 29, 3) := by decide +kernel
theorem dX4_findZeros_151 : decode cX4_findZeros 151 = .ok (.aload_n 0, 1) := by decide +kernel
theorem dX4_findZeros_152 : decode cX4_findZeros 152 = .ok (.getfield 35, 3) := by decide +kernel
theorem dX4_findZeros_155 : decode cX4_findZeros 155 = .ok (.aload_n 0, 1) := by decide +kernel
theorem dX4_findZeros_156 : decode cX4_findZeros 156 = .ok (.getfield 112, 3) := by decide +kernel
theorem dX4_findZeros_159 : decode cX4_findZeros 159 = .ok (.bipush 64, 2) := by decide +kernel
theorem dX4_findZeros_161 : decode cX4_findZeros 161 = .ok (.aload_n 0, 1) := by decide +kernel
theorem dX4_findZeros_162 : decode cX4_findZeros 162 = .ok (.getfield 64, 3) := by decide +kernel
theorem dX4_findZeros_165 : decode cX4_findZeros 165 = .ok (.imul, 1) := by decide +kernel
theorem dX4_findZeros_166 : decode cX4_findZeros 166 = .ok (.iastore, 1) := by decide +kernel
theorem dX4_findZeros_167 : decode cX4_findZeros 167 = .ok (.aload_n 0, 1) := by decide +kernel
theorem dX4_findZeros_168 : decode cX4_findZeros 168 = .ok (.dup, 1) := by decide +kernel
theorem dX4_findZeros_169 : decode cX4_findZeros 169 = .ok (.getfield 112, 3) := by decide +kernel
theorem dX4_findZeros_172 : decode cX4_findZeros 172 = .ok (.iconst 1, 1) := by decide +kernel
theorem dX4_findZeros_173 : decode cX4_findZeros 173 = .ok (.iadd, 1) := by decide +kernel
theorem dX4_findZeros_174 : decode cX4_findZeros 174 = .ok (.putfield 112, 3) := by decide +kernel
theorem dX4_findZeros_177 : decode cX4_findZeros 177 = .ok (.iconst 1, 1) := by decide +kernel
theorem dX4_findZeros_178 : decode cX4_findZeros 178 = .ok (.ireturn, 1) := by decide +kernel
theorem dX4_zeros_0 : decode cX4_zeros 0 = .ok (.iload_n 1, 1) := by decide +kernel
theorem dX4_zeros_1 : decode cX4_zeros 1 = .ok (.invokestatic 51, 3) := by decide +kernel
theorem dX4_zeros_4 : decode cX4_zeros 4 = .ok (.ifCond .ne 6, 3) := by decide +kernel
theorem dX4_zeros_7 : decode cX4_zeros 7 = .ok (.bipush (-2), 2) := by decide +kernel
theorem dX4_zeros_9 : decode cX4_zeros 9 = .ok (.ireturn, 1) := by decide +kernel
theorem dX4_zeros_10 : decode cX4_zeros 10 = .ok (.aload_n 0, 1) := by decide +kernel
theorem dX4_zeros_11 : decode cX4_zeros 11 = .ok (.iload_n 1, 1) := by decide +kernel
theorem dX4_zeros_12 : decode cX4_zeros 12 = .ok (.invokevirtual 80, 3) := by decide +kernel
theorem dX4_zeros_15 : decode cX4_zeros 15 = .ok (.aload_n 0, 1) := by decide +kernel
theorem dX4_zeros_16 : decode cX4_zeros 16 = .ok (.invokevirtual 119, 3) := by decide +kernel
theorem dX4_zeros_19 : decode cX4_zeros 19 = .ok (.ifCond .eq 10, 3) := by decide +kernel
theorem dX4_zeros_22 : decode cX4_zeros 22 = .ok (.aload_n 0, 1) := by decide +kernel
theorem dX4_zeros_23 : decode cX4_zeros 23 = .ok (.getfield 112, 3) := by decide +kernel
theorem dX4_zeros_26 : decode cX4_zeros 26 = .ok (.goto 5, 3) := by decide +kernel
theorem dX4_zeros_29 : decode cX4_zeros 29 = .ok (.bipush (-4), 2) := by decide +kernel
theorem dX4_zeros_31 : decode cX4_zeros 31 = .ok (.ireturn, 1) := by decide +kernel
theorem dX4_zero_0 : decode cX4_zero 0 = .ok (.iload_n 1, 1) := by decide +kernel
theorem dX4_zero_1 : decode cX4_zero 1 = .ok (.invokestatic 51, 3) := by decide +kernel
theorem dX4_zero_4 : decode cX4_zero 4 = .ok (.ifCond .ne 6, 3) := by decide +kernel
theorem dX4_zero_7 : decode cX4_zero 7 = .ok (.bipush (-2), 2) := by decide +kernel
theorem dX4_zero_9 : decode cX4_zero 9 = .ok (.ireturn, 1) := by decide +kernel
theorem dX4_zero_10 : decode cX4_zero 10 = .ok (.aload_n 0, 1) := by decide +kernel
theorem dX4_zero_11 : decode cX4_zero 11 = .ok (.iload_n 1, 1) := by decide +kernel
theorem dX4_zero_12 : decode cX4_zero 12 = .ok (.invokevirtual 80, 3) := by decide +kernel
theorem dX4_zero_15 : decode cX4_zero 15 = .ok (.aload_n 0, 1) := by decide +kernel
theorem dX4_zero_16 : decode cX4_zero 16 = .ok (.invokevirtual 119, 3) := by decide +kernel
theorem dX4_zero_19 : decode cX4_zero 19 = .ok (.ifCond .ne 6, 3) := by decide +kernel
theorem dX4_zero_22 : decode cX4_zero 22 = .ok (.bipush (-4), 2) := by decide +kernel
theorem dX4_zero_24 : decode cX4_zero 24 = .ok (.ireturn, 1) := by decide +kernel
theorem dX4_zero_25 : decode cX4_zero 25 = .ok (.iload_n 2, 1) := by decide +kernel
theorem dX4_zero_26 : decode cX4_zero 26 = .ok (.i2l, 1) := by decide +kernel
theorem dX4_zero_27 : decode cX4_zero 27 = .ok (.lconst 0, 1) := by decide +kernel
theorem dX4_zero_28 : decode cX4_zero 28 = .ok (.aload_n 0, 1) := by decide +kernel
theorem dX4_zero_29 : decode cX4_zero 29 = .ok (.getfield 112, 3) := by decide +kernel
theorem dX4_zero_32 : decode cX4_zero 32 = .ok (.iconst 1, 1) := by decide +kernel
theorem dX4_zero_33 : decode cX4_zero 33 = .ok (.isub, 1) := by decide +kernel
theorem dX4_zero_34 : decode cX4_zero 34 = .ok (.i2l, 1) := by decide +kernel
theorem dX4_zero_35 : decode cX4_zero 35 = .ok (.invokestatic 43, 3) := by decide +kernel
theorem dX4_zero_38 : decode cX4_zero 38 = .ok (.ifCond .eq 12, 3) := by decide +kernel
theorem dX4_zero_41 : decode cX4_zero 41 = .ok (.aload_n 0, 1) := by decide +kernel
theorem dX4_zero_42 : decode cX4_zero 42 = .ok (.getfield 35, 3) := by decide +kernel
theorem dX4_zero_45 : decode cX4_zero 45 = .ok (.iload_n 2, 1) := by decide +kernel
theorem dX4_zero_46 : decode cX4_zero 46 = .ok (.iaload, 1) := by decide +kernel
theorem dX4_zero_47 : decode cX4_zero 47 = .ok (.goto 5, 3) := by decide +kernel
theorem dX4_zero_50 : decode cX4_zero 50 = .ok (.bipush (-2), 2) := by decide +kernel
theorem dX4_zero_52 : decode cX4_zero 52 = .ok (.ireturn, 1) := by decide +kernel
theorem dX4_area_0 : decode cX4_area 0 = .ok (.iload_n 1, 1) := by decide +kernel
theorem dX4_area_1 : decode cX4_area 1 = .ok (.invokestatic 51, 3) := by decide +kernel
theorem dX4_area_4 : decode cX4_area 4 = .ok (.ifCond .eq 47, 3) := by decide +kernel
theorem dX4_area_7 : decode cX4_area 7 = .ok (.iload_n 2, 1) := by decide +kernel
theorem dX4_area_8 : decode cX4_area 8 = .ok (.i2l, 1) := by decide +kernel
theorem dX4_area_9 : decode cX4_area 9 = .ok (.lconst 0, 1) := by decide +kernel
theorem dX4_area_10 : decode cX4_area 10 = .ok (.aload_n 0, 1) := by decide +kernel
theorem dX4_area_11 : decode cX4_area 11 = .ok (.getfield 7, 3) := by decide +kernel
theorem dX4_area_14 : decode cX4_area 14 = .ok (.iload_n 1, 1) := by decide +kernel
theorem dX4_area_15 : decode cX4_area 15 = .ok (.iaload, 1) := by decide +kernel
theorem dX4_area_16 : decode cX4_area 16 = .ok (.i2l, 1) := by decide +kernel
theorem dX4_area_17 : decode cX4_area 17 = .ok (.invokestatic 43, 3) := by decide +kernel
theorem dX4_area_20 : decode cX4_area 20 = .ok (.ifCond .eq 31, 3) := by decide +kernel
theorem dX4_area_23 : decode cX4_area 23 = .ok (.iload_n 3, 1) := by decide +kernel
theorem dX4_area_24 : decode cX4_area 24 = .ok (.i2l, 1) := by decide +kernel
theorem dX4_area_25 : decode cX4_area 25 = .ok (.iload_n 2, 1) := by decide +kernel
theorem dX4_area_26 : decode cX4_area 26 = .ok (.i2l, 1) := by decide +kernel
theorem dX4_area_27 : decode cX4_area 27 = .ok (.aload_n 0, 1) := by decide +kernel
theorem dX4_area_28 : decode cX4_area 28 = .ok (.getfield 7, 3) := by decide +kernel
theorem dX4_area_31 : decode cX4_area 31 = .ok (.iload_n 1, 1) := by decide +kernel
theorem dX4_area_32 : decode cX4_area 32 = .ok (.iaload, 1) := by decide +kernel
theorem dX4_area_33 : decode cX4_area 33 = .ok (.i2l, 1) := by decide +kernel
theorem dX4_area_34 : decode cX4_area 34 = .ok (.invokestatic 43, 3) := by decide +kernel
theorem dX4_area_37 : decode cX4_area 37 = .ok (.ifCond .eq 14, 3) := by decide +kernel
theorem dX4_area_40 : decode cX4_area 40 = .ok (.iload 4, 2) := by decide +kernel
theorem dX4_area_42 : decode cX4_area 42 = .ok (.i2l, 1) := by decide +kernel
theorem dX4_area_43 : decode cX4_area 43 = .ok (.lconst 0, 1) := by decide +kernel
theorem dX4_area_44 : decode cX4_area 44 = .ok (.lconst 1, 1) := by decide +kernel
theorem dX4_area_45 : decode cX4_area 45 = .ok (.invokestatic 43, 3) := by decide +kernel
theorem dX4_area_48 : decode cX4_area 48 = .ok (.ifCond .ne 7, 3) := by decide +kernel
theorem dX4_area_51 : decode cX4_area 51 = .ok (.ldc2_w 74, 3) := by decide +kernel
theorem dX4_area_54 : decode cX4_area 54 = .ok (.lreturn, 1) := by decide +kernel
theorem dX4_area_55 : decode cX4_area 55 = .ok (.lconst 0, 1) := by decide +kernel
theorem dX4_area_56 : decode cX4_area 56 = .ok (.lstore 5, 2) := by decide +kernel
theorem dX4_area_58 : decode cX4_area 58 = .ok (.iload_n 2, 1) := by decide +kernel
theorem dX4_area_59 : decode cX4_area 59 = .ok (.istore 7, 2) := by decide +kernel
theorem dX4_area_61 : decode cX4_area 61 = .ok (.iload 7, 2) := by decide +kernel
theorem dX4_area_63 : decode cX4_area 63 = .ok (.iload_n 3, 1) := by decide +kernel
theorem dX4_area_64 : decode cX4_area 64 = .ok (.if_icmp .ge 67, 3) := by decide +kernel
theorem dX4_area_67 : decode cX4_area 67 = .ok (.lload 5, 2) := by decide +kernel
theorem dX4_area_69 : decode cX4_area 69 = .ok (.ldc2_w 123, 3) := by decide +kernel
theorem dX4_area_72 : decode cX4_area 72 = .ok (.aload_n 0, 1) := by decide +kernel
theorem dX4_area_73 : decode cX4_area 73 = .ok (.getfield 13, 3) := by decide +kernel
theorem dX4_area_76 : decode cX4_area 76 = .ok (.bipush 16, 2) := by decide +kernel
theorem dX4_area_78 : decode cX4_area 78 = .ok (.iload_n 1, 1) := by decide +kernel
theorem dX4_area_79 : decode cX4_area 79 = .ok (.imul, 1) := by decide +kernel
theorem dX4_area_80 : decode cX4_area 80 = .ok (.iload 7, 2) := by decide +kernel
theorem dX4_area_82 : decode cX4_area 82 = .ok (.iadd, 1) := by decide +kernel
theorem dX4_area_83 : decode cX4_area 83 = .ok (.iaload, 1) := by decide +kernel
theorem dX4_area_84 : decode cX4_area 84 = .ok (.i2l, 1) := by decide +kernel
theorem dX4_area_85 : decode cX4_area 85 = .ok (.lmul, 1) := by decide +kernel
theorem dX4_area_86 : decode cX4_area 86 = .ok (.ldc2_w 125, 3) := by decide +kernel
theorem dX4_area_89 : decode cX4_area 89 = .ok (.aload_n 0, 1) := by decide +kernel
theorem dX4_area_90 : decode cX4_area 90 = .ok (.getfield 16, 3) := by decide +kernel
theorem dX4_area_93 : decode cX4_area 93 = .ok (.bipush 16, 2) := by decide +kernel
theorem dX4_area_95 : decode cX4_area 95 = .ok (.iload_n 1, 1) := by decide +kernel
theorem dX4_area_96 : decode cX4_area 96 = .ok (.imul, 1) := by decide +kernel
theorem dX4_area_97 : decode cX4_area 97 = .ok (.iload 7, 2) := by decide +kernel
theorem dX4_area_99 : decode cX4_area 99 = .ok (.iadd, 1) := by decide +kernel
theorem dX4_area_100 : decode cX4_area 100 = .ok (.iaload, 1) := by decide +kernel
theorem dX4_area_101 : decode cX4_area 101 = .ok (.i2l, 1) := by decide +kernel
theorem dX4_area_102 : decode cX4_area 102 = .ok (.lmul, 1) := by decide +kernel
theorem dX4_area_103 : decode cX4_area 103 = .ok (.ladd, 1) := by decide +kernel
theorem dX4_area_104 : decode cX4_area 104 = .ok (.ldc2_w 61, 3) := by decide +kernel
theorem dX4_area_107 : decode cX4_area 107 = .ok (.aload_n 0, 1) := by decide +kernel
theorem dX4_area_108 : decode cX4_area 108 = .ok (.getfield 19, 3) := by decide +kernel
theorem dX4_area_111 : decode cX4_area 111 = .ok (.bipush 16, 2) := by decide +kernel
theorem dX4_area_113 : decode cX4_area 113 = .ok (.iload_n 1, 1) := by decide +kernel
theorem dX4_area_114 : decode cX4_area 114 = .ok (.imul, 1) := by decide +kernel
theorem dX4_area_115 : decode cX4_area 115 = .ok (.iload 7, 2) := by decide +kernel
theorem dX4_area_117 : decode cX4_area 117 = .ok (.iadd, 1) := by decide +kernel
theorem dX4_area_118 : decode cX4_area 118 = .ok (.iaload, 1) := by decide +kernel
theorem dX4_area_119 : decode cX4_area 119 = .ok (.i2l, 1) := by decide +kernel
theorem dX4_area_120 : decode cX4_area 120 = .ok (.lmul, 1) := by decide +kernel
theorem dX4_area_121 : decode cX4_area 121 = .ok (.ladd, 1) := by decide +kernel
theorem dX4_area_122 : decode cX4_area 122 = .ok (.ladd, 1) := by decide +kernel
theorem dX4_area_123 : decode cX4_area 123 = .ok (.lstore 5, 2) := by decide +kernel
theorem dX4_area_125 : decode cX4_area 125 = .ok (.iinc 7 1, 3) := by decide +kernel
theorem dX4_area_128 : decode cX4_area 128 = .ok (.goto (-67), 3) := by decide +kernel
theorem dX4_area_131 : decode cX4_area 131 = .ok (.lload 5, 2) := by decide +kernel
theorem dX4_area_133 : decode cX4_area 133 = .ok (.ldc2_w 123, 3) := by decide +kernel
theorem dX4_area_136 : decode cX4_area 136 = .ok (.iload 4, 2) := by decide +kernel
theorem dX4_area_138 : decode cX4_area 138 = .ok (.invokestatic 76, 3) := by decide +kernel
theorem dX4_area_141 : decode cX4_area 141 = .ok (.lreturn, 1) := by decide +kernel
theorem dX4_same_0 : decode cX4_same 0 = .ok (.iload_n 1, 1) := by decide +kernel
theorem dX4_same_1 : decode cX4_same 1 = .ok (.invokestatic 51, 3) := by decide +kernel
theorem dX4_same_4 : decode cX4_same 4 = .ok (.ifCond .eq 10, 3) := by decide +kernel
theorem dX4_same_7 : decode cX4_same 7 = .ok (.iload_n 2, 1) := by decide +kernel
theorem dX4_same_8 : decode cX4_same 8 = .ok (.invokestatic 51, 3) := by decide +kernel
theorem dX4_same_11 : decode cX4_same 11 = .ok (.ifCond .ne 6, 3) := by decide +kernel
theorem dX4_same_14 : decode cX4_same 14 = .ok (.bipush (-2), 2) := by decide +kernel
theorem dX4_same_16 : decode cX4_same 16 = .ok (.ireturn, 1) := by decide +kernel
theorem dX4_same_17 : decode cX4_same 17 = .ok (.aload_n 0, 1) := by decide +kernel
theorem dX4_same_18 : decode cX4_same 18 = .ok (.getfield 7, 3) := by decide +kernel
theorem dX4_same_21 : decode cX4_same 21 = .ok (.iload_n 1, 1) := by decide +kernel
theorem dX4_same_22 : decode cX4_same 22 = .ok (.iaload, 1) := by decide +kernel
theorem dX4_same_23 : decode cX4_same 23 = .ok (.aload_n 0, 1) := by decide +kernel
theorem dX4_same_24 : decode cX4_same 24 = .ok (.getfield 7, 3) := by decide +kernel
theorem dX4_same_27 : decode cX4_same 27 = .ok (.iload_n 2, 1) := by decide +kernel
theorem dX4_same_28 : decode cX4_same 28 = .ok (.iaload, 1) := by decide +kernel
theorem dX4_same_29 : decode cX4_same 29 = .ok (.if_icmp .ne 7, 3) := by decide +kernel
theorem dX4_same_32 : decode cX4_same 32 = .ok (.iconst 1, 1) := by decide +kernel
theorem dX4_same_33 : decode cX4_same 33 = .ok (.goto 4, 3) := by decide +kernel
theorem dX4_same_36 : decode cX4_same 36 = .ok (.iconst 0, 1) := by decide +kernel
theorem dX4_same_37 : decode cX4_same 37 = .ok (.istore_n 3, 1) := by decide +kernel
theorem dX4_same_38 : decode cX4_same 38 = .ok (.iconst 0, 1) := by decide +kernel
theorem dX4_same_39 : decode cX4_same 39 = .ok (.istore 4, 2) := by decide +kernel
theorem dX4_same_41 : decode cX4_same 41 = .ok (.iload 4, 2) := by decide +kernel
theorem dX4_same_43 : decode cX4_same 43 = .ok (.aload_n 0, 1) := by decide +kernel
theorem dX4_same_44 : decode cX4_same 44 = .ok (.getfield 7, 3) := by decide +kernel
theorem dX4_same_47 : decode cX4_same 47 = .ok (.iload_n 1, 1) := by decide +kernel
theorem dX4_same_48 : decode cX4_same 48 = .ok (.iaload, 1) := by decide +kernel
theorem dX4_same_49 : decode cX4_same 49 = .ok (.if_icmp .ge 100, 3) := by decide +kernel
theorem dX4_same_52 : decode cX4_same 52 = .ok (.iload_n 3, 1) := by decide +kernel
theorem dX4_same_53 : decode cX4_same 53 = .ok (.ifCond .eq 96, 3) := by decide +kernel
theorem dX4_same_56 : decode cX4_same 56 = .ok (.aload_n 0, 1) := by decide +kernel
theorem dX4_same_57 : decode cX4_same 57 = .ok (.getfield 13, 3) := by decide +kernel
theorem dX4_same_60 : decode cX4_same 60 = .ok (.bipush 16, 2) := by decide +kernel
theorem dX4_same_62 : decode cX4_same 62 = .ok (.iload_n 1, 1) := by decide +kernel
theorem dX4_same_63 : decode cX4_same 63 = .ok (.imul, 1) := by decide +kernel
theorem dX4_same_64 : decode cX4_same 64 = .ok (.iload 4, 2) := by decide +kernel
theorem dX4_same_66 : decode cX4_same 66 = .ok (.iadd, 1) := by decide +kernel
theorem dX4_same_67 : decode cX4_same 67 = .ok (.iaload, 1) := by decide +kernel
theorem dX4_same_68 : decode cX4_same 68 = .ok (.aload_n 0, 1) := by decide +kernel
theorem dX4_same_69 : decode cX4_same 69 = .ok (.getfield 13, 3) := by decide +kernel
theorem dX4_same_72 : decode cX4_same 72 = .ok (.bipush 16, 2) := by decide +kernel
theorem dX4_same_74 : decode cX4_same 74 = .ok (.iload_n 2, 1) := by decide +kernel
theorem dX4_same_75 : decode cX4_same 75 = .ok (.imul, 1) := by decide +kernel
theorem dX4_same_76 : decode cX4_same 76 = .ok (.iload 4, 2) := by decide +kernel
theorem dX4_same_78 : decode cX4_same 78 = .ok (.iadd, 1) := by decide +kernel
theorem dX4_same_79 : decode cX4_same 79 = .ok (.iaload, 1) := by decide +kernel
theorem dX4_same_80 : decode cX4_same 80 = .ok (.if_icmp .ne 61, 3) := by decide +kernel
theorem dX4_same_83 : decode cX4_same 83 = .ok (.aload_n 0, 1) := by decide +kernel
theorem dX4_same_84 : decode cX4_same 84 = .ok (.getfield 16, 3) := by decide +kernel
theorem dX4_same_87 : decode cX4_same 87 = .ok (.bipush 16, 2) := by decide +kernel
theorem dX4_same_89 : decode cX4_same 89 = .ok (.iload_n 1, 1) := by decide +kernel
theorem dX4_same_90 : decode cX4_same 90 = .ok (.imul, 1) := by decide +kernel
theorem dX4_same_91 : decode cX4_same 91 = .ok (.iload 4, 2) := by decide +kernel
theorem dX4_same_93 : decode cX4_same 93 = .ok (.iadd, 1) := by decide +kernel
theorem dX4_same_94 : decode cX4_same 94 = .ok (.iaload, 1) := by decide +kernel
theorem dX4_same_95 : decode cX4_same 95 = .ok (.aload_n 0, 1) := by decide +kernel
theorem dX4_same_96 : decode cX4_same 96 = .ok (.getfield 16, 3) := by decide +kernel
theorem dX4_same_99 : decode cX4_same 99 = .ok (.bipush 16, 2) := by decide +kernel
theorem dX4_same_101 : decode cX4_same 101 = .ok (.iload_n 2, 1) := by decide +kernel
theorem dX4_same_102 : decode cX4_same 102 = .ok (.imul, 1) := by decide +kernel
theorem dX4_same_103 : decode cX4_same 103 = .ok (.iload 4, 2) := by decide +kernel
theorem dX4_same_105 : decode cX4_same 105 = .ok (.iadd, 1) := by decide +kernel
theorem dX4_same_106 : decode cX4_same 106 = .ok (.iaload, 1) := by decide +kernel
theorem dX4_same_107 : decode cX4_same 107 = .ok (.if_icmp .ne 34, 3) := by decide +kernel
theorem dX4_same_110 : decode cX4_same 110 = .ok (.aload_n 0, 1) := by decide +kernel
theorem dX4_same_111 : decode cX4_same 111 = .ok (.getfield 19, 3) := by decide +kernel
theorem dX4_same_114 : decode cX4_same 114 = .ok (.bipush 16, 2) := by decide +kernel
theorem dX4_same_116 : decode cX4_same 116 = .ok (.iload_n 1, 1) := by decide +kernel
theorem dX4_same_117 : decode cX4_same 117 = .ok (.imul, 1) := by decide +kernel
theorem dX4_same_118 : decode cX4_same 118 = .ok (.iload 4, 2) := by decide +kernel
theorem dX4_same_120 : decode cX4_same 120 = .ok (.iadd, 1) := by decide +kernel
theorem dX4_same_121 : decode cX4_same 121 = .ok (.iaload, 1) := by decide +kernel
theorem dX4_same_122 : decode cX4_same 122 = .ok (.aload_n 0, 1) := by decide +kernel
theorem dX4_same_123 : decode cX4_same 123 = .ok (.getfield 19, 3) := by decide +kernel
theorem dX4_same_126 : decode cX4_same 126 = .ok (.bipush 16, 2) := by decide +kernel
theorem dX4_same_128 : decode cX4_same 128 = .ok (.iload_n 2, 1) := by decide +kernel
theorem dX4_same_129 : decode cX4_same 129 = .ok (.imul, 1) := by decide +kernel
theorem dX4_same_130 : decode cX4_same 130 = .ok (.iload 4, 2) := by decide +kernel
theorem dX4_same_132 : decode cX4_same 132 = .ok (.iadd, 1) := by decide +kernel
theorem dX4_same_133 : decode cX4_same 133 = .ok (.iaload, 1) := by decide +kernel
theorem dX4_same_134 : decode cX4_same 134 = .ok (.if_icmp .ne 7, 3) := by decide +kernel
theorem dX4_same_137 : decode cX4_same 137 = .ok (.iconst 1, 1) := by decide +kernel
theorem dX4_same_138 : decode cX4_same 138 = .ok (.goto 4, 3) := by decide +kernel
theorem dX4_same_141 : decode cX4_same 141 = .ok (.iconst 0, 1) := by decide +kernel
theorem dX4_same_142 : decode cX4_same 142 = .ok (.istore_n 3, 1) := by decide +kernel
theorem dX4_same_143 : decode cX4_same 143 = .ok (.iinc 4 1, 3) := by decide +kernel
theorem dX4_same_146 : decode cX4_same 146 = .ok (.goto (-105), 3) := by decide +kernel
theorem dX4_same_149 : decode cX4_same 149 = .ok (.iload_n 3, 1) := by decide +kernel
theorem dX4_same_150 : decode cX4_same 150 = .ok (.ifCond .eq 7, 3) := by decide +kernel
theorem dX4_same_153 : decode cX4_same 153 = .ok (.iconst 1, 1) := by decide +kernel
theorem dX4_same_154 : decode cX4_same 154 = .ok (.goto 4, 3) := by decide +kernel
theorem dX4_same_157 : decode cX4_same 157 = .ok (.iconst 0, 1) := by decide +kernel
theorem dX4_same_158 : decode cX4_same 158 = .ok (.ireturn, 1) := by decide +kernel
theorem dX4_make_0 : decode cX4_make 0 = .ok (.aload_n 0, 1) := by decide +kernel
theorem dX4_make_1 : decode cX4_make 1 = .ok (.aload_n 0, 1) := by decide +kernel
theorem dX4_make_2 : decode cX4_make 2 = .ok (.getfield 7, 3) := by decide +kernel
theorem dX4_make_5 : decode cX4_make 5 = .ok (.iload_n 1, 1) := by decide +kernel
theorem dX4_make_6 : decode cX4_make 6 = .ok (.iaload, 1) := by decide +kernel
theorem dX4_make_7 : decode cX4_make 7 = .ok (.putfield 64, 3) := by decide +kernel
theorem dX4_make_10 : decode cX4_make 10 = .ok (.iconst 0, 1) := by decide +kernel
theorem dX4_make_11 : decode cX4_make 11 = .ok (.istore 7, 2) := by decide +kernel
theorem dX4_make_13 : decode cX4_make 13 = .ok (.iload 7, 2) := by decide +kernel
theorem dX4_make_15 : decode cX4_make 15 = .ok (.aload_n 0, 1) := by decide +kernel
theorem dX4_make_16 : decode cX4_make 16 = .ok (.getfield 64, 3) := by decide +kernel
theorem dX4_make_19 : decode cX4_make 19 = .ok (.if_icmp .ge 129, 3) := by decide +kernel
theorem dX4_make_22 : decode cX4_make 22 = .ok (.aload_n 0, 1) := by decide +kernel
theorem dX4_make_23 : decode cX4_make 23 = .ok (.getfield 25, 3) := by decide +kernel
theorem dX4_make_26 : decode cX4_make 26 = .ok (.iload 7, 2) := by decide +kernel
theorem dX4_make_28 : decode cX4_make 28 = .ok (.lload_n 2, 1) := by decide +kernel
theorem dX4_make_29 : decode cX4_make 29 = .ok (.aload_n 0, 1) := by decide +kernel
theorem dX4_make_30 : decode cX4_make 30 = .ok (.getfield 13, 3) := by decide +kernel
theorem dX4_make_33 : decode cX4_make 33 = .ok (.bipush 16, 2) := by decide +kernel
theorem dX4_make_35 : decode cX4_make 35 = .ok (.iload_n 1, 1) := by decide +kernel
theorem dX4_make_36 : decode cX4_make 36 = .ok (.imul, 1) := by decide +kernel
theorem dX4_make_37 : decode cX4_make 37 = .ok (.iload 7, 2) := by decide +kernel
theorem dX4_make_39 : decode cX4_make 39 = .ok (.iadd, 1) := by decide +kernel
theorem dX4_make_40 : decode cX4_make 40 = .ok (.iaload, 1) := by decide +kernel
theorem dX4_make_41 : decode cX4_make 41 = .ok (.i2l, 1) := by decide +kernel
theorem dX4_make_42 : decode cX4_make 42 = .ok (.lmul, 1) := by decide +kernel
theorem dX4_make_43 : decode cX4_make 43 = .ok (.lload 5, 2) := by decide +kernel
theorem dX4_make_45 : decode cX4_make 45 = .ok (.aload_n 0, 1) := by decide +kernel
theorem dX4_make_46 : decode cX4_make 46 = .ok (.getfield 13, 3) := by decide +kernel
theorem dX4_make_49 : decode cX4_make 49 = .ok (.bipush 16, 2) := by decide +kernel
theorem dX4_make_51 : decode cX4_make 51 = .ok (.iload 4, 2) := by decide +kernel
theorem dX4_make_53 : decode cX4_make 53 = .ok (.imul, 1) := by decide +kernel
theorem dX4_make_54 : decode cX4_make 54 = .ok (.iload 7, 2) := by decide +kernel
theorem dX4_make_56 : decode cX4_make 56 = .ok (.iadd, 1) := by decide +kernel
theorem dX4_make_57 : decode cX4_make 57 = .ok (.iaload, 1) := by decide +kernel
theorem dX4_make_58 : decode cX4_make 58 = .ok (.i2l, 1) := by decide +kernel
theorem dX4_make_59 : decode cX4_make 59 = .ok (.lmul, 1) := by decide +kernel
theorem dX4_make_60 : decode cX4_make 60 = .ok (.ladd, 1) := by decide +kernel
theorem dX4_make_61 : decode cX4_make 61 = .ok (.lastore, 1) := by decide +kernel
theorem dX4_make_62 : decode cX4_make 62 = .ok (.aload_n 0, 1) := by decide +kernel
theorem dX4_make_63 : decode cX4_make 63 = .ok (.getfield 29, 3) := by decide +kernel
theorem dX4_make_66 : decode cX4_make 66 = .ok (.iload 7, 2) := by decide +kernel
theorem dX4_make_68 : decode cX4_make 68 = .ok (.lload_n 2, 1) := by decide +kernel
theorem dX4_make_69 : decode cX4_make 69 = .ok (.aload_n 0, 1) := by decide +kernel
theorem dX4_make_70 : decode cX4_make 70 = .ok (.getfield 16, 3) := by decide +kernel
theorem dX4_make_73 : decode cX4_make 73 = .ok (.bipush 16, 2) := by decide +kernel
theorem dX4_make_75 : decode cX4_make 75 = .ok (.iload_n 1, 1) := by decide +kernel
theorem dX4_make_76 : decode cX4_make 76 = .ok (.imul, 1) := by decide +kernel
theorem dX4_make_77 : decode cX4_make 77 = .ok (.iload 7, 2) := by decide +kernel
theorem dX4_make_79 : decode cX4_make 79 = .ok (.iadd, 1) := by decide +kernel
theorem dX4_make_80 : decode cX4_make 80 = .ok (.iaload, 1) := by decide +kernel
theorem dX4_make_81 : decode cX4_make 81 = .ok (.i2l, 1) := by decide +kernel
theorem dX4_make_82 : decode cX4_make 82 = .ok (.lmul, 1) := by decide +kernel
theorem dX4_make_83 : decode cX4_make 83 = .ok (.lload 5, 2) := by decide +kernel
theorem dX4_make_85 : decode cX4_make 85 = .ok (.aload_n 0, 1) := by decide +kernel
theorem dX4_make_86 : decode cX4_make 86 = .ok (.getfield 16, 3) := by decide +kernel
theorem dX4_make_89 : decode cX4_make 89 = .ok (.bipush 16, 2) := by decide +kernel
theorem dX4_make_91 : decode cX4_make 91 = .ok (.iload 4, 2) := by decide +kernel
theorem dX4_make_93 : decode cX4_make 93 = .ok (.imul, 1) := by decide +kernel
theorem dX4_make_94 : decode cX4_make 94 = .ok (.iload 7, 2) := by decide +kernel
theorem dX4_make_96 : decode cX4_make 96 = .ok (.iadd, 1) := by decide +kernel
theorem dX4_make_97 : decode cX4_make 97 = .ok (.iaload, 1) := by decide +kernel
theorem dX4_make_98 : decode cX4_make 98 = .ok (.i2l, 1) := by decide +kernel
theorem dX4_make_99 : decode cX4_make 99 = .ok (.lmul, 1) := by decide +kernel
theorem dX4_make_100 : decode cX4_make 100 = .ok (.ladd, 1) := by decide +kernel
theorem dX4_make_101 : decode cX4_make 101 = .ok (.lastore, 1) := by decide +kernel
theorem dX4_make_102 : decode cX4_make 102 = .ok (.aload_n 0, 1) := by decide +kernel
theorem dX4_make_103 : decode cX4_make 103 = .ok (.getfield 32, 3) := by decide +kernel
theorem dX4_make_106 : decode cX4_make 106 = .ok (.iload 7, 2) := by decide +kernel
theorem dX4_make_108 : decode cX4_make 108 = .ok (.lload_n 2, 1) := by decide +kernel
theorem dX4_make_109 : decode cX4_make 109 = .ok (.aload_n 0, 1) := by decide +kernel
theorem dX4_make_110 : decode cX4_make 110 = .ok (.getfield 19, 3) := by decide +kernel
theorem dX4_make_113 : decode cX4_make 113 = .ok (.bipush 16, 2) := by decide +kernel
theorem dX4_make_115 : decode cX4_make 115 = .ok (.iload_n 1, 1) := by decide +kernel
theorem dX4_make_116 : decode cX4_make 116 = .ok (.imul, 1) := by decide +kernel
theorem dX4_make_117 : decode cX4_make 117 = .ok (.iload 7, 2) := by decide +kernel
theorem dX4_make_119 : decode cX4_make 119 = .ok (.iadd, 1) := by decide +kernel
theorem dX4_make_120 : decode cX4_make 120 = .ok (.iaload, 1) := by decide +kernel
theorem dX4_make_121 : decode cX4_make 121 = .ok (.i2l, 1) := by decide +kernel
theorem dX4_make_122 : decode cX4_make 122 = .ok (.lmul, 1) := by decide +kernel
theorem dX4_make_123 : decode cX4_make 123 = .ok (.lload 5, 2) := by decide +kernel
theorem dX4_make_125 : decode cX4_make 125 = .ok (.aload_n 0, 1) := by decide +kernel
theorem dX4_make_126 : decode cX4_make 126 = .ok (.getfield 19, 3) := by decide +kernel
theorem dX4_make_129 : decode cX4_make 129 = .ok (.bipush 16, 2) := by decide +kernel
theorem dX4_make_131 : decode cX4_make 131 = .ok (.iload 4, 2) := by decide +kernel
theorem dX4_make_133 : decode cX4_make 133 = .ok (.imul, 1) := by decide +kernel
theorem dX4_make_134 : decode cX4_make 134 = .ok (.iload 7, 2) := by decide +kernel
theorem dX4_make_136 : decode cX4_make 136 = .ok (.iadd, 1) := by decide +kernel
theorem dX4_make_137 : decode cX4_make 137 = .ok (.iaload, 1) := by decide +kernel
theorem dX4_make_138 : decode cX4_make 138 = .ok (.i2l, 1) := by decide +kernel
theorem dX4_make_139 : decode cX4_make 139 = .ok (.lmul, 1) := by decide +kernel
theorem dX4_make_140 : decode cX4_make 140 = .ok (.ladd, 1) := by decide +kernel
theorem dX4_make_141 : decode cX4_make 141 = .ok (.lastore, 1) := by decide +kernel
theorem dX4_make_142 : decode cX4_make 142 = .ok (.iinc 7 1, 3) := by decide +kernel
theorem dX4_make_145 : decode cX4_make 145 = .ok (.goto (-132), 3) := by decide +kernel
theorem dX4_make_148 : decode cX4_make 148 = .ok (.return_, 1) := by decide +kernel
theorem dX4_meets_0 : decode cX4_meets 0 = .ok (.iload_n 1, 1) := by decide +kernel
theorem dX4_meets_1 : decode cX4_meets 1 = .ok (.invokestatic 51, 3) := by decide +kernel
theorem dX4_meets_4 : decode cX4_meets 4 = .ok (.ifCond .eq 10, 3) := by decide +kernel
theorem dX4_meets_7 : decode cX4_meets 7 = .ok (.iload_n 2, 1) := by decide +kernel
theorem dX4_meets_8 : decode cX4_meets 8 = .ok (.invokestatic 51, 3) := by decide +kernel
theorem dX4_meets_11 : decode cX4_meets 11 = .ok (.ifCond .ne 6, 3) := by decide +kernel
theorem dX4_meets_14 : decode cX4_meets 14 = .ok (.bipush (-2), 2) := by decide +kernel
theorem dX4_meets_16 : decode cX4_meets 16 = .ok (.ireturn, 1) := by decide +kernel
theorem dX4_meets_17 : decode cX4_meets 17 = .ok (.aload_n 0, 1) := by decide +kernel
theorem dX4_meets_18 : decode cX4_meets 18 = .ok (.getfield 7, 3) := by decide +kernel
theorem dX4_meets_21 : decode cX4_meets 21 = .ok (.iload_n 1, 1) := by decide +kernel
theorem dX4_meets_22 : decode cX4_meets 22 = .ok (.iaload, 1) := by decide +kernel
theorem dX4_meets_23 : decode cX4_meets 23 = .ok (.aload_n 0, 1) := by decide +kernel
theorem dX4_meets_24 : decode cX4_meets 24 = .ok (.getfield 7, 3) := by decide +kernel
theorem dX4_meets_27 : decode cX4_meets 27 = .ok (.iload_n 2, 1) := by decide +kernel
theorem dX4_meets_28 : decode cX4_meets 28 = .ok (.iaload, 1) := by decide +kernel
theorem dX4_meets_29 : decode cX4_meets 29 = .ok (.if_icmp .eq 6, 3) := by decide +kernel
theorem dX4_meets_32 : decode cX4_meets 32 = .ok (.bipush (-4), 2) := by decide +kernel
theorem dX4_meets_34 : decode cX4_meets 34 = .ok (.ireturn, 1) := by decide +kernel
theorem dX4_meets_35 : decode cX4_meets 35 = .ok (.aload_n 0, 1) := by decide +kernel
theorem dX4_meets_36 : decode cX4_meets 36 = .ok (.iload_n 1, 1) := by decide +kernel
theorem dX4_meets_37 : decode cX4_meets 37 = .ok (.lconst 1, 1) := by decide +kernel
theorem dX4_meets_38 : decode cX4_meets 38 = .ok (.iload_n 2, 1) := by decide +kernel
theorem dX4_meets_39 : decode cX4_meets 39 = .ok (.ldc2_w 88, 3) := by decide +kernel
theorem dX4_meets_42 : decode cX4_meets 42 = .ok (.invokevirtual 127, 3) := by decide +kernel
theorem dX4_meets_45 : decode cX4_meets 45 = .ok (.aload_n 0, 1) := by decide +kernel
theorem dX4_meets_46 : decode cX4_meets 46 = .ok (.invokevirtual 119, 3) := by decide +kernel
theorem dX4_meets_49 : decode cX4_meets 49 = .ok (.ifCond .eq 10, 3) := by decide +kernel
theorem dX4_meets_52 : decode cX4_meets 52 = .ok (.aload_n 0, 1) := by decide +kernel
theorem dX4_meets_53 : decode cX4_meets 53 = .ok (.getfield 112, 3) := by decide +kernel
theorem dX4_meets_56 : decode cX4_meets 56 = .ok (.goto 5, 3) := by decide +kernel
theorem dX4_meets_59 : decode cX4_meets 59 = .ok (.bipush (-4), 2) := by decide +kernel
theorem dX4_meets_61 : decode cX4_meets 61 = .ok (.ireturn, 1) := by decide +kernel
theorem dX4_mix_0 : decode cX4_mix 0 = .ok (.iload_n 1, 1) := by decide +kernel
theorem dX4_mix_1 : decode cX4_mix 1 = .ok (.invokestatic 51, 3) := by decide +kernel
theorem dX4_mix_4 : decode cX4_mix 4 = .ok (.ifCond .eq 18, 3) := by decide +kernel
theorem dX4_mix_7 : decode cX4_mix 7 = .ok (.iload_n 2, 1) := by decide +kernel
theorem dX4_mix_8 : decode cX4_mix 8 = .ok (.invokestatic 51, 3) := by decide +kernel
theorem dX4_mix_11 : decode cX4_mix 11 = .ok (.ifCond .eq 11, 3) := by decide +kernel
theorem dX4_mix_14 : decode cX4_mix 14 = .ok (.iload 4, 2) := by decide +kernel
theorem dX4_mix_16 : decode cX4_mix 16 = .ok (.invokestatic 51, 3) := by decide +kernel
theorem dX4_mix_19 : decode cX4_mix 19 = .ok (.ifCond .ne 6, 3) := by decide +kernel
theorem dX4_mix_22 : decode cX4_mix 22 = .ok (.bipush (-2), 2) := by decide +kernel
theorem dX4_mix_24 : decode cX4_mix 24 = .ok (.ireturn, 1) := by decide +kernel
theorem dX4_mix_25 : decode cX4_mix 25 = .ok (.iload_n 3, 1) := by decide +kernel
theorem dX4_mix_26 : decode cX4_mix 26 = .ok (.i2l, 1) := by decide +kernel
theorem dX4_mix_27 : decode cX4_mix 27 = .ok (.ldc2_w 131, 3) := by decide +kernel
theorem dX4_mix_30 : decode cX4_mix 30 = .ok (.ldc2_w 133, 3) := by decide +kernel
theorem dX4_mix_33 : decode cX4_mix 33 = .ok (.invokestatic 43, 3) := by decide +kernel
theorem dX4_mix_36 : decode cX4_mix 36 = .ok (.ifCond .eq 18, 3) := by decide +kernel
theorem dX4_mix_39 : decode cX4_mix 39 = .ok (.iload 5, 2) := by decide +kernel
theorem dX4_mix_41 : decode cX4_mix 41 = .ok (.i2l, 1) := by decide +kernel
theorem dX4_mix_42 : decode cX4_mix 42 = .ok (.ldc2_w 131, 3) := by decide +kernel
theorem dX4_mix_45 : decode cX4_mix 45 = .ok (.ldc2_w 133, 3) := by decide +kernel
theorem dX4_mix_48 : decode cX4_mix 48 = .ok (.invokestatic 43, 3) := by decide +kernel
theorem dX4_mix_51 : decode cX4_mix 51 = .ok (.ifCond .ne 6, 3) := by decide +kernel
theorem dX4_mix_54 : decode cX4_mix 54 = .ok (.bipush (-3), 2) := by decide +kernel
theorem dX4_mix_56 : decode cX4_mix 56 = .ok (.ireturn, 1) := by decide +kernel
theorem dX4_mix_57 : decode cX4_mix 57 = .ok (.aload_n 0, 1) := by decide +kernel
theorem dX4_mix_58 : decode cX4_mix 58 = .ok (.getfield 7, 3) := by decide +kernel
theorem dX4_mix_61 : decode cX4_mix 61 = .ok (.iload_n 2, 1) := by decide +kernel
theorem dX4_mix_62 : decode cX4_mix 62 = .ok (.iaload, 1) := by decide +kernel
theorem dX4_mix_63 : decode cX4_mix 63 = .ok (.aload_n 0, 1) := by decide +kernel
theorem dX4_mix_64 : decode cX4_mix 64 = .ok (.getfield 7, 3) := by decide +kernel
theorem dX4_mix_67 : decode cX4_mix 67 = .ok (.iload 4, 2) := by decide +kernel
theorem dX4_mix_69 : decode cX4_mix 69 = .ok (.iaload, 1) := by decide +kernel
theorem dX4_mix_70 : decode cX4_mix 70 = .ok (.if_icmp .eq 6, 3) := by decide +kernel
theorem dX4_mix_73 : decode cX4_mix 73 = .ok (.bipush (-4), 2) := by decide +kernel
theorem dX4_mix_75 : decode cX4_mix 75 = .ok (.ireturn, 1) := by decide +kernel
theorem dX4_mix_76 : decode cX4_mix 76 = .ok (.aload_n 0, 1) := by decide +kernel
theorem dX4_mix_77 : decode cX4_mix 77 = .ok (.iload_n 2, 1) := by decide +kernel
theorem dX4_mix_78 : decode cX4_mix 78 = .ok (.iload_n 3, 1) := by decide +kernel
theorem dX4_mix_79 : decode cX4_mix 79 = .ok (.i2l, 1) := by decide +kernel
theorem dX4_mix_80 : decode cX4_mix 80 = .ok (.iload 4, 2) := by decide +kernel
theorem dX4_mix_82 : decode cX4_mix 82 = .ok (.iload 5, 2) := by decide +kernel
theorem dX4_mix_84 : decode cX4_mix 84 = .ok (.i2l, 1) := by decide +kernel
theorem dX4_mix_85 : decode cX4_mix 85 = .ok (.invokevirtual 127, 3) := by decide +kernel
theorem dX4_mix_88 : decode cX4_mix 88 = .ok (.aload_n 0, 1) := by decide +kernel
theorem dX4_mix_89 : decode cX4_mix 89 = .ok (.iload_n 1, 1) := by decide +kernel
theorem dX4_mix_90 : decode cX4_mix 90 = .ok (.invokevirtual 135, 3) := by decide +kernel
theorem dX4_mix_93 : decode cX4_mix 93 = .ok (.ireturn, 1) := by decide +kernel
theorem dX4_refine_0 : decode cX4_refine 0 = .ok (.iload_n 1, 1) := by decide +kernel
theorem dX4_refine_1 : decode cX4_refine 1 = .ok (.invokestatic 51, 3) := by decide +kernel
theorem dX4_refine_4 : decode cX4_refine 4 = .ok (.ifCond .eq 10, 3) := by decide +kernel
theorem dX4_refine_7 : decode cX4_refine 7 = .ok (.iload_n 2, 1) := by decide +kernel
theorem dX4_refine_8 : decode cX4_refine 8 = .ok (.invokestatic 51, 3) := by decide +kernel
theorem dX4_refine_11 : decode cX4_refine 11 = .ok (.ifCond .ne 6, 3) := by decide +kernel
theorem dX4_refine_14 : decode cX4_refine 14 = .ok (.bipush (-2), 2) := by decide +kernel
theorem dX4_refine_16 : decode cX4_refine 16 = .ok (.ireturn, 1) := by decide +kernel
theorem dX4_refine_17 : decode cX4_refine 17 = .ok (.aload_n 0, 1) := by decide +kernel
theorem dX4_refine_18 : decode cX4_refine 18 = .ok (.getfield 7, 3) := by decide +kernel
theorem dX4_refine_21 : decode cX4_refine 21 = .ok (.iload_n 2, 1) := by decide +kernel
theorem dX4_refine_22 : decode cX4_refine 22 = .ok (.iaload, 1) := by decide +kernel
theorem dX4_refine_23 : decode cX4_refine 23 = .ok (.bipush 8, 2) := by decide +kernel
theorem dX4_refine_25 : decode cX4_refine 25 = .ok (.if_icmp .le 6, 3) := by decide +kernel
theorem dX4_refine_28 : decode cX4_refine 28 = .ok (.bipush (-4), 2) := by decide +kernel
theorem dX4_refine_30 : decode cX4_refine 30 = .ok (.ireturn, 1) := by decide +kernel
theorem dX4_refine_31 : decode cX4_refine 31 = .ok (.aload_n 0, 1) := by decide +kernel
theorem dX4_refine_32 : decode cX4_refine 32 = .ok (.iconst 2, 1) := by decide +kernel
theorem dX4_refine_33 : decode cX4_refine 33 = .ok (.aload_n 0, 1) := by decide +kernel
theorem dX4_refine_34 : decode cX4_refine 34 = .ok (.getfield 7, 3) := by decide +kernel
theorem dX4_refine_37 : decode cX4_refine 37 = .ok (.iload_n 2, 1) := by decide +kernel
theorem dX4_refine_38 : decode cX4_refine 38 = .ok (.iaload, 1) := by decide +kernel
theorem dX4_refine_39 : decode cX4_refine 39 = .ok (.imul, 1) := by decide +kernel
theorem dX4_refine_40 : decode cX4_refine 40 = .ok (.putfield 64, 3) := by decide +kernel
theorem dX4_refine_43 : decode cX4_refine 43 = .ok (.iconst 0, 1) := by decide +kernel
theorem dX4_refine_44 : decode cX4_refine 44 = .ok (.istore_n 3, 1) := by decide +kernel
theorem dX4_refine_45 : decode cX4_refine 45 = .ok (.iload_n 3, 1) := by decide +kernel
theorem dX4_refine_46 : decode cX4_refine 46 = .ok (.aload_n 0, 1) := by decide +kernel
theorem dX4_refine_47 : decode cX4_refine 47 = .ok (.getfield 64, 3) := by decide +kernel
theorem dX4_refine_50 : decode cX4_refine 50 = .ok (.if_icmp .ge 119, 3) := by decide +kernel
theorem dX4_refine_53 : decode cX4_refine 53 = .ok (.bipush 16, 2) := by decide +kernel
theorem dX4_refine_55 : decode cX4_refine 55 = .ok (.iload_n 2, 1) := by decide +kernel
theorem dX4_refine_56 : decode cX4_refine 56 = .ok (.imul, 1) := by decide +kernel
theorem dX4_refine_57 : decode cX4_refine 57 = .ok (.iload_n 3, 1) := by decide +kernel
theorem dX4_refine_58 : decode cX4_refine 58 = .ok (.iconst 2, 1) := by decide +kernel
theorem dX4_refine_59 : decode cX4_refine 59 = .ok (.idiv, 1) := by decide +kernel
theorem dX4_refine_60 : decode cX4_refine 60 = .ok (.iadd, 1) := by decide +kernel
theorem dX4_refine_61 : decode cX4_refine 61 = .ok (.istore 4, 2) := by decide +kernel
theorem dX4_refine_63 : decode cX4_refine 63 = .ok (.iload_n 3, 1) := by decide +kernel
theorem dX4_refine_64 : decode cX4_refine 64 = .ok (.iconst 2, 1) := by decide +kernel
theorem dX4_refine_65 : decode cX4_refine 65 = .ok (.irem, 1) := by decide +kernel
theorem dX4_refine_66 : decode cX4_refine 66 = .ok (.i2l, 1) := by decide +kernel
theorem dX4_refine_67 : decode cX4_refine 67 = .ok (.lstore 5, 2) := by decide +kernel
theorem dX4_refine_69 : decode cX4_refine 69 = .ok (.aload_n 0, 1) := by decide +kernel
theorem dX4_refine_70 : decode cX4_refine 70 = .ok (.getfield 25, 3) := by decide +kernel
theorem dX4_refine_73 : decode cX4_refine 73 = .ok (.iload_n 3, 1) := by decide +kernel
theorem dX4_refine_74 : decode cX4_refine 74 = .ok (.ldc2_w 90, 3) := by decide +kernel
theorem dX4_refine_77 : decode cX4_refine 77 = .ok (.aload_n 0, 1) := by decide +kernel
theorem dX4_refine_78 : decode cX4_refine 78 = .ok (.getfield 13, 3) := by decide +kernel
theorem dX4_refine_81 : decode cX4_refine 81 = .ok (.iload 4, 2) := by decide +kernel
theorem dX4_refine_83 : decode cX4_refine 83 = .ok (.iaload, 1) := by decide +kernel
theorem dX4_refine_84 : decode cX4_refine 84 = .ok (.i2l, 1) := by decide +kernel
theorem dX4_refine_85 : decode cX4_refine 85 = .ok (.lmul, 1) := by decide +kernel
theorem dX4_refine_86 : decode cX4_refine 86 = .ok (.ldc2_w 61, 3) := by decide +kernel
theorem dX4_refine_89 : decode cX4_refine 89 = .ok (.lload 5, 2) := by decide +kernel
theorem dX4_refine_91 : decode cX4_refine 91 = .ok (.lmul, 1) := by decide +kernel
theorem dX4_refine_92 : decode cX4_refine 92 = .ok (.aload_n 0, 1) := by decide +kernel
theorem dX4_refine_93 : decode cX4_refine 93 = .ok (.getfield 16, 3) := by decide +kernel
theorem dX4_refine_96 : decode cX4_refine 96 = .ok (.iload 4, 2) := by decide +kernel
theorem dX4_refine_98 : decode cX4_refine 98 = .ok (.iaload, 1) := by decide +kernel
theorem dX4_refine_99 : decode cX4_refine 99 = .ok (.i2l, 1) := by decide +kernel
theorem dX4_refine_100 : decode cX4_refine 100 = .ok (.lmul, 1) := by decide +kernel
theorem dX4_refine_101 : decode cX4_refine 101 = .ok (.ladd, 1) := by decide +kernel
theorem dX4_refine_102 : decode cX4_refine 102 = .ok (.lload 5, 2) := by decide +kernel
theorem dX4_refine_104 : decode cX4_refine 104 = .ok (.aload_n 0, 1) := by decide +kernel
theorem dX4_refine_105 : decode cX4_refine 105 = .ok (.getfield 19, 3) := by decide +kernel
theorem dX4_refine_108 : decode cX4_refine 108 = .ok (.iload 4, 2) := by decide +kernel
theorem dX4_refine_110 : decode cX4_refine 110 = .ok (.iaload, 1) := by decide +kernel
theorem dX4_refine_111 : decode cX4_refine 111 = .ok (.i2l, 1) := by decide +kernel
theorem dX4_refine_112 : decode cX4_refine 112 = .ok (.lmul, 1) := by decide +kernel
theorem dX4_refine_113 : decode cX4_refine 113 = .ok (.ladd, 1) := by decide +kernel
theorem dX4_refine_114 : decode cX4_refine 114 = .ok (.lastore, 1) := by decide +kernel
theorem dX4_refine_115 : decode cX4_refine 115 = .ok (.aload_n 0, 1) := by decide +kernel
theorem dX4_refine_116 : decode cX4_refine 116 = .ok (.getfield 29, 3) := by decide +kernel
theorem dX4_refine_119 : decode cX4_refine 119 = .ok (.iload_n 3, 1) := by decide +kernel
theorem dX4_refine_120 : decode cX4_refine 120 = .ok (.ldc2_w 61, 3) := by decide +kernel
theorem dX4_refine_123 : decode cX4_refine 123 = .ok (.aload_n 0, 1) := by decide +kernel
theorem dX4_refine_124 : decode cX4_refine 124 = .ok (.getfield 16, 3) := by decide +kernel
theorem dX4_refine_127 : decode cX4_refine 127 = .ok (.iload 4, 2) := by decide +kernel
theorem dX4_refine_129 : decode cX4_refine 129 = .ok (.iaload, 1) := by decide +kernel
theorem dX4_refine_130 : decode cX4_refine 130 = .ok (.i2l, 1) := by decide +kernel
theorem dX4_refine_131 : decode cX4_refine 131 = .ok (.lmul, 1) := by decide +kernel
theorem dX4_refine_132 : decode cX4_refine 132 = .ok (.ldc2_w 61, 3) := by decide +kernel
theorem dX4_refine_135 : decode cX4_refine 135 = .ok (.lload 5, 2) := by decide +kernel
theorem dX4_refine_137 : decode cX4_refine 137 = .ok (.lmul, 1) := by decide +kernel
theorem dX4_refine_138 : decode cX4_refine 138 = .ok (.aload_n 0, 1) := by decide +kernel
theorem dX4_refine_139 : decode cX4_refine 139 = .ok (.getfield 19, 3) := by decide +kernel
theorem dX4_refine_142 : decode cX4_refine 142 = .ok (.iload 4, 2) := by decide +kernel
theorem dX4_refine_144 : decode cX4_refine 144 = .ok (.iaload, 1) := by decide +kernel
theorem dX4_refine_145 : decode cX4_refine 145 = .ok (.i2l, 1) := by decide +kernel
theorem dX4_refine_146 : decode cX4_refine 146 = .ok (.lmul, 1) := by decide +kernel
theorem dX4_refine_147 : decode cX4_refine 147 = .ok (.ladd, 1) := by decide +kernel
theorem dX4_refine_148 : decode cX4_refine 148 = .ok (.lastore, 1) := by decide +kernel
theorem dX4_refine_149 : decode cX4_refine 149 = .ok (.aload_n 0, 1) := by decide +kernel
theorem dX4_refine_150 : decode cX4_refine 150 = .ok (.getfield 32, 3) := by decide +kernel
theorem dX4_refine_153 : decode cX4_refine 153 = .ok (.iload_n 3, 1) := by decide +kernel
theorem dX4_refine_154 : decode cX4_refine 154 = .ok (.aload_n 0, 1) := by decide +kernel
theorem dX4_refine_155 : decode cX4_refine 155 = .ok (.getfield 19, 3) := by decide +kernel
theorem dX4_refine_158 : decode cX4_refine 158 = .ok (.iload 4, 2) := by decide +kernel
theorem dX4_refine_160 : decode cX4_refine 160 = .ok (.iaload, 1) := by decide +kernel
theorem dX4_refine_161 : decode cX4_refine 161 = .ok (.i2l, 1) := by decide +kernel
theorem dX4_refine_162 : decode cX4_refine 162 = .ok (.lastore, 1) := by decide +kernel
theorem dX4_refine_163 : decode cX4_refine 163 = .ok (.iinc 3 1, 3) := by decide +kernel
theorem dX4_refine_166 : decode cX4_refine 166 = .ok (.goto (-121), 3) := by decide +kernel
theorem dX4_refine_169 : decode cX4_refine 169 = .ok (.aload_n 0, 1) := by decide +kernel
theorem dX4_refine_170 : decode cX4_refine 170 = .ok (.iload_n 1, 1) := by decide +kernel
theorem dX4_refine_171 : decode cX4_refine 171 = .ok (.invokevirtual 135, 3) := by decide +kernel
theorem dX4_refine_174 : decode cX4_refine 174 = .ok (.ireturn, 1) := by decide +kernel
theorem dX4_slope_0 : decode cX4_slope 0 = .ok (.iload_n 1, 1) := by decide +kernel
theorem dX4_slope_1 : decode cX4_slope 1 = .ok (.invokestatic 51, 3) := by decide +kernel
theorem dX4_slope_4 : decode cX4_slope 4 = .ok (.ifCond .eq 10, 3) := by decide +kernel
theorem dX4_slope_7 : decode cX4_slope 7 = .ok (.iload_n 2, 1) := by decide +kernel
theorem dX4_slope_8 : decode cX4_slope 8 = .ok (.invokestatic 51, 3) := by decide +kernel
theorem dX4_slope_11 : decode cX4_slope 11 = .ok (.ifCond .ne 6, 3) := by decide +kernel
theorem dX4_slope_14 : decode cX4_slope 14 = .ok (.bipush (-2), 2) := by decide +kernel
theorem dX4_slope_16 : decode cX4_slope 16 = .ok (.ireturn, 1) := by decide +kernel
theorem dX4_slope_17 : decode cX4_slope 17 = .ok (.aload_n 0, 1) := by decide +kernel
theorem dX4_slope_18 : decode cX4_slope 18 = .ok (.aload_n 0, 1) := by decide +kernel
theorem dX4_slope_19 : decode cX4_slope 19 = .ok (.getfield 7, 3) := by decide +kernel
theorem dX4_slope_22 : decode cX4_slope 22 = .ok (.iload_n 2, 1) := by decide +kernel
theorem dX4_slope_23 : decode cX4_slope 23 = .ok (.iaload, 1) := by decide +kernel
theorem dX4_slope_24 : decode cX4_slope 24 = .ok (.putfield 64, 3) := by decide +kernel
theorem dX4_slope_27 : decode cX4_slope 27 = .ok (.iconst 0, 1) := by decide +kernel
theorem dX4_slope_28 : decode cX4_slope 28 = .ok (.istore_n 3, 1) := by decide +kernel
theorem dX4_slope_29 : decode cX4_slope 29 = .ok (.iload_n 3, 1) := by decide +kernel
theorem dX4_slope_30 : decode cX4_slope 30 = .ok (.aload_n 0, 1) := by decide +kernel
theorem dX4_slope_31 : decode cX4_slope 31 = .ok (.getfield 64, 3) := by decide +kernel
theorem dX4_slope_34 : decode cX4_slope 34 = .ok (.if_icmp .ge 56, 3) := by decide +kernel
theorem dX4_slope_37 : decode cX4_slope 37 = .ok (.aload_n 0, 1) := by decide +kernel
theorem dX4_slope_38 : decode cX4_slope 38 = .ok (.getfield 25, 3) := by decide +kernel
theorem dX4_slope_41 : decode cX4_slope 41 = .ok (.iload_n 3, 1) := by decide +kernel
theorem dX4_slope_42 : decode cX4_slope 42 = .ok (.aload_n 0, 1) := by decide +kernel
theorem dX4_slope_43 : decode cX4_slope 43 = .ok (.getfield 16, 3) := by decide +kernel
theorem dX4_slope_46 : decode cX4_slope 46 = .ok (.bipush 16, 2) := by decide +kernel
theorem dX4_slope_48 : decode cX4_slope 48 = .ok (.iload_n 2, 1) := by decide +kernel
theorem dX4_slope_49 : decode cX4_slope 49 = .ok (.imul, 1) := by decide +kernel
theorem dX4_slope_50 : decode cX4_slope 50 = .ok (.iload_n 3, 1) := by decide +kernel
theorem dX4_slope_51 : decode cX4_slope 51 = .ok (.iadd, 1) := by decide +kernel
theorem dX4_slope_52 : decode cX4_slope 52 = .ok (.iaload, 1) := by decide +kernel
theorem dX4_slope_53 : decode cX4_slope 53 = .ok (.i2l, 1) := by decide +kernel
theorem dX4_slope_54 : decode cX4_slope 54 = .ok (.lastore, 1) := by decide +kernel
theorem dX4_slope_55 : decode cX4_slope 55 = .ok (.aload_n 0, 1) := by decide +kernel
theorem dX4_slope_56 : decode cX4_slope 56 = .ok (.getfield 29, 3) := by decide +kernel
theorem dX4_slope_59 : decode cX4_slope 59 = .ok (.iload_n 3, 1) := by decide +kernel
theorem dX4_slope_60 : decode cX4_slope 60 = .ok (.ldc2_w 61, 3) := by decide +kernel
theorem dX4_slope_63 : decode cX4_slope 63 = .ok (.aload_n 0, 1) := by decide +kernel
theorem dX4_slope_64 : decode cX4_slope 64 = .ok (.getfield 19, 3) := by decide +kernel
theorem dX4_slope_67 : decode cX4_slope 67 = .ok (.bipush 16, 2) := by decide +kernel
theorem dX4_slope_69 : decode cX4_slope 69 = .ok (.iload_n 2, 1) := by decide +kernel
theorem dX4_slope_70 : decode cX4_slope 70 = .ok (.imul, 1) := by decide +kernel
theorem dX4_slope_71 : decode cX4_slope 71 = .ok (.iload_n 3, 1) := by decide +kernel
theorem dX4_slope_72 : decode cX4_slope 72 = .ok (.iadd, 1) := by decide +kernel
theorem dX4_slope_73 : decode cX4_slope 73 = .ok (.iaload, 1) := by decide +kernel
theorem dX4_slope_74 : decode cX4_slope 74 = .ok (.i2l, 1) := by decide +kernel
theorem dX4_slope_75 : decode cX4_slope 75 = .ok (.lmul, 1) := by decide +kernel
theorem dX4_slope_76 : decode cX4_slope 76 = .ok (.lastore, 1) := by decide +kernel
theorem dX4_slope_77 : decode cX4_slope 77 = .ok (.aload_n 0, 1) := by decide +kernel
theorem dX4_slope_78 : decode cX4_slope 78 = .ok (.getfield 32, 3) := by decide +kernel
theorem dX4_slope_81 : decode cX4_slope 81 = .ok (.iload_n 3, 1) := by decide +kernel
theorem dX4_slope_82 : decode cX4_slope 82 = .ok (.lconst 0, 1) := by decide +kernel
theorem dX4_slope_83 : decode cX4_slope 83 = .ok (.lastore, 1) := by decide +kernel
theorem dX4_slope_84 : decode cX4_slope 84 = .ok (.iinc 3 1, 3) := by decide +kernel
theorem dX4_slope_87 : decode cX4_slope 87 = .ok (.goto (-58), 3) := by decide +kernel
theorem dX4_slope_90 : decode cX4_slope 90 = .ok (.aload_n 0, 1) := by decide +kernel
theorem dX4_slope_91 : decode cX4_slope 91 = .ok (.iload_n 1, 1) := by decide +kernel
theorem dX4_slope_92 : decode cX4_slope 92 = .ok (.invokevirtual 135, 3) := by decide +kernel
theorem dX4_slope_95 : decode cX4_slope 95 = .ok (.ireturn, 1) := by decide +kernel
theorem dX4_push_0 : decode cX4_push 0 = .ok (.iload_n 1, 1) := by decide +kernel
theorem dX4_push_1 : decode cX4_push 1 = .ok (.invokestatic 51, 3) := by decide +kernel
theorem dX4_push_4 : decode cX4_push 4 = .ok (.ifCond .ne 6, 3) := by decide +kernel
theorem dX4_push_7 : decode cX4_push 7 = .ok (.bipush (-2), 2) := by decide +kernel
theorem dX4_push_9 : decode cX4_push 9 = .ok (.ireturn, 1) := by decide +kernel
theorem dX4_push_10 : decode cX4_push 10 = .ok (.iload_n 2, 1) := by decide +kernel
theorem dX4_push_11 : decode cX4_push 11 = .ok (.i2l, 1) := by decide +kernel
theorem dX4_push_12 : decode cX4_push 12 = .ok (.invokestatic 57, 3) := by decide +kernel
theorem dX4_push_15 : decode cX4_push 15 = .ok (.ifCond .ne 6, 3) := by decide +kernel
theorem dX4_push_18 : decode cX4_push 18 = .ok (.bipush (-3), 2) := by decide +kernel
theorem dX4_push_20 : decode cX4_push 20 = .ok (.ireturn, 1) := by decide +kernel
theorem dX4_push_21 : decode cX4_push 21 = .ok (.aload_n 0, 1) := by decide +kernel
theorem dX4_push_22 : decode cX4_push 22 = .ok (.iload_n 1, 1) := by decide +kernel
theorem dX4_push_23 : decode cX4_push 23 = .ok (.invokevirtual 80, 3) := by decide +kernel
theorem dX4_push_26 : decode cX4_push 26 = .ok (.iconst 0, 1) := by decide +kernel
theorem dX4_push_27 : decode cX4_push 27 = .ok (.istore_n 3, 1) := by decide +kernel
theorem dX4_push_28 : decode cX4_push 28 = .ok (.iload_n 3, 1) := by decide +kernel
theorem dX4_push_29 : decode cX4_push 29 = .ok (.aload_n 0, 1) := by decide +kernel
theorem dX4_push_30 : decode cX4_push 30 = .ok (.getfield 64, 3) := by decide +kernel
theorem dX4_push_33 : decode cX4_push 33 = .ok (.if_icmp .ge 20, 3) := by decide +kernel
theorem dX4_push_36 : decode cX4_push 36 = .ok (.aload_n 0, 1) := by decide +kernel
theorem dX4_push_37 : decode cX4_push 37 = .ok (.getfield 25, 3) := by decide +kernel
theorem dX4_push_40 : decode cX4_push 40 = .ok (.iload_n 3, 1) := by decide +kernel
theorem dX4_push_41 : decode cX4_push 41 = .ok (.dup2, 1) := by decide +kernel
theorem dX4_push_42 : decode cX4_push 42 = .ok (.laload, 1) := by decide +kernel
theorem dX4_push_43 : decode cX4_push 43 = .ok (.iload_n 2, 1) := by decide +kernel
theorem dX4_push_44 : decode cX4_push 44 = .ok (.i2l, 1) := by decide +kernel
theorem dX4_push_45 : decode cX4_push 45 = .ok (.ladd, 1) := by decide +kernel
theorem dX4_push_46 : decode cX4_push 46 = .ok (.lastore, 1) := by decide +kernel
theorem dX4_push_47 : decode cX4_push 47 = .ok (.iinc 3 1, 3) := by decide +kernel
theorem dX4_push_50 : decode cX4_push 50 = .ok (.goto (-22), 3) := by decide +kernel
theorem dX4_push_53 : decode cX4_push 53 = .ok (.aload_n 0, 1) := by decide +kernel
theorem dX4_push_54 : decode cX4_push 54 = .ok (.iload_n 1, 1) := by decide +kernel
theorem dX4_push_55 : decode cX4_push 55 = .ok (.invokevirtual 135, 3) := by decide +kernel
theorem dX4_push_58 : decode cX4_push 58 = .ok (.ireturn, 1) := by decide +kernel
theorem dX4_point_0 : decode cX4_point 0 = .ok (.iload_n 1, 1) := by decide +kernel
theorem dX4_point_1 : decode cX4_point 1 = .ok (.i2l, 1) := by decide +kernel
theorem dX4_point_2 : decode cX4_point 2 = .ok (.ldc2_w 138, 3) := by decide +kernel
theorem dX4_point_5 : decode cX4_point 5 = .ok (.ldc2_w 140, 3) := by decide +kernel
theorem dX4_point_8 : decode cX4_point 8 = .ok (.invokestatic 43, 3) := by decide +kernel
theorem dX4_point_11 : decode cX4_point 11 = .ok (.ifCond .ne 6, 3) := by decide +kernel
theorem dX4_point_14 : decode cX4_point 14 = .ok (.bipush (-3), 2) := by decide +kernel
theorem dX4_point_16 : decode cX4_point 16 = .ok (.ireturn, 1) := by decide +kernel
theorem dX4_point_17 : decode cX4_point 17 = .ok (.aload_n 0, 1) := by decide +kernel
theorem dX4_point_18 : decode cX4_point 18 = .ok (.getfield 142, 3) := by decide +kernel
theorem dX4_point_21 : decode cX4_point 21 = .ok (.bipush 17, 2) := by decide +kernel
theorem dX4_point_23 : decode cX4_point 23 = .ok (.if_icmp .ne 6, 3) := by decide +kernel
theorem dX4_point_26 : decode cX4_point 26 = .ok (.bipush (-6), 2) := by decide +kernel
theorem dX4_point_28 : decode cX4_point 28 = .ok (.ireturn, 1) := by decide +kernel
theorem dX4_point_29 : decode cX4_point 29 = .ok (.aload_n 0, 1) := by decide +kernel
theorem dX4_point_30 : decode cX4_point 30 = .ok (.getfield 22, 3) := by decide +kernel
theorem dX4_point_33 : decode cX4_point 33 = .ok (.aload_n 0, 1) := by decide +kernel
theorem dX4_point_34 : decode cX4_point 34 = .ok (.getfield 142, 3) := by decide +kernel
theorem dX4_point_37 : decode cX4_point 37 = .ok (.iload_n 1, 1) := by decide +kernel
theorem dX4_point_38 : decode cX4_point 38 = .ok (.iastore, 1) := by decide +kernel
theorem dX4_point_39 : decode cX4_point 39 = .ok (.aload_n 0, 1) := by decide +kernel
theorem dX4_point_40 : decode cX4_point 40 = .ok (.dup, 1) := by decide +kernel
theorem dX4_point_41 : decode cX4_point 41 = .ok (.getfield 142, 3) := by decide +kernel
theorem dX4_point_44 : decode cX4_point 44 = .ok (.iconst 1, 1) := by decide +kernel
theorem dX4_point_45 : decode cX4_point 45 = .ok (.iadd, 1) := by decide +kernel
theorem dX4_point_46 : decode cX4_point 46 = .ok (.putfield 142, 3) := by decide +kernel
theorem dX4_point_49 : decode cX4_point 49 = .ok (.aload_n 0, 1) := by decide +kernel
theorem dX4_point_50 : decode cX4_point 50 = .ok (.getfield 142, 3) := by decide +kernel
theorem dX4_point_53 : decode cX4_point 53 = .ok (.ireturn, 1) := by decide +kernel
theorem dX4_clear_0 : decode cX4_clear 0 = .ok (.aload_n 0, 1) := by decide +kernel
theorem dX4_clear_1 : decode cX4_clear 1 = .ok (.getfield 142, 3) := by decide +kernel
theorem dX4_clear_4 : decode cX4_clear 4 = .ok (.istore_n 1, 1) := by decide +kernel
theorem dX4_clear_5 : decode cX4_clear 5 = .ok (.aload_n 0, 1) := by decide +kernel
theorem dX4_clear_6 : decode cX4_clear 6 = .ok (.iconst 0, 1) := by decide +kernel
theorem dX4_clear_7 : decode cX4_clear 7 = .ok (.putfield 142, 3) := by decide +kernel
theorem dX4_clear_10 : decode cX4_clear 10 = .ok (.iload_n 1, 1) := by decide +kernel
theorem dX4_clear_11 : decode cX4_clear 11 = .ok (.ireturn, 1) := by decide +kernel
theorem dX4_makeSpline_0 : decode cX4_makeSpline 0 = .ok (.aload_n 0, 1) := by decide +kernel
theorem dX4_makeSpline_1 : decode cX4_makeSpline 1 = .ok (.aload_n 0, 1) := by decide +kernel
theorem dX4_makeSpline_2 : decode cX4_makeSpline 2 = .ok (.getfield 142, 3) := by decide +kernel
theorem dX4_makeSpline_5 : decode cX4_makeSpline 5 = .ok (.iconst 1, 1) := by decide +kernel
theorem dX4_makeSpline_6 : decode cX4_makeSpline 6 = .ok (.isub, 1) := by decide +kernel
theorem dX4_makeSpline_7 : decode cX4_makeSpline 7 = .ok (.putfield 64, 3) := by decide +kernel
theorem dX4_makeSpline_10 : decode cX4_makeSpline 10 = .ok (.aload_n 0, 1) := by decide +kernel
theorem dX4_makeSpline_11 : decode cX4_makeSpline 11 = .ok (.getfield 38, 3) := by decide +kernel
theorem dX4_makeSpline_14 : decode cX4_makeSpline 14 = .ok (.iconst 0, 1) := by decide +kernel
theorem dX4_makeSpline_15 : decode cX4_makeSpline 15 = .ok (.iload_n 1, 1) := by decide +kernel
theorem dX4_makeSpline_16 : decode cX4_makeSpline 16 = .ok (.iastore, 1) := by decide +kernel
theorem dX4_makeSpline_17 : decode cX4_makeSpline 17 = .ok (.iconst 0, 1) := by decide +kernel
theorem dX4_makeSpline_18 : decode cX4_makeSpline 18 = .ok (.istore_n 2, 1) := by decide +kernel
theorem dX4_makeSpline_19 : decode cX4_makeSpline 19 = .ok (.iload_n 2, 1) := by decide +kernel
theorem dX4_makeSpline_20 : decode cX4_makeSpline 20 = .ok (.aload_n 0, 1) := by decide +kernel
theorem dX4_makeSpline_21 : decode cX4_makeSpline 21 = .ok (.getfield 64, 3) := by decide +kernel
theorem dX4_makeSpline_24 : decode cX4_makeSpline 24 = .ok (.if_icmp .ge 84, 3) := by decide +kernel
theorem dX4_makeSpline_27 : decode cX4_makeSpline 27 = .ok (.aload_n 0, 1) := by decide +kernel
theorem dX4_makeSpline_28 : decode cX4_makeSpline 28 = .ok (.getfield 22, 3) := by decide +kernel
theorem dX4_makeSpline_31 : decode cX4_makeSpline 31 = .ok (.iload_n 2, 1) := by decide +kernel
theorem dX4_makeSpline_32 : decode cX4_makeSpline 32 = .ok (.iconst 1, 1) := by decide +kernel
theorem dX4_makeSpline_33 : decode cX4_makeSpline 33 = .ok (.iadd, 1) := by decide +kernel
theorem dX4_makeSpline_34 : decode cX4_makeSpline 34 = .ok (.iaload, 1) := by decide +kernel
theorem dX4_makeSpline_35 : decode cX4_makeSpline 35 = .ok (.aload_n 0, 1) := by decide +kernel
theorem dX4_makeSpline_36 : decode cX4_makeSpline 36 = .ok (.getfield 22, 3) := by decide +kernel
theorem dX4_makeSpline_39 : decode cX4_makeSpline 39 = .ok (.iload_n 2, 1) := by decide +kernel
theorem dX4_makeSpline_40 : decode cX4_makeSpline 40 = .ok (.iaload, 1) := by decide +kernel
theorem dX4_makeSpline_41 : decode cX4_makeSpline 41 = .ok (.isub, 1) := by decide +kernel
theorem dX4_makeSpline_42 : decode cX4_makeSpline 42 = .ok (.istore_n 3, 1) := by decide +kernel
theorem dX4_makeSpline_43 : decode cX4_makeSpline 43 = .ok (.aload_n 0, 1) := by decide +kernel
theorem dX4_makeSpline_44 : decode cX4_makeSpline 44 = .ok (.getfield 25, 3) := by decide +kernel
theorem dX4_makeSpline_47 : decode cX4_makeSpline 47 = .ok (.iload_n 2, 1) := by decide +kernel
theorem dX4_makeSpline_48 : decode cX4_makeSpline 48 = .ok (.aload_n 0, 1) := by decide +kernel
theorem dX4_makeSpline_49 : decode cX4_makeSpline 49 = .ok (.getfield 22, 3) := by decide +kernel
theorem dX4_makeSpline_52 : decode cX4_makeSpline 52 = .ok (.iload_n 2, 1) := by decide +kernel
theorem dX4_makeSpline_53 : decode cX4_makeSpline 53 = .ok (.iaload, 1) := by decide +kernel
theorem dX4_makeSpline_54 : decode cX4_makeSpline 54 = .ok (.i2l, 1) := by decide +kernel
theorem dX4_makeSpline_55 : decode cX4_makeSpline 55 = .ok (.lastore, 1) := by decide +kernel
theorem dX4_makeSpline_56 : decode cX4_makeSpline 56 = .ok (.aload_n 0, 1) := by decide +kernel
theorem dX4_makeSpline_57 : decode cX4_makeSpline 57 = .ok (.getfield 29, 3) := by decide +kernel
theorem dX4_makeSpline_60 : decode cX4_makeSpline 60 = .ok (.iload_n 2, 1) := by decide +kernel
theorem dX4_makeSpline_61 : decode cX4_makeSpline 61 = .ok (.aload_n 0, 1) := by decide +kernel
theorem dX4_makeSpline_62 : decode cX4_makeSpline 62 = .ok (.getfield 38, 3) := by decide +kernel
theorem dX4_makeSpline_65 : decode cX4_makeSpline 65 = .ok (.iload_n 2, 1) := by decide +kernel
theorem dX4_makeSpline_66 : decode cX4_makeSpline 66 = .ok (.iaload, 1) := by decide +kernel
theorem dX4_makeSpline_67 : decode cX4_makeSpline 67 = .ok (.i2l, 1) := by decide +kernel
theorem dX4_makeSpline_68 : decode cX4_makeSpline 68 = .ok (.lastore, 1) := by decide +kernel
theorem dX4_makeSpline_69 : decode cX4_makeSpline 69 = .ok (.aload_n 0, 1) := by decide +kernel
theorem dX4_makeSpline_70 : decode cX4_makeSpline 70 = .ok (.getfield 32, 3) := by decide +kernel
theorem dX4_makeSpline_73 : decode cX4_makeSpline 73 = .ok (.iload_n 2, 1) := by decide +kernel
theorem dX4_makeSpline_74 : decode cX4_makeSpline 74 = .ok (.iload_n 3, 1) := by decide +kernel
theorem dX4_makeSpline_75 : decode cX4_makeSpline 75 = .ok (.aload_n 0, 1) := by decide +kernel
theorem dX4_makeSpline_76 : decode cX4_makeSpline 76 = .ok (.getfield 38, 3) := by decide +kernel
theorem dX4_makeSpline_79 : decode cX4_makeSpline 79 = .ok (.iload_n 2, 1) := by decide +kernel
theorem dX4_makeSpline_80 : decode cX4_makeSpline 80 = .ok (.iaload, 1) := by decide +kernel
theorem dX4_makeSpline_81 : decode cX4_makeSpline 81 = .ok (.isub, 1) := by decide +kernel
theorem dX4_makeSpline_82 : decode cX4_makeSpline 82 = .ok (.i2l, 1) := by decide +kernel
theorem dX4_makeSpline_83 : decode cX4_makeSpline 83 = .ok (.lastore, 1) := by decide +kernel
theorem dX4_makeSpline_84 : decode cX4_makeSpline 84 = .ok (.aload_n 0, 1) := by decide +kernel
theorem dX4_makeSpline_85 : decode cX4_makeSpline 85 = .ok (.getfield 38, 3) := by decide +kernel
theorem dX4_makeSpline_88 : decode cX4_makeSpline 88 = .ok (.iload_n 2, 1) := by decide +kernel
theorem dX4_makeSpline_89 : decode cX4_makeSpline 89 = .ok (.iconst 1, 1) := by decide +kernel
theorem dX4_makeSpline_90 : decode cX4_makeSpline 90 = .ok (.iadd, 1) := by decide +kernel
theorem dX4_makeSpline_91 : decode cX4_makeSpline 91 = .ok (.iconst 2, 1) := by decide +kernel
theorem dX4_makeSpline_92 : decode cX4_makeSpline 92 = .ok (.iload_n 3, 1) := by decide +kernel
theorem dX4_makeSpline_93 : decode cX4_makeSpline 93 = .ok (.imul, 1) := by decide +kernel
theorem dX4_makeSpline_94 : decode cX4_makeSpline 94 = .ok (.aload_n 0, 1) := by decide +kernel
theorem dX4_makeSpline_95 : decode cX4_makeSpline 95 = .ok (.getfield 38, 3) := by decide +kernel
theorem dX4_makeSpline_98 : decode cX4_makeSpline 98 = .ok (.iload_n 2, 1) := by decide +kernel
theorem dX4_makeSpline_99 : decode cX4_makeSpline 99 = .ok (.iaload, 1) := by decide +kernel
theorem dX4_makeSpline_100 : decode cX4_makeSpline 100 = .ok (.isub, 1) := by decide +kernel
theorem dX4_makeSpline_101 : decode cX4_makeSpline 101 = .ok (.iastore, 1) := by decide +kernel
theorem dX4_makeSpline_102 : decode cX4_makeSpline 102 = .ok (.iinc 2 1, 3) := by decide +kernel
theorem dX4_makeSpline_105 : decode cX4_makeSpline 105 = .ok (.goto (-86), 3) := by decide +kernel
theorem dX4_makeSpline_108 : decode cX4_makeSpline 108 = .ok (.return_, 1) := by decide +kernel
theorem dX4_isSlope_0 : decode cX4_isSlope 0 = .ok (.aload_n 0, 1) := by decide +kernel
theorem dX4_isSlope_1 : decode cX4_isSlope 1 = .ok (.iload_n 2, 1) := by decide +kernel
theorem dX4_isSlope_2 : decode cX4_isSlope 2 = .ok (.invokevirtual 145, 3) := by decide +kernel
theorem dX4_isSlope_5 : decode cX4_isSlope 5 = .ok (.iload_n 1, 1) := by decide +kernel
theorem dX4_isSlope_6 : decode cX4_isSlope 6 = .ok (.ifCond .eq 11, 3) := by decide +kernel
theorem dX4_isSlope_9 : decode cX4_isSlope 9 = .ok (.aload_n 0, 1) := by decide +kernel
theorem dX4_isSlope_10 : decode cX4_isSlope 10 = .ok (.iload_n 1, 1) := by decide +kernel
theorem dX4_isSlope_11 : decode cX4_isSlope 11 = .ok (.invokevirtual 92, 3) := by decide +kernel
theorem dX4_isSlope_14 : decode cX4_isSlope 14 = .ok (.ifCond .eq 7, 3) := by decide +kernel
theorem dX4_isSlope_17 : decode cX4_isSlope 17 = .ok (.iconst 1, 1) := by decide +kernel
theorem dX4_isSlope_18 : decode cX4_isSlope 18 = .ok (.goto 4, 3) := by decide +kernel
theorem dX4_isSlope_21 : decode cX4_isSlope 21 = .ok (.iconst 0, 1) := by decide +kernel
theorem dX4_isSlope_22 : decode cX4_isSlope 22 = .ok (.ireturn, 1) := by decide +kernel
theorem dX4_slopes_0 : decode cX4_slopes 0 = .ok (.iload_n 1, 1) := by decide +kernel
theorem dX4_slopes_1 : decode cX4_slopes 1 = .ok (.i2l, 1) := by decide +kernel
theorem dX4_slopes_2 : decode cX4_slopes 2 = .ok (.lconst 0, 1) := by decide +kernel
theorem dX4_slopes_3 : decode cX4_slopes 3 = .ok (.ldc2_w 90, 3) := by decide +kernel
theorem dX4_slopes_6 : decode cX4_slopes 6 = .ok (.invokestatic 43, 3) := by decide +kernel
theorem dX4_slopes_9 : decode cX4_slopes 9 = .ok (.ifCond .eq 23, 3) := by decide +kernel
theorem dX4_slopes_12 : decode cX4_slopes 12 = .ok (.iload_n 2, 1) := by decide +kernel
theorem dX4_slopes_13 : decode cX4_slopes 13 = .ok (.i2l, 1) := by decide +kernel
theorem dX4_slopes_14 : decode cX4_slopes 14 = .ok (.lconst 0, 1) := by decide +kernel
theorem dX4_slopes_15 : decode cX4_slopes 15 = .ok (.ldc2_w 61, 3) := by decide +kernel
theorem dX4_slopes_18 : decode cX4_slopes 18 = .ok (.invokestatic 43, 3) := by decide +kernel
theorem dX4_slopes_21 : decode cX4_slopes 21 = .ok (.ifCond .eq 11, 3) := by decide +kernel
theorem dX4_slopes_24 : decode cX4_slopes 24 = .ok (.aload_n 0, 1) := by decide +kernel
theorem dX4_slopes_25 : decode cX4_slopes 25 = .ok (.getfield 142, 3) := by decide +kernel
theorem dX4_slopes_28 : decode cX4_slopes 28 = .ok (.iconst 2, 1) := by decide +kernel
theorem dX4_slopes_29 : decode cX4_slopes 29 = .ok (.if_icmp .ge 6, 3) := by decide +kernel
theorem dX4_slopes_32 : decode cX4_slopes 32 = .ok (.ldc 63, 2) := by decide +kernel
theorem dX4_slopes_34 : decode cX4_slopes 34 = .ok (.ireturn, 1) := by decide +kernel
theorem dX4_slopes_35 : decode cX4_slopes 35 = .ok (.sipush 2000, 3) := by decide +kernel
theorem dX4_slopes_38 : decode cX4_slopes 38 = .ok (.istore_n 3, 1) := by decide +kernel
theorem dX4_slopes_39 : decode cX4_slopes 39 = .ok (.sipush 2000, 3) := by decide +kernel
theorem dX4_slopes_42 : decode cX4_slopes 42 = .ok (.istore 4, 2) := by decide +kernel
theorem dX4_slopes_44 : decode cX4_slopes 44 = .ok (.iconst 0, 1) := by decide +kernel
theorem dX4_slopes_45 : decode cX4_slopes 45 = .ok (.istore 5, 2) := by decide +kernel
theorem dX4_slopes_47 : decode cX4_slopes 47 = .ok (.sipush (-1000), 3) := by decide +kernel
theorem dX4_slopes_50 : decode cX4_slopes 50 = .ok (.istore 6, 2) := by decide +kernel
theorem dX4_slopes_52 : decode cX4_slopes 52 = .ok (.iload 6, 2) := by decide +kernel
theorem dX4_slopes_54 : decode cX4_slopes 54 = .ok (.sipush 1000, 3) := by decide +kernel
theorem dX4_slopes_57 : decode cX4_slopes 57 = .ok (.if_icmp .gt 38, 3) := by decide +kernel
theorem dX4_slopes_60 : decode cX4_slopes 60 = .ok (.aload_n 0, 1) := by decide +kernel
theorem dX4_slopes_61 : decode cX4_slopes 61 = .ok (.iload_n 1, 1) := by decide +kernel
theorem dX4_slopes_62 : decode cX4_slopes 62 = .ok (.iload 6, 2) := by decide +kernel
theorem dX4_slopes_64 : decode cX4_slopes 64 = .ok (.invokevirtual 148, 3) := by decide +kernel
theorem dX4_slopes_67 : decode cX4_slopes 67 = .ok (.ifCond .eq 22, 3) := by decide +kernel
theorem dX4_slopes_70 : decode cX4_slopes 70 = .ok (.iload 5, 2) := by decide +kernel
theorem dX4_slopes_72 : decode cX4_slopes 72 = .ok (.ifCond .ne 8, 3) := by decide +kernel
theorem dX4_slopes_75 : decode cX4_slopes 75 = .ok (.iload 6, 2) := by decide +kernel
theorem dX4_slopes_77 : decode cX4_slopes 77 = .ok (.goto 4, 3) := by decide +kernel
theorem dX4_slopes_80 : decode cX4_slopes 80 = .ok (.iload_n 3, 1) := by decide +kernel
theorem dX4_slopes_81 : decode cX4_slopes 81 = .ok (.istore_n 3, 1) := by decide +kernel
theorem dX4_slopes_82 : decode cX4_slopes 82 = .ok (.iload 6, 2) := by decide +kernel
theorem dX4_slopes_84 : decode cX4_slopes 84 = .ok (.istore 4, 2) := by decide +kernel
theorem dX4_slopes_86 : decode cX4_slopes 86 = .ok (.iinc 5 1, 3) := by decide +kernel
theorem dX4_slopes_89 : decode cX4_slopes 89 = .ok (.iinc 6 1, 3) := by decide +kernel
theorem dX4_slopes_92 : decode cX4_slopes 92 = .ok (.goto (-40), 3) := by decide +kernel
theorem dX4_slopes_95 : decode cX4_slopes 95 = .ok (.iload_n 2, 1) := by decide +kernel
theorem dX4_slopes_96 : decode cX4_slopes 96 = .ok (.ifCond .ne 7, 3) := by decide +kernel
theorem dX4_slopes_99 : decode cX4_slopes 99 = .ok (.iload_n 3, 1) := by decide +kernel
theorem dX4_slopes_100 : decode cX4_slopes 100 = .ok (.goto 15, 3) := by decide +kernel
theorem dX4_slopes_103 : decode cX4_slopes 103 = .ok (.iload_n 2, 1) := by decide +kernel
theorem dX4_slopes_104 : decode cX4_slopes 104 = .ok (.iconst 1, 1) := by decide +kernel
theorem dX4_slopes_105 : decode cX4_slopes 105 = .ok (.if_icmp .ne 8, 3) := by decide +kernel
theorem dX4_slopes_108 : decode cX4_slopes 108 = .ok (.iload 4, 2) := by decide +kernel
theorem dX4_slopes_110 : decode cX4_slopes 110 = .ok (.goto 5, 3) := by decide +kernel
theorem dX4_slopes_113 : decode cX4_slopes 113 = .ok (.iload 5, 2) := by decide +kernel
theorem dX4_slopes_115 : decode cX4_slopes 115 = .ok (.ireturn, 1) := by decide +kernel
theorem dX4_bendOf_0 : decode cX4_bendOf 0 = .ok (.lconst 0, 1) := by decide +kernel
theorem dX4_bendOf_1 : decode cX4_bendOf 1 = .ok (.lstore_n 1, 1) := by decide +kernel
theorem dX4_bendOf_2 : decode cX4_bendOf 2 = .ok (.iconst 0, 1) := by decide +kernel
theorem dX4_bendOf_3 : decode cX4_bendOf 3 = .ok (.istore_n 3, 1) := by decide +kernel
theorem dX4_bendOf_4 : decode cX4_bendOf 4 = .ok (.iload_n 3, 1) := by decide +kernel
theorem dX4_bendOf_5 : decode cX4_bendOf 5 = .ok (.aload_n 0, 1) := by decide +kernel
theorem dX4_bendOf_6 : decode cX4_bendOf 6 = .ok (.getfield 64, 3) := by decide +kernel
theorem dX4_bendOf_9 : decode cX4_bendOf 9 = .ok (.if_icmp .ge 25, 3) := by decide +kernel
theorem dX4_bendOf_12 : decode cX4_bendOf 12 = .ok (.lload_n 1, 1) := by decide +kernel
theorem dX4_bendOf_13 : decode cX4_bendOf 13 = .ok (.aload_n 0, 1) := by decide +kernel
theorem dX4_bendOf_14 : decode cX4_bendOf 14 = .ok (.getfield 32, 3) := by decide +kernel
theorem dX4_bendOf_17 : decode cX4_bendOf 17 = .ok (.iload_n 3, 1) := by decide +kernel
theorem dX4_bendOf_18 : decode cX4_bendOf 18 = .ok (.laload, 1) := by decide +kernel
theorem dX4_bendOf_19 : decode cX4_bendOf 19 = .ok (.aload_n 0, 1) := by decide +kernel
theorem dX4_bendOf_20 : decode cX4_bendOf 20 = .ok (.getfield 32, 3) := by decide +kernel
theorem dX4_bendOf_23 : decode cX4_bendOf 23 = .ok (.iload_n 3, 1) := by decide +kernel
theorem dX4_bendOf_24 : decode cX4_bendOf 24 = .ok (.laload, 1) := by decide +kernel
theorem dX4_bendOf_25 : decode cX4_bendOf 25 = .ok (.lmul, 1) := by decide +kernel
theorem dX4_bendOf_26 : decode cX4_bendOf 26 = .ok (.ladd, 1) := by decide +kernel
theorem dX4_bendOf_27 : decode cX4_bendOf 27 = .ok (.lstore_n 1, 1) := by decide +kernel
theorem dX4_bendOf_28 : decode cX4_bendOf 28 = .ok (.iinc 3 1, 3) := by decide +kernel
theorem dX4_bendOf_31 : decode cX4_bendOf 31 = .ok (.goto (-27), 3) := by decide +kernel
theorem dX4_bendOf_34 : decode cX4_bendOf 34 = .ok (.lload_n 1, 1) := by decide +kernel
theorem dX4_bendOf_35 : decode cX4_bendOf 35 = .ok (.lreturn, 1) := by decide +kernel
theorem dX4_best_0 : decode cX4_best 0 = .ok (.iload_n 1, 1) := by decide +kernel
theorem dX4_best_1 : decode cX4_best 1 = .ok (.i2l, 1) := by decide +kernel
theorem dX4_best_2 : decode cX4_best 2 = .ok (.lconst 0, 1) := by decide +kernel
theorem dX4_best_3 : decode cX4_best 3 = .ok (.ldc2_w 90, 3) := by decide +kernel
theorem dX4_best_6 : decode cX4_best 6 = .ok (.invokestatic 43, 3) := by decide +kernel
theorem dX4_best_9 : decode cX4_best 9 = .ok (.ifCond .eq 11, 3) := by decide +kernel
theorem dX4_best_12 : decode cX4_best 12 = .ok (.aload_n 0, 1) := by decide +kernel
theorem dX4_best_13 : decode cX4_best 13 = .ok (.getfield 142, 3) := by decide +kernel
theorem dX4_best_16 : decode cX4_best 16 = .ok (.iconst 2, 1) := by decide +kernel
theorem dX4_best_17 : decode cX4_best 17 = .ok (.if_icmp .ge 6, 3) := by decide +kernel
theorem dX4_best_20 : decode cX4_best 20 = .ok (.ldc 63, 2) := by decide +kernel
theorem dX4_best_22 : decode cX4_best 22 = .ok (.ireturn, 1) := by decide +kernel
theorem dX4_best_23 : decode cX4_best 23 = .ok (.sipush 2000, 3) := by decide +kernel
theorem dX4_best_26 : decode cX4_best 26 = .ok (.istore_n 2, 1) := by decide +kernel
theorem dX4_best_27 : decode cX4_best 27 = .ok (.lconst 0, 1) := by decide +kernel
theorem dX4_best_28 : decode cX4_best 28 = .ok (.lstore_n 3, 1) := by decide +kernel
theorem dX4_best_29 : decode cX4_best 29 = .ok (.sipush (-1000), 3) := by decide +kernel
theorem dX4_best_32 : decode cX4_best 32 = .ok (.istore 5, 2) := by decide +kernel
theorem dX4_best_34 : decode cX4_best 34 = .ok (.iload 5, 2) := by decide +kernel
theorem dX4_best_36 : decode cX4_best 36 = .ok (.sipush 1000, 3) := by decide +kernel
theorem dX4_best_39 : decode cX4_best 39 = .ok (.if_icmp .gt 43, 3) := by decide +kernel
theorem dX4_best_42 : decode cX4_best 42 = .ok (.aload_n 0, 1) := by decide +kernel
theorem dX4_best_43 : decode cX4_best 43 = .ok (.iload_n 1, 1) := by decide +kernel
theorem dX4_best_44 : decode cX4_best 44 = .ok (.iload 5, 2) := by decide +kernel
theorem dX4_best_46 : decode cX4_best 46 = .ok (.invokevirtual 148, 3) := by decide +kernel
theorem dX4_best_49 : decode cX4_best 49 = .ok (.ifCond .eq 27, 3) := by decide +kernel
theorem dX4_best_52 : decode cX4_best 52 = .ok (.iload_n 2, 1) := by decide +kernel
theorem dX4_best_53 : decode cX4_best 53 = .ok (.sipush 2000, 3) := by decide +kernel
theorem dX4_best_56 : decode cX4_best 56 = .ok (.if_icmp .eq 12, 3) := by decide +kernel
theorem dX4_best_59 : decode cX4_best 59 = .ok (.aload_n 0, 1) := by decide +kernel
theorem dX4_best_60 : decode cX4_best 60 = .ok (.invokevirtual 152, 3) := by decide +kernel
theorem dX4_best_63 : decode cX4_best 63 = .ok (.lload_n 3, 1) := by decide +kernel
theorem dX4_best_64 : decode cX4_best 64 = .ok (.lcmp, 1) := by decide +kernel
theorem dX4_best_65 : decode cX4_best 65 = .ok (.ifCond .ge 11, 3) := by decide +kernel
theorem dX4_best_68 : decode cX4_best 68 = .ok (.iload 5, 2) := by decide +kernel
theorem dX4_best_70 : decode cX4_best 70 = .ok (.istore_n 2, 1) := by decide +kernel
theorem dX4_best_71 : decode cX4_best 71 = .ok (.aload_n 0, 1) := by decide +kernel
theorem dX4_best_72 : decode cX4_best 72 = .ok (.invokevirtual 152, 3) := by decide +kernel
theorem dX4_best_75 : decode cX4_best 75 = .ok (.lstore_n 3, 1) := by decide +kernel
theorem dX4_best_76 : decode cX4_best 76 = .ok (.iinc 5 1, 3) := by decide +kernel
theorem dX4_best_79 : decode cX4_best 79 = .ok (.goto (-45), 3) := by decide +kernel
theorem dX4_best_82 : decode cX4_best 82 = .ok (.iload_n 2, 1) := by decide +kernel
theorem dX4_best_83 : decode cX4_best 83 = .ok (.ireturn, 1) := by decide +kernel
theorem dX4_bend_0 : decode cX4_bend 0 = .ok (.iload_n 1, 1) := by decide +kernel
theorem dX4_bend_1 : decode cX4_bend 1 = .ok (.i2l, 1) := by decide +kernel
theorem dX4_bend_2 : decode cX4_bend 2 = .ok (.ldc2_w 138, 3) := by decide +kernel
theorem dX4_bend_5 : decode cX4_bend 5 = .ok (.ldc2_w 140, 3) := by decide +kernel
theorem dX4_bend_8 : decode cX4_bend 8 = .ok (.invokestatic 43, 3) := by decide +kernel
theorem dX4_bend_11 : decode cX4_bend 11 = .ok (.ifCond .ne 7, 3) := by decide +kernel
theorem dX4_bend_14 : decode cX4_bend 14 = .ok (.ldc2_w 156, 3) := by decide +kernel
theorem dX4_bend_17 : decode cX4_bend 17 = .ok (.lreturn, 1) := by decide +kernel
theorem dX4_bend_18 : decode cX4_bend 18 = .ok (.aload_n 0, 1) := by decide +kernel
theorem dX4_bend_19 : decode cX4_bend 19 = .ok (.getfield 142, 3) := by decide +kernel
theorem dX4_bend_22 : decode cX4_bend 22 = .ok (.iconst 2, 1) := by decide +kernel
theorem dX4_bend_23 : decode cX4_bend 23 = .ok (.if_icmp .ge 7, 3) := by decide +kernel
theorem dX4_bend_26 : decode cX4_bend 26 = .ok (.ldc2_w 97, 3) := by decide +kernel
theorem dX4_bend_29 : decode cX4_bend 29 = .ok (.lreturn, 1) := by decide +kernel
theorem dX4_bend_30 : decode cX4_bend 30 = .ok (.aload_n 0, 1) := by decide +kernel
theorem dX4_bend_31 : decode cX4_bend 31 = .ok (.iload_n 1, 1) := by decide +kernel
theorem dX4_bend_32 : decode cX4_bend 32 = .ok (.invokevirtual 145, 3) := by decide +kernel
theorem dX4_bend_35 : decode cX4_bend 35 = .ok (.aload_n 0, 1) := by decide +kernel
theorem dX4_bend_36 : decode cX4_bend 36 = .ok (.invokevirtual 152, 3) := by decide +kernel
theorem dX4_bend_39 : decode cX4_bend 39 = .ok (.lreturn, 1) := by decide +kernel
theorem dX4_spline_0 : decode cX4_spline 0 = .ok (.iload_n 1, 1) := by decide +kernel
theorem dX4_spline_1 : decode cX4_spline 1 = .ok (.invokestatic 51, 3) := by decide +kernel
theorem dX4_spline_4 : decode cX4_spline 4 = .ok (.ifCond .ne 6, 3) := by decide +kernel
theorem dX4_spline_7 : decode cX4_spline 7 = .ok (.bipush (-2), 2) := by decide +kernel
theorem dX4_spline_9 : decode cX4_spline 9 = .ok (.ireturn, 1) := by decide +kernel
theorem dX4_spline_10 : decode cX4_spline 10 = .ok (.iload_n 2, 1) := by decide +kernel
theorem dX4_spline_11 : decode cX4_spline 11 = .ok (.i2l, 1) := by decide +kernel
theorem dX4_spline_12 : decode cX4_spline 12 = .ok (.ldc2_w 138, 3) := by decide +kernel
theorem dX4_spline_15 : decode cX4_spline 15 = .ok (.ldc2_w 140, 3) := by decide +kernel
theorem dX4_spline_18 : decode cX4_spline 18 = .ok (.invokestatic 43, 3) := by decide +kernel
theorem dX4_spline_21 : decode cX4_spline 21 = .ok (.ifCond .ne 6, 3) := by decide +kernel
theorem dX4_spline_24 : decode cX4_spline 24 = .ok (.bipush (-3), 2) := by decide +kernel
theorem dX4_spline_26 : decode cX4_spline 26 = .ok (.ireturn, 1) := by decide +kernel
theorem dX4_spline_27 : decode cX4_spline 27 = .ok (.aload_n 0, 1) := by decide +kernel
theorem dX4_spline_28 : decode cX4_spline 28 = .ok (.getfield 142, 3) := by decide +kernel
theorem dX4_spline_31 : decode cX4_spline 31 = .ok (.iconst 2, 1) := by decide +kernel
theorem dX4_spline_32 : decode cX4_spline 32 = .ok (.if_icmp .ge 6, 3) := by decide +kernel
theorem dX4_spline_35 : decode cX4_spline 35 = .ok (.bipush (-4), 2) := by decide +kernel
theorem dX4_spline_37 : decode cX4_spline 37 = .ok (.ireturn, 1) := by decide +kernel
theorem dX4_spline_38 : decode cX4_spline 38 = .ok (.aload_n 0, 1) := by decide +kernel
theorem dX4_spline_39 : decode cX4_spline 39 = .ok (.iload_n 2, 1) := by decide +kernel
theorem dX4_spline_40 : decode cX4_spline 40 = .ok (.invokevirtual 145, 3) := by decide +kernel
theorem dX4_spline_43 : decode cX4_spline 43 = .ok (.aload_n 0, 1) := by decide +kernel
theorem dX4_spline_44 : decode cX4_spline 44 = .ok (.iload_n 1, 1) := by decide +kernel
theorem dX4_spline_45 : decode cX4_spline 45 = .ok (.invokevirtual 135, 3) := by decide +kernel
theorem dX4_spline_48 : decode cX4_spline 48 = .ok (.ireturn, 1) := by decide +kernel
theorem dX4_count_0 : decode cX4_count 0 = .ok (.iload_n 1, 1) := by decide +kernel
theorem dX4_count_1 : decode cX4_count 1 = .ok (.invokestatic 51, 3) := by decide +kernel
theorem dX4_count_4 : decode cX4_count 4 = .ok (.ifCond .ne 6, 3) := by decide +kernel
theorem dX4_count_7 : decode cX4_count 7 = .ok (.bipush (-2), 2) := by decide +kernel
theorem dX4_count_9 : decode cX4_count 9 = .ok (.ireturn, 1) := by decide +kernel
theorem dX4_count_10 : decode cX4_count 10 = .ok (.iload_n 2, 1) := by decide +kernel
theorem dX4_count_11 : decode cX4_count 11 = .ok (.i2l, 1) := by decide +kernel
theorem dX4_count_12 : decode cX4_count 12 = .ok (.lconst 0, 1) := by decide +kernel
theorem dX4_count_13 : decode cX4_count 13 = .ok (.ldc2_w 61, 3) := by decide +kernel
theorem dX4_count_16 : decode cX4_count 16 = .ok (.invokestatic 43, 3) := by decide +kernel
theorem dX4_count_19 : decode cX4_count 19 = .ok (.ifCond .ne 6, 3) := by decide +kernel
theorem dX4_count_22 : decode cX4_count 22 = .ok (.bipush (-3), 2) := by decide +kernel
theorem dX4_count_24 : decode cX4_count 24 = .ok (.ireturn, 1) := by decide +kernel
theorem dX4_count_25 : decode cX4_count 25 = .ok (.aload_n 0, 1) := by decide +kernel
theorem dX4_count_26 : decode cX4_count 26 = .ok (.iload_n 1, 1) := by decide +kernel
theorem dX4_count_27 : decode cX4_count 27 = .ok (.invokevirtual 80, 3) := by decide +kernel
theorem dX4_count_30 : decode cX4_count 30 = .ok (.iconst 0, 1) := by decide +kernel
theorem dX4_count_31 : decode cX4_count 31 = .ok (.istore_n 3, 1) := by decide +kernel
theorem dX4_count_32 : decode cX4_count 32 = .ok (.iconst 1, 1) := by decide +kernel
theorem dX4_count_33 : decode cX4_count 33 = .ok (.istore 4, 2) := by decide +kernel
theorem dX4_count_35 : decode cX4_count 35 = .ok (.iload 4, 2) := by decide +kernel
theorem dX4_count_37 : decode cX4_count 37 = .ok (.aload_n 0, 1) := by decide +kernel
theorem dX4_count_38 : decode cX4_count 38 = .ok (.getfield 64, 3) := by decide +kernel
theorem dX4_count_41 : decode cX4_count 41 = .ok (.if_icmp .ge 36, 3) := by decide +kernel
theorem dX4_count_44 : decode cX4_count 44 = .ok (.iload_n 3, 1) := by decide +kernel
theorem dX4_count_45 : decode cX4_count 45 = .ok (.aload_n 0, 1) := by decide +kernel
theorem dX4_count_46 : decode cX4_count 46 = .ok (.iload 4, 2) := by decide +kernel
theorem dX4_count_48 : decode cX4_count 48 = .ok (.invokevirtual 84, 3) := by decide +kernel
theorem dX4_count_51 : decode cX4_count 51 = .ok (.iload_n 2, 1) := by decide +kernel
theorem dX4_count_52 : decode cX4_count 52 = .ok (.iconst 1, 1) := by decide +kernel
theorem dX4_count_53 : decode cX4_count 53 = .ok (.if_icmp .ne 7, 3) := by decide +kernel
theorem dX4_count_56 : decode cX4_count 56 = .ok (.iconst (-1), 1) := by decide +kernel
theorem dX4_count_57 : decode cX4_count 57 = .ok (.goto 4, 3) := by decide +kernel
theorem dX4_count_60 : decode cX4_count 60 = .ok (.iconst 2, 1) := by decide +kernel
theorem dX4_count_61 : decode cX4_count 61 = .ok (.if_icmp .ne 7, 3) := by decide +kernel
theorem dX4_count_64 : decode cX4_count 64 = .ok (.iconst 1, 1) := by decide +kernel
theorem dX4_count_65 : decode cX4_count 65 = .ok (.goto 4, 3) := by decide +kernel
theorem dX4_count_68 : decode cX4_count 68 = .ok (.iconst 0, 1) := by decide +kernel
theorem dX4_count_69 : decode cX4_count 69 = .ok (.iadd, 1) := by decide +kernel
theorem dX4_count_70 : decode cX4_count 70 = .ok (.istore_n 3, 1) := by decide +kernel
theorem dX4_count_71 : decode cX4_count 71 = .ok (.iinc 4 1, 3) := by decide +kernel
theorem dX4_count_74 : decode cX4_count 74 = .ok (.goto (-39), 3) := by decide +kernel
theorem dX4_count_77 : decode cX4_count 77 = .ok (.iload_n 2, 1) := by decide +kernel
theorem dX4_count_78 : decode cX4_count 78 = .ok (.ifCond .ne 10, 3) := by decide +kernel
theorem dX4_count_81 : decode cX4_count 81 = .ok (.aload_n 0, 1) := by decide +kernel
theorem dX4_count_82 : decode cX4_count 82 = .ok (.getfield 64, 3) := by decide +kernel
theorem dX4_count_85 : decode cX4_count 85 = .ok (.goto 4, 3) := by decide +kernel
theorem dX4_count_88 : decode cX4_count 88 = .ok (.iload_n 3, 1) := by decide +kernel
theorem dX4_count_89 : decode cX4_count 89 = .ok (.ireturn, 1) := by decide +kernel
end
section
theorem dL_law_0 : decode cL_law 0 = .ok (.new 7, 3) := by decide +kernel
theorem dL_law_3 : decode cL_law 3 = .ok (.dup, 1) := by decide +kernel
theorem dL_law_4 : decode cL_law 4 = .ok (.invokespecial 9, 3) := by decide +kernel
theorem dL_law_7 : decode cL_law 7 = .ok (.astore_n 1, 1) := by decide +kernel
theorem dL_law_8 : decode cL_law 8 = .ok (.new 10, 3) := by decide +kernel
theorem dL_law_11 : decode cL_law 11 = .ok (.dup, 1) := by decide +kernel
theorem dL_law_12 : decode cL_law 12 = .ok (.invokespecial 12, 3) := by decide +kernel
theorem dL_law_15 : decode cL_law 15 = .ok (.astore_n 2, 1) := by decide +kernel
theorem dL_law_16 : decode cL_law 16 = .ok (.iconst 0, 1) := by decide +kernel
theorem dL_law_17 : decode cL_law 17 = .ok (.istore_n 3, 1) := by decide +kernel
theorem dL_law_18 : decode cL_law 18 = .ok (.iload_n 3, 1) := by decide +kernel
theorem dL_law_19 : decode cL_law 19 = .ok (.aload_n 0, 1) := by decide +kernel
theorem dL_law_20 : decode cL_law 20 = .ok (.arraylength, 1) := by decide +kernel
theorem dL_law_21 : decode cL_law 21 = .ok (.bipush 6, 2) := by decide +kernel
theorem dL_law_23 : decode cL_law 23 = .ok (.isub, 1) := by decide +kernel
theorem dL_law_24 : decode cL_law 24 = .ok (.if_icmp .gt 934, 3) := by decide +kernel
theorem dL_law_27 : decode cL_law 27 = .ok (.aload_n 0, 1) := by decide +kernel
theorem dL_law_28 : decode cL_law 28 = .ok (.iload_n 3, 1) := by decide +kernel
theorem dL_law_29 : decode cL_law 29 = .ok (.iaload, 1) := by decide +kernel
theorem dL_law_30 : decode cL_law 30 = .ok (.bipush 31, 2) := by decide +kernel
theorem dL_law_32 : decode cL_law 32 = .ok (.iand, 1) := by decide +kernel
theorem dL_law_33 : decode cL_law 33 = .ok (.tableswitch 919 0 22 #[107, 140, 203, 246, 300, 333, 366, 399, 422, 455, 509, 542, 575, 638, 671, 704, 737, 760, 773, 806, 829, 853, 886], 107) := by decide +kernel
theorem dL_law_140 : decode cL_law 140 = .ok (.aload_n 1, 1) := by decide +kernel
theorem dL_law_141 : decode cL_law 141 = .ok (.aload_n 0, 1) := by decide +kernel
theorem dL_law_142 : decode cL_law 142 = .ok (.iload_n 3, 1) := by decide +kernel
theorem dL_law_143 : decode cL_law 143 = .ok (.iconst 1, 1) := by decide +kernel
theorem dL_law_144 : decode cL_law 144 = .ok (.iadd, 1) := by decide +kernel
theorem dL_law_145 : decode cL_law 145 = .ok (.iaload, 1) := by decide +kernel
theorem dL_law_146 : decode cL_law 146 = .ok (.aload_n 0, 1) := by decide +kernel
theorem dL_law_147 : decode cL_law 147 = .ok (.iload_n 3, 1) := by decide +kernel
theorem dL_law_148 : decode cL_law 148 = .ok (.iconst 2, 1) := by decide +kernel
theorem dL_law_149 : decode cL_law 149 = .ok (.iadd, 1) := by decide +kernel
theorem dL_law_150 : decode cL_law 150 = .ok (.iaload, 1) := by decide +kernel
theorem dL_law_151 : decode cL_law 151 = .ok (.invokevirtual 13, 3) := by decide +kernel
theorem dL_law_154 : decode cL_law 154 = .ok (.aload_n 2, 1) := by decide +kernel
theorem dL_law_155 : decode cL_law 155 = .ok (.aload_n 0, 1) := by decide +kernel
theorem dL_law_156 : decode cL_law 156 = .ok (.iload_n 3, 1) := by decide +kernel
theorem dL_law_157 : decode cL_law 157 = .ok (.iconst 1, 1) := by decide +kernel
theorem dL_law_158 : decode cL_law 158 = .ok (.iadd, 1) := by decide +kernel
theorem dL_law_159 : decode cL_law 159 = .ok (.iaload, 1) := by decide +kernel
theorem dL_law_160 : decode cL_law 160 = .ok (.aload_n 0, 1) := by decide +kernel
theorem dL_law_161 : decode cL_law 161 = .ok (.iload_n 3, 1) := by decide +kernel
theorem dL_law_162 : decode cL_law 162 = .ok (.iconst 2, 1) := by decide +kernel
theorem dL_law_163 : decode cL_law 163 = .ok (.iadd, 1) := by decide +kernel
theorem dL_law_164 : decode cL_law 164 = .ok (.iaload, 1) := by decide +kernel
theorem dL_law_165 : decode cL_law 165 = .ok (.invokevirtual 17, 3) := by decide +kernel
theorem dL_law_168 : decode cL_law 168 = .ok (.if_icmp .eq 784, 3) := by decide +kernel
theorem dL_law_171 : decode cL_law 171 = .ok (.iconst 0, 1) := by decide +kernel
theorem dL_law_172 : decode cL_law 172 = .ok (.ireturn, 1) := by decide +kernel
theorem dL_law_173 : decode cL_law 173 = .ok (.aload_n 1, 1) := by decide +kernel
theorem dL_law_174 : decode cL_law 174 = .ok (.aload_n 0, 1) := by decide +kernel
theorem dL_law_175 : decode cL_law 175 = .ok (.iload_n 3, 1) := by decide +kernel
theorem dL_law_176 : decode cL_law 176 = .ok (.iconst 1, 1) := by decide +kernel
theorem dL_law_177 : decode cL_law 177 = .ok (.iadd, 1) := by decide +kernel
theorem dL_law_178 : decode cL_law 178 = .ok (.iaload, 1) := by decide +kernel
theorem dL_law_179 : decode cL_law 179 = .ok (.aload_n 0, 1) := by decide +kernel
theorem dL_law_180 : decode cL_law 180 = .ok (.iload_n 3, 1) := by decide +kernel
theorem dL_law_181 : decode cL_law 181 = .ok (.iconst 2, 1) := by decide +kernel
theorem dL_law_182 : decode cL_law 182 = .ok (.iadd, 1) := by decide +kernel
theorem dL_law_183 : decode cL_law 183 = .ok (.iaload, 1) := by decide +kernel
theorem dL_law_184 : decode cL_law 184 = .ok (.aload_n 0, 1) := by decide +kernel
theorem dL_law_185 : decode cL_law 185 = .ok (.iload_n 3, 1) := by decide +kernel
theorem dL_law_186 : decode cL_law 186 = .ok (.iconst 3, 1) := by decide +kernel
theorem dL_law_187 : decode cL_law 187 = .ok (.iadd, 1) := by decide +kernel
theorem dL_law_188 : decode cL_law 188 = .ok (.iaload, 1) := by decide +kernel
theorem dL_law_189 : decode cL_law 189 = .ok (.aload_n 0, 1) := by decide +kernel
theorem dL_law_190 : decode cL_law 190 = .ok (.iload_n 3, 1) := by decide +kernel
theorem dL_law_191 : decode cL_law 191 = .ok (.iconst 4, 1) := by decide +kernel
theorem dL_law_192 : decode cL_law 192 = .ok (.iadd, 1) := by decide +kernel
theorem dL_law_193 : decode cL_law 193 = .ok (.iaload, 1) := by decide +kernel
theorem dL_law_194 : decode cL_law 194 = .ok (.aload_n 0, 1) := by decide +kernel
theorem dL_law_195 : decode cL_law 195 = .ok (.iload_n 3, 1) := by decide +kernel
theorem dL_law_196 : decode cL_law 196 = .ok (.iconst 5, 1) := by decide +kernel
theorem dL_law_197 : decode cL_law 197 = .ok (.iadd, 1) := by decide +kernel
theorem dL_law_198 : decode cL_law 198 = .ok (.iaload, 1) := by decide +kernel
theorem dL_law_199 : decode cL_law 199 = .ok (.invokevirtual 18, 3) := by decide +kernel
theorem dL_law_202 : decode cL_law 202 = .ok (.aload_n 2, 1) := by decide +kernel
theorem dL_law_203 : decode cL_law 203 = .ok (.aload_n 0, 1) := by decide +kernel
theorem dL_law_204 : decode cL_law 204 = .ok (.iload_n 3, 1) := by decide +kernel
theorem dL_law_205 : decode cL_law 205 = .ok (.iconst 1, 1) := by decide +kernel
theorem dL_law_206 : decode cL_law 206 = .ok (.iadd, 1) := by decide +kernel
theorem dL_law_207 : decode cL_law 207 = .ok (.iaload, 1) := by decide +kernel
theorem dL_law_208 : decode cL_law 208 = .ok (.aload_n 0, 1) := by decide +kernel
theorem dL_law_209 : decode cL_law 209 = .ok (.iload_n 3, 1) := by decide +kernel
theorem dL_law_210 : decode cL_law 210 = .ok (.iconst 2, 1) := by decide +kernel
theorem dL_law_211 : decode cL_law 211 = .ok (.iadd, 1) := by decide +kernel
theorem dL_law_212 : decode cL_law 212 = .ok (.iaload, 1) := by decide +kernel
theorem dL_law_213 : decode cL_law 213 = .ok (.aload_n 0, 1) := by decide +kernel
theorem dL_law_214 : decode cL_law 214 = .ok (.iload_n 3, 1) := by decide +kernel
theorem dL_law_215 : decode cL_law 215 = .ok (.iconst 3, 1) := by decide +kernel
theorem dL_law_216 : decode cL_law 216 = .ok (.iadd, 1) := by decide +kernel
theorem dL_law_217 : decode cL_law 217 = .ok (.iaload, 1) := by decide +kernel
theorem dL_law_218 : decode cL_law 218 = .ok (.aload_n 0, 1) := by decide +kernel
theorem dL_law_219 : decode cL_law 219 = .ok (.iload_n 3, 1) := by decide +kernel
theorem dL_law_220 : decode cL_law 220 = .ok (.iconst 4, 1) := by decide +kernel
theorem dL_law_221 : decode cL_law 221 = .ok (.iadd, 1) := by decide +kernel
theorem dL_law_222 : decode cL_law 222 = .ok (.iaload, 1) := by decide +kernel
theorem dL_law_223 : decode cL_law 223 = .ok (.aload_n 0, 1) := by decide +kernel
theorem dL_law_224 : decode cL_law 224 = .ok (.iload_n 3, 1) := by decide +kernel
theorem dL_law_225 : decode cL_law 225 = .ok (.iconst 5, 1) := by decide +kernel
theorem dL_law_226 : decode cL_law 226 = .ok (.iadd, 1) := by decide +kernel
theorem dL_law_227 : decode cL_law 227 = .ok (.iaload, 1) := by decide +kernel
theorem dL_law_228 : decode cL_law 228 = .ok (.invokevirtual 22, 3) := by decide +kernel
theorem dL_law_231 : decode cL_law 231 = .ok (.if_icmp .eq 721, 3) := by decide +kernel
theorem dL_law_234 : decode cL_law 234 = .ok (.iconst 0, 1) := by decide +kernel
theorem dL_law_235 : decode cL_law 235 = .ok (.ireturn, 1) := by decide +kernel
theorem dL_law_236 : decode cL_law 236 = .ok (.aload_n 1, 1) := by decide +kernel
theorem dL_law_237 : decode cL_law 237 = .ok (.aload_n 0, 1) := by decide +kernel
theorem dL_law_238 : decode cL_law 238 = .ok (.iload_n 3, 1) := by decide +kernel
theorem dL_law_239 : decode cL_law 239 = .ok (.iconst 1, 1) := by decide +kernel
theorem dL_law_240 : decode cL_law 240 = .ok (.iadd, 1) := by decide +kernel
theorem dL_law_241 : decode cL_law 241 = .ok (.iaload, 1) := by decide +kernel
theorem dL_law_242 : decode cL_law 242 = .ok (.aload_n 0, 1) := by decide +kernel
theorem dL_law_243 : decode cL_law 243 = .ok (.iload_n 3, 1) := by decide +kernel
theorem dL_law_244 : decode cL_law 244 = .ok (.iconst 2, 1) := by decide +kernel
theorem dL_law_245 : decode cL_law 245 = .ok (.iadd, 1) := by decide +kernel
theorem dL_law_246 : decode cL_law 246 = .ok (.iaload, 1) := by decide +kernel
theorem dL_law_247 : decode cL_law 247 = .ok (.aload_n 0, 1) := by decide +kernel
theorem dL_law_248 : decode cL_law 248 = .ok (.iload_n 3, 1) := by decide +kernel
theorem dL_law_249 : decode cL_law 249 = .ok (.iconst 3, 1) := by decide +kernel
theorem dL_law_250 : decode cL_law 250 = .ok (.iadd, 1) := by decide +kernel
theorem dL_law_251 : decode cL_law 251 = .ok (.iaload, 1) := by decide +kernel
theorem dL_law_252 : decode cL_law 252 = .ok (.invokevirtual 23, 3) := by decide +kernel
theorem dL_law_255 : decode cL_law 255 = .ok (.aload_n 2, 1) := by decide +kernel
theorem dL_law_256 : decode cL_law 256 = .ok (.aload_n 0, 1) := by decide +kernel
theorem dL_law_257 : decode cL_law 257 = .ok (.iload_n 3, 1) := by decide +kernel
theorem dL_law_258 : decode cL_law 258 = .ok (.iconst 1, 1) := by decide +kernel
theorem dL_law_259 : decode cL_law 259 = .ok (.iadd, 1) := by decide +kernel
theorem dL_law_260 : decode cL_law 260 = .ok (.iaload, 1) := by decide +kernel
theorem dL_law_261 : decode cL_law 261 = .ok (.aload_n 0, 1) := by decide +kernel
theorem dL_law_262 : decode cL_law 262 = .ok (.iload_n 3, 1) := by decide +kernel
theorem dL_law_263 : decode cL_law 263 = .ok (.iconst 2, 1) := by decide +kernel
theorem dL_law_264 : decode cL_law 264 = .ok (.iadd, 1) := by decide +kernel
theorem dL_law_265 : decode cL_law 265 = .ok (.iaload, 1) := by decide +kernel
theorem dL_law_266 : decode cL_law 266 = .ok (.aload_n 0, 1) := by decide +kernel
theorem dL_law_267 : decode cL_law 267 = .ok (.iload_n 3, 1) := by decide +kernel
theorem dL_law_268 : decode cL_law 268 = .ok (.iconst 3, 1) := by decide +kernel
theorem dL_law_269 : decode cL_law 269 = .ok (.iadd, 1) := by decide +kernel
theorem dL_law_270 : decode cL_law 270 = .ok (.iaload, 1) := by decide +kernel
theorem dL_law_271 : decode cL_law 271 = .ok (.invokevirtual 27, 3) := by decide +kernel
theorem dL_law_274 : decode cL_law 274 = .ok (.if_icmp .eq 678, 3) := by decide +kernel
theorem dL_law_277 : decode cL_law 277 = .ok (.iconst 0, 1) := by decide +kernel
theorem dL_law_278 : decode cL_law 278 = .ok (.ireturn, 1) := by decide +kernel
theorem dL_law_279 : decode cL_law 279 = .ok (.aload_n 1, 1) := by decide +kernel
theorem dL_law_280 : decode cL_law 280 = .ok (.aload_n 0, 1) := by decide +kernel
theorem dL_law_281 : decode cL_law 281 = .ok (.iload_n 3, 1) := by decide +kernel
theorem dL_law_282 : decode cL_law 282 = .ok (.iconst 1, 1) := by decide +kernel
theorem dL_law_283 : decode cL_law 283 = .ok (.iadd, 1) := by decide +kernel
theorem dL_law_284 : decode cL_law 284 = .ok (.iaload, 1) := by decide +kernel
theorem dL_law_285 : decode cL_law 285 = .ok (.aload_n 0, 1) := by decide +kernel
theorem dL_law_286 : decode cL_law 286 = .ok (.iload_n 3, 1) := by decide +kernel
theorem dL_law_287 : decode cL_law 287 = .ok (.iconst 2, 1) := by decide +kernel
theorem dL_law_288 : decode cL_law 288 = .ok (.iadd, 1) := by decide +kernel
theorem dL_law_289 : decode cL_law 289 = .ok (.iaload, 1) := by decide +kernel
theorem dL_law_290 : decode cL_law 290 = .ok (.aload_n 0, 1) := by decide +kernel
theorem dL_law_291 : decode cL_law 291 = .ok (.iload_n 3, 1) := by decide +kernel
theorem dL_law_292 : decode cL_law 292 = .ok (.iconst 3, 1) := by decide +kernel
theorem dL_law_293 : decode cL_law 293 = .ok (.iadd, 1) := by decide +kernel
theorem dL_law_294 : decode cL_law 294 = .ok (.iaload, 1) := by decide +kernel
theorem dL_law_295 : decode cL_law 295 = .ok (.aload_n 0, 1) := by decide +kernel
theorem dL_law_296 : decode cL_law 296 = .ok (.iload_n 3, 1) := by decide +kernel
theorem dL_law_297 : decode cL_law 297 = .ok (.iconst 4, 1) := by decide +kernel
theorem dL_law_298 : decode cL_law 298 = .ok (.iadd, 1) := by decide +kernel
theorem dL_law_299 : decode cL_law 299 = .ok (.iaload, 1) := by decide +kernel
theorem dL_law_300 : decode cL_law 300 = .ok (.invokevirtual 28, 3) := by decide +kernel
theorem dL_law_303 : decode cL_law 303 = .ok (.aload_n 2, 1) := by decide +kernel
theorem dL_law_304 : decode cL_law 304 = .ok (.aload_n 0, 1) := by decide +kernel
theorem dL_law_305 : decode cL_law 305 = .ok (.iload_n 3, 1) := by decide +kernel
theorem dL_law_306 : decode cL_law 306 = .ok (.iconst 1, 1) := by decide +kernel
theorem dL_law_307 : decode cL_law 307 = .ok (.iadd, 1) := by decide +kernel
theorem dL_law_308 : decode cL_law 308 = .ok (.iaload, 1) := by decide +kernel
theorem dL_law_309 : decode cL_law 309 = .ok (.aload_n 0, 1) := by decide +kernel
theorem dL_law_310 : decode cL_law 310 = .ok (.iload_n 3, 1) := by decide +kernel
theorem dL_law_311 : decode cL_law 311 = .ok (.iconst 2, 1) := by decide +kernel
theorem dL_law_312 : decode cL_law 312 = .ok (.iadd, 1) := by decide +kernel
theorem dL_law_313 : decode cL_law 313 = .ok (.iaload, 1) := by decide +kernel
theorem dL_law_314 : decode cL_law 314 = .ok (.aload_n 0, 1) := by decide +kernel
theorem dL_law_315 : decode cL_law 315 = .ok (.iload_n 3, 1) := by decide +kernel
theorem dL_law_316 : decode cL_law 316 = .ok (.iconst 3, 1) := by decide +kernel
theorem dL_law_317 : decode cL_law 317 = .ok (.iadd, 1) := by decide +kernel
theorem dL_law_318 : decode cL_law 318 = .ok (.iaload, 1) := by decide +kernel
theorem dL_law_319 : decode cL_law 319 = .ok (.aload_n 0, 1) := by decide +kernel
theorem dL_law_320 : decode cL_law 320 = .ok (.iload_n 3, 1) := by decide +kernel
theorem dL_law_321 : decode cL_law 321 = .ok (.iconst 4, 1) := by decide +kernel
theorem dL_law_322 : decode cL_law 322 = .ok (.iadd, 1) := by decide +kernel
theorem dL_law_323 : decode cL_law 323 = .ok (.iaload, 1) := by decide +kernel
theorem dL_law_324 : decode cL_law 324 = .ok (.invokevirtual 32, 3) := by decide +kernel
theorem dL_law_327 : decode cL_law 327 = .ok (.lcmp, 1) := by decide +kernel
theorem dL_law_328 : decode cL_law 328 = .ok (.ifCond .eq 624, 3) := by decide +kernel
theorem dL_law_331 : decode cL_law 331 = .ok (.iconst 0, 1) := by decide +kernel
theorem dL_law_332 : decode cL_law 332 = .ok (.ireturn, 1) := by decide +kernel
theorem dL_law_333 : decode cL_law 333 = .ok (.aload_n 1, 1) := by decide +kernel
theorem dL_law_334 : decode cL_law 334 = .ok (.aload_n 0, 1) := by decide +kernel
theorem dL_law_335 : decode cL_law 335 = .ok (.iload_n 3, 1) := by decide +kernel
theorem dL_law_336 : decode cL_law 336 = .ok (.iconst 1, 1) := by decide +kernel
theorem dL_law_337 : decode cL_law 337 = .ok (.iadd, 1) := by decide +kernel
theorem dL_law_338 : decode cL_law 338 = .ok (.iaload, 1) := by decide +kernel
theorem dL_law_339 : decode cL_law 339 = .ok (.aload_n 0, 1) := by decide +kernel
theorem dL_law_340 : decode cL_law 340 = .ok (.iload_n 3, 1) := by decide +kernel
theorem dL_law_341 : decode cL_law 341 = .ok (.iconst 2, 1) := by decide +kernel
theorem dL_law_342 : decode cL_law 342 = .ok (.iadd, 1) := by decide +kernel
theorem dL_law_343 : decode cL_law 343 = .ok (.iaload, 1) := by decide +kernel
theorem dL_law_344 : decode cL_law 344 = .ok (.invokevirtual 33, 3) := by decide +kernel
theorem dL_law_347 : decode cL_law 347 = .ok (.aload_n 2, 1) := by decide +kernel
theorem dL_law_348 : decode cL_law 348 = .ok (.aload_n 0, 1) := by decide +kernel
theorem dL_law_349 : decode cL_law 349 = .ok (.iload_n 3, 1) := by decide +kernel
theorem dL_law_350 : decode cL_law 350 = .ok (.iconst 1, 1) := by decide +kernel
theorem dL_law_351 : decode cL_law 351 = .ok (.iadd, 1) := by decide +kernel
theorem dL_law_352 : decode cL_law 352 = .ok (.iaload, 1) := by decide +kernel
theorem dL_law_353 : decode cL_law 353 = .ok (.aload_n 0, 1) := by decide +kernel
theorem dL_law_354 : decode cL_law 354 = .ok (.iload_n 3, 1) := by decide +kernel
theorem dL_law_355 : decode cL_law 355 = .ok (.iconst 2, 1) := by decide +kernel
theorem dL_law_356 : decode cL_law 356 = .ok (.iadd, 1) := by decide +kernel
theorem dL_law_357 : decode cL_law 357 = .ok (.iaload, 1) := by decide +kernel
theorem dL_law_358 : decode cL_law 358 = .ok (.invokevirtual 36, 3) := by decide +kernel
theorem dL_law_361 : decode cL_law 361 = .ok (.if_icmp .eq 591, 3) := by decide +kernel
theorem dL_law_364 : decode cL_law 364 = .ok (.iconst 0, 1) := by decide +kernel
theorem dL_law_365 : decode cL_law 365 = .ok (.ireturn, 1) := by decide +kernel
theorem dL_law_366 : decode cL_law 366 = .ok (.aload_n 1, 1) := by decide +kernel
theorem dL_law_367 : decode cL_law 367 = .ok (.aload_n 0, 1) := by decide +kernel
theorem dL_law_368 : decode cL_law 368 = .ok (.iload_n 3, 1) := by decide +kernel
theorem dL_law_369 : decode cL_law 369 = .ok (.iconst 1, 1) := by decide +kernel
theorem dL_law_370 : decode cL_law 370 = .ok (.iadd, 1) := by decide +kernel
theorem dL_law_371 : decode cL_law 371 = .ok (.iaload, 1) := by decide +kernel
theorem dL_law_372 : decode cL_law 372 = .ok (.aload_n 0, 1) := by decide +kernel
theorem dL_law_373 : decode cL_law 373 = .ok (.iload_n 3, 1) := by decide +kernel
theorem dL_law_374 : decode cL_law 374 = .ok (.iconst 2, 1) := by decide +kernel
theorem dL_law_375 : decode cL_law 375 = .ok (.iadd, 1) := by decide +kernel
theorem dL_law_376 : decode cL_law 376 = .ok (.iaload, 1) := by decide +kernel
theorem dL_law_377 : decode cL_law 377 = .ok (.invokevirtual 37, 3) := by decide +kernel
theorem dL_law_380 : decode cL_law 380 = .ok (.aload_n 2, 1) := by decide +kernel
theorem dL_law_381 : decode cL_law 381 = .ok (.aload_n 0, 1) := by decide +kernel
theorem dL_law_382 : decode cL_law 382 = .ok (.iload_n 3, 1) := by decide +kernel
theorem dL_law_383 : decode cL_law 383 = .ok (.iconst 1, 1) := by decide +kernel
theorem dL_law_384 : decode cL_law 384 = .ok (.iadd, 1) := by decide +kernel
theorem dL_law_385 : decode cL_law 385 = .ok (.iaload, 1) := by decide +kernel
theorem dL_law_386 : decode cL_law 386 = .ok (.aload_n 0, 1) := by decide +kernel
theorem dL_law_387 : decode cL_law 387 = .ok (.iload_n 3, 1) := by decide +kernel
theorem dL_law_388 : decode cL_law 388 = .ok (.iconst 2, 1) := by decide +kernel
theorem dL_law_389 : decode cL_law 389 = .ok (.iadd, 1) := by decide +kernel
theorem dL_law_390 : decode cL_law 390 = .ok (.iaload, 1) := by decide +kernel
theorem dL_law_391 : decode cL_law 391 = .ok (.invokevirtual 40, 3) := by decide +kernel
theorem dL_law_394 : decode cL_law 394 = .ok (.if_icmp .eq 558, 3) := by decide +kernel
theorem dL_law_397 : decode cL_law 397 = .ok (.iconst 0, 1) := by decide +kernel
theorem dL_law_398 : decode cL_law 398 = .ok (.ireturn, 1) := by decide +kernel
theorem dL_law_399 : decode cL_law 399 = .ok (.aload_n 1, 1) := by decide +kernel
theorem dL_law_400 : decode cL_law 400 = .ok (.aload_n 0, 1) := by decide +kernel
theorem dL_law_401 : decode cL_law 401 = .ok (.iload_n 3, 1) := by decide +kernel
theorem dL_law_402 : decode cL_law 402 = .ok (.iconst 1, 1) := by decide +kernel
theorem dL_law_403 : decode cL_law 403 = .ok (.iadd, 1) := by decide +kernel
theorem dL_law_404 : decode cL_law 404 = .ok (.iaload, 1) := by decide +kernel
theorem dL_law_405 : decode cL_law 405 = .ok (.aload_n 0, 1) := by decide +kernel
theorem dL_law_406 : decode cL_law 406 = .ok (.iload_n 3, 1) := by decide +kernel
theorem dL_law_407 : decode cL_law 407 = .ok (.iconst 2, 1) := by decide +kernel
theorem dL_law_408 : decode cL_law 408 = .ok (.iadd, 1) := by decide +kernel
theorem dL_law_409 : decode cL_law 409 = .ok (.iaload, 1) := by decide +kernel
theorem dL_law_410 : decode cL_law 410 = .ok (.invokevirtual 41, 3) := by decide +kernel
theorem dL_law_413 : decode cL_law 413 = .ok (.aload_n 2, 1) := by decide +kernel
theorem dL_law_414 : decode cL_law 414 = .ok (.aload_n 0, 1) := by decide +kernel
theorem dL_law_415 : decode cL_law 415 = .ok (.iload_n 3, 1) := by decide +kernel
theorem dL_law_416 : decode cL_law 416 = .ok (.iconst 1, 1) := by decide +kernel
theorem dL_law_417 : decode cL_law 417 = .ok (.iadd, 1) := by decide +kernel
theorem dL_law_418 : decode cL_law 418 = .ok (.iaload, 1) := by decide +kernel
theorem dL_law_419 : decode cL_law 419 = .ok (.aload_n 0, 1) := by decide +kernel
theorem dL_law_420 : decode cL_law 420 = .ok (.iload_n 3, 1) := by decide +kernel
theorem dL_law_421 : decode cL_law 421 = .ok (.iconst 2, 1) := by decide +kernel
theorem dL_law_422 : decode cL_law 422 = .ok (.iadd, 1) := by decide +kernel
theorem dL_law_423 : decode cL_law 423 = .ok (.iaload, 1) := by decide +kernel
theorem dL_law_424 : decode cL_law 424 = .ok (.invokevirtual 44, 3) := by decide +kernel
theorem dL_law_427 : decode cL_law 427 = .ok (.if_icmp .eq 525, 3) := by decide +kernel
theorem dL_law_430 : decode cL_law 430 = .ok (.iconst 0, 1) := by decide +kernel
theorem dL_law_431 : decode cL_law 431 = .ok (.ireturn, 1) := by decide +kernel
theorem dL_law_432 : decode cL_law 432 = .ok (.aload_n 1, 1) := by decide +kernel
theorem dL_law_433 : decode cL_law 433 = .ok (.aload_n 0, 1) := by decide +kernel
theorem dL_law_434 : decode cL_law 434 = .ok (.iload_n 3, 1) := by decide +kernel
theorem dL_law_435 : decode cL_law 435 = .ok (.iconst 1, 1) := by decide +kernel
theorem dL_law_436 : decode cL_law 436 = .ok (.iadd, 1) := by decide +kernel
theorem dL_law_437 : decode cL_law 437 = .ok (.iaload, 1) := by decide +kernel
theorem dL_law_438 : decode cL_law 438 = .ok (.invokevirtual 45, 3) := by decide +kernel
theorem dL_law_441 : decode cL_law 441 = .ok (.aload_n 2, 1) := by decide +kernel
theorem dL_law_442 : decode cL_law 442 = .ok (.aload_n 0, 1) := by decide +kernel
theorem dL_law_443 : decode cL_law 443 = .ok (.iload_n 3, 1) := by decide +kernel
theorem dL_law_444 : decode cL_law 444 = .ok (.iconst 1, 1) := by decide +kernel
theorem dL_law_445 : decode cL_law 445 = .ok (.iadd, 1) := by decide +kernel
theorem dL_law_446 : decode cL_law 446 = .ok (.iaload, 1) := by decide +kernel
theorem dL_law_447 : decode cL_law 447 = .ok (.invokevirtual 49, 3) := by decide +kernel
theorem dL_law_450 : decode cL_law 450 = .ok (.if_icmp .eq 502, 3) := by decide +kernel
theorem dL_law_453 : decode cL_law 453 = .ok (.iconst 0, 1) := by decide +kernel
theorem dL_law_454 : decode cL_law 454 = .ok (.ireturn, 1) := by decide +kernel
theorem dL_law_455 : decode cL_law 455 = .ok (.aload_n 1, 1) := by decide +kernel
theorem dL_law_456 : decode cL_law 456 = .ok (.aload_n 0, 1) := by decide +kernel
theorem dL_law_457 : decode cL_law 457 = .ok (.iload_n 3, 1) := by decide +kernel
theorem dL_law_458 : decode cL_law 458 = .ok (.iconst 1, 1) := by decide +kernel
theorem dL_law_459 : decode cL_law 459 = .ok (.iadd, 1) := by decide +kernel
theorem dL_law_460 : decode cL_law 460 = .ok (.iaload, 1) := by decide +kernel
theorem dL_law_461 : decode cL_law 461 = .ok (.aload_n 0, 1) := by decide +kernel
theorem dL_law_462 : decode cL_law 462 = .ok (.iload_n 3, 1) := by decide +kernel
theorem dL_law_463 : decode cL_law 463 = .ok (.iconst 2, 1) := by decide +kernel
theorem dL_law_464 : decode cL_law 464 = .ok (.iadd, 1) := by decide +kernel
theorem dL_law_465 : decode cL_law 465 = .ok (.iaload, 1) := by decide +kernel
theorem dL_law_466 : decode cL_law 466 = .ok (.invokevirtual 50, 3) := by decide +kernel
theorem dL_law_469 : decode cL_law 469 = .ok (.aload_n 2, 1) := by decide +kernel
theorem dL_law_470 : decode cL_law 470 = .ok (.aload_n 0, 1) := by decide +kernel
theorem dL_law_471 : decode cL_law 471 = .ok (.iload_n 3, 1) := by decide +kernel
theorem dL_law_472 : decode cL_law 472 = .ok (.iconst 1, 1) := by decide +kernel
theorem dL_law_473 : decode cL_law 473 = .ok (.iadd, 1) := by decide +kernel
theorem dL_law_474 : decode cL_law 474 = .ok (.iaload, 1) := by decide +kernel
theorem dL_law_475 : decode cL_law 475 = .ok (.aload_n 0, 1) := by decide +kernel
theorem dL_law_476 : decode cL_law 476 = .ok (.iload_n 3, 1) := by decide +kernel
theorem dL_law_477 : decode cL_law 477 = .ok (.iconst 2, 1) := by decide +kernel
theorem dL_law_478 : decode cL_law 478 = .ok (.iadd, 1) := by decide +kernel
theorem dL_law_479 : decode cL_law 479 = .ok (.iaload, 1) := by decide +kernel
theorem dL_law_480 : decode cL_law 480 = .ok (.invokevirtual 53, 3) := by decide +kernel
theorem dL_law_483 : decode cL_law 483 = .ok (.if_icmp .eq 469, 3) := by decide +kernel
theorem dL_law_486 : decode cL_law 486 = .ok (.iconst 0, 1) := by decide +kernel
theorem dL_law_487 : decode cL_law 487 = .ok (.ireturn, 1) := by decide +kernel
theorem dL_law_488 : decode cL_law 488 = .ok (.aload_n 1, 1) := by decide +kernel
theorem dL_law_489 : decode cL_law 489 = .ok (.aload_n 0, 1) := by decide +kernel
theorem dL_law_490 : decode cL_law 490 = .ok (.iload_n 3, 1) := by decide +kernel
theorem dL_law_491 : decode cL_law 491 = .ok (.iconst 1, 1) := by decide +kernel
theorem dL_law_492 : decode cL_law 492 = .ok (.iadd, 1) := by decide +kernel
theorem dL_law_493 : decode cL_law 493 = .ok (.iaload, 1) := by decide +kernel
theorem dL_law_494 : decode cL_law 494 = .ok (.aload_n 0, 1) := by decide +kernel
theorem dL_law_495 : decode cL_law 495 = .ok (.iload_n 3, 1) := by decide +kernel
theorem dL_law_496 : decode cL_law 496 = .ok (.iconst 2, 1) := by decide +kernel
theorem dL_law_497 : decode cL_law 497 = .ok (.iadd, 1) := by decide +kernel
theorem dL_law_498 : decode cL_law 498 = .ok (.iaload, 1) := by decide +kernel
theorem dL_law_499 : decode cL_law 499 = .ok (.aload_n 0, 1) := by decide +kernel
theorem dL_law_500 : decode cL_law 500 = .ok (.iload_n 3, 1) := by decide +kernel
theorem dL_law_501 : decode cL_law 501 = .ok (.iconst 3, 1) := by decide +kernel
theorem dL_law_502 : decode cL_law 502 = .ok (.iadd, 1) := by decide +kernel
theorem dL_law_503 : decode cL_law 503 = .ok (.iaload, 1) := by decide +kernel
theorem dL_law_504 : decode cL_law 504 = .ok (.aload_n 0, 1) := by decide +kernel
theorem dL_law_505 : decode cL_law 505 = .ok (.iload_n 3, 1) := by decide +kernel
theorem dL_law_506 : decode cL_law 506 = .ok (.iconst 4, 1) := by decide +kernel
theorem dL_law_507 : decode cL_law 507 = .ok (.iadd, 1) := by decide +kernel
theorem dL_law_508 : decode cL_law 508 = .ok (.iaload, 1) := by decide +kernel
theorem dL_law_509 : decode cL_law 509 = .ok (.invokevirtual 54, 3) := by decide +kernel
theorem dL_law_512 : decode cL_law 512 = .ok (.aload_n 2, 1) := by decide +kernel
theorem dL_law_513 : decode cL_law 513 = .ok (.aload_n 0, 1) := by decide +kernel
theorem dL_law_514 : decode cL_law 514 = .ok (.iload_n 3, 1) := by decide +kernel
theorem dL_law_515 : decode cL_law 515 = .ok (.iconst 1, 1) := by decide +kernel
theorem dL_law_516 : decode cL_law 516 = .ok (.iadd, 1) := by decide +kernel
theorem dL_law_517 : decode cL_law 517 = .ok (.iaload, 1) := by decide +kernel
theorem dL_law_518 : decode cL_law 518 = .ok (.aload_n 0, 1) := by decide +kernel
theorem dL_law_519 : decode cL_law 519 = .ok (.iload_n 3, 1) := by decide +kernel
theorem dL_law_520 : decode cL_law 520 = .ok (.iconst 2, 1) := by decide +kernel
theorem dL_law_521 : decode cL_law 521 = .ok (.iadd, 1) := by decide +kernel
theorem dL_law_522 : decode cL_law 522 = .ok (.iaload, 1) := by decide +kernel
theorem dL_law_523 : decode cL_law 523 = .ok (.aload_n 0, 1) := by decide +kernel
theorem dL_law_524 : decode cL_law 524 = .ok (.iload_n 3, 1) := by decide +kernel
theorem dL_law_525 : decode cL_law 525 = .ok (.iconst 3, 1) := by decide +kernel
theorem dL_law_526 : decode cL_law 526 = .ok (.iadd, 1) := by decide +kernel
theorem dL_law_527 : decode cL_law 527 = .ok (.iaload, 1) := by decide +kernel
theorem dL_law_528 : decode cL_law 528 = .ok (.aload_n 0, 1) := by decide +kernel
theorem dL_law_529 : decode cL_law 529 = .ok (.iload_n 3, 1) := by decide +kernel
theorem dL_law_530 : decode cL_law 530 = .ok (.iconst 4, 1) := by decide +kernel
theorem dL_law_531 : decode cL_law 531 = .ok (.iadd, 1) := by decide +kernel
theorem dL_law_532 : decode cL_law 532 = .ok (.iaload, 1) := by decide +kernel
theorem dL_law_533 : decode cL_law 533 = .ok (.invokevirtual 57, 3) := by decide +kernel
theorem dL_law_536 : decode cL_law 536 = .ok (.lcmp, 1) := by decide +kernel
theorem dL_law_537 : decode cL_law 537 = .ok (.ifCond .eq 415, 3) := by decide +kernel
theorem dL_law_540 : decode cL_law 540 = .ok (.iconst 0, 1) := by decide +kernel
theorem dL_law_541 : decode cL_law 541 = .ok (.ireturn, 1) := by decide +kernel
theorem dL_law_542 : decode cL_law 542 = .ok (.aload_n 1, 1) := by decide +kernel
theorem dL_law_543 : decode cL_law 543 = .ok (.aload_n 0, 1) := by decide +kernel
theorem dL_law_544 : decode cL_law 544 = .ok (.iload_n 3, 1) := by decide +kernel
theorem dL_law_545 : decode cL_law 545 = .ok (.iconst 1, 1) := by decide +kernel
theorem dL_law_546 : decode cL_law 546 = .ok (.iadd, 1) := by decide +kernel
theorem dL_law_547 : decode cL_law 547 = .ok (.iaload, 1) := by decide +kernel
theorem dL_law_548 : decode cL_law 548 = .ok (.aload_n 0, 1) := by decide +kernel
theorem dL_law_549 : decode cL_law 549 = .ok (.iload_n 3, 1) := by decide +kernel
theorem dL_law_550 : decode cL_law 550 = .ok (.iconst 2, 1) := by decide +kernel
theorem dL_law_551 : decode cL_law 551 = .ok (.iadd, 1) := by decide +kernel
theorem dL_law_552 : decode cL_law 552 = .ok (.iaload, 1) := by decide +kernel
theorem dL_law_553 : decode cL_law 553 = .ok (.invokevirtual 58, 3) := by decide +kernel
theorem dL_law_556 : decode cL_law 556 = .ok (.aload_n 2, 1) := by decide +kernel
theorem dL_law_557 : decode cL_law 557 = .ok (.aload_n 0, 1) := by decide +kernel
theorem dL_law_558 : decode cL_law 558 = .ok (.iload_n 3, 1) := by decide +kernel
theorem dL_law_559 : decode cL_law 559 = .ok (.iconst 1, 1) := by decide +kernel
theorem dL_law_560 : decode cL_law 560 = .ok (.iadd, 1) := by decide +kernel
theorem dL_law_561 : decode cL_law 561 = .ok (.iaload, 1) := by decide +kernel
theorem dL_law_562 : decode cL_law 562 = .ok (.aload_n 0, 1) := by decide +kernel
theorem dL_law_563 : decode cL_law 563 = .ok (.iload_n 3, 1) := by decide +kernel
theorem dL_law_564 : decode cL_law 564 = .ok (.iconst 2, 1) := by decide +kernel
theorem dL_law_565 : decode cL_law 565 = .ok (.iadd, 1) := by decide +kernel
theorem dL_law_566 : decode cL_law 566 = .ok (.iaload, 1) := by decide +kernel
theorem dL_law_567 : decode cL_law 567 = .ok (.invokevirtual 61, 3) := by decide +kernel
theorem dL_law_570 : decode cL_law 570 = .ok (.if_icmp .eq 382, 3) := by decide +kernel
theorem dL_law_573 : decode cL_law 573 = .ok (.iconst 0, 1) := by decide +kernel
theorem dL_law_574 : decode cL_law 574 = .ok (.ireturn, 1) := by decide +kernel
theorem dL_law_575 : decode cL_law 575 = .ok (.aload_n 1, 1) := by decide +kernel
theorem dL_law_576 : decode cL_law 576 = .ok (.aload_n 0, 1) := by decide +kernel
theorem dL_law_577 : decode cL_law 577 = .ok (.iload_n 3, 1) := by decide +kernel
theorem dL_law_578 : decode cL_law 578 = .ok (.iconst 1, 1) := by decide +kernel
theorem dL_law_579 : decode cL_law 579 = .ok (.iadd, 1) := by decide +kernel
theorem dL_law_580 : decode cL_law 580 = .ok (.iaload, 1) := by decide +kernel
theorem dL_law_581 : decode cL_law 581 = .ok (.aload_n 0, 1) := by decide +kernel
theorem dL_law_582 : decode cL_law 582 = .ok (.iload_n 3, 1) := by decide +kernel
theorem dL_law_583 : decode cL_law 583 = .ok (.iconst 2, 1) := by decide +kernel
theorem dL_law_584 : decode cL_law 584 = .ok (.iadd, 1) := by decide +kernel
theorem dL_law_585 : decode cL_law 585 = .ok (.iaload, 1) := by decide +kernel
theorem dL_law_586 : decode cL_law 586 = .ok (.invokevirtual 62, 3) := by decide +kernel
theorem dL_law_589 : decode cL_law 589 = .ok (.aload_n 2, 1) := by decide +kernel
theorem dL_law_590 : decode cL_law 590 = .ok (.aload_n 0, 1) := by decide +kernel
theorem dL_law_591 : decode cL_law 591 = .ok (.iload_n 3, 1) := by decide +kernel
theorem dL_law_592 : decode cL_law 592 = .ok (.iconst 1, 1) := by decide +kernel
theorem dL_law_593 : decode cL_law 593 = .ok (.iadd, 1) := by decide +kernel
theorem dL_law_594 : decode cL_law 594 = .ok (.iaload, 1) := by decide +kernel
theorem dL_law_595 : decode cL_law 595 = .ok (.aload_n 0, 1) := by decide +kernel
theorem dL_law_596 : decode cL_law 596 = .ok (.iload_n 3, 1) := by decide +kernel
theorem dL_law_597 : decode cL_law 597 = .ok (.iconst 2, 1) := by decide +kernel
theorem dL_law_598 : decode cL_law 598 = .ok (.iadd, 1) := by decide +kernel
theorem dL_law_599 : decode cL_law 599 = .ok (.iaload, 1) := by decide +kernel
theorem dL_law_600 : decode cL_law 600 = .ok (.invokevirtual 65, 3) := by decide +kernel
theorem dL_law_603 : decode cL_law 603 = .ok (.if_icmp .eq 349, 3) := by decide +kernel
theorem dL_law_606 : decode cL_law 606 = .ok (.iconst 0, 1) := by decide +kernel
theorem dL_law_607 : decode cL_law 607 = .ok (.ireturn, 1) := by decide +kernel
theorem dL_law_608 : decode cL_law 608 = .ok (.aload_n 1, 1) := by decide +kernel
theorem dL_law_609 : decode cL_law 609 = .ok (.aload_n 0, 1) := by decide +kernel
theorem dL_law_610 : decode cL_law 610 = .ok (.iload_n 3, 1) := by decide +kernel
theorem dL_law_611 : decode cL_law 611 = .ok (.iconst 1, 1) := by decide +kernel
theorem dL_law_612 : decode cL_law 612 = .ok (.iadd, 1) := by decide +kernel
theorem dL_law_613 : decode cL_law 613 = .ok (.iaload, 1) := by decide +kernel
theorem dL_law_614 : decode cL_law 614 = .ok (.aload_n 0, 1) := by decide +kernel
theorem dL_law_615 : decode cL_law 615 = .ok (.iload_n 3, 1) := by decide +kernel
theorem dL_law_616 : decode cL_law 616 = .ok (.iconst 2, 1) := by decide +kernel
theorem dL_law_617 : decode cL_law 617 = .ok (.iadd, 1) := by decide +kernel
theorem dL_law_618 : decode cL_law 618 = .ok (.iaload, 1) := by decide +kernel
theorem dL_law_619 : decode cL_law 619 = .ok (.aload_n 0, 1) := by decide +kernel
theorem dL_law_620 : decode cL_law 620 = .ok (.iload_n 3, 1) := by decide +kernel
theorem dL_law_621 : decode cL_law 621 = .ok (.iconst 3, 1) := by decide +kernel
theorem dL_law_622 : decode cL_law 622 = .ok (.iadd, 1) := by decide +kernel
theorem dL_law_623 : decode cL_law 623 = .ok (.iaload, 1) := by decide +kernel
theorem dL_law_624 : decode cL_law 624 = .ok (.aload_n 0, 1) := by decide +kernel
theorem dL_law_625 : decode cL_law 625 = .ok (.iload_n 3, 1) := by decide +kernel
theorem dL_law_626 : decode cL_law 626 = .ok (.iconst 4, 1) := by decide +kernel
theorem dL_law_627 : decode cL_law 627 = .ok (.iadd, 1) := by decide +kernel
theorem dL_law_628 : decode cL_law 628 = .ok (.iaload, 1) := by decide +kernel
theorem dL_law_629 : decode cL_law 629 = .ok (.aload_n 0, 1) := by decide +kernel
theorem dL_law_630 : decode cL_law 630 = .ok (.iload_n 3, 1) := by decide +kernel
theorem dL_law_631 : decode cL_law 631 = .ok (.iconst 5, 1) := by decide +kernel
theorem dL_law_632 : decode cL_law 632 = .ok (.iadd, 1) := by decide +kernel
theorem dL_law_633 : decode cL_law 633 = .ok (.iaload, 1) := by decide +kernel
theorem dL_law_634 : decode cL_law 634 = .ok (.invokevirtual 66, 3) := by decide +kernel
theorem dL_law_637 : decode cL_law 637 = .ok (.aload_n 2, 1) := by decide +kernel
theorem dL_law_638 : decode cL_law 638 = .ok (.aload_n 0, 1) := by decide +kernel
theorem dL_law_639 : decode cL_law 639 = .ok (.iload_n 3, 1) := by decide +kernel
theorem dL_law_640 : decode cL_law 640 = .ok (.iconst 1, 1) := by decide +kernel
theorem dL_law_641 : decode cL_law 641 = .ok (.iadd, 1) := by decide +kernel
theorem dL_law_642 : decode cL_law 642 = .ok (.iaload, 1) := by decide +kernel
theorem dL_law_643 : decode cL_law 643 = .ok (.aload_n 0, 1) := by decide +kernel
theorem dL_law_644 : decode cL_law 644 = .ok (.iload_n 3, 1) := by decide +kernel
theorem dL_law_645 : decode cL_law 645 = .ok (.iconst 2, 1) := by decide +kernel
theorem dL_law_646 : decode cL_law 646 = .ok (.iadd, 1) := by decide +kernel
theorem dL_law_647 : decode cL_law 647 = .ok (.iaload, 1) := by decide +kernel
theorem dL_law_648 : decode cL_law 648 = .ok (.aload_n 0, 1) := by decide +kernel
theorem dL_law_649 : decode cL_law 649 = .ok (.iload_n 3, 1) := by decide +kernel
theorem dL_law_650 : decode cL_law 650 = .ok (.iconst 3, 1) := by decide +kernel
theorem dL_law_651 : decode cL_law 651 = .ok (.iadd, 1) := by decide +kernel
theorem dL_law_652 : decode cL_law 652 = .ok (.iaload, 1) := by decide +kernel
theorem dL_law_653 : decode cL_law 653 = .ok (.aload_n 0, 1) := by decide +kernel
theorem dL_law_654 : decode cL_law 654 = .ok (.iload_n 3, 1) := by decide +kernel
theorem dL_law_655 : decode cL_law 655 = .ok (.iconst 4, 1) := by decide +kernel
theorem dL_law_656 : decode cL_law 656 = .ok (.iadd, 1) := by decide +kernel
theorem dL_law_657 : decode cL_law 657 = .ok (.iaload, 1) := by decide +kernel
theorem dL_law_658 : decode cL_law 658 = .ok (.aload_n 0, 1) := by decide +kernel
theorem dL_law_659 : decode cL_law 659 = .ok (.iload_n 3, 1) := by decide +kernel
theorem dL_law_660 : decode cL_law 660 = .ok (.iconst 5, 1) := by decide +kernel
theorem dL_law_661 : decode cL_law 661 = .ok (.iadd, 1) := by decide +kernel
theorem dL_law_662 : decode cL_law 662 = .ok (.iaload, 1) := by decide +kernel
theorem dL_law_663 : decode cL_law 663 = .ok (.invokevirtual 69, 3) := by decide +kernel
theorem dL_law_666 : decode cL_law 666 = .ok (.if_icmp .eq 286, 3) := by decide +kernel
theorem dL_law_669 : decode cL_law 669 = .ok (.iconst 0, 1) := by decide +kernel
theorem dL_law_670 : decode cL_law 670 = .ok (.ireturn, 1) := by decide +kernel
theorem dL_law_671 : decode cL_law 671 = .ok (.aload_n 1, 1) := by decide +kernel
theorem dL_law_672 : decode cL_law 672 = .ok (.aload_n 0, 1) := by decide +kernel
theorem dL_law_673 : decode cL_law 673 = .ok (.iload_n 3, 1) := by decide +kernel
theorem dL_law_674 : decode cL_law 674 = .ok (.iconst 1, 1) := by decide +kernel
theorem dL_law_675 : decode cL_law 675 = .ok (.iadd, 1) := by decide +kernel
theorem dL_law_676 : decode cL_law 676 = .ok (.iaload, 1) := by decide +kernel
theorem dL_law_677 : decode cL_law 677 = .ok (.aload_n 0, 1) := by decide +kernel
theorem dL_law_678 : decode cL_law 678 = .ok (.iload_n 3, 1) := by decide +kernel
theorem dL_law_679 : decode cL_law 679 = .ok (.iconst 2, 1) := by decide +kernel
theorem dL_law_680 : decode cL_law 680 = .ok (.iadd, 1) := by decide +kernel
theorem dL_law_681 : decode cL_law 681 = .ok (.iaload, 1) := by decide +kernel
theorem dL_law_682 : decode cL_law 682 = .ok (.invokevirtual 70, 3) := by decide +kernel
theorem dL_law_685 : decode cL_law 685 = .ok (.aload_n 2, 1) := by decide +kernel
theorem dL_law_686 : decode cL_law 686 = .ok (.aload_n 0, 1) := by decide +kernel
theorem dL_law_687 : decode cL_law 687 = .ok (.iload_n 3, 1) := by decide +kernel
theorem dL_law_688 : decode cL_law 688 = .ok (.iconst 1, 1) := by decide +kernel
theorem dL_law_689 : decode cL_law 689 = .ok (.iadd, 1) := by decide +kernel
theorem dL_law_690 : decode cL_law 690 = .ok (.iaload, 1) := by decide +kernel
theorem dL_law_691 : decode cL_law 691 = .ok (.aload_n 0, 1) := by decide +kernel
theorem dL_law_692 : decode cL_law 692 = .ok (.iload_n 3, 1) := by decide +kernel
theorem dL_law_693 : decode cL_law 693 = .ok (.iconst 2, 1) := by decide +kernel
theorem dL_law_694 : decode cL_law 694 = .ok (.iadd, 1) := by decide +kernel
theorem dL_law_695 : decode cL_law 695 = .ok (.iaload, 1) := by decide +kernel
theorem dL_law_696 : decode cL_law 696 = .ok (.invokevirtual 73, 3) := by decide +kernel
theorem dL_law_699 : decode cL_law 699 = .ok (.if_icmp .eq 253, 3) := by decide +kernel
theorem dL_law_702 : decode cL_law 702 = .ok (.iconst 0, 1) := by decide +kernel
theorem dL_law_703 : decode cL_law 703 = .ok (.ireturn, 1) := by decide +kernel
theorem dL_law_704 : decode cL_law 704 = .ok (.aload_n 1, 1) := by decide +kernel
theorem dL_law_705 : decode cL_law 705 = .ok (.aload_n 0, 1) := by decide +kernel
theorem dL_law_706 : decode cL_law 706 = .ok (.iload_n 3, 1) := by decide +kernel
theorem dL_law_707 : decode cL_law 707 = .ok (.iconst 1, 1) := by decide +kernel
theorem dL_law_708 : decode cL_law 708 = .ok (.iadd, 1) := by decide +kernel
theorem dL_law_709 : decode cL_law 709 = .ok (.iaload, 1) := by decide +kernel
theorem dL_law_710 : decode cL_law 710 = .ok (.aload_n 0, 1) := by decide +kernel
theorem dL_law_711 : decode cL_law 711 = .ok (.iload_n 3, 1) := by decide +kernel
theorem dL_law_712 : decode cL_law 712 = .ok (.iconst 2, 1) := by decide +kernel
theorem dL_law_713 : decode cL_law 713 = .ok (.iadd, 1) := by decide +kernel
theorem dL_law_714 : decode cL_law 714 = .ok (.iaload, 1) := by decide +kernel
theorem dL_law_715 : decode cL_law 715 = .ok (.invokevirtual 74, 3) := by decide +kernel
theorem dL_law_718 : decode cL_law 718 = .ok (.aload_n 2, 1) := by decide +kernel
theorem dL_law_719 : decode cL_law 719 = .ok (.aload_n 0, 1) := by decide +kernel
theorem dL_law_720 : decode cL_law 720 = .ok (.iload_n 3, 1) := by decide +kernel
theorem dL_law_721 : decode cL_law 721 = .ok (.iconst 1, 1) := by decide +kernel
theorem dL_law_722 : decode cL_law 722 = .ok (.iadd, 1) := by decide +kernel
theorem dL_law_723 : decode cL_law 723 = .ok (.iaload, 1) := by decide +kernel
theorem dL_law_724 : decode cL_law 724 = .ok (.aload_n 0, 1) := by decide +kernel
theorem dL_law_725 : decode cL_law 725 = .ok (.iload_n 3, 1) := by decide +kernel
theorem dL_law_726 : decode cL_law 726 = .ok (.iconst 2, 1) := by decide +kernel
theorem dL_law_727 : decode cL_law 727 = .ok (.iadd, 1) := by decide +kernel
theorem dL_law_728 : decode cL_law 728 = .ok (.iaload, 1) := by decide +kernel
theorem dL_law_729 : decode cL_law 729 = .ok (.invokevirtual 77, 3) := by decide +kernel
theorem dL_law_732 : decode cL_law 732 = .ok (.if_icmp .eq 220, 3) := by decide +kernel
theorem dL_law_735 : decode cL_law 735 = .ok (.iconst 0, 1) := by decide +kernel
theorem dL_law_736 : decode cL_law 736 = .ok (.ireturn, 1) := by decide +kernel
theorem dL_law_737 : decode cL_law 737 = .ok (.aload_n 1, 1) := by decide +kernel
theorem dL_law_738 : decode cL_law 738 = .ok (.aload_n 0, 1) := by decide +kernel
theorem dL_law_739 : decode cL_law 739 = .ok (.iload_n 3, 1) := by decide +kernel
theorem dL_law_740 : decode cL_law 740 = .ok (.iconst 1, 1) := by decide +kernel
theorem dL_law_741 : decode cL_law 741 = .ok (.iadd, 1) := by decide +kernel
theorem dL_law_742 : decode cL_law 742 = .ok (.iaload, 1) := by decide +kernel
theorem dL_law_743 : decode cL_law 743 = .ok (.aload_n 0, 1) := by decide +kernel
theorem dL_law_744 : decode cL_law 744 = .ok (.iload_n 3, 1) := by decide +kernel
theorem dL_law_745 : decode cL_law 745 = .ok (.iconst 2, 1) := by decide +kernel
theorem dL_law_746 : decode cL_law 746 = .ok (.iadd, 1) := by decide +kernel
theorem dL_law_747 : decode cL_law 747 = .ok (.iaload, 1) := by decide +kernel
theorem dL_law_748 : decode cL_law 748 = .ok (.invokevirtual 78, 3) := by decide +kernel
theorem dL_law_751 : decode cL_law 751 = .ok (.aload_n 2, 1) := by decide +kernel
theorem dL_law_752 : decode cL_law 752 = .ok (.aload_n 0, 1) := by decide +kernel
theorem dL_law_753 : decode cL_law 753 = .ok (.iload_n 3, 1) := by decide +kernel
theorem dL_law_754 : decode cL_law 754 = .ok (.iconst 1, 1) := by decide +kernel
theorem dL_law_755 : decode cL_law 755 = .ok (.iadd, 1) := by decide +kernel
theorem dL_law_756 : decode cL_law 756 = .ok (.iaload, 1) := by decide +kernel
theorem dL_law_757 : decode cL_law 757 = .ok (.aload_n 0, 1) := by decide +kernel
theorem dL_law_758 : decode cL_law 758 = .ok (.iload_n 3, 1) := by decide +kernel
theorem dL_law_759 : decode cL_law 759 = .ok (.iconst 2, 1) := by decide +kernel
theorem dL_law_760 : decode cL_law 760 = .ok (.iadd, 1) := by decide +kernel
theorem dL_law_761 : decode cL_law 761 = .ok (.iaload, 1) := by decide +kernel
theorem dL_law_762 : decode cL_law 762 = .ok (.invokevirtual 81, 3) := by decide +kernel
theorem dL_law_765 : decode cL_law 765 = .ok (.if_icmp .eq 187, 3) := by decide +kernel
theorem dL_law_768 : decode cL_law 768 = .ok (.iconst 0, 1) := by decide +kernel
theorem dL_law_769 : decode cL_law 769 = .ok (.ireturn, 1) := by decide +kernel
theorem dL_law_770 : decode cL_law 770 = .ok (.aload_n 1, 1) := by decide +kernel
theorem dL_law_771 : decode cL_law 771 = .ok (.aload_n 0, 1) := by decide +kernel
theorem dL_law_772 : decode cL_law 772 = .ok (.iload_n 3, 1) := by decide +kernel
theorem dL_law_773 : decode cL_law 773 = .ok (.iconst 1, 1) := by decide +kernel
theorem dL_law_774 : decode cL_law 774 = .ok (.iadd, 1) := by decide +kernel
theorem dL_law_775 : decode cL_law 775 = .ok (.iaload, 1) := by decide +kernel
theorem dL_law_776 : decode cL_law 776 = .ok (.invokevirtual 82, 3) := by decide +kernel
theorem dL_law_779 : decode cL_law 779 = .ok (.aload_n 2, 1) := by decide +kernel
theorem dL_law_780 : decode cL_law 780 = .ok (.aload_n 0, 1) := by decide +kernel
theorem dL_law_781 : decode cL_law 781 = .ok (.iload_n 3, 1) := by decide +kernel
theorem dL_law_782 : decode cL_law 782 = .ok (.iconst 1, 1) := by decide +kernel
theorem dL_law_783 : decode cL_law 783 = .ok (.iadd, 1) := by decide +kernel
theorem dL_law_784 : decode cL_law 784 = .ok (.iaload, 1) := by decide +kernel
theorem dL_law_785 : decode cL_law 785 = .ok (.invokevirtual 85, 3) := by decide +kernel
theorem dL_law_788 : decode cL_law 788 = .ok (.if_icmp .eq 164, 3) := by decide +kernel
theorem dL_law_791 : decode cL_law 791 = .ok (.iconst 0, 1) := by decide +kernel
theorem dL_law_792 : decode cL_law 792 = .ok (.ireturn, 1) := by decide +kernel
theorem dL_law_793 : decode cL_law 793 = .ok (.aload_n 1, 1) := by decide +kernel
theorem dL_law_794 : decode cL_law 794 = .ok (.invokevirtual 86, 3) := by decide +kernel
theorem dL_law_797 : decode cL_law 797 = .ok (.aload_n 2, 1) := by decide +kernel
theorem dL_law_798 : decode cL_law 798 = .ok (.invokevirtual 90, 3) := by decide +kernel
theorem dL_law_801 : decode cL_law 801 = .ok (.if_icmp .eq 151, 3) := by decide +kernel
theorem dL_law_804 : decode cL_law 804 = .ok (.iconst 0, 1) := by decide +kernel
theorem dL_law_805 : decode cL_law 805 = .ok (.ireturn, 1) := by decide +kernel
theorem dL_law_806 : decode cL_law 806 = .ok (.aload_n 1, 1) := by decide +kernel
theorem dL_law_807 : decode cL_law 807 = .ok (.aload_n 0, 1) := by decide +kernel
theorem dL_law_808 : decode cL_law 808 = .ok (.iload_n 3, 1) := by decide +kernel
theorem dL_law_809 : decode cL_law 809 = .ok (.iconst 1, 1) := by decide +kernel
theorem dL_law_810 : decode cL_law 810 = .ok (.iadd, 1) := by decide +kernel
theorem dL_law_811 : decode cL_law 811 = .ok (.iaload, 1) := by decide +kernel
theorem dL_law_812 : decode cL_law 812 = .ok (.aload_n 0, 1) := by decide +kernel
theorem dL_law_813 : decode cL_law 813 = .ok (.iload_n 3, 1) := by decide +kernel
theorem dL_law_814 : decode cL_law 814 = .ok (.iconst 2, 1) := by decide +kernel
theorem dL_law_815 : decode cL_law 815 = .ok (.iadd, 1) := by decide +kernel
theorem dL_law_816 : decode cL_law 816 = .ok (.iaload, 1) := by decide +kernel
theorem dL_law_817 : decode cL_law 817 = .ok (.invokevirtual 91, 3) := by decide +kernel
theorem dL_law_820 : decode cL_law 820 = .ok (.aload_n 2, 1) := by decide +kernel
theorem dL_law_821 : decode cL_law 821 = .ok (.aload_n 0, 1) := by decide +kernel
theorem dL_law_822 : decode cL_law 822 = .ok (.iload_n 3, 1) := by decide +kernel
theorem dL_law_823 : decode cL_law 823 = .ok (.iconst 1, 1) := by decide +kernel
theorem dL_law_824 : decode cL_law 824 = .ok (.iadd, 1) := by decide +kernel
theorem dL_law_825 : decode cL_law 825 = .ok (.iaload, 1) := by decide +kernel
theorem dL_law_826 : decode cL_law 826 = .ok (.aload_n 0, 1) := by decide +kernel
theorem dL_law_827 : decode cL_law 827 = .ok (.iload_n 3, 1) := by decide +kernel
theorem dL_law_828 : decode cL_law 828 = .ok (.iconst 2, 1) := by decide +kernel
theorem dL_law_829 : decode cL_law 829 = .ok (.iadd, 1) := by decide +kernel
theorem dL_law_830 : decode cL_law 830 = .ok (.iaload, 1) := by decide +kernel
theorem dL_law_831 : decode cL_law 831 = .ok (.invokevirtual 94, 3) := by decide +kernel
theorem dL_law_834 : decode cL_law 834 = .ok (.if_icmp .eq 118, 3) := by decide +kernel
theorem dL_law_837 : decode cL_law 837 = .ok (.iconst 0, 1) := by decide +kernel
theorem dL_law_838 : decode cL_law 838 = .ok (.ireturn, 1) := by decide +kernel
theorem dL_law_839 : decode cL_law 839 = .ok (.aload_n 1, 1) := by decide +kernel
theorem dL_law_840 : decode cL_law 840 = .ok (.aload_n 0, 1) := by decide +kernel
theorem dL_law_841 : decode cL_law 841 = .ok (.iload_n 3, 1) := by decide +kernel
theorem dL_law_842 : decode cL_law 842 = .ok (.iconst 1, 1) := by decide +kernel
theorem dL_law_843 : decode cL_law 843 = .ok (.iadd, 1) := by decide +kernel
theorem dL_law_844 : decode cL_law 844 = .ok (.iaload, 1) := by decide +kernel
theorem dL_law_845 : decode cL_law 845 = .ok (.invokevirtual 95, 3) := by decide +kernel
theorem dL_law_848 : decode cL_law 848 = .ok (.aload_n 2, 1) := by decide +kernel
theorem dL_law_849 : decode cL_law 849 = .ok (.aload_n 0, 1) := by decide +kernel
theorem dL_law_850 : decode cL_law 850 = .ok (.iload_n 3, 1) := by decide +kernel
theorem dL_law_851 : decode cL_law 851 = .ok (.iconst 1, 1) := by decide +kernel
theorem dL_law_852 : decode cL_law 852 = .ok (.iadd, 1) := by decide +kernel
theorem dL_law_853 : decode cL_law 853 = .ok (.iaload, 1) := by decide +kernel
theorem dL_law_854 : decode cL_law 854 = .ok (.invokevirtual 98, 3) := by decide +kernel
theorem dL_law_857 : decode cL_law 857 = .ok (.if_icmp .eq 95, 3) := by decide +kernel
theorem dL_law_860 : decode cL_law 860 = .ok (.iconst 0, 1) := by decide +kernel
theorem dL_law_861 : decode cL_law 861 = .ok (.ireturn, 1) := by decide +kernel
theorem dL_law_862 : decode cL_law 862 = .ok (.aload_n 1, 1) := by decide +kernel
theorem dL_law_863 : decode cL_law 863 = .ok (.aload_n 0, 1) := by decide +kernel
theorem dL_law_864 : decode cL_law 864 = .ok (.iload_n 3, 1) := by decide +kernel
theorem dL_law_865 : decode cL_law 865 = .ok (.iconst 1, 1) := by decide +kernel
theorem dL_law_866 : decode cL_law 866 = .ok (.iadd, 1) := by decide +kernel
theorem dL_law_867 : decode cL_law 867 = .ok (.iaload, 1) := by decide +kernel
theorem dL_law_868 : decode cL_law 868 = .ok (.invokevirtual 99, 3) := by decide +kernel
theorem dL_law_871 : decode cL_law 871 = .ok (.aload_n 2, 1) := by decide +kernel
theorem dL_law_872 : decode cL_law 872 = .ok (.aload_n 0, 1) := by decide +kernel
theorem dL_law_873 : decode cL_law 873 = .ok (.iload_n 3, 1) := by decide +kernel
theorem dL_law_874 : decode cL_law 874 = .ok (.iconst 1, 1) := by decide +kernel
theorem dL_law_875 : decode cL_law 875 = .ok (.iadd, 1) := by decide +kernel
theorem dL_law_876 : decode cL_law 876 = .ok (.iaload, 1) := by decide +kernel
theorem dL_law_877 : decode cL_law 877 = .ok (.invokevirtual 103, 3) := by decide +kernel
theorem dL_law_880 : decode cL_law 880 = .ok (.lcmp, 1) := by decide +kernel
theorem dL_law_881 : decode cL_law 881 = .ok (.ifCond .eq 71, 3) := by decide +kernel
theorem dL_law_884 : decode cL_law 884 = .ok (.iconst 0, 1) := by decide +kernel
theorem dL_law_885 : decode cL_law 885 = .ok (.ireturn, 1) := by decide +kernel
theorem dL_law_886 : decode cL_law 886 = .ok (.aload_n 1, 1) := by decide +kernel
theorem dL_law_887 : decode cL_law 887 = .ok (.aload_n 0, 1) := by decide +kernel
theorem dL_law_888 : decode cL_law 888 = .ok (.iload_n 3, 1) := by decide +kernel
theorem dL_law_889 : decode cL_law 889 = .ok (.iconst 1, 1) := by decide +kernel
theorem dL_law_890 : decode cL_law 890 = .ok (.iadd, 1) := by decide +kernel
theorem dL_law_891 : decode cL_law 891 = .ok (.iaload, 1) := by decide +kernel
theorem dL_law_892 : decode cL_law 892 = .ok (.aload_n 0, 1) := by decide +kernel
theorem dL_law_893 : decode cL_law 893 = .ok (.iload_n 3, 1) := by decide +kernel
theorem dL_law_894 : decode cL_law 894 = .ok (.iconst 2, 1) := by decide +kernel
theorem dL_law_895 : decode cL_law 895 = .ok (.iadd, 1) := by decide +kernel
theorem dL_law_896 : decode cL_law 896 = .ok (.iaload, 1) := by decide +kernel
theorem dL_law_897 : decode cL_law 897 = .ok (.invokevirtual 104, 3) := by decide +kernel
theorem dL_law_900 : decode cL_law 900 = .ok (.aload_n 2, 1) := by decide +kernel
theorem dL_law_901 : decode cL_law 901 = .ok (.aload_n 0, 1) := by decide +kernel
theorem dL_law_902 : decode cL_law 902 = .ok (.iload_n 3, 1) := by decide +kernel
theorem dL_law_903 : decode cL_law 903 = .ok (.iconst 1, 1) := by decide +kernel
theorem dL_law_904 : decode cL_law 904 = .ok (.iadd, 1) := by decide +kernel
theorem dL_law_905 : decode cL_law 905 = .ok (.iaload, 1) := by decide +kernel
theorem dL_law_906 : decode cL_law 906 = .ok (.aload_n 0, 1) := by decide +kernel
theorem dL_law_907 : decode cL_law 907 = .ok (.iload_n 3, 1) := by decide +kernel
theorem dL_law_908 : decode cL_law 908 = .ok (.iconst 2, 1) := by decide +kernel
theorem dL_law_909 : decode cL_law 909 = .ok (.iadd, 1) := by decide +kernel
theorem dL_law_910 : decode cL_law 910 = .ok (.iaload, 1) := by decide +kernel
theorem dL_law_911 : decode cL_law 911 = .ok (.invokevirtual 107, 3) := by decide +kernel
theorem dL_law_914 : decode cL_law 914 = .ok (.if_icmp .eq 38, 3) := by decide +kernel
theorem dL_law_917 : decode cL_law 917 = .ok (.iconst 0, 1) := by decide +kernel
theorem dL_law_918 : decode cL_law 918 = .ok (.ireturn, 1) := by decide +kernel
theorem dL_law_919 : decode cL_law 919 = .ok (.aload_n 1, 1) := by decide +kernel
theorem dL_law_920 : decode cL_law 920 = .ok (.aload_n 0, 1) := by decide +kernel
theorem dL_law_921 : decode cL_law 921 = .ok (.iload_n 3, 1) := by decide +kernel
theorem dL_law_922 : decode cL_law 922 = .ok (.iconst 1, 1) := by decide +kernel
theorem dL_law_923 : decode cL_law 923 = .ok (.iadd, 1) := by decide +kernel
theorem dL_law_924 : decode cL_law 924 = .ok (.iaload, 1) := by decide +kernel
theorem dL_law_925 : decode cL_law 925 = .ok (.aload_n 0, 1) := by decide +kernel
theorem dL_law_926 : decode cL_law 926 = .ok (.iload_n 3, 1) := by decide +kernel
theorem dL_law_927 : decode cL_law 927 = .ok (.iconst 2, 1) := by decide +kernel
theorem dL_law_928 : decode cL_law 928 = .ok (.iadd, 1) := by decide +kernel
theorem dL_law_929 : decode cL_law 929 = .ok (.iaload, 1) := by decide +kernel
theorem dL_law_930 : decode cL_law 930 = .ok (.invokevirtual 108, 3) := by decide +kernel
theorem dL_law_933 : decode cL_law 933 = .ok (.aload_n 2, 1) := by decide +kernel
theorem dL_law_934 : decode cL_law 934 = .ok (.aload_n 0, 1) := by decide +kernel
theorem dL_law_935 : decode cL_law 935 = .ok (.iload_n 3, 1) := by decide +kernel
theorem dL_law_936 : decode cL_law 936 = .ok (.iconst 1, 1) := by decide +kernel
theorem dL_law_937 : decode cL_law 937 = .ok (.iadd, 1) := by decide +kernel
theorem dL_law_938 : decode cL_law 938 = .ok (.iaload, 1) := by decide +kernel
theorem dL_law_939 : decode cL_law 939 = .ok (.aload_n 0, 1) := by decide +kernel
theorem dL_law_940 : decode cL_law 940 = .ok (.iload_n 3, 1) := by decide +kernel
theorem dL_law_941 : decode cL_law 941 = .ok (.iconst 2, 1) := by decide +kernel
theorem dL_law_942 : decode cL_law 942 = .ok (.iadd, 1) := by decide +kernel
theorem dL_law_943 : decode cL_law 943 = .ok (.iaload, 1) := by decide +kernel
theorem dL_law_944 : decode cL_law 944 = .ok (.invokevirtual 111, 3) := by decide +kernel
theorem dL_law_947 : decode cL_law 947 = .ok (.if_icmp .eq 5, 3) := by decide +kernel
theorem dL_law_950 : decode cL_law 950 = .ok (.iconst 0, 1) := by decide +kernel
theorem dL_law_951 : decode cL_law 951 = .ok (.ireturn, 1) := by decide +kernel
theorem dL_law_952 : decode cL_law 952 = .ok (.iinc 3 6, 3) := by decide +kernel
theorem dL_law_955 : decode cL_law 955 = .ok (.goto (-937), 3) := by decide +kernel
theorem dL_law_958 : decode cL_law 958 = .ok (.iconst 1, 1) := by decide +kernel
theorem dL_law_959 : decode cL_law 959 = .ok (.ireturn, 1) := by decide +kernel
end
section
/-! THE STATE, as numbers: int variables, long variables, int rows, long rows -/
abbrev zS : Type := (Nat → Int32) × (Nat → Int64) × (Nat → Nat → Int32) × (Nat → Nat → Int64)
def si (σ : zS) (k : Nat) : Int32 := σ.1 k
def sl (σ : zS) (k : Nat) : Int64 := σ.2.1 k
def sa (σ : zS) (k : Nat) : Nat → Int32 := σ.2.2.1 k
def sm (σ : zS) (k : Nat) : Nat → Int64 := σ.2.2.2 k
def ui (σ : zS) (k : Nat) (v : Int32) : zS := (va_up σ.1 k v, σ.2)
def ul (σ : zS) (k : Nat) (v : Int64) : zS := (σ.1, va_up σ.2.1 k v, σ.2.2)
def ua (σ : zS) (k : Nat) (f : Nat → Int32) : zS := (σ.1, σ.2.1, va_up σ.2.2.1 k f, σ.2.2.2)
def um (σ : zS) (k : Nat) (f : Nat → Int64) : zS := (σ.1, σ.2.1, σ.2.2.1, va_up σ.2.2.2 k f)
theorem si_ui (σ : zS) (k j : Nat) (v : Int32) : si (ui σ k v) j = if j = k then v else si σ j := rfl
theorem si_ui_s (σ : zS) (k : Nat) (v : Int32) : si (ui σ k v) k = v := if_pos rfl
theorem si_ui_n (σ : zS) (k j : Nat) (v : Int32) (h : ¬ j = k) : si (ui σ k v) j = si σ j := if_neg h
theorem si_ul (σ : zS) (k j : Nat) (v : Int64) : si (ul σ k v) j = si σ j := rfl
theorem si_ua (σ : zS) (k j : Nat) (v : Nat → Int32) : si (ua σ k v) j = si σ j := rfl
theorem si_um (σ : zS) (k j : Nat) (v : Nat → Int64) : si (um σ k v) j = si σ j := rfl
theorem sl_ui (σ : zS) (k j : Nat) (v : Int32) : sl (ui σ k v) j = sl σ j := rfl
theorem sl_ul (σ : zS) (k j : Nat) (v : Int64) : sl (ul σ k v) j = if j = k then v else sl σ j := rfl
theorem sl_ul_s (σ : zS) (k : Nat) (v : Int64) : sl (ul σ k v) k = v := if_pos rfl
theorem sl_ul_n (σ : zS) (k j : Nat) (v : Int64) (h : ¬ j = k) : sl (ul σ k v) j = sl σ j := if_neg h
theorem sl_ua (σ : zS) (k j : Nat) (v : Nat → Int32) : sl (ua σ k v) j = sl σ j := rfl
theorem sl_um (σ : zS) (k j : Nat) (v : Nat → Int64) : sl (um σ k v) j = sl σ j := rfl
theorem sa_ui (σ : zS) (k j : Nat) (v : Int32) : sa (ui σ k v) j = sa σ j := rfl
theorem sa_ul (σ : zS) (k j : Nat) (v : Int64) : sa (ul σ k v) j = sa σ j := rfl
theorem sa_ua (σ : zS) (k j : Nat) (v : Nat → Int32) : sa (ua σ k v) j = if j = k then v else sa σ j := rfl
theorem sa_ua_s (σ : zS) (k : Nat) (v : Nat → Int32) : sa (ua σ k v) k = v := if_pos rfl
theorem sa_ua_n (σ : zS) (k j : Nat) (v : Nat → Int32) (h : ¬ j = k) : sa (ua σ k v) j = sa σ j := if_neg h
theorem sa_um (σ : zS) (k j : Nat) (v : Nat → Int64) : sa (um σ k v) j = sa σ j := rfl
theorem sm_ui (σ : zS) (k j : Nat) (v : Int32) : sm (ui σ k v) j = sm σ j := rfl
theorem sm_ul (σ : zS) (k j : Nat) (v : Int64) : sm (ul σ k v) j = sm σ j := rfl
theorem sm_ua (σ : zS) (k j : Nat) (v : Nat → Int32) : sm (ua σ k v) j = sm σ j := rfl
theorem sm_um (σ : zS) (k j : Nat) (v : Nat → Int64) : sm (um σ k v) j = if j = k then v else sm σ j := rfl
theorem sm_um_s (σ : zS) (k : Nat) (v : Nat → Int64) : sm (um σ k v) k = v := if_pos rfl
theorem sm_um_n (σ : zS) (k j : Nat) (v : Nat → Int64) (h : ¬ j = k) : sm (um σ k v) j = sm σ j := if_neg h
theorem zS_ext {σ τ : zS} (h1 : ∀ k, si σ k = si τ k) (h2 : ∀ k, sl σ k = sl τ k) (h3 : ∀ k, sa σ k = sa τ k) (h4 : ∀ k, sm σ k = sm τ k) : σ = τ := by
  obtain ⟨a, b, c, d⟩ := σ
  obtain ⟨a', b', c', d'⟩ := τ
  have e1 : a = a' := funext h1
  have e2 : b = b' := funext h2
  have e3 : c = c' := funext h3
  have e4 : d = d' := funext h4
  subst e1; subst e2; subst e3; subst e4
  rfl
/-! THE PLACES of the cells -/
abbrev zG : Type := (Nat → ClassId) × (Nat → Nat → Nat) × (ClassId × ClassId × ClassId) × (Nat → Nat)
def zD (gg : zG) : va_G := (gg.1, gg.2.1)
def zI (gg : zG) : ClassId := gg.2.2.1.1
def zJ (gg : zG) : ClassId := gg.2.2.1.2.1
def zQ (gg : zG) : ClassId := gg.2.2.1.2.2
def zad (gg : zG) (i : Nat) : Nat := gg.2.2.2 i
def zo (gg : zG) : Nat := zad gg 0
def zv (gg : zG) : Nat := zad gg 1
def zc (gg : zG) (k : Nat) : Nat := zad gg (2 + k)
def zr (gg : zG) (j : Nat) : Nat := zad gg (9 + j)
def zm (gg : zG) (j : Nat) : Nat := zad gg (39 + j)
def zf (gg : zG) : Nat := zad gg 42
def zn (gg : zG) : Nat := zad gg 43
def zM (gg : zG) : Nat := zad gg 44
def zlen (j : Nat) : Nat := if j < 21 then 16 else if j = 21 then 17 else if j = 22 then 32 else if j = 23 then 6 else if j < 27 then 96 else if j = 27 then 17 else if j = 28 then 40 else 17
theorem zlen_c {j : Nat} (h : j < 21) : zlen j = 16 := if_pos h
theorem zlen_lt (j : Nat) : zlen j < 2 ^ 31 := by unfold zlen; repeat' split
                                                  all_goals omega
def zE (gg : zG) (σ : zS) (i : Nat) : va_E :=
  if i < 9 then
    if i = 0 then .inr (3, [.ref (zv gg), .ref (zc gg 6), .ref (zf gg), .ref (zn gg), .ref (zr gg 21), .int (si σ 7)])
    else if i = 1 then .inl (zQ gg, 6, .inr (.inr (.inr (.inr (fun j => some (zc gg j))))))
    else .inr (0, [.ref (zr gg (i - 2)), .ref (zr gg (7 + (i - 2))), .ref (zr gg (14 + (i - 2))), .int (si σ (i - 2))])
  else if i < 39 then .inl (zI gg, zlen (i - 9), .inl (sa σ (i - 9)))
  else if i < 42 then .inl (zJ gg, 16, .inr (.inl (sm σ (i - 39))))
  else if i = 42 then .inr (2, [.ref (zr gg 22), .int (si σ 8), .long (sl σ 0), .long (sl σ 1), .long (sl σ 2)])
  else if i = 43 then .inr (1, [.int (si σ 9), .int (si σ 10)])
  else .inr (4, [.ref (zr gg 23), .ref (zr gg 24), .ref (zr gg 25), .ref (zr gg 26), .int (si σ 11), .ref (zr gg 27), .int (si σ 12), .ref (zm gg 0), .ref (zm gg 1), .ref (zm gg 2), .int (si σ 13), .ref (zr gg 28), .ref (zr gg 29)])
def zW (gg : zG) (σ : zS) : va_W := (List.range 45).map (fun i => (zad gg i, zE gg σ i))
theorem zW_get (gg : zG) (σ : zS) {i : Nat} (h : i < 45) : (zW gg σ)[i]? = some (zad gg i, zE gg σ i) := by
  unfold zW
  rw [List.getElem?_map, List.getElem?_range h]
  rfl
theorem zW_set {gg : zG} {σ σ' : zS} {i : Nat} {e : va_E} (h : i < 45) (he : zE gg σ' i = e) (hn : ∀ j, j < 45 → ¬ j = i → zE gg σ' j = zE gg σ j) : (zW gg σ).set i (zad gg i, e) = zW gg σ' := by
  apply List.ext_getElem?
  intro j
  by_cases hj : j < 45
  · rw [zW_get gg σ' hj, List.getElem?_set]
    by_cases q : i = j
    · subst q
      rw [if_pos rfl, if_pos (by simp [zW]; exact hj), he]
    · rw [if_neg q, zW_get gg σ hj, hn j hj (fun z => q z.symm)]
  · rw [List.getElem?_eq_none (by simp [zW]; omega), List.getElem?_eq_none (by simp [zW]; omega)]
theorem zE_c (gg : zG) (σ : zS) {k : Nat} (h : k < 7) : zE gg σ (2 + k) = .inr (0, [.ref (zr gg k), .ref (zr gg (7 + k)), .ref (zr gg (14 + k)), .int (si σ k)]) := by
  unfold zE
  rw [if_pos (by omega), if_neg (by omega), if_neg (by omega), Nat.add_sub_cancel_left]
theorem zE_r (gg : zG) (σ : zS) {j : Nat} (h : j < 30) : zE gg σ (9 + j) = .inl (zI gg, zlen j, .inl (sa σ j)) := by
  unfold zE
  rw [if_neg (by omega), if_pos (by omega), Nat.add_sub_cancel_left]
theorem zE_m (gg : zG) (σ : zS) {j : Nat} (h : j < 3) : zE gg σ (39 + j) = .inl (zJ gg, 16, .inr (.inl (sm σ j))) := by
  unfold zE
  rw [if_neg (by omega), if_neg (by omega), if_pos (by omega), Nat.add_sub_cancel_left]
def zA (gg : zG) (q : Nat) : Prop := ∃ i, i < 45 ∧ q = zad gg i
def zt (gg : zG) : List (ClassId × FieldType) := [(zI gg, .int), (zJ gg, .long), (zQ gg, .object RX0)]
def zNest : Cond → Bool
  | .fieldLinkNest .. => true
  | .methodLinkNest .. => true
  | _ => false
def zT : List Cond := lw_tbl.filter goodWord
def zN : List Cond := lw_tbl.filter zNest
def zK (gg : zG) (U : State) : Prop := va_K (zD gg) vwCl (zt gg) U ∧ (∀ w ∈ zN, va_Nw w U) ∧ ∀ i j, i < 45 → j < 45 → zad gg i = zad gg j → i = j
theorem zK.moved {gg : zG} {u U : State} (hW : u.WarmedH U.vm) (h : zK gg u) : zK gg U := by
  refine ⟨va_K.moved hW.alike h.1, fun w hw => ?_, h.2.2⟩
  have h1 := h.2.1 w hw
  have h2 := (List.mem_filter.mp hw).2
  cases w <;> first | exact va_Nw.warmF hW h1 | exact va_Nw.warmM hW h1 | exact absurd h2 Bool.false_ne_true
theorem zK.calling {gg : zG} {U : State} {g : JFrame} {mk : MethodId} {a : Array Value} (h : zK gg U) : zK gg (U.calling g mk a) := by
  refine ⟨va_K.moved (u := U) (U := U.calling g mk a) (Vm.Alike.refl U.vm) h.1, fun w hw => ?_, h.2.2⟩
  have h1 := h.2.1 w hw
  have h2 := (List.mem_filter.mp hw).2
  have h3 : w.onTables = true := by cases w <;> first | rfl | exact absurd h2 Bool.false_ne_true
  exact va_Nw.same (u := U) h3 rfl h1
theorem zD_of {gg : zG} {σ : zS} {A : Nat → Prop} (h : ∀ i j, i < 45 → j < 45 → zad gg i = zad gg j → i = j) (hA : ∀ i, i < 45 → A (zad gg i)) : va_D A (zW gg σ) := by
  have lt : ∀ (k : Nat) (q : Nat × va_E), (zW gg σ)[k]? = some q → k < 45 ∧ q.1 = zad gg k := fun k q hk => by
    have h1 : k < 45 := by
      have := (List.getElem?_eq_some_iff.mp hk).1
      simpa [zW] using this
    rw [zW_get gg σ h1] at hk
    exact ⟨h1, by rw [← Option.some.inj hk]⟩
  exact ⟨fun i j p q hi hj e => h i j (lt i p hi).1 (lt j q hj).1 (by rw [← (lt i p hi).2, ← (lt j q hj).2, e]), fun k q hk => by rw [(lt k q hk).2]; exact hA k (lt k q hk).1⟩
/-! THE JUDGEMENT: from these locals, this operand stack and this state, the machine comes to Q -/
abbrev zX : Type := (Program × Launch × Env × Room) × (State × MethodId × Array Value × List Frame) × (Method × Code × Nat × Nat) × (Nat → Prop)
def zL (ls : Array Slot) (lv : List (Option Value)) : Prop := ls.size = lv.length ∧ lv_wf ls ∧ ∀ (i : Nat) (v : Value), lv[i]? = some (some v) → ls[i]? = some (.val v)
def J (cx : zX) (gg : zG) (Q : State → Prop) (σ : zS) (pc : Nat) (lv : List (Option Value)) (st : List Value) : Prop :=
  ∀ (H : Heap) (locs : List Loc) (ls : Array Slot), va_P (zD gg) vwCl (zW gg σ) H → va_S cx.2.2.2 cx.2.1.1.heap H locs → zL ls lv →
    W cx.1.1 cx.1.2.1 cx.1.2.2.1 cx.1.2.2.2 cx.2.1.1 cx.2.1.2.1 cx.2.1.2.2.1 cx.2.1.2.2.2 cx.2.2.1.1 cx.2.2.1.2.1 H locs cx.2.2.1.2.2.1 cx.2.2.1.2.2.2 Q (F0 cx.2.1.2.1 pc ls st)
def zOK (cx : zX) (gg : zG) (cc : ByteArray) (own : String) (nL : Nat) : Prop :=
  cx.1.1.tables.exec = Jvm.exec ∧ cx.2.2.1.2.1.code = cc ∧ cx.2.2.1.2.1.maxLocals = nL ∧ cx.2.1.1.vm.findClass own = some cx.2.1.2.1.cls ∧ (∀ w ∈ zT, w.before cx.2.1.2.2.1 cx.2.1.1 = true) ∧ zK gg cx.2.1.1 ∧ (∀ i, i < 45 → cx.2.2.2 (zad gg i)) ∧ cx.2.2.1.1.locks = false
def zpairs : Nat → List (Option Value) → List (Nat × Value)
  | _, [] => []
  | i, none :: t => zpairs (i + 1) t
  | i, some v :: t => (i, v) :: zpairs (i + 1) t
theorem zpairs_mem : ∀ (lv : List (Option Value)) (i : Nat) (q : Nat × Value), q ∈ zpairs i lv ↔ ∃ k, lv[k]? = some (some q.2) ∧ q.1 = i + k
  | [], i, q => by simp [zpairs]
  | none :: t, i, q => by
    rw [zpairs, zpairs_mem t (i + 1) q]
    constructor
    · rintro ⟨k, h1, h2⟩
      exact ⟨k + 1, by simpa using h1, by omega⟩
    · rintro ⟨k, h1, h2⟩
      cases k with
      | zero => simp at h1
      | succ k => exact ⟨k, by simpa using h1, by omega⟩
  | some v :: t, i, q => by
    rw [zpairs, List.mem_cons, zpairs_mem t (i + 1) q]
    constructor
    · rintro (rfl | ⟨k, h1, h2⟩)
      · exact ⟨0, by simp, by simp⟩
      · exact ⟨k + 1, by simpa using h1, by omega⟩
    · rintro ⟨k, h1, h2⟩
      cases k with
      | zero =>
        refine Or.inl ?_
        have h3 : v = q.2 := by simpa using h1
        exact Prod.ext (by simpa using h2) h3.symm
      | succ k => exact Or.inr ⟨k, by simpa using h1, by omega⟩
theorem zL.has {ls : Array Slot} {lv : List (Option Value)} (h : zL ls lv) : lv_has ls lv.length (zpairs 0 lv) :=
  ⟨h.1, h.2.1, fun q hq => by obtain ⟨k, h1, h2⟩ := (zpairs_mem lv 0 q).mp hq; rw [h2, Nat.zero_add]; exact h.2.2 k q.2 h1⟩
theorem zL.set1 {ls : Array Slot} {lv : List (Option Value)} {i : Nat} {v : Value} (hi : i < lv.length) (hp : ∀ (j : Nat) (w : Value), j + 1 = i → lv[j]? = some (some w) → w.category = 1)
    (h : lv_has ls lv.length ((i, v) :: (zpairs 0 lv).filter (fun q => !(q.1 == i) && !(q.1 + 1 == i && q.2.category == 2)))) : zL ls (lv.set i (some v)) := by
  refine ⟨by rw [List.length_set]; exact h.1, h.2.1, fun j w hj => ?_⟩
  rw [List.getElem?_set] at hj
  by_cases q : i = j
  · subst q
    rw [if_pos rfl, if_pos hi] at hj
    have hv : v = w := Option.some.inj (Option.some.inj hj)
    subst hv
    exact h.2.2 (i, v) List.mem_cons_self
  · rw [if_neg q] at hj
    refine h.2.2 (j, w) (List.mem_cons_of_mem _ (List.mem_filter.mpr ⟨(zpairs_mem lv 0 (j, w)).mpr ⟨j, hj, by simp⟩, ?_⟩))
    have h1 : ¬ j = i := fun z => q z.symm
    by_cases h2 : j + 1 = i
    · have h3 := hp j w h2 hj
      simp [h1, h3]
    · simp [h1, h2]
theorem zL.set2 {ls : Array Slot} {lv : List (Option Value)} {i : Nat} {v : Value} (hi : i + 1 < lv.length) (hp : ∀ (j : Nat) (w : Value), j + 1 = i → lv[j]? = some (some w) → w.category = 1)
    (h : lv_has ls lv.length ((i, v) :: (zpairs 0 lv).filter (fun q => !(q.1 == i) && (!(q.1 == i + 1) && !(q.1 + 1 == i && q.2.category == 2))))) : zL ls ((lv.set i (some v)).set (i + 1) none) := by
  refine ⟨by rw [List.length_set, List.length_set]; exact h.1, h.2.1, fun j w hj => ?_⟩
  rw [List.getElem?_set, List.getElem?_set] at hj
  by_cases q1 : i + 1 = j
  · subst q1
    rw [if_pos rfl, if_pos (by rw [List.length_set]; exact hi)] at hj
    cases hj
  · rw [if_neg q1] at hj
    by_cases q : i = j
    · subst q
      rw [if_pos rfl, if_pos (by omega)] at hj
      have hv : v = w := Option.some.inj (Option.some.inj hj)
      subst hv
      exact h.2.2 (i, v) List.mem_cons_self
    · rw [if_neg q] at hj
      refine h.2.2 (j, w) (List.mem_cons_of_mem _ (List.mem_filter.mpr ⟨(zpairs_mem lv 0 (j, w)).mpr ⟨j, hj, by simp⟩, ?_⟩))
      have h1 : ¬ j = i := fun z => q z.symm
      have h4 : ¬ j = i + 1 := fun z => q1 z.symm
      by_cases h2 : j + 1 = i
      · have h3 := hp j w h2 hj
        simp [h1, h3, h4]
      · simp [h1, h2, h4]
def zc1 : Option Value → Bool
  | none => true
  | some v => v.category == 1
theorem zc1_spec {x : Option Value} {w : Value} (h : zc1 x = true) (e : x = some w) : w.category = 1 := by
  subst e
  simpa [zc1] using h
theorem zpre {lv : List (Option Value)} {i : Nat} {x : Option Value} (h : zc1 x = true) (e : lv[i]? = some x) : ∀ (j : Nat) (w : Value), j + 1 = i + 1 → lv[j]? = some (some w) → w.category = 1 := by
  intro j w hj hw
  have : j = i := by omega
  subst this
  exact zc1_spec h (Option.some.inj (e.symm.trans hw))
/-- fewer locals are known -/
def zle : List (Option Value) → List (Option Value) → Prop
  | [], [] => True
  | none :: t, _ :: u => zle t u
  | some v :: t, x :: u => x = some v ∧ zle t u
  | _, _ => False
theorem zle_nil : zle [] [] := trivial
theorem zle_n {t u : List (Option Value)} {x : Option Value} (h : zle t u) : zle (none :: t) (x :: u) := h
theorem zle_s {t u : List (Option Value)} {v : Value} (h : zle t u) : zle (some v :: t) (some v :: u) := ⟨rfl, h⟩
theorem zle_spec : ∀ (l' l : List (Option Value)), zle l' l → l'.length = l.length ∧ ∀ (i : Nat) (v : Value), l'[i]? = some (some v) → l[i]? = some (some v)
  | [], [], _ => ⟨rfl, fun _ _ h => h⟩
  | none :: t, x :: u, h => by
    have ih := zle_spec t u h
    refine ⟨by simp [ih.1], fun i v hi => ?_⟩
    cases i with
    | zero => simp at hi
    | succ i => simpa using ih.2 i v (by simpa using hi)
  | some w :: t, x :: u, h => by
    have ih := zle_spec t u h.2
    refine ⟨by simp [ih.1], fun i v hi => ?_⟩
    cases i with
    | zero => rw [h.1]; simpa using hi
    | succ i => simpa using ih.2 i v (by simpa using hi)
  | [], _ :: _, h => h.elim
  | none :: _, [], h => h.elim
  | some _ :: _, [], h => h.elim
section ZJ
variable {cx : zX} {gg : zG} {Q : State → Prop} {σ : zS} {pc : Nat} {lv : List (Option Value)} {st : List Value} {cc : ByteArray} {own : String} {nL : Nat}
theorem J_weak {lv' : List (Option Value)} (h : zle lv' lv) (k : J cx gg Q σ pc lv' st) : J cx gg Q σ pc lv st := by
  intro H locs ls hP hS hl
  have h1 := zle_spec _ _ h
  exact k H locs ls hP hS ⟨by rw [h1.1]; exact hl.1, hl.2.1, fun i v hi => hl.2.2 i v (h1.2 i v hi)⟩
theorem J_eq {σ' : zS} (h : σ = σ') (k : J cx gg Q σ' pc lv st) : J cx gg Q σ pc lv st := h ▸ k
theorem J_topi {x y : Int32} (h : x = y) (k : J cx gg Q σ pc lv (.int y :: st)) : J cx gg Q σ pc lv (.int x :: st) := h ▸ k
theorem J_topl {x y : Int64} (h : x = y) (k : J cx gg Q σ pc lv (.long y :: st)) : J cx gg Q σ pc lv (.long x :: st) := h ▸ k
theorem J_nami {x : Int32} (k : ∀ y : Int32, y = x → J cx gg Q σ pc lv (.int y :: st)) : J cx gg Q σ pc lv (.int x :: st) := k x rfl
theorem J_naml {x : Int64} (k : ∀ y : Int64, y = x → J cx gg Q σ pc lv (.long y :: st)) : J cx gg Q σ pc lv (.long x :: st) := k x rfl
theorem J_iconst (hc : zOK cx gg cc own nL) {n : Int} {v : Int32} (hd : decode cc pc = .ok (.iconst n, 1)) (hv : Int32.ofInt n = v) (k : J cx gg Q σ (pc + 1) lv (.int v :: st)) : J cx gg Q σ pc lv (st) :=
  fun H locs ls hP hS hl => lv_iconst hc.1 hc.2.1 hd hv (k H locs ls hP hS hl)
theorem J_bipush (hc : zOK cx gg cc own nL) {n : Int} {v : Int32} (hd : decode cc pc = .ok (.bipush n, 2)) (hv : (Int8.ofInt n).toInt32 = v) (k : J cx gg Q σ (pc + 2) lv (.int v :: st)) : J cx gg Q σ pc lv (st) :=
  fun H locs ls hP hS hl => lv_bipush hc.1 hc.2.1 hd hv (k H locs ls hP hS hl)
theorem J_sipush (hc : zOK cx gg cc own nL) {n : Int} {v : Int32} (hd : decode cc pc = .ok (.sipush n, 3)) (hv : (Int16.ofInt n).toInt32 = v) (k : J cx gg Q σ (pc + 3) lv (.int v :: st)) : J cx gg Q σ pc lv (st) :=
  fun H locs ls hP hS hl => lv_sipush hc.1 hc.2.1 hd hv (k H locs ls hP hS hl)
theorem J_lconst (hc : zOK cx gg cc own nL) {n : Fin 2} {v : Int64} (hd : decode cc pc = .ok (.lconst n, 1)) (hv : Int64.ofNat (n : Nat) = v) (k : J cx gg Q σ (pc + 1) lv (.long v :: st)) : J cx gg Q σ pc lv (st) :=
  fun H locs ls hP hS hl => lv_lconst hc.1 hc.2.1 hd hv (k H locs ls hP hS hl)
theorem J_iadd (hc : zOK cx gg cc own nL) {x y : Int32} (hd : decode cc pc = .ok (.iadd, 1)) (k : J cx gg Q σ (pc + 1) lv (.int (x + y) :: st)) : J cx gg Q σ pc lv (.int y :: .int x :: st) :=
  fun H locs ls hP hS hl => lv_iadd hc.1 hc.2.1 hd (k H locs ls hP hS hl)
theorem J_isub (hc : zOK cx gg cc own nL) {x y : Int32} (hd : decode cc pc = .ok (.isub, 1)) (k : J cx gg Q σ (pc + 1) lv (.int (x - y) :: st)) : J cx gg Q σ pc lv (.int y :: .int x :: st) :=
  fun H locs ls hP hS hl => lv_isub hc.1 hc.2.1 hd (k H locs ls hP hS hl)
theorem J_imul (hc : zOK cx gg cc own nL) {x y : Int32} (hd : decode cc pc = .ok (.imul, 1)) (k : J cx gg Q σ (pc + 1) lv (.int (x * y) :: st)) : J cx gg Q σ pc lv (.int y :: .int x :: st) :=
  fun H locs ls hP hS hl => lv_imul hc.1 hc.2.1 hd (k H locs ls hP hS hl)
theorem J_iand (hc : zOK cx gg cc own nL) {x y : Int32} (hd : decode cc pc = .ok (.iand, 1)) (k : J cx gg Q σ (pc + 1) lv (.int (x &&& y) :: st)) : J cx gg Q σ pc lv (.int y :: .int x :: st) :=
  fun H locs ls hP hS hl => lv_iand hc.1 hc.2.1 hd (k H locs ls hP hS hl)
theorem J_ixor (hc : zOK cx gg cc own nL) {x y : Int32} (hd : decode cc pc = .ok (.ixor, 1)) (k : J cx gg Q σ (pc + 1) lv (.int (x ^^^ y) :: st)) : J cx gg Q σ pc lv (.int y :: .int x :: st) :=
  fun H locs ls hP hS hl => lv_ixor hc.1 hc.2.1 hd (k H locs ls hP hS hl)
theorem J_ladd (hc : zOK cx gg cc own nL) {x y : Int64} (hd : decode cc pc = .ok (.ladd, 1)) (k : J cx gg Q σ (pc + 1) lv (.long (x + y) :: st)) : J cx gg Q σ pc lv (.long y :: .long x :: st) :=
  fun H locs ls hP hS hl => lv_ladd hc.1 hc.2.1 hd (k H locs ls hP hS hl)
theorem J_lsub (hc : zOK cx gg cc own nL) {x y : Int64} (hd : decode cc pc = .ok (.lsub, 1)) (k : J cx gg Q σ (pc + 1) lv (.long (x - y) :: st)) : J cx gg Q σ pc lv (.long y :: .long x :: st) :=
  fun H locs ls hP hS hl => lv_lsub hc.1 hc.2.1 hd (k H locs ls hP hS hl)
theorem J_lmul (hc : zOK cx gg cc own nL) {x y : Int64} (hd : decode cc pc = .ok (.lmul, 1)) (k : J cx gg Q σ (pc + 1) lv (.long (x * y) :: st)) : J cx gg Q σ pc lv (.long y :: .long x :: st) :=
  fun H locs ls hP hS hl => lv_lmul hc.1 hc.2.1 hd (k H locs ls hP hS hl)
theorem J_lxor (hc : zOK cx gg cc own nL) {x y : Int64} (hd : decode cc pc = .ok (.lxor, 1)) (k : J cx gg Q σ (pc + 1) lv (.long (x ^^^ y) :: st)) : J cx gg Q σ pc lv (.long y :: .long x :: st) :=
  fun H locs ls hP hS hl => lv_lxor hc.1 hc.2.1 hd (k H locs ls hP hS hl)
theorem J_ineg (hc : zOK cx gg cc own nL) {x : Int32} (hd : decode cc pc = .ok (.ineg, 1)) (k : J cx gg Q σ (pc + 1) lv (.int (-x) :: st)) : J cx gg Q σ pc lv (.int x :: st) :=
  fun H locs ls hP hS hl => lv_ineg hc.1 hc.2.1 hd (k H locs ls hP hS hl)
theorem J_lneg (hc : zOK cx gg cc own nL) {x : Int64} (hd : decode cc pc = .ok (.lneg, 1)) (k : J cx gg Q σ (pc + 1) lv (.long (-x) :: st)) : J cx gg Q σ pc lv (.long x :: st) :=
  fun H locs ls hP hS hl => lv_lneg hc.1 hc.2.1 hd (k H locs ls hP hS hl)
theorem J_idiv (hc : zOK cx gg cc own nL) {x y : Int32} (hd : decode cc pc = .ok (.idiv, 1)) (hne : ¬ y = 0) (k : J cx gg Q σ (pc + 1) lv (.int (x / y) :: st)) : J cx gg Q σ pc lv (.int y :: .int x :: st) :=
  fun H locs ls hP hS hl => lv_idiv hc.1 hc.2.1 hd hne (k H locs ls hP hS hl)
theorem J_irem (hc : zOK cx gg cc own nL) {x y : Int32} (hd : decode cc pc = .ok (.irem, 1)) (hne : ¬ y = 0) (k : J cx gg Q σ (pc + 1) lv (.int (x - x / y * y) :: st)) : J cx gg Q σ pc lv (.int y :: .int x :: st) :=
  fun H locs ls hP hS hl => lv_irem hc.1 hc.2.1 hd hne (k H locs ls hP hS hl)
theorem J_ldiv (hc : zOK cx gg cc own nL) {x y : Int64} (hd : decode cc pc = .ok (.ldiv, 1)) (hne : ¬ y = 0) (k : J cx gg Q σ (pc + 1) lv (.long (x / y) :: st)) : J cx gg Q σ pc lv (.long y :: .long x :: st) :=
  fun H locs ls hP hS hl => lv_ldiv hc.1 hc.2.1 hd hne (k H locs ls hP hS hl)
theorem J_lrem (hc : zOK cx gg cc own nL) {x y : Int64} (hd : decode cc pc = .ok (.lrem, 1)) (hne : ¬ y = 0) (k : J cx gg Q σ (pc + 1) lv (.long (x - x / y * y) :: st)) : J cx gg Q σ pc lv (.long y :: .long x :: st) :=
  fun H locs ls hP hS hl => lv_lrem hc.1 hc.2.1 hd hne (k H locs ls hP hS hl)
theorem J_i2l (hc : zOK cx gg cc own nL) {x : Int32} (hd : decode cc pc = .ok (.i2l, 1)) (k : J cx gg Q σ (pc + 1) lv (.long x.toInt64 :: st)) : J cx gg Q σ pc lv (.int x :: st) :=
  fun H locs ls hP hS hl => lv_i2l hc.1 hc.2.1 hd rfl (k H locs ls hP hS hl)
theorem J_l2i (hc : zOK cx gg cc own nL) {x : Int64} (hd : decode cc pc = .ok (.l2i, 1)) (k : J cx gg Q σ (pc + 1) lv (.int x.toInt32 :: st)) : J cx gg Q σ pc lv (.long x :: st) :=
  fun H locs ls hP hS hl => lv_l2i hc.1 hc.2.1 hd rfl (k H locs ls hP hS hl)
theorem J_dup (hc : zOK cx gg cc own nL) {a : Value} (hd : decode cc pc = .ok (.dup, 1)) (ha : a.category = 1) (k : J cx gg Q σ (pc + 1) lv (a :: a :: st)) : J cx gg Q σ pc lv (a :: st) :=
  fun H locs ls hP hS hl => lv_dup hc.1 hc.2.1 hd ha (k H locs ls hP hS hl)
theorem J_dup2 (hc : zOK cx gg cc own nL) {a b : Value} (hd : decode cc pc = .ok (.dup2, 1)) (ha : a.category = 1) (hb : b.category = 1) (k : J cx gg Q σ (pc + 1) lv (a :: b :: a :: b :: st)) : J cx gg Q σ pc lv (a :: b :: st) :=
  fun H locs ls hP hS hl => lv_dup2_11 hc.1 hc.2.1 hd ha hb (k H locs ls hP hS hl)
theorem J_if_eq (hc : zOK cx gg cc own nL) {x : Int32} {off : Int} (tgt : Nat) (hd : decode cc pc = .ok (.ifCond .eq off, 3)) (ht : (pc : Int) + off = (tgt : Int)) (k1 : x = 0 → J cx gg Q σ tgt lv st) (k2 : ¬ x = 0 → J cx gg Q σ (pc + 3) lv st) : J cx gg Q σ pc lv (.int x :: st) :=
  fun H locs ls hP hS hl => lv_if_eq hc.1 hc.2.1 hd ht (fun h => k1 h H locs ls hP hS hl) (fun h => k2 h H locs ls hP hS hl)
theorem J_if_ne (hc : zOK cx gg cc own nL) {x : Int32} {off : Int} (tgt : Nat) (hd : decode cc pc = .ok (.ifCond .ne off, 3)) (ht : (pc : Int) + off = (tgt : Int)) (k1 : ¬ x = 0 → J cx gg Q σ tgt lv st) (k2 : x = 0 → J cx gg Q σ (pc + 3) lv st) : J cx gg Q σ pc lv (.int x :: st) :=
  fun H locs ls hP hS hl => lv_if_ne hc.1 hc.2.1 hd ht (fun h => k1 h H locs ls hP hS hl) (fun h => k2 h H locs ls hP hS hl)
theorem J_if_lt (hc : zOK cx gg cc own nL) {x : Int32} {off : Int} (tgt : Nat) (hd : decode cc pc = .ok (.ifCond .lt off, 3)) (ht : (pc : Int) + off = (tgt : Int)) (k1 : x < 0 → J cx gg Q σ tgt lv st) (k2 : ¬ x < 0 → J cx gg Q σ (pc + 3) lv st) : J cx gg Q σ pc lv (.int x :: st) :=
  fun H locs ls hP hS hl => lv_if_lt hc.1 hc.2.1 hd ht (fun h => k1 h H locs ls hP hS hl) (fun h => k2 h H locs ls hP hS hl)
theorem J_if_ge (hc : zOK cx gg cc own nL) {x : Int32} {off : Int} (tgt : Nat) (hd : decode cc pc = .ok (.ifCond .ge off, 3)) (ht : (pc : Int) + off = (tgt : Int)) (k1 : 0 ≤ x → J cx gg Q σ tgt lv st) (k2 : ¬ 0 ≤ x → J cx gg Q σ (pc + 3) lv st) : J cx gg Q σ pc lv (.int x :: st) :=
  fun H locs ls hP hS hl => lv_if_ge hc.1 hc.2.1 hd ht (fun h => k1 h H locs ls hP hS hl) (fun h => k2 h H locs ls hP hS hl)
theorem J_if_gt (hc : zOK cx gg cc own nL) {x : Int32} {off : Int} (tgt : Nat) (hd : decode cc pc = .ok (.ifCond .gt off, 3)) (ht : (pc : Int) + off = (tgt : Int)) (k1 : 0 < x → J cx gg Q σ tgt lv st) (k2 : ¬ 0 < x → J cx gg Q σ (pc + 3) lv st) : J cx gg Q σ pc lv (.int x :: st) :=
  fun H locs ls hP hS hl => lv_if_gt hc.1 hc.2.1 hd ht (fun h => k1 h H locs ls hP hS hl) (fun h => k2 h H locs ls hP hS hl)
theorem J_if_le (hc : zOK cx gg cc own nL) {x : Int32} {off : Int} (tgt : Nat) (hd : decode cc pc = .ok (.ifCond .le off, 3)) (ht : (pc : Int) + off = (tgt : Int)) (k1 : x ≤ 0 → J cx gg Q σ tgt lv st) (k2 : ¬ x ≤ 0 → J cx gg Q σ (pc + 3) lv st) : J cx gg Q σ pc lv (.int x :: st) :=
  fun H locs ls hP hS hl => lv_if_le hc.1 hc.2.1 hd ht (fun h => k1 h H locs ls hP hS hl) (fun h => k2 h H locs ls hP hS hl)
theorem J_icmp_eq (hc : zOK cx gg cc own nL) {x y : Int32} {off : Int} (tgt : Nat) (hd : decode cc pc = .ok (.if_icmp .eq off, 3)) (ht : (pc : Int) + off = (tgt : Int)) (k1 : x = y → J cx gg Q σ tgt lv st) (k2 : ¬ x = y → J cx gg Q σ (pc + 3) lv st) : J cx gg Q σ pc lv (.int y :: .int x :: st) :=
  fun H locs ls hP hS hl => lv_icmp_eq hc.1 hc.2.1 hd ht (fun h => k1 h H locs ls hP hS hl) (fun h => k2 h H locs ls hP hS hl)
theorem J_icmp_ne (hc : zOK cx gg cc own nL) {x y : Int32} {off : Int} (tgt : Nat) (hd : decode cc pc = .ok (.if_icmp .ne off, 3)) (ht : (pc : Int) + off = (tgt : Int)) (k1 : ¬ x = y → J cx gg Q σ tgt lv st) (k2 : x = y → J cx gg Q σ (pc + 3) lv st) : J cx gg Q σ pc lv (.int y :: .int x :: st) :=
  fun H locs ls hP hS hl => lv_icmp_ne hc.1 hc.2.1 hd ht (fun h => k1 h H locs ls hP hS hl) (fun h => k2 h H locs ls hP hS hl)
theorem J_icmp_lt (hc : zOK cx gg cc own nL) {x y : Int32} {off : Int} (tgt : Nat) (hd : decode cc pc = .ok (.if_icmp .lt off, 3)) (ht : (pc : Int) + off = (tgt : Int)) (k1 : x < y → J cx gg Q σ tgt lv st) (k2 : ¬ x < y → J cx gg Q σ (pc + 3) lv st) : J cx gg Q σ pc lv (.int y :: .int x :: st) :=
  fun H locs ls hP hS hl => lv_icmp_lt hc.1 hc.2.1 hd ht (fun h => k1 h H locs ls hP hS hl) (fun h => k2 h H locs ls hP hS hl)
theorem J_icmp_ge (hc : zOK cx gg cc own nL) {x y : Int32} {off : Int} (tgt : Nat) (hd : decode cc pc = .ok (.if_icmp .ge off, 3)) (ht : (pc : Int) + off = (tgt : Int)) (k1 : y ≤ x → J cx gg Q σ tgt lv st) (k2 : ¬ y ≤ x → J cx gg Q σ (pc + 3) lv st) : J cx gg Q σ pc lv (.int y :: .int x :: st) :=
  fun H locs ls hP hS hl => lv_icmp_ge hc.1 hc.2.1 hd ht (fun h => k1 h H locs ls hP hS hl) (fun h => k2 h H locs ls hP hS hl)
theorem J_icmp_gt (hc : zOK cx gg cc own nL) {x y : Int32} {off : Int} (tgt : Nat) (hd : decode cc pc = .ok (.if_icmp .gt off, 3)) (ht : (pc : Int) + off = (tgt : Int)) (k1 : y < x → J cx gg Q σ tgt lv st) (k2 : ¬ y < x → J cx gg Q σ (pc + 3) lv st) : J cx gg Q σ pc lv (.int y :: .int x :: st) :=
  fun H locs ls hP hS hl => lv_icmp_gt hc.1 hc.2.1 hd ht (fun h => k1 h H locs ls hP hS hl) (fun h => k2 h H locs ls hP hS hl)
theorem J_icmp_le (hc : zOK cx gg cc own nL) {x y : Int32} {off : Int} (tgt : Nat) (hd : decode cc pc = .ok (.if_icmp .le off, 3)) (ht : (pc : Int) + off = (tgt : Int)) (k1 : x ≤ y → J cx gg Q σ tgt lv st) (k2 : ¬ x ≤ y → J cx gg Q σ (pc + 3) lv st) : J cx gg Q σ pc lv (.int y :: .int x :: st) :=
  fun H locs ls hP hS hl => lv_icmp_le hc.1 hc.2.1 hd ht (fun h => k1 h H locs ls hP hS hl) (fun h => k2 h H locs ls hP hS hl)
theorem J_goto (hc : zOK cx gg cc own nL) {off : Int} (tgt : Nat) (hd : decode cc pc = .ok (.goto off, 3)) (ht : (pc : Int) + off = (tgt : Int)) (k : J cx gg Q σ tgt lv st) : J cx gg Q σ pc lv st :=
  fun H locs ls hP hS hl => lv_goto hc.1 hc.2.1 hd ht (k H locs ls hP hS hl)
theorem J_lcmp (hc : zOK cx gg cc own nL) {x y : Int64} (hd : decode cc pc = .ok (.lcmp, 1)) (k : J cx gg Q σ (pc + 1) lv (.int (lg_cmp x y) :: st)) : J cx gg Q σ pc lv (.long y :: .long x :: st) :=
  fun H locs ls hP hS hl => W.lcmp hc.1 hc.2.1 hd (k H locs ls hP hS hl)
theorem J_lcmp_eq (hc : zOK cx gg cc own nL) {x y : Int64} {off : Int} (tgt : Nat) (hd : decode cc pc = .ok (.lcmp, 1)) (hd2 : decode cc (pc + 1) = .ok (.ifCond .eq off, 3)) (ht : ((pc + 1 : Nat) : Int) + off = (tgt : Int)) (k1 : x = y → J cx gg Q σ tgt lv st) (k2 : ¬ x = y → J cx gg Q σ (pc + 4) lv st) : J cx gg Q σ pc lv (.long y :: .long x :: st) :=
  J_lcmp hc hd (J_if_eq hc tgt hd2 ht (fun h => k1 ((lg_cmp_eq x y).mp h)) (fun h => k2 (mt (lg_cmp_eq x y).mpr h)))
theorem J_lcmp_ne (hc : zOK cx gg cc own nL) {x y : Int64} {off : Int} (tgt : Nat) (hd : decode cc pc = .ok (.lcmp, 1)) (hd2 : decode cc (pc + 1) = .ok (.ifCond .ne off, 3)) (ht : ((pc + 1 : Nat) : Int) + off = (tgt : Int)) (k1 : ¬ x = y → J cx gg Q σ tgt lv st) (k2 : x = y → J cx gg Q σ (pc + 4) lv st) : J cx gg Q σ pc lv (.long y :: .long x :: st) :=
  J_lcmp hc hd (J_if_ne hc tgt hd2 ht (fun h => k1 (fun q => h ((lg_cmp_eq x y).mpr q))) (fun h => k2 ((lg_cmp_eq x y).mp h)))
theorem J_lcmp_lt (hc : zOK cx gg cc own nL) {x y : Int64} {off : Int} (tgt : Nat) (hd : decode cc pc = .ok (.lcmp, 1)) (hd2 : decode cc (pc + 1) = .ok (.ifCond .lt off, 3)) (ht : ((pc + 1 : Nat) : Int) + off = (tgt : Int)) (k1 : x < y → J cx gg Q σ tgt lv st) (k2 : ¬ x < y → J cx gg Q σ (pc + 4) lv st) : J cx gg Q σ pc lv (.long y :: .long x :: st) :=
  J_lcmp hc hd (J_if_lt hc tgt hd2 ht (fun h => k1 ((lg_cmp_lt x y).mp h)) (fun h => k2 (mt (lg_cmp_lt x y).mpr h)))
theorem J_lcmp_ge (hc : zOK cx gg cc own nL) {x y : Int64} {off : Int} (tgt : Nat) (hd : decode cc pc = .ok (.lcmp, 1)) (hd2 : decode cc (pc + 1) = .ok (.ifCond .ge off, 3)) (ht : ((pc + 1 : Nat) : Int) + off = (tgt : Int)) (k1 : y ≤ x → J cx gg Q σ tgt lv st) (k2 : ¬ y ≤ x → J cx gg Q σ (pc + 4) lv st) : J cx gg Q σ pc lv (.long y :: .long x :: st) :=
  J_lcmp hc hd (J_if_ge hc tgt hd2 ht (fun h => k1 ((lg_cmp_ge x y).mp h)) (fun h => k2 (mt (lg_cmp_ge x y).mpr h)))
theorem J_lcmp_gt (hc : zOK cx gg cc own nL) {x y : Int64} {off : Int} (tgt : Nat) (hd : decode cc pc = .ok (.lcmp, 1)) (hd2 : decode cc (pc + 1) = .ok (.ifCond .gt off, 3)) (ht : ((pc + 1 : Nat) : Int) + off = (tgt : Int)) (k1 : y < x → J cx gg Q σ tgt lv st) (k2 : ¬ y < x → J cx gg Q σ (pc + 4) lv st) : J cx gg Q σ pc lv (.long y :: .long x :: st) :=
  J_lcmp hc hd (J_if_gt hc tgt hd2 ht (fun h => k1 ((lg_cmp_gt x y).mp h)) (fun h => k2 (mt (lg_cmp_gt x y).mpr h)))
theorem J_lcmp_le (hc : zOK cx gg cc own nL) {x y : Int64} {off : Int} (tgt : Nat) (hd : decode cc pc = .ok (.lcmp, 1)) (hd2 : decode cc (pc + 1) = .ok (.ifCond .le off, 3)) (ht : ((pc + 1 : Nat) : Int) + off = (tgt : Int)) (k1 : x ≤ y → J cx gg Q σ tgt lv st) (k2 : ¬ x ≤ y → J cx gg Q σ (pc + 4) lv st) : J cx gg Q σ pc lv (.long y :: .long x :: st) :=
  J_lcmp hc hd (J_if_le hc tgt hd2 ht (fun h => k1 ((lg_cmp_le x y).mp h)) (fun h => k2 (mt (lg_cmp_le x y).mpr h)))
theorem J_iload_0 (hc : zOK cx gg cc own nL) {r : List (Option Value)} {v : Int32} (hd : decode cc pc = .ok (.iload 0, 2)) (k : J cx gg Q σ (pc + 2) (some (.int v) :: r) (.int v :: st)) : J cx gg Q σ pc (some (.int v) :: r) st :=
  fun H locs ls hP hS hl => lv_iload hc.1 hc.2.1 hd (hl.2.2 0 _ rfl) (k H locs ls hP hS hl)
theorem J_istore_0 (hc : zOK cx gg cc own nL) {y : Option Value} {r : List (Option Value)} {v : Int32} (hd : decode cc pc = .ok (.istore 0, 2)) (k : J cx gg Q σ (pc + 2) (some (.int v) :: r) st) : J cx gg Q σ pc (y :: r) (.int v :: st) :=
  fun H locs ls hP hS hl => lv_istore (i := 0) hc.1 hc.2.1 hd hl.has (by simp) rfl (fun ls' hl' => k H locs ls' hP hS (zL.set1 (by simp) (fun _ _ h => by omega) hl'))
theorem J_iloadn_0 (hc : zOK cx gg cc own nL) {r : List (Option Value)} {v : Int32} (hd : decode cc pc = .ok (.iload_n 0, 1)) (k : J cx gg Q σ (pc + 1) (some (.int v) :: r) (.int v :: st)) : J cx gg Q σ pc (some (.int v) :: r) st :=
  fun H locs ls hP hS hl => lv_iload_n hc.1 hc.2.1 hd rfl (hl.2.2 0 _ rfl) (k H locs ls hP hS hl)
theorem J_istoren_0 (hc : zOK cx gg cc own nL) {y : Option Value} {r : List (Option Value)} {v : Int32} (hd : decode cc pc = .ok (.istore_n 0, 1)) (k : J cx gg Q σ (pc + 1) (some (.int v) :: r) st) : J cx gg Q σ pc (y :: r) (.int v :: st) :=
  fun H locs ls hP hS hl => lv_istore_n (i := 0) hc.1 hc.2.1 hd rfl hl.has (by simp) rfl (fun ls' hl' => k H locs ls' hP hS (zL.set1 (by simp) (fun _ _ h => by omega) hl'))
theorem J_lload_0 (hc : zOK cx gg cc own nL) {r : List (Option Value)} {v : Int64} (hd : decode cc pc = .ok (.lload 0, 2)) (k : J cx gg Q σ (pc + 2) (some (.long v) :: r) (.long v :: st)) : J cx gg Q σ pc (some (.long v) :: r) st :=
  fun H locs ls hP hS hl => lv_lload hc.1 hc.2.1 hd (hl.2.2 0 _ rfl) (k H locs ls hP hS hl)
theorem J_lstore_0 (hc : zOK cx gg cc own nL) {y y2 : Option Value} {r : List (Option Value)} {v : Int64} (hd : decode cc pc = .ok (.lstore 0, 2)) (k : J cx gg Q σ (pc + 2) (some (.long v) :: none :: r) st) : J cx gg Q σ pc (y :: y2 :: r) (.long v :: st) :=
  fun H locs ls hP hS hl => lv_lstore (i := 0) hc.1 hc.2.1 hd hl.has (by simp) rfl (fun ls' hl' => k H locs ls' hP hS (zL.set2 (by simp) (fun _ _ h => by omega) hl'))
theorem J_lloadn_0 (hc : zOK cx gg cc own nL) {r : List (Option Value)} {v : Int64} (hd : decode cc pc = .ok (.lload_n 0, 1)) (k : J cx gg Q σ (pc + 1) (some (.long v) :: r) (.long v :: st)) : J cx gg Q σ pc (some (.long v) :: r) st :=
  fun H locs ls hP hS hl => lv_lload_n hc.1 hc.2.1 hd rfl (hl.2.2 0 _ rfl) (k H locs ls hP hS hl)
theorem J_lstoren_0 (hc : zOK cx gg cc own nL) {y y2 : Option Value} {r : List (Option Value)} {v : Int64} (hd : decode cc pc = .ok (.lstore_n 0, 1)) (k : J cx gg Q σ (pc + 1) (some (.long v) :: none :: r) st) : J cx gg Q σ pc (y :: y2 :: r) (.long v :: st) :=
  fun H locs ls hP hS hl => lv_lstore_n (i := 0) hc.1 hc.2.1 hd rfl hl.has (by simp) rfl (fun ls' hl' => k H locs ls' hP hS (zL.set2 (by simp) (fun _ _ h => by omega) hl'))
theorem J_aload_0 (hc : zOK cx gg cc own nL) {r : List (Option Value)} {v : Nat} (hd : decode cc pc = .ok (.aload 0, 2)) (k : J cx gg Q σ (pc + 2) (some (.ref v) :: r) (.ref v :: st)) : J cx gg Q σ pc (some (.ref v) :: r) st :=
  fun H locs ls hP hS hl => lv_aload hc.1 hc.2.1 hd (hl.2.2 0 _ rfl) (k H locs ls hP hS hl)
theorem J_astore_0 (hc : zOK cx gg cc own nL) {y : Option Value} {r : List (Option Value)} {v : Nat} (hd : decode cc pc = .ok (.astore 0, 2)) (k : J cx gg Q σ (pc + 2) (some (.ref v) :: r) st) : J cx gg Q σ pc (y :: r) (.ref v :: st) :=
  fun H locs ls hP hS hl => lv_astore (i := 0) hc.1 hc.2.1 hd hl.has (by simp) rfl (fun ls' hl' => k H locs ls' hP hS (zL.set1 (by simp) (fun _ _ h => by omega) hl'))
theorem J_aloadn_0 (hc : zOK cx gg cc own nL) {r : List (Option Value)} {v : Nat} (hd : decode cc pc = .ok (.aload_n 0, 1)) (k : J cx gg Q σ (pc + 1) (some (.ref v) :: r) (.ref v :: st)) : J cx gg Q σ pc (some (.ref v) :: r) st :=
  fun H locs ls hP hS hl => lv_aload_n hc.1 hc.2.1 hd rfl (hl.2.2 0 _ rfl) (k H locs ls hP hS hl)
theorem J_astoren_0 (hc : zOK cx gg cc own nL) {y : Option Value} {r : List (Option Value)} {v : Nat} (hd : decode cc pc = .ok (.astore_n 0, 1)) (k : J cx gg Q σ (pc + 1) (some (.ref v) :: r) st) : J cx gg Q σ pc (y :: r) (.ref v :: st) :=
  fun H locs ls hP hS hl => lv_astore_n (i := 0) hc.1 hc.2.1 hd rfl hl.has (by simp) rfl (fun ls' hl' => k H locs ls' hP hS (zL.set1 (by simp) (fun _ _ h => by omega) hl'))
theorem J_iinc_0 (hc : zOK cx gg cc own nL) {r : List (Option Value)} {v w : Int32} {n : Int} (hd : decode cc pc = .ok (.iinc 0 n, 3)) (hw : v + Int32.ofInt n = w) (k : J cx gg Q σ (pc + 3) (some (.int w) :: r) st) : J cx gg Q σ pc (some (.int v) :: r) st := by
  intro H locs ls hP hS hl
  obtain ⟨kk, hk⟩ := List.getElem?_of_mem ((zpairs_mem _ 0 (0, Value.int v)).mpr ⟨0, (rfl : (some (Value.int v) :: r)[0]? = _), rfl⟩)
  exact lv_iinc hc.1 hc.2.1 hd hl.has hk hw (by simp) rfl (fun ls' hl' => k H locs ls' hP hS (zL.set1 (by simp) (fun _ _ h => by omega) hl'))
theorem J_iload_1 (hc : zOK cx gg cc own nL) {x0 : Option Value} {r : List (Option Value)} {v : Int32} (hd : decode cc pc = .ok (.iload 1, 2)) (k : J cx gg Q σ (pc + 2) (x0 :: some (.int v) :: r) (.int v :: st)) : J cx gg Q σ pc (x0 :: some (.int v) :: r) st :=
  fun H locs ls hP hS hl => lv_iload hc.1 hc.2.1 hd (hl.2.2 1 _ rfl) (k H locs ls hP hS hl)
theorem J_istore_1 (hc : zOK cx gg cc own nL) {x0 : Option Value} {y : Option Value} {r : List (Option Value)} {v : Int32} (hd : decode cc pc = .ok (.istore 1, 2)) (hp : zc1 x0 = true) (k : J cx gg Q σ (pc + 2) (x0 :: some (.int v) :: r) st) : J cx gg Q σ pc (x0 :: y :: r) (.int v :: st) :=
  fun H locs ls hP hS hl => lv_istore (i := 1) hc.1 hc.2.1 hd hl.has (by simp) rfl (fun ls' hl' => k H locs ls' hP hS (zL.set1 (by simp) (zpre (i := 0) hp rfl) hl'))
theorem J_iloadn_1 (hc : zOK cx gg cc own nL) {x0 : Option Value} {r : List (Option Value)} {v : Int32} (hd : decode cc pc = .ok (.iload_n 1, 1)) (k : J cx gg Q σ (pc + 1) (x0 :: some (.int v) :: r) (.int v :: st)) : J cx gg Q σ pc (x0 :: some (.int v) :: r) st :=
  fun H locs ls hP hS hl => lv_iload_n hc.1 hc.2.1 hd rfl (hl.2.2 1 _ rfl) (k H locs ls hP hS hl)
theorem J_istoren_1 (hc : zOK cx gg cc own nL) {x0 : Option Value} {y : Option Value} {r : List (Option Value)} {v : Int32} (hd : decode cc pc = .ok (.istore_n 1, 1)) (hp : zc1 x0 = true) (k : J cx gg Q σ (pc + 1) (x0 :: some (.int v) :: r) st) : J cx gg Q σ pc (x0 :: y :: r) (.int v :: st) :=
  fun H locs ls hP hS hl => lv_istore_n (i := 1) hc.1 hc.2.1 hd rfl hl.has (by simp) rfl (fun ls' hl' => k H locs ls' hP hS (zL.set1 (by simp) (zpre (i := 0) hp rfl) hl'))
theorem J_lload_1 (hc : zOK cx gg cc own nL) {x0 : Option Value} {r : List (Option Value)} {v : Int64} (hd : decode cc pc = .ok (.lload 1, 2)) (k : J cx gg Q σ (pc + 2) (x0 :: some (.long v) :: r) (.long v :: st)) : J cx gg Q σ pc (x0 :: some (.long v) :: r) st :=
  fun H locs ls hP hS hl => lv_lload hc.1 hc.2.1 hd (hl.2.2 1 _ rfl) (k H locs ls hP hS hl)
theorem J_lstore_1 (hc : zOK cx gg cc own nL) {x0 : Option Value} {y y2 : Option Value} {r : List (Option Value)} {v : Int64} (hd : decode cc pc = .ok (.lstore 1, 2)) (hp : zc1 x0 = true) (k : J cx gg Q σ (pc + 2) (x0 :: some (.long v) :: none :: r) st) : J cx gg Q σ pc (x0 :: y :: y2 :: r) (.long v :: st) :=
  fun H locs ls hP hS hl => lv_lstore (i := 1) hc.1 hc.2.1 hd hl.has (by simp) rfl (fun ls' hl' => k H locs ls' hP hS (zL.set2 (by simp) (zpre (i := 0) hp rfl) hl'))
theorem J_lloadn_1 (hc : zOK cx gg cc own nL) {x0 : Option Value} {r : List (Option Value)} {v : Int64} (hd : decode cc pc = .ok (.lload_n 1, 1)) (k : J cx gg Q σ (pc + 1) (x0 :: some (.long v) :: r) (.long v :: st)) : J cx gg Q σ pc (x0 :: some (.long v) :: r) st :=
  fun H locs ls hP hS hl => lv_lload_n hc.1 hc.2.1 hd rfl (hl.2.2 1 _ rfl) (k H locs ls hP hS hl)
theorem J_lstoren_1 (hc : zOK cx gg cc own nL) {x0 : Option Value} {y y2 : Option Value} {r : List (Option Value)} {v : Int64} (hd : decode cc pc = .ok (.lstore_n 1, 1)) (hp : zc1 x0 = true) (k : J cx gg Q σ (pc + 1) (x0 :: some (.long v) :: none :: r) st) : J cx gg Q σ pc (x0 :: y :: y2 :: r) (.long v :: st) :=
  fun H locs ls hP hS hl => lv_lstore_n (i := 1) hc.1 hc.2.1 hd rfl hl.has (by simp) rfl (fun ls' hl' => k H locs ls' hP hS (zL.set2 (by simp) (zpre (i := 0) hp rfl) hl'))
theorem J_aload_1 (hc : zOK cx gg cc own nL) {x0 : Option Value} {r : List (Option Value)} {v : Nat} (hd : decode cc pc = .ok (.aload 1, 2)) (k : J cx gg Q σ (pc + 2) (x0 :: some (.ref v) :: r) (.ref v :: st)) : J cx gg Q σ pc (x0 :: some (.ref v) :: r) st :=
  fun H locs ls hP hS hl => lv_aload hc.1 hc.2.1 hd (hl.2.2 1 _ rfl) (k H locs ls hP hS hl)
theorem J_astore_1 (hc : zOK cx gg cc own nL) {x0 : Option Value} {y : Option Value} {r : List (Option Value)} {v : Nat} (hd : decode cc pc = .ok (.astore 1, 2)) (hp : zc1 x0 = true) (k : J cx gg Q σ (pc + 2) (x0 :: some (.ref v) :: r) st) : J cx gg Q σ pc (x0 :: y :: r) (.ref v :: st) :=
  fun H locs ls hP hS hl => lv_astore (i := 1) hc.1 hc.2.1 hd hl.has (by simp) rfl (fun ls' hl' => k H locs ls' hP hS (zL.set1 (by simp) (zpre (i := 0) hp rfl) hl'))
theorem J_aloadn_1 (hc : zOK cx gg cc own nL) {x0 : Option Value} {r : List (Option Value)} {v : Nat} (hd : decode cc pc = .ok (.aload_n 1, 1)) (k : J cx gg Q σ (pc + 1) (x0 :: some (.ref v) :: r) (.ref v :: st)) : J cx gg Q σ pc (x0 :: some (.ref v) :: r) st :=
  fun H locs ls hP hS hl => lv_aload_n hc.1 hc.2.1 hd rfl (hl.2.2 1 _ rfl) (k H locs ls hP hS hl)
theorem J_astoren_1 (hc : zOK cx gg cc own nL) {x0 : Option Value} {y : Option Value} {r : List (Option Value)} {v : Nat} (hd : decode cc pc = .ok (.astore_n 1, 1)) (hp : zc1 x0 = true) (k : J cx gg Q σ (pc + 1) (x0 :: some (.ref v) :: r) st) : J cx gg Q σ pc (x0 :: y :: r) (.ref v :: st) :=
  fun H locs ls hP hS hl => lv_astore_n (i := 1) hc.1 hc.2.1 hd rfl hl.has (by simp) rfl (fun ls' hl' => k H locs ls' hP hS (zL.set1 (by simp) (zpre (i := 0) hp rfl) hl'))
theorem J_iinc_1 (hc : zOK cx gg cc own nL) {x0 : Option Value} {r : List (Option Value)} {v w : Int32} {n : Int} (hd : decode cc pc = .ok (.iinc 1 n, 3)) (hw : v + Int32.ofInt n = w) (hp : zc1 x0 = true) (k : J cx gg Q σ (pc + 3) (x0 :: some (.int w) :: r) st) : J cx gg Q σ pc (x0 :: some (.int v) :: r) st := by
  intro H locs ls hP hS hl
  obtain ⟨kk, hk⟩ := List.getElem?_of_mem ((zpairs_mem _ 0 (1, Value.int v)).mpr ⟨1, (rfl : (x0 :: some (Value.int v) :: r)[1]? = _), rfl⟩)
  exact lv_iinc hc.1 hc.2.1 hd hl.has hk hw (by simp) rfl (fun ls' hl' => k H locs ls' hP hS (zL.set1 (by simp) (zpre (i := 0) hp rfl) hl'))
theorem J_iload_2 (hc : zOK cx gg cc own nL) {x0 x1 : Option Value} {r : List (Option Value)} {v : Int32} (hd : decode cc pc = .ok (.iload 2, 2)) (k : J cx gg Q σ (pc + 2) (x0 :: x1 :: some (.int v) :: r) (.int v :: st)) : J cx gg Q σ pc (x0 :: x1 :: some (.int v) :: r) st :=
  fun H locs ls hP hS hl => lv_iload hc.1 hc.2.1 hd (hl.2.2 2 _ rfl) (k H locs ls hP hS hl)
theorem J_istore_2 (hc : zOK cx gg cc own nL) {x0 x1 : Option Value} {y : Option Value} {r : List (Option Value)} {v : Int32} (hd : decode cc pc = .ok (.istore 2, 2)) (hp : zc1 x1 = true) (k : J cx gg Q σ (pc + 2) (x0 :: x1 :: some (.int v) :: r) st) : J cx gg Q σ pc (x0 :: x1 :: y :: r) (.int v :: st) :=
  fun H locs ls hP hS hl => lv_istore (i := 2) hc.1 hc.2.1 hd hl.has (by simp) rfl (fun ls' hl' => k H locs ls' hP hS (zL.set1 (by simp) (zpre (i := 1) hp rfl) hl'))
theorem J_iloadn_2 (hc : zOK cx gg cc own nL) {x0 x1 : Option Value} {r : List (Option Value)} {v : Int32} (hd : decode cc pc = .ok (.iload_n 2, 1)) (k : J cx gg Q σ (pc + 1) (x0 :: x1 :: some (.int v) :: r) (.int v :: st)) : J cx gg Q σ pc (x0 :: x1 :: some (.int v) :: r) st :=
  fun H locs ls hP hS hl => lv_iload_n hc.1 hc.2.1 hd rfl (hl.2.2 2 _ rfl) (k H locs ls hP hS hl)
theorem J_istoren_2 (hc : zOK cx gg cc own nL) {x0 x1 : Option Value} {y : Option Value} {r : List (Option Value)} {v : Int32} (hd : decode cc pc = .ok (.istore_n 2, 1)) (hp : zc1 x1 = true) (k : J cx gg Q σ (pc + 1) (x0 :: x1 :: some (.int v) :: r) st) : J cx gg Q σ pc (x0 :: x1 :: y :: r) (.int v :: st) :=
  fun H locs ls hP hS hl => lv_istore_n (i := 2) hc.1 hc.2.1 hd rfl hl.has (by simp) rfl (fun ls' hl' => k H locs ls' hP hS (zL.set1 (by simp) (zpre (i := 1) hp rfl) hl'))
theorem J_lload_2 (hc : zOK cx gg cc own nL) {x0 x1 : Option Value} {r : List (Option Value)} {v : Int64} (hd : decode cc pc = .ok (.lload 2, 2)) (k : J cx gg Q σ (pc + 2) (x0 :: x1 :: some (.long v) :: r) (.long v :: st)) : J cx gg Q σ pc (x0 :: x1 :: some (.long v) :: r) st :=
  fun H locs ls hP hS hl => lv_lload hc.1 hc.2.1 hd (hl.2.2 2 _ rfl) (k H locs ls hP hS hl)
theorem J_lstore_2 (hc : zOK cx gg cc own nL) {x0 x1 : Option Value} {y y2 : Option Value} {r : List (Option Value)} {v : Int64} (hd : decode cc pc = .ok (.lstore 2, 2)) (hp : zc1 x1 = true) (k : J cx gg Q σ (pc + 2) (x0 :: x1 :: some (.long v) :: none :: r) st) : J cx gg Q σ pc (x0 :: x1 :: y :: y2 :: r) (.long v :: st) :=
  fun H locs ls hP hS hl => lv_lstore (i := 2) hc.1 hc.2.1 hd hl.has (by simp) rfl (fun ls' hl' => k H locs ls' hP hS (zL.set2 (by simp) (zpre (i := 1) hp rfl) hl'))
theorem J_lloadn_2 (hc : zOK cx gg cc own nL) {x0 x1 : Option Value} {r : List (Option Value)} {v : Int64} (hd : decode cc pc = .ok (.lload_n 2, 1)) (k : J cx gg Q σ (pc + 1) (x0 :: x1 :: some (.long v) :: r) (.long v :: st)) : J cx gg Q σ pc (x0 :: x1 :: some (.long v) :: r) st :=
  fun H locs ls hP hS hl => lv_lload_n hc.1 hc.2.1 hd rfl (hl.2.2 2 _ rfl) (k H locs ls hP hS hl)
theorem J_lstoren_2 (hc : zOK cx gg cc own nL) {x0 x1 : Option Value} {y y2 : Option Value} {r : List (Option Value)} {v : Int64} (hd : decode cc pc = .ok (.lstore_n 2, 1)) (hp : zc1 x1 = true) (k : J cx gg Q σ (pc + 1) (x0 :: x1 :: some (.long v) :: none :: r) st) : J cx gg Q σ pc (x0 :: x1 :: y :: y2 :: r) (.long v :: st) :=
  fun H locs ls hP hS hl => lv_lstore_n (i := 2) hc.1 hc.2.1 hd rfl hl.has (by simp) rfl (fun ls' hl' => k H locs ls' hP hS (zL.set2 (by simp) (zpre (i := 1) hp rfl) hl'))
theorem J_aload_2 (hc : zOK cx gg cc own nL) {x0 x1 : Option Value} {r : List (Option Value)} {v : Nat} (hd : decode cc pc = .ok (.aload 2, 2)) (k : J cx gg Q σ (pc + 2) (x0 :: x1 :: some (.ref v) :: r) (.ref v :: st)) : J cx gg Q σ pc (x0 :: x1 :: some (.ref v) :: r) st :=
  fun H locs ls hP hS hl => lv_aload hc.1 hc.2.1 hd (hl.2.2 2 _ rfl) (k H locs ls hP hS hl)
theorem J_astore_2 (hc : zOK cx gg cc own nL) {x0 x1 : Option Value} {y : Option Value} {r : List (Option Value)} {v : Nat} (hd : decode cc pc = .ok (.astore 2, 2)) (hp : zc1 x1 = true) (k : J cx gg Q σ (pc + 2) (x0 :: x1 :: some (.ref v) :: r) st) : J cx gg Q σ pc (x0 :: x1 :: y :: r) (.ref v :: st) :=
  fun H locs ls hP hS hl => lv_astore (i := 2) hc.1 hc.2.1 hd hl.has (by simp) rfl (fun ls' hl' => k H locs ls' hP hS (zL.set1 (by simp) (zpre (i := 1) hp rfl) hl'))
theorem J_aloadn_2 (hc : zOK cx gg cc own nL) {x0 x1 : Option Value} {r : List (Option Value)} {v : Nat} (hd : decode cc pc = .ok (.aload_n 2, 1)) (k : J cx gg Q σ (pc + 1) (x0 :: x1 :: some (.ref v) :: r) (.ref v :: st)) : J cx gg Q σ pc (x0 :: x1 :: some (.ref v) :: r) st :=
  fun H locs ls hP hS hl => lv_aload_n hc.1 hc.2.1 hd rfl (hl.2.2 2 _ rfl) (k H locs ls hP hS hl)
theorem J_astoren_2 (hc : zOK cx gg cc own nL) {x0 x1 : Option Value} {y : Option Value} {r : List (Option Value)} {v : Nat} (hd : decode cc pc = .ok (.astore_n 2, 1)) (hp : zc1 x1 = true) (k : J cx gg Q σ (pc + 1) (x0 :: x1 :: some (.ref v) :: r) st) : J cx gg Q σ pc (x0 :: x1 :: y :: r) (.ref v :: st) :=
  fun H locs ls hP hS hl => lv_astore_n (i := 2) hc.1 hc.2.1 hd rfl hl.has (by simp) rfl (fun ls' hl' => k H locs ls' hP hS (zL.set1 (by simp) (zpre (i := 1) hp rfl) hl'))
theorem J_iinc_2 (hc : zOK cx gg cc own nL) {x0 x1 : Option Value} {r : List (Option Value)} {v w : Int32} {n : Int} (hd : decode cc pc = .ok (.iinc 2 n, 3)) (hw : v + Int32.ofInt n = w) (hp : zc1 x1 = true) (k : J cx gg Q σ (pc + 3) (x0 :: x1 :: some (.int w) :: r) st) : J cx gg Q σ pc (x0 :: x1 :: some (.int v) :: r) st := by
  intro H locs ls hP hS hl
  obtain ⟨kk, hk⟩ := List.getElem?_of_mem ((zpairs_mem _ 0 (2, Value.int v)).mpr ⟨2, (rfl : (x0 :: x1 :: some (Value.int v) :: r)[2]? = _), rfl⟩)
  exact lv_iinc hc.1 hc.2.1 hd hl.has hk hw (by simp) rfl (fun ls' hl' => k H locs ls' hP hS (zL.set1 (by simp) (zpre (i := 1) hp rfl) hl'))
theorem J_iload_3 (hc : zOK cx gg cc own nL) {x0 x1 x2 : Option Value} {r : List (Option Value)} {v : Int32} (hd : decode cc pc = .ok (.iload 3, 2)) (k : J cx gg Q σ (pc + 2) (x0 :: x1 :: x2 :: some (.int v) :: r) (.int v :: st)) : J cx gg Q σ pc (x0 :: x1 :: x2 :: some (.int v) :: r) st :=
  fun H locs ls hP hS hl => lv_iload hc.1 hc.2.1 hd (hl.2.2 3 _ rfl) (k H locs ls hP hS hl)
theorem J_istore_3 (hc : zOK cx gg cc own nL) {x0 x1 x2 : Option Value} {y : Option Value} {r : List (Option Value)} {v : Int32} (hd : decode cc pc = .ok (.istore 3, 2)) (hp : zc1 x2 = true) (k : J cx gg Q σ (pc + 2) (x0 :: x1 :: x2 :: some (.int v) :: r) st) : J cx gg Q σ pc (x0 :: x1 :: x2 :: y :: r) (.int v :: st) :=
  fun H locs ls hP hS hl => lv_istore (i := 3) hc.1 hc.2.1 hd hl.has (by simp) rfl (fun ls' hl' => k H locs ls' hP hS (zL.set1 (by simp) (zpre (i := 2) hp rfl) hl'))
theorem J_iloadn_3 (hc : zOK cx gg cc own nL) {x0 x1 x2 : Option Value} {r : List (Option Value)} {v : Int32} (hd : decode cc pc = .ok (.iload_n 3, 1)) (k : J cx gg Q σ (pc + 1) (x0 :: x1 :: x2 :: some (.int v) :: r) (.int v :: st)) : J cx gg Q σ pc (x0 :: x1 :: x2 :: some (.int v) :: r) st :=
  fun H locs ls hP hS hl => lv_iload_n hc.1 hc.2.1 hd rfl (hl.2.2 3 _ rfl) (k H locs ls hP hS hl)
theorem J_istoren_3 (hc : zOK cx gg cc own nL) {x0 x1 x2 : Option Value} {y : Option Value} {r : List (Option Value)} {v : Int32} (hd : decode cc pc = .ok (.istore_n 3, 1)) (hp : zc1 x2 = true) (k : J cx gg Q σ (pc + 1) (x0 :: x1 :: x2 :: some (.int v) :: r) st) : J cx gg Q σ pc (x0 :: x1 :: x2 :: y :: r) (.int v :: st) :=
  fun H locs ls hP hS hl => lv_istore_n (i := 3) hc.1 hc.2.1 hd rfl hl.has (by simp) rfl (fun ls' hl' => k H locs ls' hP hS (zL.set1 (by simp) (zpre (i := 2) hp rfl) hl'))
theorem J_lload_3 (hc : zOK cx gg cc own nL) {x0 x1 x2 : Option Value} {r : List (Option Value)} {v : Int64} (hd : decode cc pc = .ok (.lload 3, 2)) (k : J cx gg Q σ (pc + 2) (x0 :: x1 :: x2 :: some (.long v) :: r) (.long v :: st)) : J cx gg Q σ pc (x0 :: x1 :: x2 :: some (.long v) :: r) st :=
  fun H locs ls hP hS hl => lv_lload hc.1 hc.2.1 hd (hl.2.2 3 _ rfl) (k H locs ls hP hS hl)
theorem J_lstore_3 (hc : zOK cx gg cc own nL) {x0 x1 x2 : Option Value} {y y2 : Option Value} {r : List (Option Value)} {v : Int64} (hd : decode cc pc = .ok (.lstore 3, 2)) (hp : zc1 x2 = true) (k : J cx gg Q σ (pc + 2) (x0 :: x1 :: x2 :: some (.long v) :: none :: r) st) : J cx gg Q σ pc (x0 :: x1 :: x2 :: y :: y2 :: r) (.long v :: st) :=
  fun H locs ls hP hS hl => lv_lstore (i := 3) hc.1 hc.2.1 hd hl.has (by simp) rfl (fun ls' hl' => k H locs ls' hP hS (zL.set2 (by simp) (zpre (i := 2) hp rfl) hl'))
theorem J_lloadn_3 (hc : zOK cx gg cc own nL) {x0 x1 x2 : Option Value} {r : List (Option Value)} {v : Int64} (hd : decode cc pc = .ok (.lload_n 3, 1)) (k : J cx gg Q σ (pc + 1) (x0 :: x1 :: x2 :: some (.long v) :: r) (.long v :: st)) : J cx gg Q σ pc (x0 :: x1 :: x2 :: some (.long v) :: r) st :=
  fun H locs ls hP hS hl => lv_lload_n hc.1 hc.2.1 hd rfl (hl.2.2 3 _ rfl) (k H locs ls hP hS hl)
theorem J_lstoren_3 (hc : zOK cx gg cc own nL) {x0 x1 x2 : Option Value} {y y2 : Option Value} {r : List (Option Value)} {v : Int64} (hd : decode cc pc = .ok (.lstore_n 3, 1)) (hp : zc1 x2 = true) (k : J cx gg Q σ (pc + 1) (x0 :: x1 :: x2 :: some (.long v) :: none :: r) st) : J cx gg Q σ pc (x0 :: x1 :: x2 :: y :: y2 :: r) (.long v :: st) :=
  fun H locs ls hP hS hl => lv_lstore_n (i := 3) hc.1 hc.2.1 hd rfl hl.has (by simp) rfl (fun ls' hl' => k H locs ls' hP hS (zL.set2 (by simp) (zpre (i := 2) hp rfl) hl'))
theorem J_aload_3 (hc : zOK cx gg cc own nL) {x0 x1 x2 : Option Value} {r : List (Option Value)} {v : Nat} (hd : decode cc pc = .ok (.aload 3, 2)) (k : J cx gg Q σ (pc + 2) (x0 :: x1 :: x2 :: some (.ref v) :: r) (.ref v :: st)) : J cx gg Q σ pc (x0 :: x1 :: x2 :: some (.ref v) :: r) st :=
  fun H locs ls hP hS hl => lv_aload hc.1 hc.2.1 hd (hl.2.2 3 _ rfl) (k H locs ls hP hS hl)
theorem J_astore_3 (hc : zOK cx gg cc own nL) {x0 x1 x2 : Option Value} {y : Option Value} {r : List (Option Value)} {v : Nat} (hd : decode cc pc = .ok (.astore 3, 2)) (hp : zc1 x2 = true) (k : J cx gg Q σ (pc + 2) (x0 :: x1 :: x2 :: some (.ref v) :: r) st) : J cx gg Q σ pc (x0 :: x1 :: x2 :: y :: r) (.ref v :: st) :=
  fun H locs ls hP hS hl => lv_astore (i := 3) hc.1 hc.2.1 hd hl.has (by simp) rfl (fun ls' hl' => k H locs ls' hP hS (zL.set1 (by simp) (zpre (i := 2) hp rfl) hl'))
theorem J_aloadn_3 (hc : zOK cx gg cc own nL) {x0 x1 x2 : Option Value} {r : List (Option Value)} {v : Nat} (hd : decode cc pc = .ok (.aload_n 3, 1)) (k : J cx gg Q σ (pc + 1) (x0 :: x1 :: x2 :: some (.ref v) :: r) (.ref v :: st)) : J cx gg Q σ pc (x0 :: x1 :: x2 :: some (.ref v) :: r) st :=
  fun H locs ls hP hS hl => lv_aload_n hc.1 hc.2.1 hd rfl (hl.2.2 3 _ rfl) (k H locs ls hP hS hl)
theorem J_astoren_3 (hc : zOK cx gg cc own nL) {x0 x1 x2 : Option Value} {y : Option Value} {r : List (Option Value)} {v : Nat} (hd : decode cc pc = .ok (.astore_n 3, 1)) (hp : zc1 x2 = true) (k : J cx gg Q σ (pc + 1) (x0 :: x1 :: x2 :: some (.ref v) :: r) st) : J cx gg Q σ pc (x0 :: x1 :: x2 :: y :: r) (.ref v :: st) :=
  fun H locs ls hP hS hl => lv_astore_n (i := 3) hc.1 hc.2.1 hd rfl hl.has (by simp) rfl (fun ls' hl' => k H locs ls' hP hS (zL.set1 (by simp) (zpre (i := 2) hp rfl) hl'))
theorem J_iinc_3 (hc : zOK cx gg cc own nL) {x0 x1 x2 : Option Value} {r : List (Option Value)} {v w : Int32} {n : Int} (hd : decode cc pc = .ok (.iinc 3 n, 3)) (hw : v + Int32.ofInt n = w) (hp : zc1 x2 = true) (k : J cx gg Q σ (pc + 3) (x0 :: x1 :: x2 :: some (.int w) :: r) st) : J cx gg Q σ pc (x0 :: x1 :: x2 :: some (.int v) :: r) st := by
  intro H locs ls hP hS hl
  obtain ⟨kk, hk⟩ := List.getElem?_of_mem ((zpairs_mem _ 0 (3, Value.int v)).mpr ⟨3, (rfl : (x0 :: x1 :: x2 :: some (Value.int v) :: r)[3]? = _), rfl⟩)
  exact lv_iinc hc.1 hc.2.1 hd hl.has hk hw (by simp) rfl (fun ls' hl' => k H locs ls' hP hS (zL.set1 (by simp) (zpre (i := 2) hp rfl) hl'))
theorem J_iload_4 (hc : zOK cx gg cc own nL) {x0 x1 x2 x3 : Option Value} {r : List (Option Value)} {v : Int32} (hd : decode cc pc = .ok (.iload 4, 2)) (k : J cx gg Q σ (pc + 2) (x0 :: x1 :: x2 :: x3 :: some (.int v) :: r) (.int v :: st)) : J cx gg Q σ pc (x0 :: x1 :: x2 :: x3 :: some (.int v) :: r) st :=
  fun H locs ls hP hS hl => lv_iload hc.1 hc.2.1 hd (hl.2.2 4 _ rfl) (k H locs ls hP hS hl)
theorem J_istore_4 (hc : zOK cx gg cc own nL) {x0 x1 x2 x3 : Option Value} {y : Option Value} {r : List (Option Value)} {v : Int32} (hd : decode cc pc = .ok (.istore 4, 2)) (hp : zc1 x3 = true) (k : J cx gg Q σ (pc + 2) (x0 :: x1 :: x2 :: x3 :: some (.int v) :: r) st) : J cx gg Q σ pc (x0 :: x1 :: x2 :: x3 :: y :: r) (.int v :: st) :=
  fun H locs ls hP hS hl => lv_istore (i := 4) hc.1 hc.2.1 hd hl.has (by simp) rfl (fun ls' hl' => k H locs ls' hP hS (zL.set1 (by simp) (zpre (i := 3) hp rfl) hl'))
theorem J_lload_4 (hc : zOK cx gg cc own nL) {x0 x1 x2 x3 : Option Value} {r : List (Option Value)} {v : Int64} (hd : decode cc pc = .ok (.lload 4, 2)) (k : J cx gg Q σ (pc + 2) (x0 :: x1 :: x2 :: x3 :: some (.long v) :: r) (.long v :: st)) : J cx gg Q σ pc (x0 :: x1 :: x2 :: x3 :: some (.long v) :: r) st :=
  fun H locs ls hP hS hl => lv_lload hc.1 hc.2.1 hd (hl.2.2 4 _ rfl) (k H locs ls hP hS hl)
theorem J_lstore_4 (hc : zOK cx gg cc own nL) {x0 x1 x2 x3 : Option Value} {y y2 : Option Value} {r : List (Option Value)} {v : Int64} (hd : decode cc pc = .ok (.lstore 4, 2)) (hp : zc1 x3 = true) (k : J cx gg Q σ (pc + 2) (x0 :: x1 :: x2 :: x3 :: some (.long v) :: none :: r) st) : J cx gg Q σ pc (x0 :: x1 :: x2 :: x3 :: y :: y2 :: r) (.long v :: st) :=
  fun H locs ls hP hS hl => lv_lstore (i := 4) hc.1 hc.2.1 hd hl.has (by simp) rfl (fun ls' hl' => k H locs ls' hP hS (zL.set2 (by simp) (zpre (i := 3) hp rfl) hl'))
theorem J_aload_4 (hc : zOK cx gg cc own nL) {x0 x1 x2 x3 : Option Value} {r : List (Option Value)} {v : Nat} (hd : decode cc pc = .ok (.aload 4, 2)) (k : J cx gg Q σ (pc + 2) (x0 :: x1 :: x2 :: x3 :: some (.ref v) :: r) (.ref v :: st)) : J cx gg Q σ pc (x0 :: x1 :: x2 :: x3 :: some (.ref v) :: r) st :=
  fun H locs ls hP hS hl => lv_aload hc.1 hc.2.1 hd (hl.2.2 4 _ rfl) (k H locs ls hP hS hl)
theorem J_astore_4 (hc : zOK cx gg cc own nL) {x0 x1 x2 x3 : Option Value} {y : Option Value} {r : List (Option Value)} {v : Nat} (hd : decode cc pc = .ok (.astore 4, 2)) (hp : zc1 x3 = true) (k : J cx gg Q σ (pc + 2) (x0 :: x1 :: x2 :: x3 :: some (.ref v) :: r) st) : J cx gg Q σ pc (x0 :: x1 :: x2 :: x3 :: y :: r) (.ref v :: st) :=
  fun H locs ls hP hS hl => lv_astore (i := 4) hc.1 hc.2.1 hd hl.has (by simp) rfl (fun ls' hl' => k H locs ls' hP hS (zL.set1 (by simp) (zpre (i := 3) hp rfl) hl'))
theorem J_iinc_4 (hc : zOK cx gg cc own nL) {x0 x1 x2 x3 : Option Value} {r : List (Option Value)} {v w : Int32} {n : Int} (hd : decode cc pc = .ok (.iinc 4 n, 3)) (hw : v + Int32.ofInt n = w) (hp : zc1 x3 = true) (k : J cx gg Q σ (pc + 3) (x0 :: x1 :: x2 :: x3 :: some (.int w) :: r) st) : J cx gg Q σ pc (x0 :: x1 :: x2 :: x3 :: some (.int v) :: r) st := by
  intro H locs ls hP hS hl
  obtain ⟨kk, hk⟩ := List.getElem?_of_mem ((zpairs_mem _ 0 (4, Value.int v)).mpr ⟨4, (rfl : (x0 :: x1 :: x2 :: x3 :: some (Value.int v) :: r)[4]? = _), rfl⟩)
  exact lv_iinc hc.1 hc.2.1 hd hl.has hk hw (by simp) rfl (fun ls' hl' => k H locs ls' hP hS (zL.set1 (by simp) (zpre (i := 3) hp rfl) hl'))
theorem J_iload_5 (hc : zOK cx gg cc own nL) {x0 x1 x2 x3 x4 : Option Value} {r : List (Option Value)} {v : Int32} (hd : decode cc pc = .ok (.iload 5, 2)) (k : J cx gg Q σ (pc + 2) (x0 :: x1 :: x2 :: x3 :: x4 :: some (.int v) :: r) (.int v :: st)) : J cx gg Q σ pc (x0 :: x1 :: x2 :: x3 :: x4 :: some (.int v) :: r) st :=
  fun H locs ls hP hS hl => lv_iload hc.1 hc.2.1 hd (hl.2.2 5 _ rfl) (k H locs ls hP hS hl)
theorem J_istore_5 (hc : zOK cx gg cc own nL) {x0 x1 x2 x3 x4 : Option Value} {y : Option Value} {r : List (Option Value)} {v : Int32} (hd : decode cc pc = .ok (.istore 5, 2)) (hp : zc1 x4 = true) (k : J cx gg Q σ (pc + 2) (x0 :: x1 :: x2 :: x3 :: x4 :: some (.int v) :: r) st) : J cx gg Q σ pc (x0 :: x1 :: x2 :: x3 :: x4 :: y :: r) (.int v :: st) :=
  fun H locs ls hP hS hl => lv_istore (i := 5) hc.1 hc.2.1 hd hl.has (by simp) rfl (fun ls' hl' => k H locs ls' hP hS (zL.set1 (by simp) (zpre (i := 4) hp rfl) hl'))
theorem J_lload_5 (hc : zOK cx gg cc own nL) {x0 x1 x2 x3 x4 : Option Value} {r : List (Option Value)} {v : Int64} (hd : decode cc pc = .ok (.lload 5, 2)) (k : J cx gg Q σ (pc + 2) (x0 :: x1 :: x2 :: x3 :: x4 :: some (.long v) :: r) (.long v :: st)) : J cx gg Q σ pc (x0 :: x1 :: x2 :: x3 :: x4 :: some (.long v) :: r) st :=
  fun H locs ls hP hS hl => lv_lload hc.1 hc.2.1 hd (hl.2.2 5 _ rfl) (k H locs ls hP hS hl)
theorem J_lstore_5 (hc : zOK cx gg cc own nL) {x0 x1 x2 x3 x4 : Option Value} {y y2 : Option Value} {r : List (Option Value)} {v : Int64} (hd : decode cc pc = .ok (.lstore 5, 2)) (hp : zc1 x4 = true) (k : J cx gg Q σ (pc + 2) (x0 :: x1 :: x2 :: x3 :: x4 :: some (.long v) :: none :: r) st) : J cx gg Q σ pc (x0 :: x1 :: x2 :: x3 :: x4 :: y :: y2 :: r) (.long v :: st) :=
  fun H locs ls hP hS hl => lv_lstore (i := 5) hc.1 hc.2.1 hd hl.has (by simp) rfl (fun ls' hl' => k H locs ls' hP hS (zL.set2 (by simp) (zpre (i := 4) hp rfl) hl'))
theorem J_aload_5 (hc : zOK cx gg cc own nL) {x0 x1 x2 x3 x4 : Option Value} {r : List (Option Value)} {v : Nat} (hd : decode cc pc = .ok (.aload 5, 2)) (k : J cx gg Q σ (pc + 2) (x0 :: x1 :: x2 :: x3 :: x4 :: some (.ref v) :: r) (.ref v :: st)) : J cx gg Q σ pc (x0 :: x1 :: x2 :: x3 :: x4 :: some (.ref v) :: r) st :=
  fun H locs ls hP hS hl => lv_aload hc.1 hc.2.1 hd (hl.2.2 5 _ rfl) (k H locs ls hP hS hl)
theorem J_astore_5 (hc : zOK cx gg cc own nL) {x0 x1 x2 x3 x4 : Option Value} {y : Option Value} {r : List (Option Value)} {v : Nat} (hd : decode cc pc = .ok (.astore 5, 2)) (hp : zc1 x4 = true) (k : J cx gg Q σ (pc + 2) (x0 :: x1 :: x2 :: x3 :: x4 :: some (.ref v) :: r) st) : J cx gg Q σ pc (x0 :: x1 :: x2 :: x3 :: x4 :: y :: r) (.ref v :: st) :=
  fun H locs ls hP hS hl => lv_astore (i := 5) hc.1 hc.2.1 hd hl.has (by simp) rfl (fun ls' hl' => k H locs ls' hP hS (zL.set1 (by simp) (zpre (i := 4) hp rfl) hl'))
theorem J_iinc_5 (hc : zOK cx gg cc own nL) {x0 x1 x2 x3 x4 : Option Value} {r : List (Option Value)} {v w : Int32} {n : Int} (hd : decode cc pc = .ok (.iinc 5 n, 3)) (hw : v + Int32.ofInt n = w) (hp : zc1 x4 = true) (k : J cx gg Q σ (pc + 3) (x0 :: x1 :: x2 :: x3 :: x4 :: some (.int w) :: r) st) : J cx gg Q σ pc (x0 :: x1 :: x2 :: x3 :: x4 :: some (.int v) :: r) st := by
  intro H locs ls hP hS hl
  obtain ⟨kk, hk⟩ := List.getElem?_of_mem ((zpairs_mem _ 0 (5, Value.int v)).mpr ⟨5, (rfl : (x0 :: x1 :: x2 :: x3 :: x4 :: some (Value.int v) :: r)[5]? = _), rfl⟩)
  exact lv_iinc hc.1 hc.2.1 hd hl.has hk hw (by simp) rfl (fun ls' hl' => k H locs ls' hP hS (zL.set1 (by simp) (zpre (i := 4) hp rfl) hl'))
theorem J_iload_6 (hc : zOK cx gg cc own nL) {x0 x1 x2 x3 x4 x5 : Option Value} {r : List (Option Value)} {v : Int32} (hd : decode cc pc = .ok (.iload 6, 2)) (k : J cx gg Q σ (pc + 2) (x0 :: x1 :: x2 :: x3 :: x4 :: x5 :: some (.int v) :: r) (.int v :: st)) : J cx gg Q σ pc (x0 :: x1 :: x2 :: x3 :: x4 :: x5 :: some (.int v) :: r) st :=
  fun H locs ls hP hS hl => lv_iload hc.1 hc.2.1 hd (hl.2.2 6 _ rfl) (k H locs ls hP hS hl)
theorem J_istore_6 (hc : zOK cx gg cc own nL) {x0 x1 x2 x3 x4 x5 : Option Value} {y : Option Value} {r : List (Option Value)} {v : Int32} (hd : decode cc pc = .ok (.istore 6, 2)) (hp : zc1 x5 = true) (k : J cx gg Q σ (pc + 2) (x0 :: x1 :: x2 :: x3 :: x4 :: x5 :: some (.int v) :: r) st) : J cx gg Q σ pc (x0 :: x1 :: x2 :: x3 :: x4 :: x5 :: y :: r) (.int v :: st) :=
  fun H locs ls hP hS hl => lv_istore (i := 6) hc.1 hc.2.1 hd hl.has (by simp) rfl (fun ls' hl' => k H locs ls' hP hS (zL.set1 (by simp) (zpre (i := 5) hp rfl) hl'))
theorem J_lload_6 (hc : zOK cx gg cc own nL) {x0 x1 x2 x3 x4 x5 : Option Value} {r : List (Option Value)} {v : Int64} (hd : decode cc pc = .ok (.lload 6, 2)) (k : J cx gg Q σ (pc + 2) (x0 :: x1 :: x2 :: x3 :: x4 :: x5 :: some (.long v) :: r) (.long v :: st)) : J cx gg Q σ pc (x0 :: x1 :: x2 :: x3 :: x4 :: x5 :: some (.long v) :: r) st :=
  fun H locs ls hP hS hl => lv_lload hc.1 hc.2.1 hd (hl.2.2 6 _ rfl) (k H locs ls hP hS hl)
theorem J_lstore_6 (hc : zOK cx gg cc own nL) {x0 x1 x2 x3 x4 x5 : Option Value} {y y2 : Option Value} {r : List (Option Value)} {v : Int64} (hd : decode cc pc = .ok (.lstore 6, 2)) (hp : zc1 x5 = true) (k : J cx gg Q σ (pc + 2) (x0 :: x1 :: x2 :: x3 :: x4 :: x5 :: some (.long v) :: none :: r) st) : J cx gg Q σ pc (x0 :: x1 :: x2 :: x3 :: x4 :: x5 :: y :: y2 :: r) (.long v :: st) :=
  fun H locs ls hP hS hl => lv_lstore (i := 6) hc.1 hc.2.1 hd hl.has (by simp) rfl (fun ls' hl' => k H locs ls' hP hS (zL.set2 (by simp) (zpre (i := 5) hp rfl) hl'))
theorem J_aload_6 (hc : zOK cx gg cc own nL) {x0 x1 x2 x3 x4 x5 : Option Value} {r : List (Option Value)} {v : Nat} (hd : decode cc pc = .ok (.aload 6, 2)) (k : J cx gg Q σ (pc + 2) (x0 :: x1 :: x2 :: x3 :: x4 :: x5 :: some (.ref v) :: r) (.ref v :: st)) : J cx gg Q σ pc (x0 :: x1 :: x2 :: x3 :: x4 :: x5 :: some (.ref v) :: r) st :=
  fun H locs ls hP hS hl => lv_aload hc.1 hc.2.1 hd (hl.2.2 6 _ rfl) (k H locs ls hP hS hl)
theorem J_astore_6 (hc : zOK cx gg cc own nL) {x0 x1 x2 x3 x4 x5 : Option Value} {y : Option Value} {r : List (Option Value)} {v : Nat} (hd : decode cc pc = .ok (.astore 6, 2)) (hp : zc1 x5 = true) (k : J cx gg Q σ (pc + 2) (x0 :: x1 :: x2 :: x3 :: x4 :: x5 :: some (.ref v) :: r) st) : J cx gg Q σ pc (x0 :: x1 :: x2 :: x3 :: x4 :: x5 :: y :: r) (.ref v :: st) :=
  fun H locs ls hP hS hl => lv_astore (i := 6) hc.1 hc.2.1 hd hl.has (by simp) rfl (fun ls' hl' => k H locs ls' hP hS (zL.set1 (by simp) (zpre (i := 5) hp rfl) hl'))
theorem J_iinc_6 (hc : zOK cx gg cc own nL) {x0 x1 x2 x3 x4 x5 : Option Value} {r : List (Option Value)} {v w : Int32} {n : Int} (hd : decode cc pc = .ok (.iinc 6 n, 3)) (hw : v + Int32.ofInt n = w) (hp : zc1 x5 = true) (k : J cx gg Q σ (pc + 3) (x0 :: x1 :: x2 :: x3 :: x4 :: x5 :: some (.int w) :: r) st) : J cx gg Q σ pc (x0 :: x1 :: x2 :: x3 :: x4 :: x5 :: some (.int v) :: r) st := by
  intro H locs ls hP hS hl
  obtain ⟨kk, hk⟩ := List.getElem?_of_mem ((zpairs_mem _ 0 (6, Value.int v)).mpr ⟨6, (rfl : (x0 :: x1 :: x2 :: x3 :: x4 :: x5 :: some (Value.int v) :: r)[6]? = _), rfl⟩)
  exact lv_iinc hc.1 hc.2.1 hd hl.has hk hw (by simp) rfl (fun ls' hl' => k H locs ls' hP hS (zL.set1 (by simp) (zpre (i := 5) hp rfl) hl'))
theorem J_iload_7 (hc : zOK cx gg cc own nL) {x0 x1 x2 x3 x4 x5 x6 : Option Value} {r : List (Option Value)} {v : Int32} (hd : decode cc pc = .ok (.iload 7, 2)) (k : J cx gg Q σ (pc + 2) (x0 :: x1 :: x2 :: x3 :: x4 :: x5 :: x6 :: some (.int v) :: r) (.int v :: st)) : J cx gg Q σ pc (x0 :: x1 :: x2 :: x3 :: x4 :: x5 :: x6 :: some (.int v) :: r) st :=
  fun H locs ls hP hS hl => lv_iload hc.1 hc.2.1 hd (hl.2.2 7 _ rfl) (k H locs ls hP hS hl)
theorem J_istore_7 (hc : zOK cx gg cc own nL) {x0 x1 x2 x3 x4 x5 x6 : Option Value} {y : Option Value} {r : List (Option Value)} {v : Int32} (hd : decode cc pc = .ok (.istore 7, 2)) (hp : zc1 x6 = true) (k : J cx gg Q σ (pc + 2) (x0 :: x1 :: x2 :: x3 :: x4 :: x5 :: x6 :: some (.int v) :: r) st) : J cx gg Q σ pc (x0 :: x1 :: x2 :: x3 :: x4 :: x5 :: x6 :: y :: r) (.int v :: st) :=
  fun H locs ls hP hS hl => lv_istore (i := 7) hc.1 hc.2.1 hd hl.has (by simp) rfl (fun ls' hl' => k H locs ls' hP hS (zL.set1 (by simp) (zpre (i := 6) hp rfl) hl'))
theorem J_lload_7 (hc : zOK cx gg cc own nL) {x0 x1 x2 x3 x4 x5 x6 : Option Value} {r : List (Option Value)} {v : Int64} (hd : decode cc pc = .ok (.lload 7, 2)) (k : J cx gg Q σ (pc + 2) (x0 :: x1 :: x2 :: x3 :: x4 :: x5 :: x6 :: some (.long v) :: r) (.long v :: st)) : J cx gg Q σ pc (x0 :: x1 :: x2 :: x3 :: x4 :: x5 :: x6 :: some (.long v) :: r) st :=
  fun H locs ls hP hS hl => lv_lload hc.1 hc.2.1 hd (hl.2.2 7 _ rfl) (k H locs ls hP hS hl)
theorem J_lstore_7 (hc : zOK cx gg cc own nL) {x0 x1 x2 x3 x4 x5 x6 : Option Value} {y y2 : Option Value} {r : List (Option Value)} {v : Int64} (hd : decode cc pc = .ok (.lstore 7, 2)) (hp : zc1 x6 = true) (k : J cx gg Q σ (pc + 2) (x0 :: x1 :: x2 :: x3 :: x4 :: x5 :: x6 :: some (.long v) :: none :: r) st) : J cx gg Q σ pc (x0 :: x1 :: x2 :: x3 :: x4 :: x5 :: x6 :: y :: y2 :: r) (.long v :: st) :=
  fun H locs ls hP hS hl => lv_lstore (i := 7) hc.1 hc.2.1 hd hl.has (by simp) rfl (fun ls' hl' => k H locs ls' hP hS (zL.set2 (by simp) (zpre (i := 6) hp rfl) hl'))
theorem J_aload_7 (hc : zOK cx gg cc own nL) {x0 x1 x2 x3 x4 x5 x6 : Option Value} {r : List (Option Value)} {v : Nat} (hd : decode cc pc = .ok (.aload 7, 2)) (k : J cx gg Q σ (pc + 2) (x0 :: x1 :: x2 :: x3 :: x4 :: x5 :: x6 :: some (.ref v) :: r) (.ref v :: st)) : J cx gg Q σ pc (x0 :: x1 :: x2 :: x3 :: x4 :: x5 :: x6 :: some (.ref v) :: r) st :=
  fun H locs ls hP hS hl => lv_aload hc.1 hc.2.1 hd (hl.2.2 7 _ rfl) (k H locs ls hP hS hl)
theorem J_astore_7 (hc : zOK cx gg cc own nL) {x0 x1 x2 x3 x4 x5 x6 : Option Value} {y : Option Value} {r : List (Option Value)} {v : Nat} (hd : decode cc pc = .ok (.astore 7, 2)) (hp : zc1 x6 = true) (k : J cx gg Q σ (pc + 2) (x0 :: x1 :: x2 :: x3 :: x4 :: x5 :: x6 :: some (.ref v) :: r) st) : J cx gg Q σ pc (x0 :: x1 :: x2 :: x3 :: x4 :: x5 :: x6 :: y :: r) (.ref v :: st) :=
  fun H locs ls hP hS hl => lv_astore (i := 7) hc.1 hc.2.1 hd hl.has (by simp) rfl (fun ls' hl' => k H locs ls' hP hS (zL.set1 (by simp) (zpre (i := 6) hp rfl) hl'))
theorem J_iinc_7 (hc : zOK cx gg cc own nL) {x0 x1 x2 x3 x4 x5 x6 : Option Value} {r : List (Option Value)} {v w : Int32} {n : Int} (hd : decode cc pc = .ok (.iinc 7 n, 3)) (hw : v + Int32.ofInt n = w) (hp : zc1 x6 = true) (k : J cx gg Q σ (pc + 3) (x0 :: x1 :: x2 :: x3 :: x4 :: x5 :: x6 :: some (.int w) :: r) st) : J cx gg Q σ pc (x0 :: x1 :: x2 :: x3 :: x4 :: x5 :: x6 :: some (.int v) :: r) st := by
  intro H locs ls hP hS hl
  obtain ⟨kk, hk⟩ := List.getElem?_of_mem ((zpairs_mem _ 0 (7, Value.int v)).mpr ⟨7, (rfl : (x0 :: x1 :: x2 :: x3 :: x4 :: x5 :: x6 :: some (Value.int v) :: r)[7]? = _), rfl⟩)
  exact lv_iinc hc.1 hc.2.1 hd hl.has hk hw (by simp) rfl (fun ls' hl' => k H locs ls' hP hS (zL.set1 (by simp) (zpre (i := 6) hp rfl) hl'))
theorem J_iload_8 (hc : zOK cx gg cc own nL) {x0 x1 x2 x3 x4 x5 x6 x7 : Option Value} {r : List (Option Value)} {v : Int32} (hd : decode cc pc = .ok (.iload 8, 2)) (k : J cx gg Q σ (pc + 2) (x0 :: x1 :: x2 :: x3 :: x4 :: x5 :: x6 :: x7 :: some (.int v) :: r) (.int v :: st)) : J cx gg Q σ pc (x0 :: x1 :: x2 :: x3 :: x4 :: x5 :: x6 :: x7 :: some (.int v) :: r) st :=
  fun H locs ls hP hS hl => lv_iload hc.1 hc.2.1 hd (hl.2.2 8 _ rfl) (k H locs ls hP hS hl)
theorem J_istore_8 (hc : zOK cx gg cc own nL) {x0 x1 x2 x3 x4 x5 x6 x7 : Option Value} {y : Option Value} {r : List (Option Value)} {v : Int32} (hd : decode cc pc = .ok (.istore 8, 2)) (hp : zc1 x7 = true) (k : J cx gg Q σ (pc + 2) (x0 :: x1 :: x2 :: x3 :: x4 :: x5 :: x6 :: x7 :: some (.int v) :: r) st) : J cx gg Q σ pc (x0 :: x1 :: x2 :: x3 :: x4 :: x5 :: x6 :: x7 :: y :: r) (.int v :: st) :=
  fun H locs ls hP hS hl => lv_istore (i := 8) hc.1 hc.2.1 hd hl.has (by simp) rfl (fun ls' hl' => k H locs ls' hP hS (zL.set1 (by simp) (zpre (i := 7) hp rfl) hl'))
theorem J_lload_8 (hc : zOK cx gg cc own nL) {x0 x1 x2 x3 x4 x5 x6 x7 : Option Value} {r : List (Option Value)} {v : Int64} (hd : decode cc pc = .ok (.lload 8, 2)) (k : J cx gg Q σ (pc + 2) (x0 :: x1 :: x2 :: x3 :: x4 :: x5 :: x6 :: x7 :: some (.long v) :: r) (.long v :: st)) : J cx gg Q σ pc (x0 :: x1 :: x2 :: x3 :: x4 :: x5 :: x6 :: x7 :: some (.long v) :: r) st :=
  fun H locs ls hP hS hl => lv_lload hc.1 hc.2.1 hd (hl.2.2 8 _ rfl) (k H locs ls hP hS hl)
theorem J_lstore_8 (hc : zOK cx gg cc own nL) {x0 x1 x2 x3 x4 x5 x6 x7 : Option Value} {y y2 : Option Value} {r : List (Option Value)} {v : Int64} (hd : decode cc pc = .ok (.lstore 8, 2)) (hp : zc1 x7 = true) (k : J cx gg Q σ (pc + 2) (x0 :: x1 :: x2 :: x3 :: x4 :: x5 :: x6 :: x7 :: some (.long v) :: none :: r) st) : J cx gg Q σ pc (x0 :: x1 :: x2 :: x3 :: x4 :: x5 :: x6 :: x7 :: y :: y2 :: r) (.long v :: st) :=
  fun H locs ls hP hS hl => lv_lstore (i := 8) hc.1 hc.2.1 hd hl.has (by simp) rfl (fun ls' hl' => k H locs ls' hP hS (zL.set2 (by simp) (zpre (i := 7) hp rfl) hl'))
theorem J_aload_8 (hc : zOK cx gg cc own nL) {x0 x1 x2 x3 x4 x5 x6 x7 : Option Value} {r : List (Option Value)} {v : Nat} (hd : decode cc pc = .ok (.aload 8, 2)) (k : J cx gg Q σ (pc + 2) (x0 :: x1 :: x2 :: x3 :: x4 :: x5 :: x6 :: x7 :: some (.ref v) :: r) (.ref v :: st)) : J cx gg Q σ pc (x0 :: x1 :: x2 :: x3 :: x4 :: x5 :: x6 :: x7 :: some (.ref v) :: r) st :=
  fun H locs ls hP hS hl => lv_aload hc.1 hc.2.1 hd (hl.2.2 8 _ rfl) (k H locs ls hP hS hl)
theorem J_astore_8 (hc : zOK cx gg cc own nL) {x0 x1 x2 x3 x4 x5 x6 x7 : Option Value} {y : Option Value} {r : List (Option Value)} {v : Nat} (hd : decode cc pc = .ok (.astore 8, 2)) (hp : zc1 x7 = true) (k : J cx gg Q σ (pc + 2) (x0 :: x1 :: x2 :: x3 :: x4 :: x5 :: x6 :: x7 :: some (.ref v) :: r) st) : J cx gg Q σ pc (x0 :: x1 :: x2 :: x3 :: x4 :: x5 :: x6 :: x7 :: y :: r) (.ref v :: st) :=
  fun H locs ls hP hS hl => lv_astore (i := 8) hc.1 hc.2.1 hd hl.has (by simp) rfl (fun ls' hl' => k H locs ls' hP hS (zL.set1 (by simp) (zpre (i := 7) hp rfl) hl'))
theorem J_iinc_8 (hc : zOK cx gg cc own nL) {x0 x1 x2 x3 x4 x5 x6 x7 : Option Value} {r : List (Option Value)} {v w : Int32} {n : Int} (hd : decode cc pc = .ok (.iinc 8 n, 3)) (hw : v + Int32.ofInt n = w) (hp : zc1 x7 = true) (k : J cx gg Q σ (pc + 3) (x0 :: x1 :: x2 :: x3 :: x4 :: x5 :: x6 :: x7 :: some (.int w) :: r) st) : J cx gg Q σ pc (x0 :: x1 :: x2 :: x3 :: x4 :: x5 :: x6 :: x7 :: some (.int v) :: r) st := by
  intro H locs ls hP hS hl
  obtain ⟨kk, hk⟩ := List.getElem?_of_mem ((zpairs_mem _ 0 (8, Value.int v)).mpr ⟨8, (rfl : (x0 :: x1 :: x2 :: x3 :: x4 :: x5 :: x6 :: x7 :: some (Value.int v) :: r)[8]? = _), rfl⟩)
  exact lv_iinc hc.1 hc.2.1 hd hl.has hk hw (by simp) rfl (fun ls' hl' => k H locs ls' hP hS (zL.set1 (by simp) (zpre (i := 7) hp rfl) hl'))
theorem J_iload_9 (hc : zOK cx gg cc own nL) {x0 x1 x2 x3 x4 x5 x6 x7 x8 : Option Value} {r : List (Option Value)} {v : Int32} (hd : decode cc pc = .ok (.iload 9, 2)) (k : J cx gg Q σ (pc + 2) (x0 :: x1 :: x2 :: x3 :: x4 :: x5 :: x6 :: x7 :: x8 :: some (.int v) :: r) (.int v :: st)) : J cx gg Q σ pc (x0 :: x1 :: x2 :: x3 :: x4 :: x5 :: x6 :: x7 :: x8 :: some (.int v) :: r) st :=
  fun H locs ls hP hS hl => lv_iload hc.1 hc.2.1 hd (hl.2.2 9 _ rfl) (k H locs ls hP hS hl)
theorem J_istore_9 (hc : zOK cx gg cc own nL) {x0 x1 x2 x3 x4 x5 x6 x7 x8 : Option Value} {y : Option Value} {r : List (Option Value)} {v : Int32} (hd : decode cc pc = .ok (.istore 9, 2)) (hp : zc1 x8 = true) (k : J cx gg Q σ (pc + 2) (x0 :: x1 :: x2 :: x3 :: x4 :: x5 :: x6 :: x7 :: x8 :: some (.int v) :: r) st) : J cx gg Q σ pc (x0 :: x1 :: x2 :: x3 :: x4 :: x5 :: x6 :: x7 :: x8 :: y :: r) (.int v :: st) :=
  fun H locs ls hP hS hl => lv_istore (i := 9) hc.1 hc.2.1 hd hl.has (by simp) rfl (fun ls' hl' => k H locs ls' hP hS (zL.set1 (by simp) (zpre (i := 8) hp rfl) hl'))
theorem J_lload_9 (hc : zOK cx gg cc own nL) {x0 x1 x2 x3 x4 x5 x6 x7 x8 : Option Value} {r : List (Option Value)} {v : Int64} (hd : decode cc pc = .ok (.lload 9, 2)) (k : J cx gg Q σ (pc + 2) (x0 :: x1 :: x2 :: x3 :: x4 :: x5 :: x6 :: x7 :: x8 :: some (.long v) :: r) (.long v :: st)) : J cx gg Q σ pc (x0 :: x1 :: x2 :: x3 :: x4 :: x5 :: x6 :: x7 :: x8 :: some (.long v) :: r) st :=
  fun H locs ls hP hS hl => lv_lload hc.1 hc.2.1 hd (hl.2.2 9 _ rfl) (k H locs ls hP hS hl)
theorem J_lstore_9 (hc : zOK cx gg cc own nL) {x0 x1 x2 x3 x4 x5 x6 x7 x8 : Option Value} {y y2 : Option Value} {r : List (Option Value)} {v : Int64} (hd : decode cc pc = .ok (.lstore 9, 2)) (hp : zc1 x8 = true) (k : J cx gg Q σ (pc + 2) (x0 :: x1 :: x2 :: x3 :: x4 :: x5 :: x6 :: x7 :: x8 :: some (.long v) :: none :: r) st) : J cx gg Q σ pc (x0 :: x1 :: x2 :: x3 :: x4 :: x5 :: x6 :: x7 :: x8 :: y :: y2 :: r) (.long v :: st) :=
  fun H locs ls hP hS hl => lv_lstore (i := 9) hc.1 hc.2.1 hd hl.has (by simp) rfl (fun ls' hl' => k H locs ls' hP hS (zL.set2 (by simp) (zpre (i := 8) hp rfl) hl'))
theorem J_aload_9 (hc : zOK cx gg cc own nL) {x0 x1 x2 x3 x4 x5 x6 x7 x8 : Option Value} {r : List (Option Value)} {v : Nat} (hd : decode cc pc = .ok (.aload 9, 2)) (k : J cx gg Q σ (pc + 2) (x0 :: x1 :: x2 :: x3 :: x4 :: x5 :: x6 :: x7 :: x8 :: some (.ref v) :: r) (.ref v :: st)) : J cx gg Q σ pc (x0 :: x1 :: x2 :: x3 :: x4 :: x5 :: x6 :: x7 :: x8 :: some (.ref v) :: r) st :=
  fun H locs ls hP hS hl => lv_aload hc.1 hc.2.1 hd (hl.2.2 9 _ rfl) (k H locs ls hP hS hl)
theorem J_astore_9 (hc : zOK cx gg cc own nL) {x0 x1 x2 x3 x4 x5 x6 x7 x8 : Option Value} {y : Option Value} {r : List (Option Value)} {v : Nat} (hd : decode cc pc = .ok (.astore 9, 2)) (hp : zc1 x8 = true) (k : J cx gg Q σ (pc + 2) (x0 :: x1 :: x2 :: x3 :: x4 :: x5 :: x6 :: x7 :: x8 :: some (.ref v) :: r) st) : J cx gg Q σ pc (x0 :: x1 :: x2 :: x3 :: x4 :: x5 :: x6 :: x7 :: x8 :: y :: r) (.ref v :: st) :=
  fun H locs ls hP hS hl => lv_astore (i := 9) hc.1 hc.2.1 hd hl.has (by simp) rfl (fun ls' hl' => k H locs ls' hP hS (zL.set1 (by simp) (zpre (i := 8) hp rfl) hl'))
theorem J_iinc_9 (hc : zOK cx gg cc own nL) {x0 x1 x2 x3 x4 x5 x6 x7 x8 : Option Value} {r : List (Option Value)} {v w : Int32} {n : Int} (hd : decode cc pc = .ok (.iinc 9 n, 3)) (hw : v + Int32.ofInt n = w) (hp : zc1 x8 = true) (k : J cx gg Q σ (pc + 3) (x0 :: x1 :: x2 :: x3 :: x4 :: x5 :: x6 :: x7 :: x8 :: some (.int w) :: r) st) : J cx gg Q σ pc (x0 :: x1 :: x2 :: x3 :: x4 :: x5 :: x6 :: x7 :: x8 :: some (.int v) :: r) st := by
  intro H locs ls hP hS hl
  obtain ⟨kk, hk⟩ := List.getElem?_of_mem ((zpairs_mem _ 0 (9, Value.int v)).mpr ⟨9, (rfl : (x0 :: x1 :: x2 :: x3 :: x4 :: x5 :: x6 :: x7 :: x8 :: some (Value.int v) :: r)[9]? = _), rfl⟩)
  exact lv_iinc hc.1 hc.2.1 hd hl.has hk hw (by simp) rfl (fun ls' hl' => k H locs ls' hP hS (zL.set1 (by simp) (zpre (i := 8) hp rfl) hl'))
theorem J_iload_10 (hc : zOK cx gg cc own nL) {x0 x1 x2 x3 x4 x5 x6 x7 x8 x9 : Option Value} {r : List (Option Value)} {v : Int32} (hd : decode cc pc = .ok (.iload 10, 2)) (k : J cx gg Q σ (pc + 2) (x0 :: x1 :: x2 :: x3 :: x4 :: x5 :: x6 :: x7 :: x8 :: x9 :: some (.int v) :: r) (.int v :: st)) : J cx gg Q σ pc (x0 :: x1 :: x2 :: x3 :: x4 :: x5 :: x6 :: x7 :: x8 :: x9 :: some (.int v) :: r) st :=
  fun H locs ls hP hS hl => lv_iload hc.1 hc.2.1 hd (hl.2.2 10 _ rfl) (k H locs ls hP hS hl)
theorem J_istore_10 (hc : zOK cx gg cc own nL) {x0 x1 x2 x3 x4 x5 x6 x7 x8 x9 : Option Value} {y : Option Value} {r : List (Option Value)} {v : Int32} (hd : decode cc pc = .ok (.istore 10, 2)) (hp : zc1 x9 = true) (k : J cx gg Q σ (pc + 2) (x0 :: x1 :: x2 :: x3 :: x4 :: x5 :: x6 :: x7 :: x8 :: x9 :: some (.int v) :: r) st) : J cx gg Q σ pc (x0 :: x1 :: x2 :: x3 :: x4 :: x5 :: x6 :: x7 :: x8 :: x9 :: y :: r) (.int v :: st) :=
  fun H locs ls hP hS hl => lv_istore (i := 10) hc.1 hc.2.1 hd hl.has (by simp) rfl (fun ls' hl' => k H locs ls' hP hS (zL.set1 (by simp) (zpre (i := 9) hp rfl) hl'))
theorem J_lload_10 (hc : zOK cx gg cc own nL) {x0 x1 x2 x3 x4 x5 x6 x7 x8 x9 : Option Value} {r : List (Option Value)} {v : Int64} (hd : decode cc pc = .ok (.lload 10, 2)) (k : J cx gg Q σ (pc + 2) (x0 :: x1 :: x2 :: x3 :: x4 :: x5 :: x6 :: x7 :: x8 :: x9 :: some (.long v) :: r) (.long v :: st)) : J cx gg Q σ pc (x0 :: x1 :: x2 :: x3 :: x4 :: x5 :: x6 :: x7 :: x8 :: x9 :: some (.long v) :: r) st :=
  fun H locs ls hP hS hl => lv_lload hc.1 hc.2.1 hd (hl.2.2 10 _ rfl) (k H locs ls hP hS hl)
theorem J_lstore_10 (hc : zOK cx gg cc own nL) {x0 x1 x2 x3 x4 x5 x6 x7 x8 x9 : Option Value} {y y2 : Option Value} {r : List (Option Value)} {v : Int64} (hd : decode cc pc = .ok (.lstore 10, 2)) (hp : zc1 x9 = true) (k : J cx gg Q σ (pc + 2) (x0 :: x1 :: x2 :: x3 :: x4 :: x5 :: x6 :: x7 :: x8 :: x9 :: some (.long v) :: none :: r) st) : J cx gg Q σ pc (x0 :: x1 :: x2 :: x3 :: x4 :: x5 :: x6 :: x7 :: x8 :: x9 :: y :: y2 :: r) (.long v :: st) :=
  fun H locs ls hP hS hl => lv_lstore (i := 10) hc.1 hc.2.1 hd hl.has (by simp) rfl (fun ls' hl' => k H locs ls' hP hS (zL.set2 (by simp) (zpre (i := 9) hp rfl) hl'))
theorem J_aload_10 (hc : zOK cx gg cc own nL) {x0 x1 x2 x3 x4 x5 x6 x7 x8 x9 : Option Value} {r : List (Option Value)} {v : Nat} (hd : decode cc pc = .ok (.aload 10, 2)) (k : J cx gg Q σ (pc + 2) (x0 :: x1 :: x2 :: x3 :: x4 :: x5 :: x6 :: x7 :: x8 :: x9 :: some (.ref v) :: r) (.ref v :: st)) : J cx gg Q σ pc (x0 :: x1 :: x2 :: x3 :: x4 :: x5 :: x6 :: x7 :: x8 :: x9 :: some (.ref v) :: r) st :=
  fun H locs ls hP hS hl => lv_aload hc.1 hc.2.1 hd (hl.2.2 10 _ rfl) (k H locs ls hP hS hl)
theorem J_astore_10 (hc : zOK cx gg cc own nL) {x0 x1 x2 x3 x4 x5 x6 x7 x8 x9 : Option Value} {y : Option Value} {r : List (Option Value)} {v : Nat} (hd : decode cc pc = .ok (.astore 10, 2)) (hp : zc1 x9 = true) (k : J cx gg Q σ (pc + 2) (x0 :: x1 :: x2 :: x3 :: x4 :: x5 :: x6 :: x7 :: x8 :: x9 :: some (.ref v) :: r) st) : J cx gg Q σ pc (x0 :: x1 :: x2 :: x3 :: x4 :: x5 :: x6 :: x7 :: x8 :: x9 :: y :: r) (.ref v :: st) :=
  fun H locs ls hP hS hl => lv_astore (i := 10) hc.1 hc.2.1 hd hl.has (by simp) rfl (fun ls' hl' => k H locs ls' hP hS (zL.set1 (by simp) (zpre (i := 9) hp rfl) hl'))
theorem J_iinc_10 (hc : zOK cx gg cc own nL) {x0 x1 x2 x3 x4 x5 x6 x7 x8 x9 : Option Value} {r : List (Option Value)} {v w : Int32} {n : Int} (hd : decode cc pc = .ok (.iinc 10 n, 3)) (hw : v + Int32.ofInt n = w) (hp : zc1 x9 = true) (k : J cx gg Q σ (pc + 3) (x0 :: x1 :: x2 :: x3 :: x4 :: x5 :: x6 :: x7 :: x8 :: x9 :: some (.int w) :: r) st) : J cx gg Q σ pc (x0 :: x1 :: x2 :: x3 :: x4 :: x5 :: x6 :: x7 :: x8 :: x9 :: some (.int v) :: r) st := by
  intro H locs ls hP hS hl
  obtain ⟨kk, hk⟩ := List.getElem?_of_mem ((zpairs_mem _ 0 (10, Value.int v)).mpr ⟨10, (rfl : (x0 :: x1 :: x2 :: x3 :: x4 :: x5 :: x6 :: x7 :: x8 :: x9 :: some (Value.int v) :: r)[10]? = _), rfl⟩)
  exact lv_iinc hc.1 hc.2.1 hd hl.has hk hw (by simp) rfl (fun ls' hl' => k H locs ls' hP hS (zL.set1 (by simp) (zpre (i := 9) hp rfl) hl'))
theorem J_iload_11 (hc : zOK cx gg cc own nL) {x0 x1 x2 x3 x4 x5 x6 x7 x8 x9 x10 : Option Value} {r : List (Option Value)} {v : Int32} (hd : decode cc pc = .ok (.iload 11, 2)) (k : J cx gg Q σ (pc + 2) (x0 :: x1 :: x2 :: x3 :: x4 :: x5 :: x6 :: x7 :: x8 :: x9 :: x10 :: some (.int v) :: r) (.int v :: st)) : J cx gg Q σ pc (x0 :: x1 :: x2 :: x3 :: x4 :: x5 :: x6 :: x7 :: x8 :: x9 :: x10 :: some (.int v) :: r) st :=
  fun H locs ls hP hS hl => lv_iload hc.1 hc.2.1 hd (hl.2.2 11 _ rfl) (k H locs ls hP hS hl)
theorem J_istore_11 (hc : zOK cx gg cc own nL) {x0 x1 x2 x3 x4 x5 x6 x7 x8 x9 x10 : Option Value} {y : Option Value} {r : List (Option Value)} {v : Int32} (hd : decode cc pc = .ok (.istore 11, 2)) (hp : zc1 x10 = true) (k : J cx gg Q σ (pc + 2) (x0 :: x1 :: x2 :: x3 :: x4 :: x5 :: x6 :: x7 :: x8 :: x9 :: x10 :: some (.int v) :: r) st) : J cx gg Q σ pc (x0 :: x1 :: x2 :: x3 :: x4 :: x5 :: x6 :: x7 :: x8 :: x9 :: x10 :: y :: r) (.int v :: st) :=
  fun H locs ls hP hS hl => lv_istore (i := 11) hc.1 hc.2.1 hd hl.has (by simp) rfl (fun ls' hl' => k H locs ls' hP hS (zL.set1 (by simp) (zpre (i := 10) hp rfl) hl'))
theorem J_lload_11 (hc : zOK cx gg cc own nL) {x0 x1 x2 x3 x4 x5 x6 x7 x8 x9 x10 : Option Value} {r : List (Option Value)} {v : Int64} (hd : decode cc pc = .ok (.lload 11, 2)) (k : J cx gg Q σ (pc + 2) (x0 :: x1 :: x2 :: x3 :: x4 :: x5 :: x6 :: x7 :: x8 :: x9 :: x10 :: some (.long v) :: r) (.long v :: st)) : J cx gg Q σ pc (x0 :: x1 :: x2 :: x3 :: x4 :: x5 :: x6 :: x7 :: x8 :: x9 :: x10 :: some (.long v) :: r) st :=
  fun H locs ls hP hS hl => lv_lload hc.1 hc.2.1 hd (hl.2.2 11 _ rfl) (k H locs ls hP hS hl)
theorem J_lstore_11 (hc : zOK cx gg cc own nL) {x0 x1 x2 x3 x4 x5 x6 x7 x8 x9 x10 : Option Value} {y y2 : Option Value} {r : List (Option Value)} {v : Int64} (hd : decode cc pc = .ok (.lstore 11, 2)) (hp : zc1 x10 = true) (k : J cx gg Q σ (pc + 2) (x0 :: x1 :: x2 :: x3 :: x4 :: x5 :: x6 :: x7 :: x8 :: x9 :: x10 :: some (.long v) :: none :: r) st) : J cx gg Q σ pc (x0 :: x1 :: x2 :: x3 :: x4 :: x5 :: x6 :: x7 :: x8 :: x9 :: x10 :: y :: y2 :: r) (.long v :: st) :=
  fun H locs ls hP hS hl => lv_lstore (i := 11) hc.1 hc.2.1 hd hl.has (by simp) rfl (fun ls' hl' => k H locs ls' hP hS (zL.set2 (by simp) (zpre (i := 10) hp rfl) hl'))
theorem J_aload_11 (hc : zOK cx gg cc own nL) {x0 x1 x2 x3 x4 x5 x6 x7 x8 x9 x10 : Option Value} {r : List (Option Value)} {v : Nat} (hd : decode cc pc = .ok (.aload 11, 2)) (k : J cx gg Q σ (pc + 2) (x0 :: x1 :: x2 :: x3 :: x4 :: x5 :: x6 :: x7 :: x8 :: x9 :: x10 :: some (.ref v) :: r) (.ref v :: st)) : J cx gg Q σ pc (x0 :: x1 :: x2 :: x3 :: x4 :: x5 :: x6 :: x7 :: x8 :: x9 :: x10 :: some (.ref v) :: r) st :=
  fun H locs ls hP hS hl => lv_aload hc.1 hc.2.1 hd (hl.2.2 11 _ rfl) (k H locs ls hP hS hl)
theorem J_astore_11 (hc : zOK cx gg cc own nL) {x0 x1 x2 x3 x4 x5 x6 x7 x8 x9 x10 : Option Value} {y : Option Value} {r : List (Option Value)} {v : Nat} (hd : decode cc pc = .ok (.astore 11, 2)) (hp : zc1 x10 = true) (k : J cx gg Q σ (pc + 2) (x0 :: x1 :: x2 :: x3 :: x4 :: x5 :: x6 :: x7 :: x8 :: x9 :: x10 :: some (.ref v) :: r) st) : J cx gg Q σ pc (x0 :: x1 :: x2 :: x3 :: x4 :: x5 :: x6 :: x7 :: x8 :: x9 :: x10 :: y :: r) (.ref v :: st) :=
  fun H locs ls hP hS hl => lv_astore (i := 11) hc.1 hc.2.1 hd hl.has (by simp) rfl (fun ls' hl' => k H locs ls' hP hS (zL.set1 (by simp) (zpre (i := 10) hp rfl) hl'))
theorem J_iinc_11 (hc : zOK cx gg cc own nL) {x0 x1 x2 x3 x4 x5 x6 x7 x8 x9 x10 : Option Value} {r : List (Option Value)} {v w : Int32} {n : Int} (hd : decode cc pc = .ok (.iinc 11 n, 3)) (hw : v + Int32.ofInt n = w) (hp : zc1 x10 = true) (k : J cx gg Q σ (pc + 3) (x0 :: x1 :: x2 :: x3 :: x4 :: x5 :: x6 :: x7 :: x8 :: x9 :: x10 :: some (.int w) :: r) st) : J cx gg Q σ pc (x0 :: x1 :: x2 :: x3 :: x4 :: x5 :: x6 :: x7 :: x8 :: x9 :: x10 :: some (.int v) :: r) st := by
  intro H locs ls hP hS hl
  obtain ⟨kk, hk⟩ := List.getElem?_of_mem ((zpairs_mem _ 0 (11, Value.int v)).mpr ⟨11, (rfl : (x0 :: x1 :: x2 :: x3 :: x4 :: x5 :: x6 :: x7 :: x8 :: x9 :: x10 :: some (Value.int v) :: r)[11]? = _), rfl⟩)
  exact lv_iinc hc.1 hc.2.1 hd hl.has hk hw (by simp) rfl (fun ls' hl' => k H locs ls' hP hS (zL.set1 (by simp) (zpre (i := 10) hp rfl) hl'))
theorem J_iload_12 (hc : zOK cx gg cc own nL) {x0 x1 x2 x3 x4 x5 x6 x7 x8 x9 x10 x11 : Option Value} {r : List (Option Value)} {v : Int32} (hd : decode cc pc = .ok (.iload 12, 2)) (k : J cx gg Q σ (pc + 2) (x0 :: x1 :: x2 :: x3 :: x4 :: x5 :: x6 :: x7 :: x8 :: x9 :: x10 :: x11 :: some (.int v) :: r) (.int v :: st)) : J cx gg Q σ pc (x0 :: x1 :: x2 :: x3 :: x4 :: x5 :: x6 :: x7 :: x8 :: x9 :: x10 :: x11 :: some (.int v) :: r) st :=
  fun H locs ls hP hS hl => lv_iload hc.1 hc.2.1 hd (hl.2.2 12 _ rfl) (k H locs ls hP hS hl)
theorem J_istore_12 (hc : zOK cx gg cc own nL) {x0 x1 x2 x3 x4 x5 x6 x7 x8 x9 x10 x11 : Option Value} {y : Option Value} {r : List (Option Value)} {v : Int32} (hd : decode cc pc = .ok (.istore 12, 2)) (hp : zc1 x11 = true) (k : J cx gg Q σ (pc + 2) (x0 :: x1 :: x2 :: x3 :: x4 :: x5 :: x6 :: x7 :: x8 :: x9 :: x10 :: x11 :: some (.int v) :: r) st) : J cx gg Q σ pc (x0 :: x1 :: x2 :: x3 :: x4 :: x5 :: x6 :: x7 :: x8 :: x9 :: x10 :: x11 :: y :: r) (.int v :: st) :=
  fun H locs ls hP hS hl => lv_istore (i := 12) hc.1 hc.2.1 hd hl.has (by simp) rfl (fun ls' hl' => k H locs ls' hP hS (zL.set1 (by simp) (zpre (i := 11) hp rfl) hl'))
theorem J_lload_12 (hc : zOK cx gg cc own nL) {x0 x1 x2 x3 x4 x5 x6 x7 x8 x9 x10 x11 : Option Value} {r : List (Option Value)} {v : Int64} (hd : decode cc pc = .ok (.lload 12, 2)) (k : J cx gg Q σ (pc + 2) (x0 :: x1 :: x2 :: x3 :: x4 :: x5 :: x6 :: x7 :: x8 :: x9 :: x10 :: x11 :: some (.long v) :: r) (.long v :: st)) : J cx gg Q σ pc (x0 :: x1 :: x2 :: x3 :: x4 :: x5 :: x6 :: x7 :: x8 :: x9 :: x10 :: x11 :: some (.long v) :: r) st :=
  fun H locs ls hP hS hl => lv_lload hc.1 hc.2.1 hd (hl.2.2 12 _ rfl) (k H locs ls hP hS hl)
theorem J_lstore_12 (hc : zOK cx gg cc own nL) {x0 x1 x2 x3 x4 x5 x6 x7 x8 x9 x10 x11 : Option Value} {y y2 : Option Value} {r : List (Option Value)} {v : Int64} (hd : decode cc pc = .ok (.lstore 12, 2)) (hp : zc1 x11 = true) (k : J cx gg Q σ (pc + 2) (x0 :: x1 :: x2 :: x3 :: x4 :: x5 :: x6 :: x7 :: x8 :: x9 :: x10 :: x11 :: some (.long v) :: none :: r) st) : J cx gg Q σ pc (x0 :: x1 :: x2 :: x3 :: x4 :: x5 :: x6 :: x7 :: x8 :: x9 :: x10 :: x11 :: y :: y2 :: r) (.long v :: st) :=
  fun H locs ls hP hS hl => lv_lstore (i := 12) hc.1 hc.2.1 hd hl.has (by simp) rfl (fun ls' hl' => k H locs ls' hP hS (zL.set2 (by simp) (zpre (i := 11) hp rfl) hl'))
theorem J_aload_12 (hc : zOK cx gg cc own nL) {x0 x1 x2 x3 x4 x5 x6 x7 x8 x9 x10 x11 : Option Value} {r : List (Option Value)} {v : Nat} (hd : decode cc pc = .ok (.aload 12, 2)) (k : J cx gg Q σ (pc + 2) (x0 :: x1 :: x2 :: x3 :: x4 :: x5 :: x6 :: x7 :: x8 :: x9 :: x10 :: x11 :: some (.ref v) :: r) (.ref v :: st)) : J cx gg Q σ pc (x0 :: x1 :: x2 :: x3 :: x4 :: x5 :: x6 :: x7 :: x8 :: x9 :: x10 :: x11 :: some (.ref v) :: r) st :=
  fun H locs ls hP hS hl => lv_aload hc.1 hc.2.1 hd (hl.2.2 12 _ rfl) (k H locs ls hP hS hl)
theorem J_astore_12 (hc : zOK cx gg cc own nL) {x0 x1 x2 x3 x4 x5 x6 x7 x8 x9 x10 x11 : Option Value} {y : Option Value} {r : List (Option Value)} {v : Nat} (hd : decode cc pc = .ok (.astore 12, 2)) (hp : zc1 x11 = true) (k : J cx gg Q σ (pc + 2) (x0 :: x1 :: x2 :: x3 :: x4 :: x5 :: x6 :: x7 :: x8 :: x9 :: x10 :: x11 :: some (.ref v) :: r) st) : J cx gg Q σ pc (x0 :: x1 :: x2 :: x3 :: x4 :: x5 :: x6 :: x7 :: x8 :: x9 :: x10 :: x11 :: y :: r) (.ref v :: st) :=
  fun H locs ls hP hS hl => lv_astore (i := 12) hc.1 hc.2.1 hd hl.has (by simp) rfl (fun ls' hl' => k H locs ls' hP hS (zL.set1 (by simp) (zpre (i := 11) hp rfl) hl'))
theorem J_iinc_12 (hc : zOK cx gg cc own nL) {x0 x1 x2 x3 x4 x5 x6 x7 x8 x9 x10 x11 : Option Value} {r : List (Option Value)} {v w : Int32} {n : Int} (hd : decode cc pc = .ok (.iinc 12 n, 3)) (hw : v + Int32.ofInt n = w) (hp : zc1 x11 = true) (k : J cx gg Q σ (pc + 3) (x0 :: x1 :: x2 :: x3 :: x4 :: x5 :: x6 :: x7 :: x8 :: x9 :: x10 :: x11 :: some (.int w) :: r) st) : J cx gg Q σ pc (x0 :: x1 :: x2 :: x3 :: x4 :: x5 :: x6 :: x7 :: x8 :: x9 :: x10 :: x11 :: some (.int v) :: r) st := by
  intro H locs ls hP hS hl
  obtain ⟨kk, hk⟩ := List.getElem?_of_mem ((zpairs_mem _ 0 (12, Value.int v)).mpr ⟨12, (rfl : (x0 :: x1 :: x2 :: x3 :: x4 :: x5 :: x6 :: x7 :: x8 :: x9 :: x10 :: x11 :: some (Value.int v) :: r)[12]? = _), rfl⟩)
  exact lv_iinc hc.1 hc.2.1 hd hl.has hk hw (by simp) rfl (fun ls' hl' => k H locs ls' hP hS (zL.set1 (by simp) (zpre (i := 11) hp rfl) hl'))
end ZJ
end
section
theorem zT_good {w : Cond} (h : w ∈ zT) : goodWord w = true := (List.mem_filter.mp h).2
theorem zgood (y : MethodName) (cc : ByteArray) (maxL : Nat) (ret : Option FieldType) (h : Cond.code y cc maxL ret ∈ zT) : GoodIn zT (Cond.code y cc maxL ret :: zT) := by
  intro w hw
  rcases List.mem_cons.mp hw with rfl | hw
  · exact ⟨h, good_of_word (zT_good h)⟩
  · exact ⟨hw, good_of_word (zT_good hw)⟩
def zoi (k : Nat) : Nat := if k < 7 then 2 + k else if k = 7 then 0 else if k = 8 then 42 else if k < 11 then 43 else 44
theorem zE_ui (gg : zG) (σ : zS) {k j : Nat} (v : Int32) (hk : k < 14) (hj : j < 45) (h : ¬ j = zoi k) : zE gg (ui σ k v) j = zE gg σ j := by
  unfold zoi at h
  unfold zE
  simp only [si_ui, sl_ui, sa_ui, sm_ui]
  by_cases h1 : j < 9
  · rw [if_pos h1, if_pos h1]
    by_cases h2 : j = 0
    · rw [if_pos h2, if_pos h2]
      have : ¬ 7 = k := by intro e; subst e; exact h (by rw [h2]; decide)
      rw [if_neg this]
    · rw [if_neg h2, if_neg h2]
      by_cases h3 : j = 1
      · rw [if_pos h3, if_pos h3]
      · rw [if_neg h3, if_neg h3]
        have : ¬ j - 2 = k := by
          intro e
          refine h ?_
          rw [if_pos (by omega)]
          omega
        rw [if_neg this]
  · rw [if_neg h1, if_neg h1]
    by_cases h2 : j < 39
    · rw [if_pos h2, if_pos h2]
    · rw [if_neg h2, if_neg h2]
      by_cases h3 : j < 42
      · rw [if_pos h3, if_pos h3]
      · rw [if_neg h3, if_neg h3]
        by_cases h4 : j = 42
        · rw [if_pos h4, if_pos h4]
          have : ¬ 8 = k := by intro e; subst e; exact h (by rw [h4]; decide)
          rw [if_neg this]
        · rw [if_neg h4, if_neg h4]
          by_cases h5 : j = 43
          · rw [if_pos h5, if_pos h5]
            have a1 : ¬ 9 = k := by intro e; subst e; exact h (by rw [h5]; decide)
            have a2 : ¬ 10 = k := by intro e; subst e; exact h (by rw [h5]; decide)
            rw [if_neg a1, if_neg a2]
          · rw [if_neg h5, if_neg h5]
            have h6 : j = 44 := by omega
            have a1 : ¬ 11 = k := by intro e; subst e; exact h (by rw [h6]; decide)
            have a2 : ¬ 12 = k := by intro e; subst e; exact h (by rw [h6]; decide)
            have a3 : ¬ 13 = k := by intro e; subst e; exact h (by rw [h6]; decide)
            rw [if_neg a1, if_neg a2, if_neg a3]
theorem zE_ul (gg : zG) (σ : zS) {k j : Nat} (v : Int64) (h : ¬ j = 42) : zE gg (ul σ k v) j = zE gg σ j := by
  unfold zE
  simp only [si_ul, sa_ul, sm_ul, if_neg h]
theorem zE_ua (gg : zG) (σ : zS) {k j : Nat} (f : Nat → Int32) (h : ¬ j = 9 + k) : zE gg (ua σ k f) j = zE gg σ j := by
  unfold zE
  simp only [si_ua, sl_ua, sa_ua, sm_ua]
  by_cases h1 : j < 9
  · rw [if_pos h1, if_pos h1]
  · rw [if_neg h1, if_neg h1]
    by_cases h2 : j < 39
    · rw [if_pos h2, if_pos h2, if_neg (by omega)]
    · rw [if_neg h2, if_neg h2]
theorem zE_um (gg : zG) (σ : zS) {k j : Nat} (f : Nat → Int64) (h : ¬ j = 39 + k) : zE gg (um σ k f) j = zE gg σ j := by
  unfold zE
  simp only [si_um, sl_um, sa_um, sm_um]
  by_cases h1 : j < 9
  · rw [if_pos h1, if_pos h1]
  · rw [if_neg h1, if_neg h1]
    by_cases h2 : j < 39
    · rw [if_pos h2, if_pos h2]
    · rw [if_neg h2, if_neg h2]
      by_cases h3 : j < 42
      · rw [if_pos h3, if_pos h3, if_neg (by omega)]
      · rw [if_neg h3, if_neg h3]
/-! THE CONTRACTS -/
def zPre (gg : zG) (σ : zS) (U : State) : Prop := zK gg U ∧ va_P (zD gg) vwCl (zW gg σ) U.heap
def zB (gg : zG) (σ : zS) (t : State) : Prop := va_P (zD gg) vwCl (zW gg σ) t.heap
def zMv (l : Launch) (gg : zG) (y : MethodName) (cc : ByteArray) (maxL fr lo : Nat) (as : List Value) (σ : zS) (post : zS → Prop) : Prop :=
  Met l y (Cond.code y cc maxL none :: zT) { frames := fr, cells := 0, slots := 0, locals := lo } (va_Pc as (zPre gg σ)) (va_Qv post (zB gg) (zA gg)) 0 0 (zA gg)
def zMi (l : Launch) (gg : zG) (y : MethodName) (cc : ByteArray) (ret : FieldType) (maxL fr lo : Nat) (as : List Value) (σ : zS) (post : Int32 → zS → Prop) : Prop :=
  Met l y (Cond.code y cc maxL (some ret) :: zT) { frames := fr, cells := 0, slots := 0, locals := lo } (va_Pc as (zPre gg σ)) (va_Qi post (zB gg) (zA gg)) 0 0 (zA gg)
def zMl (l : Launch) (gg : zG) (y : MethodName) (cc : ByteArray) (maxL fr lo : Nat) (as : List Value) (σ : zS) (post : Int64 → zS → Prop) : Prop :=
  Met l y (Cond.code y cc maxL (some .long) :: zT) { frames := fr, cells := 0, slots := 0, locals := lo } (va_Pc as (zPre gg σ)) (va_Ql post (zB gg) (zA gg)) 0 0 (zA gg)
def zR (cx : zX) (fr lo : Nat) : Prop := fr ≤ cx.1.2.2.2.frames ∧ lo ≤ cx.1.2.2.2.locals ∧ cx.2.2.1.2.2.1 ≤ cx.1.2.2.2.cells ∧ cx.2.2.1.2.2.2 ≤ cx.1.2.2.2.slots
def zIn (cx : zX) (gg : zG) (ret : Option FieldType) : Prop := cx.2.2.1.1.sig.returnType = ret ∧ cx.2.2.2 = zA gg
def zQv (cx : zX) (gg : zG) (post : zS → Prop) : State → Prop := MQ cx.2.1.2.2.2 (va_Qv post (zB gg) (zA gg)) cx.2.1.2.2.1 cx.2.1.1 cx.2.2.1.2.2.1 cx.2.2.1.2.2.2 (zA gg)
def zQi (cx : zX) (gg : zG) (post : Int32 → zS → Prop) : State → Prop := MQ cx.2.1.2.2.2 (va_Qi post (zB gg) (zA gg)) cx.2.1.2.2.1 cx.2.1.1 cx.2.2.1.2.2.1 cx.2.2.1.2.2.2 (zA gg)
def zQl (cx : zX) (gg : zG) (post : Int64 → zS → Prop) : State → Prop := MQ cx.2.1.2.2.2 (va_Ql post (zB gg) (zA gg)) cx.2.1.2.2.1 cx.2.1.1 cx.2.2.1.2.2.1 cx.2.2.1.2.2.2 (zA gg)
def zargs : List Value → List (Option Value)
  | [] => []
  | v :: t => if v.category = 2 then some v :: none :: zargs t else some v :: zargs t
theorem zargs_len : ∀ (vs : List Value), (zargs vs).length = (lg_sl vs).length
  | [] => rfl
  | v :: t => by
    have ih := zargs_len t
    unfold lg_sl at ih
    by_cases h : v.category = 2 <;> simp [zargs, lg_sl, h, ih] <;> omega
theorem zargs_at : ∀ (vs : List Value) (n i k : Nat) (v : Value), (zargs vs ++ List.replicate n none)[k]? = some (some v) → (i + k, v) ∈ lv_args i vs
  | [], n, i, k, v, h => by
    rw [zargs, List.nil_append, List.getElem?_replicate] at h
    split at h <;> simp at h
  | w :: t, n, i, k, v, h => by
    by_cases hw : w.category = 2
    · rw [lv_args, if_pos hw]
      rw [zargs, if_pos hw] at h
      match k, h with
      | 0, h =>
        have : w = v := by simpa using h
        subst this
        exact List.mem_cons_self
      | 1, h => simp at h
      | k + 2, h =>
        have h' : (zargs t ++ List.replicate n none)[k]? = some (some v) := by simpa using h
        have := zargs_at t n (i + 2) k v h'
        exact List.mem_cons_of_mem _ (by rw [show i + (k + 2) = i + 2 + k by omega]; exact this)
    · rw [lv_args, if_neg hw]
      rw [zargs, if_neg hw] at h
      match k, h with
      | 0, h =>
        have : w = v := by simpa using h
        subst this
        exact List.mem_cons_self
      | k + 1, h =>
        have h' : (zargs t ++ List.replicate n none)[k]? = some (some v) := by simpa using h
        have := zargs_at t n (i + 1) k v h'
        exact List.mem_cons_of_mem _ (by rw [show i + (k + 1) = i + 1 + k by omega]; exact this)
theorem zL_entry (vs : List Value) {n : Nat} {lv : List (Option Value)} (h : (lg_sl vs).length ≤ n) (hlv : zargs vs ++ List.replicate (n - (zargs vs).length) none = lv) : zL ((lg_sl vs ++ List.replicate (n - (lg_sl vs).length) Slot.unset).toArray) lv := by
  obtain ⟨h1, h2, h3⟩ := lv_entry vs h
  refine ⟨?_, h2, fun i v hi => ?_⟩
  · rw [h1, ← hlv, List.length_append, List.length_replicate, zargs_len]
    omega
  · rw [← hlv] at hi
    have := h3 _ (zargs_at vs _ 0 i v hi)
    simpa using this
theorem zPre.blind {gg : zG} {σ : zS} {as : List Value} : FrameBlind (va_Pc as (zPre gg σ)) := fun _ _ _ _ q => ⟨q.1, zK.calling q.2.1, q.2.2⟩
theorem zM_v {l : Launch} {gg : zG} {y : MethodName} {cc : ByteArray} {maxL fr lo : Nat} {as : List Value} {σ : zS} {post : zS → Prop} {own : String} {lv : List (Option Value)} (hy : plainName y.cls = true) (ho : y.cls = own) (hle : (lg_sl as).length ≤ maxL) (hlv : zargs as ++ List.replicate (maxL - (zargs as).length) none = lv)
    (body : ∀ cx : zX, zOK cx gg cc own maxL → zR cx fr lo → zIn cx gg none → J cx gg (zQv cx gg post) σ 0 lv []) : zMv l gg y cc maxL fr lo as σ post := by
  refine Met.ofW (cc := cc) (maxL := maxL) (ret := none) hy rfl ?_
  intro p e s m args below meth c s₁ B hml hv
  obtain ⟨rfl, hK, hP⟩ := hv
  have hts := atoms_spec (ws := Cond.code y cc maxL none :: zT) B.pre
  rw [lg_entry_eq]
  subst ho
  exact body ((p, l, e, { frames := fr, cells := 0, slots := 0, locals := lo }), (s, m, as.toArray, below), (meth, c, 0, 0), zA gg) ⟨B.exec, B.bytes, hml, findClass_of_methodNamed B.named, fun w hw => hts w (List.mem_cons_of_mem _ hw), hK, fun i hi => ⟨i, hi, rfl⟩, B.notSynchronized⟩ ⟨Nat.le_refl _, Nat.le_refl _, Nat.zero_le _, Nat.zero_le _⟩ ⟨B.returns, rfl⟩ s.heap [] _ hP va_S.rf (zL_entry as hle hlv)
theorem zM_i {l : Launch} {gg : zG} {y : MethodName} {cc : ByteArray} {ret : FieldType} {maxL fr lo : Nat} {as : List Value} {σ : zS} {post : Int32 → zS → Prop} {own : String} {lv : List (Option Value)} (hy : plainName y.cls = true) (ho : y.cls = own) (hle : (lg_sl as).length ≤ maxL) (hlv : zargs as ++ List.replicate (maxL - (zargs as).length) none = lv)
    (body : ∀ cx : zX, zOK cx gg cc own maxL → zR cx fr lo → zIn cx gg (some ret) → J cx gg (zQi cx gg post) σ 0 lv []) : zMi l gg y cc ret maxL fr lo as σ post := by
  refine Met.ofW (cc := cc) (maxL := maxL) (ret := (some ret)) hy rfl ?_
  intro p e s m args below meth c s₁ B hml hv
  obtain ⟨rfl, hK, hP⟩ := hv
  have hts := atoms_spec (ws := Cond.code y cc maxL (some ret) :: zT) B.pre
  rw [lg_entry_eq]
  subst ho
  exact body ((p, l, e, { frames := fr, cells := 0, slots := 0, locals := lo }), (s, m, as.toArray, below), (meth, c, 0, 0), zA gg) ⟨B.exec, B.bytes, hml, findClass_of_methodNamed B.named, fun w hw => hts w (List.mem_cons_of_mem _ hw), hK, fun i hi => ⟨i, hi, rfl⟩, B.notSynchronized⟩ ⟨Nat.le_refl _, Nat.le_refl _, Nat.zero_le _, Nat.zero_le _⟩ ⟨B.returns, rfl⟩ s.heap [] _ hP va_S.rf (zL_entry as hle hlv)
theorem zM_l {l : Launch} {gg : zG} {y : MethodName} {cc : ByteArray} {maxL fr lo : Nat} {as : List Value} {σ : zS} {post : Int64 → zS → Prop} {own : String} {lv : List (Option Value)} (hy : plainName y.cls = true) (ho : y.cls = own) (hle : (lg_sl as).length ≤ maxL) (hlv : zargs as ++ List.replicate (maxL - (zargs as).length) none = lv)
    (body : ∀ cx : zX, zOK cx gg cc own maxL → zR cx fr lo → zIn cx gg (some .long) → J cx gg (zQl cx gg post) σ 0 lv []) : zMl l gg y cc maxL fr lo as σ post := by
  refine Met.ofW (cc := cc) (maxL := maxL) (ret := (some .long)) hy rfl ?_
  intro p e s m args below meth c s₁ B hml hv
  obtain ⟨rfl, hK, hP⟩ := hv
  have hts := atoms_spec (ws := Cond.code y cc maxL (some .long) :: zT) B.pre
  rw [lg_entry_eq]
  subst ho
  exact body ((p, l, e, { frames := fr, cells := 0, slots := 0, locals := lo }), (s, m, as.toArray, below), (meth, c, 0, 0), zA gg) ⟨B.exec, B.bytes, hml, findClass_of_methodNamed B.named, fun w hw => hts w (List.mem_cons_of_mem _ hw), hK, fun i hi => ⟨i, hi, rfl⟩, B.notSynchronized⟩ ⟨Nat.le_refl _, Nat.le_refl _, Nat.zero_le _, Nat.zero_le _⟩ ⟨B.returns, rfl⟩ s.heap [] _ hP va_S.rf (zL_entry as hle hlv)
section ZW
variable {cx : zX} {gg : zG} {Q : State → Prop} {σ : zS} {pc : Nat} {lv : List (Option Value)} {st : List Value} {cc : ByteArray} {own : String} {nL : Nat}
theorem J_vret {post : zS → Prop} (hc : zOK cx gg cc own nL) (hI : zIn cx gg none) (hd : decode cc pc = .ok (.return_, 1)) (hp : post σ) : J cx gg (zQv cx gg post) σ pc lv [] :=
  fun H locs ls hP hS hl => W.vret hc.1 hc.2.1 hI.1 (fun t ht hW => ⟨⟨σ, rfl, hp, by show va_P _ _ _ t.heap; rw [ht]; exact hP⟩, by rw [← hI.2]; exact hS.F ht⟩) (by rw [← hI.2]; exact hS.2.2) hd hc.2.2.2.2.2.2.2
theorem J_iret {post : Int32 → zS → Prop} {v : Int32} (hc : zOK cx gg cc own nL) (hI : zIn cx gg (some .int)) (hd : decode cc pc = .ok (.ireturn, 1)) (hp : post v σ) : J cx gg (zQi cx gg post) σ pc lv [.int v] :=
  fun H locs ls hP hS hl => W.iret hc.1 hc.2.1 hI.1 (fun t ht hW => ⟨⟨v, σ, rfl, hp, by show va_P _ _ _ t.heap; rw [ht]; exact hP⟩, by rw [← hI.2]; exact hS.F ht⟩) (by rw [← hI.2]; exact hS.2.2) hd hc.2.2.2.2.2.2.2
theorem J_zret {post : Int32 → zS → Prop} {v : Int32} (hc : zOK cx gg cc own nL) (hI : zIn cx gg (some .boolean)) (hd : decode cc pc = .ok (.ireturn, 1)) (hn : narrow .boolean (.int v) = .int v) (hp : post v σ) : J cx gg (zQi cx gg post) σ pc lv [.int v] :=
  fun H locs ls hP hS hl => W.zret hc.1 hc.2.1 hI.1 hn (fun t ht hW => ⟨⟨v, σ, rfl, hp, by show va_P _ _ _ t.heap; rw [ht]; exact hP⟩, by rw [← hI.2]; exact hS.F ht⟩) (by rw [← hI.2]; exact hS.2.2) hd hc.2.2.2.2.2.2.2
theorem J_lret {post : Int64 → zS → Prop} {v : Int64} (hc : zOK cx gg cc own nL) (hI : zIn cx gg (some .long)) (hd : decode cc pc = .ok (.lreturn, 1)) (hp : post v σ) : J cx gg (zQl cx gg post) σ pc lv [.long v] :=
  fun H locs ls hP hS hl => W.lret hc.1 hc.2.1 hI.1 (fun t ht hW => ⟨⟨v, σ, rfl, hp, by show va_P _ _ _ t.heap; rw [ht]; exact hP⟩, by rw [← hI.2]; exact hS.F ht⟩) (by rw [← hI.2]; exact hS.2.2) hd hc.2.2.2.2.2.2.2
theorem znb0 : narrow .boolean (.int 0) = .int 0 := by decide
theorem znb1 : narrow .boolean (.int 1) = .int 1 := by decide
theorem J_ldc (hc : zOK cx gg cc own nL) {index : Nat} {v : Int32} (hw : Cond.constant own index v ∈ zT) (hd : decode cc pc = .ok (.ldc index, 2)) (k : J cx gg Q σ (pc + 2) lv (.int v :: st)) : J cx gg Q σ pc lv st :=
  fun H locs ls hP hS hl => lv_ldc hc.1 hc.2.1 hc.2.2.2.1 (hc.2.2.2.2.1 _ hw) hd (k H locs ls hP hS hl)
theorem J_ldc2 (hc : zOK cx gg cc own nL) {index : Nat} {v : Int64} (hw : Cond.constantLong own index v ∈ zT) (hd : decode cc pc = .ok (.ldc2_w index, 3)) (k : J cx gg Q σ (pc + 3) lv (.long v :: st)) : J cx gg Q σ pc lv st :=
  fun H locs ls hP hS hl => lv_ldc2 hc.1 hc.2.1 hc.2.2.2.1 (hc.2.2.2.2.1 _ hw) hd (k H locs ls hP hS hl)
theorem J_getg (hc : zOK cx gg cc own nL) {i ci index : Nat} {fs : List Value} {C : String} {T : u_T} {N : Nat} {v : Value} {a : Nat} (ha : a = zad gg i) (hi : i < 45) (he : zE gg σ i = .inr (ci, fs)) (hcl : vwCl[ci]? = some (C, T, N)) (hin : ∀ w ∈ u_ws C T N, w ∈ zT) (k : Nat) (hk : k < N) (hlink : Cond.fieldLink own index (T k).1 (T k).2.1 (T k).2.2.1 ∈ zT) (hv : fs[k]? = some v) (hd : decode cc pc = .ok (.getfield index, 3)) (kk : J cx gg Q σ (pc + 3) lv (v :: st)) : J cx gg Q σ pc lv (.ref a :: st) := by
  subst ha
  exact fun H locs ls hP hS hl => va_get (D := zD gg) hc.1 hc.2.1 hc.2.2.2.2.1 hin hc.2.2.2.1 hc.2.2.2.2.2.1.1 hP i (by rw [zW_get gg σ hi, he]) hcl k hk (hc.2.2.2.2.1 _ hlink) (fun _ h => h) hv hd (kk H locs ls hP hS hl)
theorem J_getN (hc : zOK cx gg cc own nL) {i ci index : Nat} {fs : List Value} {C host : String} {T : u_T} {N : Nat} {v : Value} {a : Nat} (ha : a = zad gg i) (hi : i < 45) (he : zE gg σ i = .inr (ci, fs)) (hcl : vwCl[ci]? = some (C, T, N)) (hin : ∀ w ∈ u_ws C T N, w ∈ zT) (k : Nat) (hk : k < N) (hlink : Cond.fieldLinkNest own index (T k).1 (T k).2.1 (T k).2.2.1 host ∈ zN) (hv : fs[k]? = some v) (hd : decode cc pc = .ok (.getfield index, 3)) (kk : J cx gg Q σ (pc + 3) lv (v :: st)) : J cx gg Q σ pc lv (.ref a :: st) := by
  subst ha
  exact fun H locs ls hP hS hl => va_getN (D := zD gg) hc.1 hc.2.1 hc.2.2.2.2.1 hin hc.2.2.2.1 hc.2.2.2.2.2.1.1 hP i (by rw [zW_get gg σ hi, he]) hcl k hk (va_Nw.use rfl (hc.2.2.2.2.2.1.2.1 _ hlink)) (fun _ h => h) hv hd (kk H locs ls hP hS hl)
theorem J_putg (hc : zOK cx gg cc own nL) {i ci index : Nat} {fs : List Value} {C : String} {T : u_T} {N : Nat} {v : Value} {a : Nat} {σ' : zS} {ty : FieldType} (ha : a = zad gg i) (hi : i < 45) (he : zE gg σ i = .inr (ci, fs)) (hcl : vwCl[ci]? = some (C, T, N)) (hin : ∀ w ∈ u_ws C T N, w ∈ zT) (ty0 : Nat → FieldType) (hty : ∀ k, k < N → parseFieldDescriptor (T k).2.2.1 = some (ty0 k)) (hnm : ∀ a, a < N → ∀ b, b < N → a ≠ b → (T a).2.1 ≠ (T b).2.1) (k : Nat) (hk : k < N) (hlink : Cond.fieldLink own index (T k).1 (T k).2.1 (T k).2.2.1 ∈ zT) (hfin : (T k).2.2.2 = false) (hdsc : parseFieldDescriptor (T k).2.2.1 = some ty) (hn : narrow ty v = v) (hfit : fits ty v = true) (hl : k < fs.length)
    (h1 : zE gg σ' i = .inr (ci, fs.set k v)) (h2 : ∀ j, j < 45 → ¬ j = i → zE gg σ' j = zE gg σ j) (hd : decode cc pc = .ok (.putfield index, 3)) (kk : J cx gg Q σ' (pc + 3) lv st) : J cx gg Q σ pc lv (v :: .ref a :: st) := by
  subst ha
  intro H locs ls hP hS hl'
  refine va_put (D := zD gg) hc.1 hc.2.1 hc.2.2.2.2.1 hin ty0 hty hnm hc.2.2.2.1 hc.2.2.2.2.2.1.1 hP (zD_of hc.2.2.2.2.2.1.2.2 hc.2.2.2.2.2.2.1) hS i (by rw [zW_get gg σ hi, he]) hcl k hk (hc.2.2.2.2.1 _ hlink) (fun _ h => h) hfin hdsc hn hfit hl hd (fun H1 locs1 hP1 hD1 hS1 => ?_)
  rw [zW_set hi h1 h2] at hP1
  exact kk H1 locs1 ls hP1 hS1 hl'
theorem J_iald (hc : zOK cx gg cc own nL) {j n : Nat} {i : Int32} (L : Nat) (hj : j < 30) (hL : zlen j = L) (hd : decode cc pc = .ok (.iaload, 1)) (hi : i = nI n) (hn : n < L) (kk : J cx gg Q σ (pc + 1) lv (.int (sa σ j n) :: st)) : J cx gg Q σ pc lv (.int i :: .ref (zr gg j) :: st) := by
  subst hi; subst hL
  have hlt := zlen_lt j
  intro H locs ls hP hS hl
  refine va_iald (D := zD gg) hc.1 hc.2.1 hc.2.2.2.2.2.1.1 hP (9 + j) 0 (by rw [zW_get gg σ (by omega), zE_r gg σ hj]; rfl) rfl (vp_in_nI hn hlt) hd ?_
  rw [nI_clamp (by omega)]
  exact kk H locs ls hP hS hl
theorem J_lald (hc : zOK cx gg cc own nL) {j n : Nat} {i : Int32} (hj : j < 3) (hd : decode cc pc = .ok (.laload, 1)) (hi : i = nI n) (hn : n < 16) (kk : J cx gg Q σ (pc + 1) lv (.long (sm σ j n) :: st)) : J cx gg Q σ pc lv (.int i :: .ref (zm gg j) :: st) := by
  subst hi
  intro H locs ls hP hS hl
  refine va_lald (D := zD gg) hc.1 hc.2.1 hc.2.2.2.2.2.1.1 hP (39 + j) 1 (by rw [zW_get gg σ (by omega), zE_m gg σ hj]; rfl) rfl (vp_in_nI hn (by omega)) hd ?_
  rw [nI_clamp (by omega)]
  exact kk H locs ls hP hS hl
theorem J_iast (hc : zOK cx gg cc own nL) {j n : Nat} {i x : Int32} (L : Nat) (hj : j < 30) (hL : zlen j = L) (hd : decode cc pc = .ok (.iastore, 1)) (hi : i = nI n) (hn : n < L) (kk : J cx gg Q (ua σ j (upd (sa σ j) n x)) (pc + 1) lv st) : J cx gg Q σ pc lv (.int x :: .int i :: .ref (zr gg j) :: st) := by
  subst hi; subst hL
  have hlt := zlen_lt j
  intro H locs ls hP hS hl
  refine va_iast (D := zD gg) hc.1 hc.2.1 hc.2.2.2.2.2.1.1 hP (zD_of hc.2.2.2.2.2.1.2.2 hc.2.2.2.2.2.2.1) hS (9 + j) 0 (by rw [zW_get gg σ (by omega), zE_r gg σ hj]; rfl) rfl (vp_in_nI hn hlt) hd (fun H1 locs1 hP1 _ hS1 => ?_)
  rw [nI_clamp (by omega)] at hP1
  have e := zW_set (gg := gg) (σ := σ) (σ' := ua σ j (upd (sa σ j) n x)) (i := 9 + j) (by omega) (zE_r gg _ hj) (fun j' _ h => zE_ua gg σ _ h)
  rw [sa_ua_s] at e
  exact kk H1 locs1 ls (e ▸ hP1) hS1 hl
theorem J_last (hc : zOK cx gg cc own nL) {j n : Nat} {i : Int32} {x : Int64} (hj : j < 3) (hd : decode cc pc = .ok (.lastore, 1)) (hi : i = nI n) (hn : n < 16) (kk : J cx gg Q (um σ j (vp_updL (sm σ j) n x)) (pc + 1) lv st) : J cx gg Q σ pc lv (.long x :: .int i :: .ref (zm gg j) :: st) := by
  subst hi
  intro H locs ls hP hS hl
  refine va_last (D := zD gg) hc.1 hc.2.1 hc.2.2.2.2.2.1.1 hP (zD_of hc.2.2.2.2.2.1.2.2 hc.2.2.2.2.2.2.1) hS (39 + j) 1 (by rw [zW_get gg σ (by omega), zE_m gg σ hj]; rfl) rfl (vp_in_nI hn (by omega)) hd (fun H1 locs1 hP1 _ hS1 => ?_)
  rw [nI_clamp (by omega)] at hP1
  have e := zW_set (gg := gg) (σ := σ) (σ' := um σ j (vp_updL (sm σ j) n x)) (i := 39 + j) (by omega) (zE_m gg _ hj) (fun j' _ h => zE_um gg σ _ h)
  rw [sm_um_s] at e
  exact kk H1 locs1 ls (e ▸ hP1) hS1 hl
theorem J_aald (hc : zOK cx gg cc own nL) {n : Nat} {i : Int32} (hd : decode cc pc = .ok (.aaload, 1)) (hi : i = nI n) (hn : n < 6) (kk : J cx gg Q σ (pc + 1) lv (.ref (zc gg n) :: st)) : J cx gg Q σ pc lv (.int i :: .ref (zv gg) :: st) := by
  subst hi
  intro H locs ls hP hS hl
  refine va_aldq (D := zD gg) hc.1 hc.2.1 hc.2.2.2.2.2.1.1 hP 1 2 (by rw [zW_get gg σ (by omega)]; rfl) rfl (vp_in_nI hn (by omega)) hd ?_
  rw [nI_clamp (by omega)]
  exact kk H locs ls hP hS hl
theorem zrecv (hc : zOK cx gg cc own nL) {i ci : Nat} {fs : List Value} {q : vw_C} {H : Heap} (hi : i < 45) (he : zE gg σ i = .inr (ci, fs)) (hcl : vwCl[ci]? = some q) (hP : va_P (zD gg) vwCl (zW gg σ) H) : ∃ cell : Cell, H[zad gg i]? = some cell ∧ cell.vm.isStatics = false ∧ cx.2.1.1.vm.findClass q.1 = some cell.cls :=
  va_recv hc.2.2.2.2.2.1.1 hP hcl (q0 := i) (by rw [zW_get gg σ hi, he])
theorem J_cVv (hc : zOK cx gg cc own nL) {f0 l0 : Nat} (hR : zR cx f0 l0) {y : MethodName} {bytes : ByteArray} {maxL fr lo n index : Nat} {As rest : List Value} {post : zS → Prop} {i ci b : Nat} {fs : List Value} {q : vw_C} (hlink : Cond.methodLink own index y ∈ zT) (hinst : Cond.instanceMethod y ∈ zT) (hsel : Cond.selects y.cls y y ∈ zT) (hini : Cond.initialized y.cls ∈ zT) (hcode : Cond.code y bytes maxL none ∈ zT) (hy : y.cls ≠ "java/lang/invoke/MethodHandle" ∧ y.cls ≠ "java/lang/invoke/VarHandle" ∧ (parseMethodDescriptor y.desc).map (fun d => d.parameters.length) = some n) (hb : b = zad gg i) (hi : i < 45) (he : zE gg σ i = .inr (ci, fs)) (hcl : vwCl[ci]? = some q) (hq : q.1 = y.cls) (hd : decode cc pc = .ok (.invokevirtual index, 3))
    (hM : zMv cx.1.2.1 gg y bytes maxL fr lo (.ref b :: As) σ post) (hr : fr + 1 ≤ f0 ∧ 8 + (maxL + 11) + lo ≤ l0) (hn : As.length = n) (hst : st = As.reverse ++ .ref b :: rest) (hs : (rest.map fun v => v.category).sum ≤ 8) (hlen : lv.length = nL) (kk : ∀ u : zS, post u → J cx gg Q u (pc + 3) lv rest) : J cx gg Q σ pc lv st := by
  subst hst; subst hb
  intro H locs ls hP hS hl
  have hts := hc.2.2.2.2.1
  have hrv := zrecv hc hi he hcl hP
  rw [hq] at hrv
  refine va_callv (va_runV (C := y.cls) (As := As) (rest := rest) ⟨hc.1, hc.2.1, hc.2.2.1, hc.2.2.2.1, hts⟩ hM (⟨callB_of n hts (zgood _ _ _ _ hcode) rfl rfl rfl (hts _ hini) (hts _ hlink) hy ⟨Nat.le_trans hr.1 hR.1, Nat.le_trans hr.2 hR.2.1⟩, hts _ hinst, hts _ hsel⟩) ⟨zPre.blind, hrv, fun U hU hW => ⟨rfl, hc.2.2.2.2.2.1.moved hW, by rw [hU]; exact hP⟩⟩ rfl hn (hl.1.trans ?_) rfl (lv_room hs) hd ⟨hR.2.2.1, hR.2.2.2⟩) hS (fun q _ h => ?_) (fun q h => ?_) (fun u t H1 locs1 ht _ hw hB _ _ hS1 => kk u hw H1 locs1 ls (by rw [← ht]; exact hB) hS1 hl)
  · exact hlen
  · obtain ⟨i', h1, rfl⟩ := h; exact hc.2.2.2.2.2.2.1 i' h1
  · obtain ⟨i', h1, rfl⟩ := h; exact hc.2.2.2.2.2.2.1 i' h1
theorem J_cSv (hc : zOK cx gg cc own nL) {f0 l0 : Nat} (hR : zR cx f0 l0) {y : MethodName} {bytes : ByteArray} {maxL fr lo n index : Nat} {As rest : List Value} {post : zS → Prop} (hlink : Cond.methodLink own index y ∈ zT) (hstat : Cond.static y ∈ zT) (hini : Cond.initialized y.cls ∈ zT) (hcode : Cond.code y bytes maxL none ∈ zT) (hy : y.cls ≠ "java/lang/invoke/MethodHandle" ∧ y.cls ≠ "java/lang/invoke/VarHandle" ∧ (parseMethodDescriptor y.desc).map (fun d => d.parameters.length) = some n) (hd : decode cc pc = .ok (.invokestatic index, 3))
    (hM : zMv cx.1.2.1 gg y bytes maxL fr lo As σ post) (hr : fr + 1 ≤ f0 ∧ 8 + (maxL + 11) + lo ≤ l0) (hn : As.length = n) (hst : st = As.reverse ++ rest) (hs : (rest.map fun v => v.category).sum ≤ 8) (hlen : lv.length = nL) (kk : ∀ u : zS, post u → J cx gg Q u (pc + 3) lv rest) : J cx gg Q σ pc lv st := by
  subst hst
  intro H locs ls hP hS hl
  have hts := hc.2.2.2.2.1
  refine va_callv (va_runS (As := As) (rest := rest) ⟨hc.1, hc.2.1, hc.2.2.1, hc.2.2.2.1, hts⟩ hM (⟨callB_of n hts (zgood _ _ _ _ hcode) rfl rfl rfl (hts _ hini) (hts _ hlink) hy ⟨Nat.le_trans hr.1 hR.1, Nat.le_trans hr.2 hR.2.1⟩, hts _ hstat⟩) ⟨zPre.blind, fun U hU hW => ⟨rfl, hc.2.2.2.2.2.1.moved hW, by rw [hU]; exact hP⟩⟩ rfl hn (hl.1.trans ?_) rfl (lv_room hs) hd ⟨hR.2.2.1, hR.2.2.2⟩) hS (fun q _ h => ?_) (fun q h => ?_) (fun u t H1 locs1 ht _ hw hB _ _ hS1 => kk u hw H1 locs1 ls (by rw [← ht]; exact hB) hS1 hl)
  · exact hlen
  · obtain ⟨i', h1, rfl⟩ := h; exact hc.2.2.2.2.2.2.1 i' h1
  · obtain ⟨i', h1, rfl⟩ := h; exact hc.2.2.2.2.2.2.1 i' h1
theorem J_cVNv (hc : zOK cx gg cc own nL) {f0 l0 : Nat} (hR : zR cx f0 l0) {y : MethodName} {bytes : ByteArray} {maxL fr lo n index : Nat} {As rest : List Value} {post : zS → Prop} {host : String} {i ci b : Nat} {fs : List Value} {q : vw_C} (hlink : Cond.methodLinkNest own index y host ∈ zN) (hinst : Cond.instanceMethod y ∈ zT) (hsel : Cond.selects y.cls y y ∈ zT) (hini : Cond.initialized y.cls ∈ zT) (hcode : Cond.code y bytes maxL none ∈ zT) (hy : y.cls ≠ "java/lang/invoke/MethodHandle" ∧ y.cls ≠ "java/lang/invoke/VarHandle" ∧ (parseMethodDescriptor y.desc).map (fun d => d.parameters.length) = some n) (hb : b = zad gg i) (hi : i < 45) (he : zE gg σ i = .inr (ci, fs)) (hcl : vwCl[ci]? = some q) (hq : q.1 = y.cls) (hd : decode cc pc = .ok (.invokevirtual index, 3))
    (hM : zMv cx.1.2.1 gg y bytes maxL fr lo (.ref b :: As) σ post) (hr : fr + 1 ≤ f0 ∧ 8 + (maxL + 11) + lo ≤ l0) (hn : As.length = n) (hst : st = As.reverse ++ .ref b :: rest) (hs : (rest.map fun v => v.category).sum ≤ 8) (hlen : lv.length = nL) (kk : ∀ u : zS, post u → J cx gg Q u (pc + 3) lv rest) : J cx gg Q σ pc lv st := by
  subst hst; subst hb
  intro H locs ls hP hS hl
  have hts := hc.2.2.2.2.1
  have hrv := zrecv hc hi he hcl hP
  rw [hq] at hrv
  refine va_callv (va_runVN (C := y.cls) (As := As) (rest := rest) ⟨hc.1, hc.2.1, hc.2.2.1, hc.2.2.2.1, hts⟩ hM (⟨va_cnB n hts (zgood _ _ _ _ hcode) rfl rfl rfl (hc.2.2.2.2.2.1.2.1 _ hlink) (hts _ hini) hy ⟨Nat.le_trans hr.1 hR.1, Nat.le_trans hr.2 hR.2.1⟩, hts _ hinst, hts _ hsel⟩) ⟨zPre.blind, hrv, fun U hU hW => ⟨rfl, hc.2.2.2.2.2.1.moved hW, by rw [hU]; exact hP⟩⟩ rfl hn (hl.1.trans ?_) rfl (lv_room hs) hd ⟨hR.2.2.1, hR.2.2.2⟩) hS (fun q _ h => ?_) (fun q h => ?_) (fun u t H1 locs1 ht _ hw hB _ _ hS1 => kk u hw H1 locs1 ls (by rw [← ht]; exact hB) hS1 hl)
  · exact hlen
  · obtain ⟨i', h1, rfl⟩ := h; exact hc.2.2.2.2.2.2.1 i' h1
  · obtain ⟨i', h1, rfl⟩ := h; exact hc.2.2.2.2.2.2.1 i' h1
theorem J_cSNv (hc : zOK cx gg cc own nL) {f0 l0 : Nat} (hR : zR cx f0 l0) {y : MethodName} {bytes : ByteArray} {maxL fr lo n index : Nat} {As rest : List Value} {post : zS → Prop} {host : String} (hlink : Cond.methodLinkNest own index y host ∈ zN) (hstat : Cond.static y ∈ zT) (hini : Cond.initialized y.cls ∈ zT) (hcode : Cond.code y bytes maxL none ∈ zT) (hy : y.cls ≠ "java/lang/invoke/MethodHandle" ∧ y.cls ≠ "java/lang/invoke/VarHandle" ∧ (parseMethodDescriptor y.desc).map (fun d => d.parameters.length) = some n) (hd : decode cc pc = .ok (.invokestatic index, 3))
    (hM : zMv cx.1.2.1 gg y bytes maxL fr lo As σ post) (hr : fr + 1 ≤ f0 ∧ 8 + (maxL + 11) + lo ≤ l0) (hn : As.length = n) (hst : st = As.reverse ++ rest) (hs : (rest.map fun v => v.category).sum ≤ 8) (hlen : lv.length = nL) (kk : ∀ u : zS, post u → J cx gg Q u (pc + 3) lv rest) : J cx gg Q σ pc lv st := by
  subst hst
  intro H locs ls hP hS hl
  have hts := hc.2.2.2.2.1
  refine va_callv (va_runSN (As := As) (rest := rest) ⟨hc.1, hc.2.1, hc.2.2.1, hc.2.2.2.1, hts⟩ hM (⟨va_cnB n hts (zgood _ _ _ _ hcode) rfl rfl rfl (hc.2.2.2.2.2.1.2.1 _ hlink) (hts _ hini) hy ⟨Nat.le_trans hr.1 hR.1, Nat.le_trans hr.2 hR.2.1⟩, hts _ hstat, trivial⟩) ⟨zPre.blind, fun U hU hW => ⟨rfl, hc.2.2.2.2.2.1.moved hW, by rw [hU]; exact hP⟩⟩ rfl hn (hl.1.trans ?_) rfl (lv_room hs) hd ⟨hR.2.2.1, hR.2.2.2⟩) hS (fun q _ h => ?_) (fun q h => ?_) (fun u t H1 locs1 ht _ hw hB _ _ hS1 => kk u hw H1 locs1 ls (by rw [← ht]; exact hB) hS1 hl)
  · exact hlen
  · obtain ⟨i', h1, rfl⟩ := h; exact hc.2.2.2.2.2.2.1 i' h1
  · obtain ⟨i', h1, rfl⟩ := h; exact hc.2.2.2.2.2.2.1 i' h1
theorem J_cVi (hc : zOK cx gg cc own nL) {f0 l0 : Nat} (hR : zR cx f0 l0) {y : MethodName} {bytes : ByteArray} {ret : FieldType} {maxL fr lo n index : Nat} {As rest : List Value} {post : Int32 → zS → Prop} {i ci b : Nat} {fs : List Value} {q : vw_C} (hlink : Cond.methodLink own index y ∈ zT) (hinst : Cond.instanceMethod y ∈ zT) (hsel : Cond.selects y.cls y y ∈ zT) (hini : Cond.initialized y.cls ∈ zT) (hcode : Cond.code y bytes maxL (some ret) ∈ zT) (hy : y.cls ≠ "java/lang/invoke/MethodHandle" ∧ y.cls ≠ "java/lang/invoke/VarHandle" ∧ (parseMethodDescriptor y.desc).map (fun d => d.parameters.length) = some n) (hb : b = zad gg i) (hi : i < 45) (he : zE gg σ i = .inr (ci, fs)) (hcl : vwCl[ci]? = some q) (hq : q.1 = y.cls) (hd : decode cc pc = .ok (.invokevirtual index, 3))
    (hM : zMi cx.1.2.1 gg y bytes ret maxL fr lo (.ref b :: As) σ post) (hr : fr + 1 ≤ f0 ∧ 8 + (maxL + 11) + lo ≤ l0) (hn : As.length = n) (hst : st = As.reverse ++ .ref b :: rest) (hs : (rest.map fun v => v.category).sum ≤ 8) (hlen : lv.length = nL) (kk : ∀ (r : Int32) (u : zS), post r u → J cx gg Q u (pc + 3) lv (.int r :: rest)) : J cx gg Q σ pc lv st := by
  subst hst; subst hb
  intro H locs ls hP hS hl
  have hts := hc.2.2.2.2.1
  have hrv := zrecv hc hi he hcl hP
  rw [hq] at hrv
  refine va_calli (va_runV (C := y.cls) (As := As) (rest := rest) ⟨hc.1, hc.2.1, hc.2.2.1, hc.2.2.2.1, hts⟩ hM (⟨callB_of n hts (zgood _ _ _ _ hcode) rfl rfl rfl (hts _ hini) (hts _ hlink) hy ⟨Nat.le_trans hr.1 hR.1, Nat.le_trans hr.2 hR.2.1⟩, hts _ hinst, hts _ hsel⟩) ⟨zPre.blind, hrv, fun U hU hW => ⟨rfl, hc.2.2.2.2.2.1.moved hW, by rw [hU]; exact hP⟩⟩ rfl hn (hl.1.trans ?_) rfl (lv_room hs) hd ⟨hR.2.2.1, hR.2.2.2⟩) hS (fun q _ h => ?_) (fun q h => ?_) (fun r u t H1 locs1 ht _ hw hB _ _ hS1 => kk r u hw H1 locs1 ls (by rw [← ht]; exact hB) hS1 hl)
  · exact hlen
  · obtain ⟨i', h1, rfl⟩ := h; exact hc.2.2.2.2.2.2.1 i' h1
  · obtain ⟨i', h1, rfl⟩ := h; exact hc.2.2.2.2.2.2.1 i' h1
theorem J_cSi (hc : zOK cx gg cc own nL) {f0 l0 : Nat} (hR : zR cx f0 l0) {y : MethodName} {bytes : ByteArray} {ret : FieldType} {maxL fr lo n index : Nat} {As rest : List Value} {post : Int32 → zS → Prop} (hlink : Cond.methodLink own index y ∈ zT) (hstat : Cond.static y ∈ zT) (hini : Cond.initialized y.cls ∈ zT) (hcode : Cond.code y bytes maxL (some ret) ∈ zT) (hy : y.cls ≠ "java/lang/invoke/MethodHandle" ∧ y.cls ≠ "java/lang/invoke/VarHandle" ∧ (parseMethodDescriptor y.desc).map (fun d => d.parameters.length) = some n) (hd : decode cc pc = .ok (.invokestatic index, 3))
    (hM : zMi cx.1.2.1 gg y bytes ret maxL fr lo As σ post) (hr : fr + 1 ≤ f0 ∧ 8 + (maxL + 11) + lo ≤ l0) (hn : As.length = n) (hst : st = As.reverse ++ rest) (hs : (rest.map fun v => v.category).sum ≤ 8) (hlen : lv.length = nL) (kk : ∀ (r : Int32) (u : zS), post r u → J cx gg Q u (pc + 3) lv (.int r :: rest)) : J cx gg Q σ pc lv st := by
  subst hst
  intro H locs ls hP hS hl
  have hts := hc.2.2.2.2.1
  refine va_calli (va_runS (As := As) (rest := rest) ⟨hc.1, hc.2.1, hc.2.2.1, hc.2.2.2.1, hts⟩ hM (⟨callB_of n hts (zgood _ _ _ _ hcode) rfl rfl rfl (hts _ hini) (hts _ hlink) hy ⟨Nat.le_trans hr.1 hR.1, Nat.le_trans hr.2 hR.2.1⟩, hts _ hstat⟩) ⟨zPre.blind, fun U hU hW => ⟨rfl, hc.2.2.2.2.2.1.moved hW, by rw [hU]; exact hP⟩⟩ rfl hn (hl.1.trans ?_) rfl (lv_room hs) hd ⟨hR.2.2.1, hR.2.2.2⟩) hS (fun q _ h => ?_) (fun q h => ?_) (fun r u t H1 locs1 ht _ hw hB _ _ hS1 => kk r u hw H1 locs1 ls (by rw [← ht]; exact hB) hS1 hl)
  · exact hlen
  · obtain ⟨i', h1, rfl⟩ := h; exact hc.2.2.2.2.2.2.1 i' h1
  · obtain ⟨i', h1, rfl⟩ := h; exact hc.2.2.2.2.2.2.1 i' h1
theorem J_cVNi (hc : zOK cx gg cc own nL) {f0 l0 : Nat} (hR : zR cx f0 l0) {y : MethodName} {bytes : ByteArray} {ret : FieldType} {maxL fr lo n index : Nat} {As rest : List Value} {post : Int32 → zS → Prop} {host : String} {i ci b : Nat} {fs : List Value} {q : vw_C} (hlink : Cond.methodLinkNest own index y host ∈ zN) (hinst : Cond.instanceMethod y ∈ zT) (hsel : Cond.selects y.cls y y ∈ zT) (hini : Cond.initialized y.cls ∈ zT) (hcode : Cond.code y bytes maxL (some ret) ∈ zT) (hy : y.cls ≠ "java/lang/invoke/MethodHandle" ∧ y.cls ≠ "java/lang/invoke/VarHandle" ∧ (parseMethodDescriptor y.desc).map (fun d => d.parameters.length) = some n) (hb : b = zad gg i) (hi : i < 45) (he : zE gg σ i = .inr (ci, fs)) (hcl : vwCl[ci]? = some q) (hq : q.1 = y.cls) (hd : decode cc pc = .ok (.invokevirtual index, 3))
    (hM : zMi cx.1.2.1 gg y bytes ret maxL fr lo (.ref b :: As) σ post) (hr : fr + 1 ≤ f0 ∧ 8 + (maxL + 11) + lo ≤ l0) (hn : As.length = n) (hst : st = As.reverse ++ .ref b :: rest) (hs : (rest.map fun v => v.category).sum ≤ 8) (hlen : lv.length = nL) (kk : ∀ (r : Int32) (u : zS), post r u → J cx gg Q u (pc + 3) lv (.int r :: rest)) : J cx gg Q σ pc lv st := by
  subst hst; subst hb
  intro H locs ls hP hS hl
  have hts := hc.2.2.2.2.1
  have hrv := zrecv hc hi he hcl hP
  rw [hq] at hrv
  refine va_calli (va_runVN (C := y.cls) (As := As) (rest := rest) ⟨hc.1, hc.2.1, hc.2.2.1, hc.2.2.2.1, hts⟩ hM (⟨va_cnB n hts (zgood _ _ _ _ hcode) rfl rfl rfl (hc.2.2.2.2.2.1.2.1 _ hlink) (hts _ hini) hy ⟨Nat.le_trans hr.1 hR.1, Nat.le_trans hr.2 hR.2.1⟩, hts _ hinst, hts _ hsel⟩) ⟨zPre.blind, hrv, fun U hU hW => ⟨rfl, hc.2.2.2.2.2.1.moved hW, by rw [hU]; exact hP⟩⟩ rfl hn (hl.1.trans ?_) rfl (lv_room hs) hd ⟨hR.2.2.1, hR.2.2.2⟩) hS (fun q _ h => ?_) (fun q h => ?_) (fun r u t H1 locs1 ht _ hw hB _ _ hS1 => kk r u hw H1 locs1 ls (by rw [← ht]; exact hB) hS1 hl)
  · exact hlen
  · obtain ⟨i', h1, rfl⟩ := h; exact hc.2.2.2.2.2.2.1 i' h1
  · obtain ⟨i', h1, rfl⟩ := h; exact hc.2.2.2.2.2.2.1 i' h1
theorem J_cSNi (hc : zOK cx gg cc own nL) {f0 l0 : Nat} (hR : zR cx f0 l0) {y : MethodName} {bytes : ByteArray} {ret : FieldType} {maxL fr lo n index : Nat} {As rest : List Value} {post : Int32 → zS → Prop} {host : String} (hlink : Cond.methodLinkNest own index y host ∈ zN) (hstat : Cond.static y ∈ zT) (hini : Cond.initialized y.cls ∈ zT) (hcode : Cond.code y bytes maxL (some ret) ∈ zT) (hy : y.cls ≠ "java/lang/invoke/MethodHandle" ∧ y.cls ≠ "java/lang/invoke/VarHandle" ∧ (parseMethodDescriptor y.desc).map (fun d => d.parameters.length) = some n) (hd : decode cc pc = .ok (.invokestatic index, 3))
    (hM : zMi cx.1.2.1 gg y bytes ret maxL fr lo As σ post) (hr : fr + 1 ≤ f0 ∧ 8 + (maxL + 11) + lo ≤ l0) (hn : As.length = n) (hst : st = As.reverse ++ rest) (hs : (rest.map fun v => v.category).sum ≤ 8) (hlen : lv.length = nL) (kk : ∀ (r : Int32) (u : zS), post r u → J cx gg Q u (pc + 3) lv (.int r :: rest)) : J cx gg Q σ pc lv st := by
  subst hst
  intro H locs ls hP hS hl
  have hts := hc.2.2.2.2.1
  refine va_calli (va_runSN (As := As) (rest := rest) ⟨hc.1, hc.2.1, hc.2.2.1, hc.2.2.2.1, hts⟩ hM (⟨va_cnB n hts (zgood _ _ _ _ hcode) rfl rfl rfl (hc.2.2.2.2.2.1.2.1 _ hlink) (hts _ hini) hy ⟨Nat.le_trans hr.1 hR.1, Nat.le_trans hr.2 hR.2.1⟩, hts _ hstat, trivial⟩) ⟨zPre.blind, fun U hU hW => ⟨rfl, hc.2.2.2.2.2.1.moved hW, by rw [hU]; exact hP⟩⟩ rfl hn (hl.1.trans ?_) rfl (lv_room hs) hd ⟨hR.2.2.1, hR.2.2.2⟩) hS (fun q _ h => ?_) (fun q h => ?_) (fun r u t H1 locs1 ht _ hw hB _ _ hS1 => kk r u hw H1 locs1 ls (by rw [← ht]; exact hB) hS1 hl)
  · exact hlen
  · obtain ⟨i', h1, rfl⟩ := h; exact hc.2.2.2.2.2.2.1 i' h1
  · obtain ⟨i', h1, rfl⟩ := h; exact hc.2.2.2.2.2.2.1 i' h1
theorem J_cVl (hc : zOK cx gg cc own nL) {f0 l0 : Nat} (hR : zR cx f0 l0) {y : MethodName} {bytes : ByteArray} {maxL fr lo n index : Nat} {As rest : List Value} {post : Int64 → zS → Prop} {i ci b : Nat} {fs : List Value} {q : vw_C} (hlink : Cond.methodLink own index y ∈ zT) (hinst : Cond.instanceMethod y ∈ zT) (hsel : Cond.selects y.cls y y ∈ zT) (hini : Cond.initialized y.cls ∈ zT) (hcode : Cond.code y bytes maxL (some .long) ∈ zT) (hy : y.cls ≠ "java/lang/invoke/MethodHandle" ∧ y.cls ≠ "java/lang/invoke/VarHandle" ∧ (parseMethodDescriptor y.desc).map (fun d => d.parameters.length) = some n) (hb : b = zad gg i) (hi : i < 45) (he : zE gg σ i = .inr (ci, fs)) (hcl : vwCl[ci]? = some q) (hq : q.1 = y.cls) (hd : decode cc pc = .ok (.invokevirtual index, 3))
    (hM : zMl cx.1.2.1 gg y bytes maxL fr lo (.ref b :: As) σ post) (hr : fr + 1 ≤ f0 ∧ 8 + (maxL + 11) + lo ≤ l0) (hn : As.length = n) (hst : st = As.reverse ++ .ref b :: rest) (hs : (rest.map fun v => v.category).sum ≤ 8) (hlen : lv.length = nL) (kk : ∀ (r : Int64) (u : zS), post r u → J cx gg Q u (pc + 3) lv (.long r :: rest)) : J cx gg Q σ pc lv st := by
  subst hst; subst hb
  intro H locs ls hP hS hl
  have hts := hc.2.2.2.2.1
  have hrv := zrecv hc hi he hcl hP
  rw [hq] at hrv
  refine va_calll (va_runV (C := y.cls) (As := As) (rest := rest) ⟨hc.1, hc.2.1, hc.2.2.1, hc.2.2.2.1, hts⟩ hM (⟨callB_of n hts (zgood _ _ _ _ hcode) rfl rfl rfl (hts _ hini) (hts _ hlink) hy ⟨Nat.le_trans hr.1 hR.1, Nat.le_trans hr.2 hR.2.1⟩, hts _ hinst, hts _ hsel⟩) ⟨zPre.blind, hrv, fun U hU hW => ⟨rfl, hc.2.2.2.2.2.1.moved hW, by rw [hU]; exact hP⟩⟩ rfl hn (hl.1.trans ?_) rfl (lv_room hs) hd ⟨hR.2.2.1, hR.2.2.2⟩) hS (fun q _ h => ?_) (fun q h => ?_) (fun r u t H1 locs1 ht _ hw hB _ _ hS1 => kk r u hw H1 locs1 ls (by rw [← ht]; exact hB) hS1 hl)
  · exact hlen
  · obtain ⟨i', h1, rfl⟩ := h; exact hc.2.2.2.2.2.2.1 i' h1
  · obtain ⟨i', h1, rfl⟩ := h; exact hc.2.2.2.2.2.2.1 i' h1
theorem J_cSl (hc : zOK cx gg cc own nL) {f0 l0 : Nat} (hR : zR cx f0 l0) {y : MethodName} {bytes : ByteArray} {maxL fr lo n index : Nat} {As rest : List Value} {post : Int64 → zS → Prop} (hlink : Cond.methodLink own index y ∈ zT) (hstat : Cond.static y ∈ zT) (hini : Cond.initialized y.cls ∈ zT) (hcode : Cond.code y bytes maxL (some .long) ∈ zT) (hy : y.cls ≠ "java/lang/invoke/MethodHandle" ∧ y.cls ≠ "java/lang/invoke/VarHandle" ∧ (parseMethodDescriptor y.desc).map (fun d => d.parameters.length) = some n) (hd : decode cc pc = .ok (.invokestatic index, 3))
    (hM : zMl cx.1.2.1 gg y bytes maxL fr lo As σ post) (hr : fr + 1 ≤ f0 ∧ 8 + (maxL + 11) + lo ≤ l0) (hn : As.length = n) (hst : st = As.reverse ++ rest) (hs : (rest.map fun v => v.category).sum ≤ 8) (hlen : lv.length = nL) (kk : ∀ (r : Int64) (u : zS), post r u → J cx gg Q u (pc + 3) lv (.long r :: rest)) : J cx gg Q σ pc lv st := by
  subst hst
  intro H locs ls hP hS hl
  have hts := hc.2.2.2.2.1
  refine va_calll (va_runS (As := As) (rest := rest) ⟨hc.1, hc.2.1, hc.2.2.1, hc.2.2.2.1, hts⟩ hM (⟨callB_of n hts (zgood _ _ _ _ hcode) rfl rfl rfl (hts _ hini) (hts _ hlink) hy ⟨Nat.le_trans hr.1 hR.1, Nat.le_trans hr.2 hR.2.1⟩, hts _ hstat⟩) ⟨zPre.blind, fun U hU hW => ⟨rfl, hc.2.2.2.2.2.1.moved hW, by rw [hU]; exact hP⟩⟩ rfl hn (hl.1.trans ?_) rfl (lv_room hs) hd ⟨hR.2.2.1, hR.2.2.2⟩) hS (fun q _ h => ?_) (fun q h => ?_) (fun r u t H1 locs1 ht _ hw hB _ _ hS1 => kk r u hw H1 locs1 ls (by rw [← ht]; exact hB) hS1 hl)
  · exact hlen
  · obtain ⟨i', h1, rfl⟩ := h; exact hc.2.2.2.2.2.2.1 i' h1
  · obtain ⟨i', h1, rfl⟩ := h; exact hc.2.2.2.2.2.2.1 i' h1
theorem J_cVNl (hc : zOK cx gg cc own nL) {f0 l0 : Nat} (hR : zR cx f0 l0) {y : MethodName} {bytes : ByteArray} {maxL fr lo n index : Nat} {As rest : List Value} {post : Int64 → zS → Prop} {host : String} {i ci b : Nat} {fs : List Value} {q : vw_C} (hlink : Cond.methodLinkNest own index y host ∈ zN) (hinst : Cond.instanceMethod y ∈ zT) (hsel : Cond.selects y.cls y y ∈ zT) (hini : Cond.initialized y.cls ∈ zT) (hcode : Cond.code y bytes maxL (some .long) ∈ zT) (hy : y.cls ≠ "java/lang/invoke/MethodHandle" ∧ y.cls ≠ "java/lang/invoke/VarHandle" ∧ (parseMethodDescriptor y.desc).map (fun d => d.parameters.length) = some n) (hb : b = zad gg i) (hi : i < 45) (he : zE gg σ i = .inr (ci, fs)) (hcl : vwCl[ci]? = some q) (hq : q.1 = y.cls) (hd : decode cc pc = .ok (.invokevirtual index, 3))
    (hM : zMl cx.1.2.1 gg y bytes maxL fr lo (.ref b :: As) σ post) (hr : fr + 1 ≤ f0 ∧ 8 + (maxL + 11) + lo ≤ l0) (hn : As.length = n) (hst : st = As.reverse ++ .ref b :: rest) (hs : (rest.map fun v => v.category).sum ≤ 8) (hlen : lv.length = nL) (kk : ∀ (r : Int64) (u : zS), post r u → J cx gg Q u (pc + 3) lv (.long r :: rest)) : J cx gg Q σ pc lv st := by
  subst hst; subst hb
  intro H locs ls hP hS hl
  have hts := hc.2.2.2.2.1
  have hrv := zrecv hc hi he hcl hP
  rw [hq] at hrv
  refine va_calll (va_runVN (C := y.cls) (As := As) (rest := rest) ⟨hc.1, hc.2.1, hc.2.2.1, hc.2.2.2.1, hts⟩ hM (⟨va_cnB n hts (zgood _ _ _ _ hcode) rfl rfl rfl (hc.2.2.2.2.2.1.2.1 _ hlink) (hts _ hini) hy ⟨Nat.le_trans hr.1 hR.1, Nat.le_trans hr.2 hR.2.1⟩, hts _ hinst, hts _ hsel⟩) ⟨zPre.blind, hrv, fun U hU hW => ⟨rfl, hc.2.2.2.2.2.1.moved hW, by rw [hU]; exact hP⟩⟩ rfl hn (hl.1.trans ?_) rfl (lv_room hs) hd ⟨hR.2.2.1, hR.2.2.2⟩) hS (fun q _ h => ?_) (fun q h => ?_) (fun r u t H1 locs1 ht _ hw hB _ _ hS1 => kk r u hw H1 locs1 ls (by rw [← ht]; exact hB) hS1 hl)
  · exact hlen
  · obtain ⟨i', h1, rfl⟩ := h; exact hc.2.2.2.2.2.2.1 i' h1
  · obtain ⟨i', h1, rfl⟩ := h; exact hc.2.2.2.2.2.2.1 i' h1
theorem J_cSNl (hc : zOK cx gg cc own nL) {f0 l0 : Nat} (hR : zR cx f0 l0) {y : MethodName} {bytes : ByteArray} {maxL fr lo n index : Nat} {As rest : List Value} {post : Int64 → zS → Prop} {host : String} (hlink : Cond.methodLinkNest own index y host ∈ zN) (hstat : Cond.static y ∈ zT) (hini : Cond.initialized y.cls ∈ zT) (hcode : Cond.code y bytes maxL (some .long) ∈ zT) (hy : y.cls ≠ "java/lang/invoke/MethodHandle" ∧ y.cls ≠ "java/lang/invoke/VarHandle" ∧ (parseMethodDescriptor y.desc).map (fun d => d.parameters.length) = some n) (hd : decode cc pc = .ok (.invokestatic index, 3))
    (hM : zMl cx.1.2.1 gg y bytes maxL fr lo As σ post) (hr : fr + 1 ≤ f0 ∧ 8 + (maxL + 11) + lo ≤ l0) (hn : As.length = n) (hst : st = As.reverse ++ rest) (hs : (rest.map fun v => v.category).sum ≤ 8) (hlen : lv.length = nL) (kk : ∀ (r : Int64) (u : zS), post r u → J cx gg Q u (pc + 3) lv (.long r :: rest)) : J cx gg Q σ pc lv st := by
  subst hst
  intro H locs ls hP hS hl
  have hts := hc.2.2.2.2.1
  refine va_calll (va_runSN (As := As) (rest := rest) ⟨hc.1, hc.2.1, hc.2.2.1, hc.2.2.2.1, hts⟩ hM (⟨va_cnB n hts (zgood _ _ _ _ hcode) rfl rfl rfl (hc.2.2.2.2.2.1.2.1 _ hlink) (hts _ hini) hy ⟨Nat.le_trans hr.1 hR.1, Nat.le_trans hr.2 hR.2.1⟩, hts _ hstat, trivial⟩) ⟨zPre.blind, fun U hU hW => ⟨rfl, hc.2.2.2.2.2.1.moved hW, by rw [hU]; exact hP⟩⟩ rfl hn (hl.1.trans ?_) rfl (lv_room hs) hd ⟨hR.2.2.1, hR.2.2.2⟩) hS (fun q _ h => ?_) (fun q h => ?_) (fun r u t H1 locs1 ht _ hw hB _ _ hS1 => kk r u hw H1 locs1 ls (by rw [← ht]; exact hB) hS1 hl)
  · exact hlen
  · obtain ⟨i', h1, rfl⟩ := h; exact hc.2.2.2.2.2.2.1 i' h1
  · obtain ⟨i', h1, rfl⟩ := h; exact hc.2.2.2.2.2.2.1 i' h1
end ZW
end
section
section ZK
variable {cx : zX} {gg : zG} {Q : State → Prop} {σ : zS} {pc : Nat} {lv : List (Option Value)} {st : List Value} {cc : ByteArray} {nL : Nat}
theorem zmem {w : Cond} (i : Nat) (h : lw_tbl[i]? = some w) (g : goodWord w = true) : w ∈ zT := List.mem_filter.mpr ⟨List.mem_of_getElem? h, g⟩
theorem zmemN {w : Cond} (i : Nat) (h : lw_tbl[i]? = some w) (g : zNest w = true) : w ∈ zN := List.mem_filter.mpr ⟨List.mem_of_getElem? h, g⟩
theorem zinX0 : ∀ w ∈ u_ws RX0 TX0 4, w ∈ zT := by decide +kernel
theorem zinX1 : ∀ w ∈ u_ws RX1 TX1 2, w ∈ zT := by decide +kernel
theorem zinX2 : ∀ w ∈ u_ws RX2 TX2 5, w ∈ zT := by decide +kernel
theorem zinX3 : ∀ w ∈ u_ws RX3 TX3 6, w ∈ zT := by decide +kernel
theorem zinX4 : ∀ w ∈ u_ws RX4 TX4 13, w ∈ zT := by decide +kernel
theorem gX0_9 (hc : zOK cx gg cc RX0 nL) {k : Nat} (hk : k < 7) (hd : decode cc pc = .ok (.getfield 9, 3)) (kk : J cx gg Q σ (pc + 3) lv (.ref (zr gg k) :: st)) : J cx gg Q σ pc lv (.ref (zc gg k) :: st) :=
  J_getg hc (i := 2 + k) rfl (by omega) (zE_c gg σ hk) (ci := 0) rfl zinX0 0 (by decide) (zmem 68 (by decide +kernel) (by decide +kernel)) rfl hd kk
theorem gX2_34 (hc : zOK cx gg cc RX2 nL) {k : Nat} (hk : k < 7) (hd : decode cc pc = .ok (.getfield 34, 3)) (kk : J cx gg Q σ (pc + 3) lv (.ref (zr gg k) :: st)) : J cx gg Q σ pc lv (.ref (zc gg k) :: st) :=
  J_getN hc (host := "SmoothPieces") (i := 2 + k) rfl (by omega) (zE_c gg σ hk) (ci := 0) rfl zinX0 0 (by decide) (zmemN 69 (by decide +kernel) (by decide +kernel)) rfl hd kk
theorem gX3_63 (hc : zOK cx gg cc RX3 nL) {k : Nat} (hk : k < 7) (hd : decode cc pc = .ok (.getfield 63, 3)) (kk : J cx gg Q σ (pc + 3) lv (.ref (zr gg k) :: st)) : J cx gg Q σ pc lv (.ref (zc gg k) :: st) :=
  J_getN hc (host := "SmoothPieces") (i := 2 + k) rfl (by omega) (zE_c gg σ hk) (ci := 0) rfl zinX0 0 (by decide) (zmemN 70 (by decide +kernel) (by decide +kernel)) rfl hd kk
theorem gX0_15 (hc : zOK cx gg cc RX0 nL) {k : Nat} (hk : k < 7) (hd : decode cc pc = .ok (.getfield 15, 3)) (kk : J cx gg Q σ (pc + 3) lv (.ref (zr gg (7 + k)) :: st)) : J cx gg Q σ pc lv (.ref (zc gg k) :: st) :=
  J_getg hc (i := 2 + k) rfl (by omega) (zE_c gg σ hk) (ci := 0) rfl zinX0 1 (by decide) (zmem 71 (by decide +kernel) (by decide +kernel)) rfl hd kk
theorem gX2_36 (hc : zOK cx gg cc RX2 nL) {k : Nat} (hk : k < 7) (hd : decode cc pc = .ok (.getfield 36, 3)) (kk : J cx gg Q σ (pc + 3) lv (.ref (zr gg (7 + k)) :: st)) : J cx gg Q σ pc lv (.ref (zc gg k) :: st) :=
  J_getN hc (host := "SmoothPieces") (i := 2 + k) rfl (by omega) (zE_c gg σ hk) (ci := 0) rfl zinX0 1 (by decide) (zmemN 72 (by decide +kernel) (by decide +kernel)) rfl hd kk
theorem gX3_66 (hc : zOK cx gg cc RX3 nL) {k : Nat} (hk : k < 7) (hd : decode cc pc = .ok (.getfield 66, 3)) (kk : J cx gg Q σ (pc + 3) lv (.ref (zr gg (7 + k)) :: st)) : J cx gg Q σ pc lv (.ref (zc gg k) :: st) :=
  J_getN hc (host := "SmoothPieces") (i := 2 + k) rfl (by omega) (zE_c gg σ hk) (ci := 0) rfl zinX0 1 (by decide) (zmemN 73 (by decide +kernel) (by decide +kernel)) rfl hd kk
theorem gX0_18 (hc : zOK cx gg cc RX0 nL) {k : Nat} (hk : k < 7) (hd : decode cc pc = .ok (.getfield 18, 3)) (kk : J cx gg Q σ (pc + 3) lv (.ref (zr gg (14 + k)) :: st)) : J cx gg Q σ pc lv (.ref (zc gg k) :: st) :=
  J_getg hc (i := 2 + k) rfl (by omega) (zE_c gg σ hk) (ci := 0) rfl zinX0 2 (by decide) (zmem 74 (by decide +kernel) (by decide +kernel)) rfl hd kk
theorem gX2_38 (hc : zOK cx gg cc RX2 nL) {k : Nat} (hk : k < 7) (hd : decode cc pc = .ok (.getfield 38, 3)) (kk : J cx gg Q σ (pc + 3) lv (.ref (zr gg (14 + k)) :: st)) : J cx gg Q σ pc lv (.ref (zc gg k) :: st) :=
  J_getN hc (host := "SmoothPieces") (i := 2 + k) rfl (by omega) (zE_c gg σ hk) (ci := 0) rfl zinX0 2 (by decide) (zmemN 75 (by decide +kernel) (by decide +kernel)) rfl hd kk
theorem gX3_69 (hc : zOK cx gg cc RX3 nL) {k : Nat} (hk : k < 7) (hd : decode cc pc = .ok (.getfield 69, 3)) (kk : J cx gg Q σ (pc + 3) lv (.ref (zr gg (14 + k)) :: st)) : J cx gg Q σ pc lv (.ref (zc gg k) :: st) :=
  J_getN hc (host := "SmoothPieces") (i := 2 + k) rfl (by omega) (zE_c gg σ hk) (ci := 0) rfl zinX0 2 (by decide) (zmemN 76 (by decide +kernel) (by decide +kernel)) rfl hd kk
theorem gX0_21 (hc : zOK cx gg cc RX0 nL) {k : Nat} (hk : k < 7) (hd : decode cc pc = .ok (.getfield 21, 3)) (kk : J cx gg Q σ (pc + 3) lv (.int (si σ k) :: st)) : J cx gg Q σ pc lv (.ref (zc gg k) :: st) :=
  J_getg hc (i := 2 + k) rfl (by omega) (zE_c gg σ hk) (ci := 0) rfl zinX0 3 (by decide) (zmem 77 (by decide +kernel) (by decide +kernel)) rfl hd kk
theorem pX0_21 (hc : zOK cx gg cc RX0 nL) {k : Nat} (hk : k < 7) {v : Int32} (hd : decode cc pc = .ok (.putfield 21, 3)) (kk : J cx gg Q (ui σ k v) (pc + 3) lv st) : J cx gg Q σ pc lv (.int v :: .ref (zc gg k) :: st) :=
  J_putg hc (ty := .int) (i := 2 + k) rfl (by omega) (zE_c gg σ hk) (ci := 0) rfl zinX0 tyX0 tyX0_ok nmX0 3 (by decide) (zmem 77 (by decide +kernel) (by decide +kernel)) rfl (by decide +kernel) rfl rfl (by simp) (by rw [zE_c gg _ hk, si_ui_s]; rfl) (fun j hj h => zE_ui gg σ v (by omega) hj (by unfold zoi; first | rw [if_pos hk]; exact h | exact h)) hd kk
theorem gX2_29 (hc : zOK cx gg cc RX2 nL) {k : Nat} (hk : k < 7) (hd : decode cc pc = .ok (.getfield 29, 3)) (kk : J cx gg Q σ (pc + 3) lv (.int (si σ k) :: st)) : J cx gg Q σ pc lv (.ref (zc gg k) :: st) :=
  J_getN hc (host := "SmoothPieces") (i := 2 + k) rfl (by omega) (zE_c gg σ hk) (ci := 0) rfl zinX0 3 (by decide) (zmemN 78 (by decide +kernel) (by decide +kernel)) rfl hd kk
theorem gX3_77 (hc : zOK cx gg cc RX3 nL) {k : Nat} (hk : k < 7) (hd : decode cc pc = .ok (.getfield 77, 3)) (kk : J cx gg Q σ (pc + 3) lv (.int (si σ k) :: st)) : J cx gg Q σ pc lv (.ref (zc gg k) :: st) :=
  J_getN hc (host := "SmoothPieces") (i := 2 + k) rfl (by omega) (zE_c gg σ hk) (ci := 0) rfl zinX0 3 (by decide) (zmemN 79 (by decide +kernel) (by decide +kernel)) rfl hd kk
theorem gX2_9 (hc : zOK cx gg cc RX2 nL) (hd : decode cc pc = .ok (.getfield 9, 3)) (kk : J cx gg Q σ (pc + 3) lv (.ref (zr gg 22) :: st)) : J cx gg Q σ pc lv (.ref (zf gg) :: st) :=
  J_getg hc (i := 42) rfl (by decide) rfl (ci := 2) rfl zinX2 0 (by decide) (zmem 96 (by decide +kernel) (by decide +kernel)) rfl hd kk
theorem gX3_114 (hc : zOK cx gg cc RX3 nL) (hd : decode cc pc = .ok (.getfield 114, 3)) (kk : J cx gg Q σ (pc + 3) lv (.ref (zr gg 22) :: st)) : J cx gg Q σ pc lv (.ref (zf gg) :: st) :=
  J_getN hc (host := "SmoothPieces") (i := 42) rfl (by decide) rfl (ci := 2) rfl zinX2 0 (by decide) (zmemN 97 (by decide +kernel) (by decide +kernel)) rfl hd kk
theorem gX2_15 (hc : zOK cx gg cc RX2 nL) (hd : decode cc pc = .ok (.getfield 15, 3)) (kk : J cx gg Q σ (pc + 3) lv (.int (si σ 8) :: st)) : J cx gg Q σ pc lv (.ref (zf gg) :: st) :=
  J_getg hc (i := 42) rfl (by decide) rfl (ci := 2) rfl zinX2 1 (by decide) (zmem 98 (by decide +kernel) (by decide +kernel)) rfl hd kk
theorem pX2_15 (hc : zOK cx gg cc RX2 nL) {v : Int32} (hd : decode cc pc = .ok (.putfield 15, 3)) (kk : J cx gg Q (ui σ 8 v) (pc + 3) lv st) : J cx gg Q σ pc lv (.int v :: .ref (zf gg) :: st) :=
  J_putg hc (ty := .int) (i := 42) rfl (by decide) rfl (ci := 2) rfl zinX2 tyX2 tyX2_ok nmX2 1 (by decide) (zmem 98 (by decide +kernel) (by decide +kernel)) rfl (by decide +kernel) rfl rfl (by simp) rfl (fun j hj h => zE_ui gg σ v (by omega) hj (by unfold zoi; first | rw [if_pos hk]; exact h | exact h)) hd kk
theorem gX3_192 (hc : zOK cx gg cc RX3 nL) (hd : decode cc pc = .ok (.getfield 192, 3)) (kk : J cx gg Q σ (pc + 3) lv (.int (si σ 8) :: st)) : J cx gg Q σ pc lv (.ref (zf gg) :: st) :=
  J_getN hc (host := "SmoothPieces") (i := 42) rfl (by decide) rfl (ci := 2) rfl zinX2 1 (by decide) (zmemN 99 (by decide +kernel) (by decide +kernel)) rfl hd kk
theorem gX2_19 (hc : zOK cx gg cc RX2 nL) (hd : decode cc pc = .ok (.getfield 19, 3)) (kk : J cx gg Q σ (pc + 3) lv (.long (sl σ 0) :: st)) : J cx gg Q σ pc lv (.ref (zf gg) :: st) :=
  J_getg hc (i := 42) rfl (by decide) rfl (ci := 2) rfl zinX2 2 (by decide) (zmem 100 (by decide +kernel) (by decide +kernel)) rfl hd kk
theorem pX2_19 (hc : zOK cx gg cc RX2 nL) {v : Int64} (hd : decode cc pc = .ok (.putfield 19, 3)) (kk : J cx gg Q (ul σ 0 v) (pc + 3) lv st) : J cx gg Q σ pc lv (.long v :: .ref (zf gg) :: st) :=
  J_putg hc (ty := .long) (i := 42) rfl (by decide) rfl (ci := 2) rfl zinX2 tyX2 tyX2_ok nmX2 2 (by decide) (zmem 100 (by decide +kernel) (by decide +kernel)) rfl (by decide +kernel) rfl rfl (by simp) rfl (fun j hj h => zE_ul gg σ v h) hd kk
theorem gX2_23 (hc : zOK cx gg cc RX2 nL) (hd : decode cc pc = .ok (.getfield 23, 3)) (kk : J cx gg Q σ (pc + 3) lv (.long (sl σ 1) :: st)) : J cx gg Q σ pc lv (.ref (zf gg) :: st) :=
  J_getg hc (i := 42) rfl (by decide) rfl (ci := 2) rfl zinX2 3 (by decide) (zmem 101 (by decide +kernel) (by decide +kernel)) rfl hd kk
theorem pX2_23 (hc : zOK cx gg cc RX2 nL) {v : Int64} (hd : decode cc pc = .ok (.putfield 23, 3)) (kk : J cx gg Q (ul σ 1 v) (pc + 3) lv st) : J cx gg Q σ pc lv (.long v :: .ref (zf gg) :: st) :=
  J_putg hc (ty := .long) (i := 42) rfl (by decide) rfl (ci := 2) rfl zinX2 tyX2 tyX2_ok nmX2 3 (by decide) (zmem 101 (by decide +kernel) (by decide +kernel)) rfl (by decide +kernel) rfl rfl (by simp) rfl (fun j hj h => zE_ul gg σ v h) hd kk
theorem gX2_26 (hc : zOK cx gg cc RX2 nL) (hd : decode cc pc = .ok (.getfield 26, 3)) (kk : J cx gg Q σ (pc + 3) lv (.long (sl σ 2) :: st)) : J cx gg Q σ pc lv (.ref (zf gg) :: st) :=
  J_getg hc (i := 42) rfl (by decide) rfl (ci := 2) rfl zinX2 4 (by decide) (zmem 102 (by decide +kernel) (by decide +kernel)) rfl hd kk
theorem pX2_26 (hc : zOK cx gg cc RX2 nL) {v : Int64} (hd : decode cc pc = .ok (.putfield 26, 3)) (kk : J cx gg Q (ul σ 2 v) (pc + 3) lv st) : J cx gg Q σ pc lv (.long v :: .ref (zf gg) :: st) :=
  J_putg hc (ty := .long) (i := 42) rfl (by decide) rfl (ci := 2) rfl zinX2 tyX2 tyX2_ok nmX2 4 (by decide) (zmem 102 (by decide +kernel) (by decide +kernel)) rfl (by decide +kernel) rfl rfl (by simp) rfl (fun j hj h => zE_ul gg σ v h) hd kk
theorem gX1_7 (hc : zOK cx gg cc RX1 nL) (hd : decode cc pc = .ok (.getfield 7, 3)) (kk : J cx gg Q σ (pc + 3) lv (.int (si σ 9) :: st)) : J cx gg Q σ pc lv (.ref (zn gg) :: st) :=
  J_getg hc (i := 43) rfl (by decide) rfl (ci := 1) rfl zinX1 0 (by decide) (zmem 120 (by decide +kernel) (by decide +kernel)) rfl hd kk
theorem pX1_7 (hc : zOK cx gg cc RX1 nL) {v : Int32} (hd : decode cc pc = .ok (.putfield 7, 3)) (kk : J cx gg Q (ui σ 9 v) (pc + 3) lv st) : J cx gg Q σ pc lv (.int v :: .ref (zn gg) :: st) :=
  J_putg hc (ty := .int) (i := 43) rfl (by decide) rfl (ci := 1) rfl zinX1 tyX1 tyX1_ok nmX1 0 (by decide) (zmem 120 (by decide +kernel) (by decide +kernel)) rfl (by decide +kernel) rfl rfl (by simp) rfl (fun j hj h => zE_ui gg σ v (by omega) hj (by unfold zoi; first | rw [if_pos hk]; exact h | exact h)) hd kk
theorem gX3_158 (hc : zOK cx gg cc RX3 nL) (hd : decode cc pc = .ok (.getfield 158, 3)) (kk : J cx gg Q σ (pc + 3) lv (.int (si σ 9) :: st)) : J cx gg Q σ pc lv (.ref (zn gg) :: st) :=
  J_getN hc (host := "SmoothPieces") (i := 43) rfl (by decide) rfl (ci := 1) rfl zinX1 0 (by decide) (zmemN 121 (by decide +kernel) (by decide +kernel)) rfl hd kk
theorem gX1_13 (hc : zOK cx gg cc RX1 nL) (hd : decode cc pc = .ok (.getfield 13, 3)) (kk : J cx gg Q σ (pc + 3) lv (.int (si σ 10) :: st)) : J cx gg Q σ pc lv (.ref (zn gg) :: st) :=
  J_getg hc (i := 43) rfl (by decide) rfl (ci := 1) rfl zinX1 1 (by decide) (zmem 122 (by decide +kernel) (by decide +kernel)) rfl hd kk
theorem pX1_13 (hc : zOK cx gg cc RX1 nL) {v : Int32} (hd : decode cc pc = .ok (.putfield 13, 3)) (kk : J cx gg Q (ui σ 10 v) (pc + 3) lv st) : J cx gg Q σ pc lv (.int v :: .ref (zn gg) :: st) :=
  J_putg hc (ty := .int) (i := 43) rfl (by decide) rfl (ci := 1) rfl zinX1 tyX1 tyX1_ok nmX1 1 (by decide) (zmem 122 (by decide +kernel) (by decide +kernel)) rfl (by decide +kernel) rfl rfl (by simp) rfl (fun j hj h => zE_ui gg σ v (by omega) hj (by unfold zoi; first | rw [if_pos hk]; exact h | exact h)) hd kk
theorem gX3_161 (hc : zOK cx gg cc RX3 nL) (hd : decode cc pc = .ok (.getfield 161, 3)) (kk : J cx gg Q σ (pc + 3) lv (.int (si σ 10) :: st)) : J cx gg Q σ pc lv (.ref (zn gg) :: st) :=
  J_getN hc (host := "SmoothPieces") (i := 43) rfl (by decide) rfl (ci := 1) rfl zinX1 1 (by decide) (zmemN 123 (by decide +kernel) (by decide +kernel)) rfl hd kk
theorem gX3_11 (hc : zOK cx gg cc RX3 nL) (hd : decode cc pc = .ok (.getfield 11, 3)) (kk : J cx gg Q σ (pc + 3) lv (.ref (zv gg) :: st)) : J cx gg Q σ pc lv (.ref (zo gg) :: st) :=
  J_getg hc (i := 0) rfl (by decide) rfl (ci := 3) rfl zinX3 0 (by decide) (zmem 129 (by decide +kernel) (by decide +kernel)) rfl hd kk
theorem gX3_16 (hc : zOK cx gg cc RX3 nL) (hd : decode cc pc = .ok (.getfield 16, 3)) (kk : J cx gg Q σ (pc + 3) lv (.ref (zc gg 6) :: st)) : J cx gg Q σ pc lv (.ref (zo gg) :: st) :=
  J_getg hc (i := 0) rfl (by decide) rfl (ci := 3) rfl zinX3 1 (by decide) (zmem 130 (by decide +kernel) (by decide +kernel)) rfl hd kk
theorem gX3_23 (hc : zOK cx gg cc RX3 nL) (hd : decode cc pc = .ok (.getfield 23, 3)) (kk : J cx gg Q σ (pc + 3) lv (.ref (zf gg) :: st)) : J cx gg Q σ pc lv (.ref (zo gg) :: st) :=
  J_getg hc (i := 0) rfl (by decide) rfl (ci := 3) rfl zinX3 2 (by decide) (zmem 131 (by decide +kernel) (by decide +kernel)) rfl hd kk
theorem gX3_30 (hc : zOK cx gg cc RX3 nL) (hd : decode cc pc = .ok (.getfield 30, 3)) (kk : J cx gg Q σ (pc + 3) lv (.ref (zn gg) :: st)) : J cx gg Q σ pc lv (.ref (zo gg) :: st) :=
  J_getg hc (i := 0) rfl (by decide) rfl (ci := 3) rfl zinX3 3 (by decide) (zmem 132 (by decide +kernel) (by decide +kernel)) rfl hd kk
theorem gX3_34 (hc : zOK cx gg cc RX3 nL) (hd : decode cc pc = .ok (.getfield 34, 3)) (kk : J cx gg Q σ (pc + 3) lv (.ref (zr gg 21) :: st)) : J cx gg Q σ pc lv (.ref (zo gg) :: st) :=
  J_getg hc (i := 0) rfl (by decide) rfl (ci := 3) rfl zinX3 4 (by decide) (zmem 133 (by decide +kernel) (by decide +kernel)) rfl hd kk
theorem gX3_38 (hc : zOK cx gg cc RX3 nL) (hd : decode cc pc = .ok (.getfield 38, 3)) (kk : J cx gg Q σ (pc + 3) lv (.int (si σ 7) :: st)) : J cx gg Q σ pc lv (.ref (zo gg) :: st) :=
  J_getg hc (i := 0) rfl (by decide) rfl (ci := 3) rfl zinX3 5 (by decide) (zmem 134 (by decide +kernel) (by decide +kernel)) rfl hd kk
theorem pX3_38 (hc : zOK cx gg cc RX3 nL) {v : Int32} (hd : decode cc pc = .ok (.putfield 38, 3)) (kk : J cx gg Q (ui σ 7 v) (pc + 3) lv st) : J cx gg Q σ pc lv (.int v :: .ref (zo gg) :: st) :=
  J_putg hc (ty := .int) (i := 0) rfl (by decide) rfl (ci := 3) rfl zinX3 tyX3 tyX3_ok nmX3 5 (by decide) (zmem 134 (by decide +kernel) (by decide +kernel)) rfl (by decide +kernel) rfl rfl (by simp) rfl (fun j hj h => zE_ui gg σ v (by omega) hj (by unfold zoi; first | rw [if_pos hk]; exact h | exact h)) hd kk
theorem wnX3 : Cond.initialized RX3 ∈ zT := (zmem 47 (by decide +kernel) (by decide +kernel))
theorem wcyX3_pieces : Cond.code yX3_pieces cX3_pieces 3 (some .int) ∈ zT := (zmem 151 (by decide +kernel) (by decide +kernel))
theorem wiyX3_pieces : Cond.instanceMethod yX3_pieces ∈ zT := (zmem 149 (by decide +kernel) (by decide +kernel))
theorem weyX3_pieces : Cond.selects yX3_pieces.cls yX3_pieces yX3_pieces ∈ zT := (zmem 150 (by decide +kernel) (by decide +kernel))
theorem wcyX3_isNoPlace : Cond.code yX3_isNoPlace cX3_isNoPlace 1 (some .boolean) ∈ zT := (zmem 154 (by decide +kernel) (by decide +kernel))
theorem wtyX3_isNoPlace : Cond.static yX3_isNoPlace ∈ zT := (zmem 153 (by decide +kernel) (by decide +kernel))
theorem kX3_42 (hc : zOK cx gg cc RX3 nL) {f0 l0 : Nat} (hR : zR cx f0 l0) {fr lo : Nat} {a0 : Value} {rest : List Value} {post : Int32 → zS → Prop} (hd : decode cc pc = .ok (.invokestatic 42, 3)) (hM : zMi cx.1.2.1 gg yX3_isNoPlace cX3_isNoPlace .boolean 1 fr lo [a0] σ post) (hr : fr + 1 ≤ f0 ∧ 8 + (1 + 11) + lo ≤ l0) (hs : (rest.map fun v => v.category).sum ≤ 8) (hlen : lv.length = nL) (kk : ∀ (r : Int32) (u : zS), post r u → J cx gg Q u (pc + 3) lv (.int r :: rest)) : J cx gg Q σ pc lv (a0 :: rest) :=
  J_cSi hc hR (n := 1) (zmem 152 (by decide +kernel) (by decide +kernel)) wtyX3_isNoPlace wnX3 wcyX3_isNoPlace (by decide +kernel) hd hM hr rfl rfl hs hlen kk
theorem wnX0 : Cond.initialized RX0 ∈ zT := (zmem 48 (by decide +kernel) (by decide +kernel))
theorem wcyX0_becomeZero : Cond.code yX0_becomeZero cX0_becomeZero 3 none ∈ zT := (zmem 158 (by decide +kernel) (by decide +kernel))
theorem wiyX0_becomeZero : Cond.instanceMethod yX0_becomeZero ∈ zT := (zmem 157 (by decide +kernel) (by decide +kernel))
theorem weyX0_becomeZero : Cond.selects yX0_becomeZero.cls yX0_becomeZero yX0_becomeZero ∈ zT := (zmem 0 (by decide +kernel) (by decide +kernel))
theorem kX3_46 (hc : zOK cx gg cc RX3 nL) {f0 l0 : Nat} (hR : zR cx f0 l0) {fr lo : Nat} {k : Nat} (hk : k < 7) {a0 : Value} {rest : List Value} {post : zS → Prop} (hd : decode cc pc = .ok (.invokevirtual 46, 3)) (hM : zMv cx.1.2.1 gg yX0_becomeZero cX0_becomeZero 3 fr lo (.ref (zc gg k) :: [a0]) σ post) (hr : fr + 1 ≤ f0 ∧ 8 + (3 + 11) + lo ≤ l0) (hs : (rest.map fun v => v.category).sum ≤ 8) (hlen : lv.length = nL) (kk : ∀ u : zS, post u → J cx gg Q u (pc + 3) lv rest) : J cx gg Q σ pc lv (a0 :: .ref (zc gg k) :: rest) :=
  J_cVNv hc hR (host := "SmoothPieces") (n := 1) (i := 2 + k) (zmemN 155 (by decide +kernel) (by decide +kernel)) wiyX0_becomeZero weyX0_becomeZero wnX0 wcyX0_becomeZero (by decide +kernel) rfl (by omega) (zE_c gg σ hk) (ci := 0) rfl rfl hd hM hr rfl rfl hs hlen kk
theorem wcyX0_put : Cond.code yX0_put cX0_put 5 none ∈ zT := (zmem 162 (by decide +kernel) (by decide +kernel))
theorem wiyX0_put : Cond.instanceMethod yX0_put ∈ zT := (zmem 161 (by decide +kernel) (by decide +kernel))
theorem weyX0_put : Cond.selects yX0_put.cls yX0_put yX0_put ∈ zT := (zmem 1 (by decide +kernel) (by decide +kernel))
theorem kX0_25 (hc : zOK cx gg cc RX0 nL) {f0 l0 : Nat} (hR : zR cx f0 l0) {fr lo : Nat} {k : Nat} (hk : k < 7) {a0 a1 a2 a3 : Value} {rest : List Value} {post : zS → Prop} (hd : decode cc pc = .ok (.invokevirtual 25, 3)) (hM : zMv cx.1.2.1 gg yX0_put cX0_put 5 fr lo (.ref (zc gg k) :: [a0, a1, a2, a3]) σ post) (hr : fr + 1 ≤ f0 ∧ 8 + (5 + 11) + lo ≤ l0) (hs : (rest.map fun v => v.category).sum ≤ 8) (hlen : lv.length = nL) (kk : ∀ u : zS, post u → J cx gg Q u (pc + 3) lv rest) : J cx gg Q σ pc lv (a3 :: a2 :: a1 :: a0 :: .ref (zc gg k) :: rest) :=
  J_cVv hc hR (n := 4) (i := 2 + k) (zmem 159 (by decide +kernel) (by decide +kernel)) wiyX0_put weyX0_put wnX0 wcyX0_put (by decide +kernel) rfl (by omega) (zE_c gg σ hk) (ci := 0) rfl rfl hd hM hr rfl rfl hs hlen kk
theorem wcyX3_piece : Cond.code yX3_piece cX3_piece 6 (some .int) ∈ zT := (zmem 166 (by decide +kernel) (by decide +kernel))
theorem wiyX3_piece : Cond.instanceMethod yX3_piece ∈ zT := (zmem 164 (by decide +kernel) (by decide +kernel))
theorem weyX3_piece : Cond.selects yX3_piece.cls yX3_piece yX3_piece ∈ zT := (zmem 165 (by decide +kernel) (by decide +kernel))
theorem wcyX3_isNoPiece : Cond.code yX3_isNoPiece cX3_isNoPiece 3 (some .boolean) ∈ zT := (zmem 170 (by decide +kernel) (by decide +kernel))
theorem wiyX3_isNoPiece : Cond.instanceMethod yX3_isNoPiece ∈ zT := (zmem 169 (by decide +kernel) (by decide +kernel))
theorem weyX3_isNoPiece : Cond.selects yX3_isNoPiece.cls yX3_isNoPiece yX3_isNoPiece ∈ zT := (zmem 2 (by decide +kernel) (by decide +kernel))
theorem kX3_50 (hc : zOK cx gg cc RX3 nL) {f0 l0 : Nat} (hR : zR cx f0 l0) {fr lo : Nat} {a0 a1 : Value} {rest : List Value} {post : Int32 → zS → Prop} (hd : decode cc pc = .ok (.invokevirtual 50, 3)) (hM : zMi cx.1.2.1 gg yX3_isNoPiece cX3_isNoPiece .boolean 3 fr lo (.ref (zo gg) :: [a0, a1]) σ post) (hr : fr + 1 ≤ f0 ∧ 8 + (3 + 11) + lo ≤ l0) (hs : (rest.map fun v => v.category).sum ≤ 8) (hlen : lv.length = nL) (kk : ∀ (r : Int32) (u : zS), post r u → J cx gg Q u (pc + 3) lv (.int r :: rest)) : J cx gg Q σ pc lv (a1 :: a0 :: .ref (zo gg) :: rest) :=
  J_cVi hc hR (n := 2) (i := 0) (zmem 167 (by decide +kernel) (by decide +kernel)) wiyX3_isNoPiece weyX3_isNoPiece wnX3 wcyX3_isNoPiece (by decide +kernel) rfl (by decide) rfl (ci := 3) rfl rfl hd hM hr rfl rfl hs hlen kk
theorem nX3_54 (hc : zOK cx gg cc RX3 nL) (hd : decode cc pc = .ok (.ldc 54, 2)) (kk : J cx gg Q σ (pc + 2) lv (.int (100000) :: st)) : J cx gg Q σ pc lv st := J_ldc hc (zmem 171 (by decide +kernel) (by decide +kernel)) hd kk
theorem wcyX3_isBeyond : Cond.code yX3_isBeyond cX3_isBeyond 2 (some .boolean) ∈ zT := (zmem 174 (by decide +kernel) (by decide +kernel))
theorem wtyX3_isBeyond : Cond.static yX3_isBeyond ∈ zT := (zmem 173 (by decide +kernel) (by decide +kernel))
theorem kX3_55 (hc : zOK cx gg cc RX3 nL) {f0 l0 : Nat} (hR : zR cx f0 l0) {fr lo : Nat} {a0 a1 : Value} {rest : List Value} {post : Int32 → zS → Prop} (hd : decode cc pc = .ok (.invokestatic 55, 3)) (hM : zMi cx.1.2.1 gg yX3_isBeyond cX3_isBeyond .boolean 2 fr lo [a0, a1] σ post) (hr : fr + 1 ≤ f0 ∧ 8 + (2 + 11) + lo ≤ l0) (hs : (rest.map fun v => v.category).sum ≤ 8) (hlen : lv.length = nL) (kk : ∀ (r : Int32) (u : zS), post r u → J cx gg Q u (pc + 3) lv (.int r :: rest)) : J cx gg Q σ pc lv (a1 :: a0 :: rest) :=
  J_cSi hc hR (n := 2) (zmem 172 (by decide +kernel) (by decide +kernel)) wtyX3_isBeyond wnX3 wcyX3_isBeyond (by decide +kernel) hd hM hr rfl rfl hs hlen kk
theorem kX3_58 (hc : zOK cx gg cc RX3 nL) {f0 l0 : Nat} (hR : zR cx f0 l0) {fr lo : Nat} {k : Nat} (hk : k < 7) {a0 a1 a2 a3 : Value} {rest : List Value} {post : zS → Prop} (hd : decode cc pc = .ok (.invokevirtual 58, 3)) (hM : zMv cx.1.2.1 gg yX0_put cX0_put 5 fr lo (.ref (zc gg k) :: [a0, a1, a2, a3]) σ post) (hr : fr + 1 ≤ f0 ∧ 8 + (5 + 11) + lo ≤ l0) (hs : (rest.map fun v => v.category).sum ≤ 8) (hlen : lv.length = nL) (kk : ∀ u : zS, post u → J cx gg Q u (pc + 3) lv rest) : J cx gg Q σ pc lv (a3 :: a2 :: a1 :: a0 :: .ref (zc gg k) :: rest) :=
  J_cVNv hc hR (host := "SmoothPieces") (n := 4) (i := 2 + k) (zmemN 175 (by decide +kernel) (by decide +kernel)) wiyX0_put weyX0_put wnX0 wcyX0_put (by decide +kernel) rfl (by omega) (zE_c gg σ hk) (ci := 0) rfl rfl hd hM hr rfl rfl hs hlen kk
theorem wcyX3_of : Cond.code yX3_of cX3_of 4 (some .int) ∈ zT := (zmem 179 (by decide +kernel) (by decide +kernel))
theorem wiyX3_of : Cond.instanceMethod yX3_of ∈ zT := (zmem 177 (by decide +kernel) (by decide +kernel))
theorem weyX3_of : Cond.selects yX3_of.cls yX3_of yX3_of ∈ zT := (zmem 178 (by decide +kernel) (by decide +kernel))
theorem nX3_62 (hc : zOK cx gg cc RX3 nL) (hd : decode cc pc = .ok (.ldc 62, 2)) (kk : J cx gg Q σ (pc + 2) lv (.int (-2147483648) :: st)) : J cx gg Q σ pc lv st := J_ldc hc (zmem 180 (by decide +kernel) (by decide +kernel)) hd kk
theorem wcyX3_value : Cond.code yX3_value cX3_value 11 (some .long) ∈ zT := (zmem 184 (by decide +kernel) (by decide +kernel))
theorem wiyX3_value : Cond.instanceMethod yX3_value ∈ zT := (zmem 182 (by decide +kernel) (by decide +kernel))
theorem weyX3_value : Cond.selects yX3_value.cls yX3_value yX3_value ∈ zT := (zmem 183 (by decide +kernel) (by decide +kernel))
theorem wcyX3_isNoPart : Cond.code yX3_isNoPart cX3_isNoPart 1 (some .boolean) ∈ zT := (zmem 187 (by decide +kernel) (by decide +kernel))
theorem wtyX3_isNoPart : Cond.static yX3_isNoPart ∈ zT := (zmem 186 (by decide +kernel) (by decide +kernel))
theorem kX3_72 (hc : zOK cx gg cc RX3 nL) {f0 l0 : Nat} (hR : zR cx f0 l0) {fr lo : Nat} {a0 : Value} {rest : List Value} {post : Int32 → zS → Prop} (hd : decode cc pc = .ok (.invokestatic 72, 3)) (hM : zMi cx.1.2.1 gg yX3_isNoPart cX3_isNoPart .boolean 1 fr lo [a0] σ post) (hr : fr + 1 ≤ f0 ∧ 8 + (1 + 11) + lo ≤ l0) (hs : (rest.map fun v => v.category).sum ≤ 8) (hlen : lv.length = nL) (kk : ∀ (r : Int32) (u : zS), post r u → J cx gg Q u (pc + 3) lv (.int r :: rest)) : J cx gg Q σ pc lv (a0 :: rest) :=
  J_cSi hc hR (n := 1) (zmem 185 (by decide +kernel) (by decide +kernel)) wtyX3_isNoPart wnX3 wcyX3_isNoPart (by decide +kernel) hd hM hr rfl rfl hs hlen kk
theorem nX3_75 (hc : zOK cx gg cc RX3 nL) (hd : decode cc pc = .ok (.ldc2_w 75, 3)) (kk : J cx gg Q σ (pc + 3) lv (.long (-9223372036854775808) :: st)) : J cx gg Q σ pc lv st := J_ldc2 hc (zmem 188 (by decide +kernel) (by decide +kernel)) hd kk
theorem wnJ9 : Cond.initialized RJ9 ∈ zT := (zmem 52 (by decide +kernel) (by decide +kernel))
theorem wcyJ9_min_7cf53 : Cond.code yJ9_min_7cf53 cJ9_min_7cf53 2 (some .int) ∈ zT := (zmem 191 (by decide +kernel) (by decide +kernel))
theorem wtyJ9_min_7cf53 : Cond.static yJ9_min_7cf53 ∈ zT := (zmem 190 (by decide +kernel) (by decide +kernel))
theorem kX3_80 (hc : zOK cx gg cc RX3 nL) {f0 l0 : Nat} (hR : zR cx f0 l0) {fr lo : Nat} {a0 a1 : Value} {rest : List Value} {post : Int32 → zS → Prop} (hd : decode cc pc = .ok (.invokestatic 80, 3)) (hM : zMi cx.1.2.1 gg yJ9_min_7cf53 cJ9_min_7cf53 .int 2 fr lo [a0, a1] σ post) (hr : fr + 1 ≤ f0 ∧ 8 + (2 + 11) + lo ≤ l0) (hs : (rest.map fun v => v.category).sum ≤ 8) (hlen : lv.length = nL) (kk : ∀ (r : Int32) (u : zS), post r u → J cx gg Q u (pc + 3) lv (.int r :: rest)) : J cx gg Q σ pc lv (a1 :: a0 :: rest) :=
  J_cSi hc hR (n := 2) (zmem 189 (by decide +kernel) (by decide +kernel)) wtyJ9_min_7cf53 wnJ9 wcyJ9_min_7cf53 (by decide +kernel) hd hM hr rfl rfl hs hlen kk
theorem wcyX3_partInLowestTerms : Cond.code yX3_partInLowestTerms cX3_partInLowestTerms 7 (some .long) ∈ zT := (zmem 194 (by decide +kernel) (by decide +kernel))
theorem wtyX3_partInLowestTerms : Cond.static yX3_partInLowestTerms ∈ zT := (zmem 193 (by decide +kernel) (by decide +kernel))
theorem kX3_86 (hc : zOK cx gg cc RX3 nL) {f0 l0 : Nat} (hR : zR cx f0 l0) {fr lo : Nat} {a0 a1 a2 : Value} {rest : List Value} {post : Int64 → zS → Prop} (hd : decode cc pc = .ok (.invokestatic 86, 3)) (hM : zMl cx.1.2.1 gg yX3_partInLowestTerms cX3_partInLowestTerms 7 fr lo [a0, a1, a2] σ post) (hr : fr + 1 ≤ f0 ∧ 8 + (7 + 11) + lo ≤ l0) (hs : (rest.map fun v => v.category).sum ≤ 8) (hlen : lv.length = nL) (kk : ∀ (r : Int64) (u : zS), post r u → J cx gg Q u (pc + 3) lv (.long r :: rest)) : J cx gg Q σ pc lv (a2 :: a1 :: a0 :: rest) :=
  J_cSl hc hR (n := 3) (zmem 192 (by decide +kernel) (by decide +kernel)) wtyX3_partInLowestTerms wnX3 wcyX3_partInLowestTerms (by decide +kernel) hd hM hr rfl rfl hs hlen kk
theorem wcyJ9_abs_067f4 : Cond.code yJ9_abs_067f4 cJ9_abs_067f4 2 (some .long) ∈ zT := (zmem 197 (by decide +kernel) (by decide +kernel))
theorem wtyJ9_abs_067f4 : Cond.static yJ9_abs_067f4 ∈ zT := (zmem 196 (by decide +kernel) (by decide +kernel))
theorem kX3_195 (hc : zOK cx gg cc RX3 nL) {f0 l0 : Nat} (hR : zR cx f0 l0) {fr lo : Nat} {a0 : Value} {rest : List Value} {post : Int64 → zS → Prop} (hd : decode cc pc = .ok (.invokestatic 195, 3)) (hM : zMl cx.1.2.1 gg yJ9_abs_067f4 cJ9_abs_067f4 2 fr lo [a0] σ post) (hr : fr + 1 ≤ f0 ∧ 8 + (2 + 11) + lo ≤ l0) (hs : (rest.map fun v => v.category).sum ≤ 8) (hlen : lv.length = nL) (kk : ∀ (r : Int64) (u : zS), post r u → J cx gg Q u (pc + 3) lv (.long r :: rest)) : J cx gg Q σ pc lv (a0 :: rest) :=
  J_cSl hc hR (n := 1) (zmem 195 (by decide +kernel) (by decide +kernel)) wtyJ9_abs_067f4 wnJ9 wcyJ9_abs_067f4 (by decide +kernel) hd hM hr rfl rfl hs hlen kk
theorem wcyX3_commonDivisor : Cond.code yX3_commonDivisor cX3_commonDivisor 7 (some .long) ∈ zT := (zmem 200 (by decide +kernel) (by decide +kernel))
theorem wtyX3_commonDivisor : Cond.static yX3_commonDivisor ∈ zT := (zmem 199 (by decide +kernel) (by decide +kernel))
theorem kX3_199 (hc : zOK cx gg cc RX3 nL) {f0 l0 : Nat} (hR : zR cx f0 l0) {fr lo : Nat} {a0 a1 : Value} {rest : List Value} {post : Int64 → zS → Prop} (hd : decode cc pc = .ok (.invokestatic 199, 3)) (hM : zMl cx.1.2.1 gg yX3_commonDivisor cX3_commonDivisor 7 fr lo [a0, a1] σ post) (hr : fr + 1 ≤ f0 ∧ 8 + (7 + 11) + lo ≤ l0) (hs : (rest.map fun v => v.category).sum ≤ 8) (hlen : lv.length = nL) (kk : ∀ (r : Int64) (u : zS), post r u → J cx gg Q u (pc + 3) lv (.long r :: rest)) : J cx gg Q σ pc lv (a1 :: a0 :: rest) :=
  J_cSl hc hR (n := 2) (zmem 198 (by decide +kernel) (by decide +kernel)) wtyX3_commonDivisor wnX3 wcyX3_commonDivisor (by decide +kernel) hd hM hr rfl rfl hs hlen kk
theorem wcyJ9_max_f86c9 : Cond.code yJ9_max_f86c9 cJ9_max_f86c9 4 (some .long) ∈ zT := (zmem 203 (by decide +kernel) (by decide +kernel))
theorem wtyJ9_max_f86c9 : Cond.static yJ9_max_f86c9 ∈ zT := (zmem 202 (by decide +kernel) (by decide +kernel))
theorem kX3_203 (hc : zOK cx gg cc RX3 nL) {f0 l0 : Nat} (hR : zR cx f0 l0) {fr lo : Nat} {a0 a1 : Value} {rest : List Value} {post : Int64 → zS → Prop} (hd : decode cc pc = .ok (.invokestatic 203, 3)) (hM : zMl cx.1.2.1 gg yJ9_max_f86c9 cJ9_max_f86c9 4 fr lo [a0, a1] σ post) (hr : fr + 1 ≤ f0 ∧ 8 + (4 + 11) + lo ≤ l0) (hs : (rest.map fun v => v.category).sum ≤ 8) (hlen : lv.length = nL) (kk : ∀ (r : Int64) (u : zS), post r u → J cx gg Q u (pc + 3) lv (.long r :: rest)) : J cx gg Q σ pc lv (a1 :: a0 :: rest) :=
  J_cSl hc hR (n := 2) (zmem 201 (by decide +kernel) (by decide +kernel)) wtyJ9_max_f86c9 wnJ9 wcyJ9_max_f86c9 (by decide +kernel) hd hM hr rfl rfl hs hlen kk
theorem wcyX3_join : Cond.code yX3_join cX3_join 3 (some .int) ∈ zT := (zmem 207 (by decide +kernel) (by decide +kernel))
theorem wiyX3_join : Cond.instanceMethod yX3_join ∈ zT := (zmem 205 (by decide +kernel) (by decide +kernel))
theorem weyX3_join : Cond.selects yX3_join.cls yX3_join yX3_join ∈ zT := (zmem 206 (by decide +kernel) (by decide +kernel))
theorem wcyX0_joinAt : Cond.code yX0_joinAt cX0_joinAt 3 (some .int) ∈ zT := (zmem 211 (by decide +kernel) (by decide +kernel))
theorem wiyX0_joinAt : Cond.instanceMethod yX0_joinAt ∈ zT := (zmem 210 (by decide +kernel) (by decide +kernel))
theorem weyX0_joinAt : Cond.selects yX0_joinAt.cls yX0_joinAt yX0_joinAt ∈ zT := (zmem 3 (by decide +kernel) (by decide +kernel))
theorem kX3_90 (hc : zOK cx gg cc RX3 nL) {f0 l0 : Nat} (hR : zR cx f0 l0) {fr lo : Nat} {k : Nat} (hk : k < 7) {a0 : Value} {rest : List Value} {post : Int32 → zS → Prop} (hd : decode cc pc = .ok (.invokevirtual 90, 3)) (hM : zMi cx.1.2.1 gg yX0_joinAt cX0_joinAt .int 3 fr lo (.ref (zc gg k) :: [a0]) σ post) (hr : fr + 1 ≤ f0 ∧ 8 + (3 + 11) + lo ≤ l0) (hs : (rest.map fun v => v.category).sum ≤ 8) (hlen : lv.length = nL) (kk : ∀ (r : Int32) (u : zS), post r u → J cx gg Q u (pc + 3) lv (.int r :: rest)) : J cx gg Q σ pc lv (a0 :: .ref (zc gg k) :: rest) :=
  J_cVNi hc hR (host := "SmoothPieces") (n := 1) (i := 2 + k) (zmemN 208 (by decide +kernel) (by decide +kernel)) wiyX0_joinAt weyX0_joinAt wnX0 wcyX0_joinAt (by decide +kernel) rfl (by omega) (zE_c gg σ hk) (ci := 0) rfl rfl hd hM hr rfl rfl hs hlen kk
theorem wcyX0_valueAtEnd : Cond.code yX0_valueAtEnd cX0_valueAtEnd 2 (some .int) ∈ zT := (zmem 215 (by decide +kernel) (by decide +kernel))
theorem wiyX0_valueAtEnd : Cond.instanceMethod yX0_valueAtEnd ∈ zT := (zmem 214 (by decide +kernel) (by decide +kernel))
theorem weyX0_valueAtEnd : Cond.selects yX0_valueAtEnd.cls yX0_valueAtEnd yX0_valueAtEnd ∈ zT := (zmem 4 (by decide +kernel) (by decide +kernel))
theorem kX0_40 (hc : zOK cx gg cc RX0 nL) {f0 l0 : Nat} (hR : zR cx f0 l0) {fr lo : Nat} {k : Nat} (hk : k < 7) {a0 : Value} {rest : List Value} {post : Int32 → zS → Prop} (hd : decode cc pc = .ok (.invokevirtual 40, 3)) (hM : zMi cx.1.2.1 gg yX0_valueAtEnd cX0_valueAtEnd .int 2 fr lo (.ref (zc gg k) :: [a0]) σ post) (hr : fr + 1 ≤ f0 ∧ 8 + (2 + 11) + lo ≤ l0) (hs : (rest.map fun v => v.category).sum ≤ 8) (hlen : lv.length = nL) (kk : ∀ (r : Int32) (u : zS), post r u → J cx gg Q u (pc + 3) lv (.int r :: rest)) : J cx gg Q σ pc lv (a0 :: .ref (zc gg k) :: rest) :=
  J_cVi hc hR (n := 1) (i := 2 + k) (zmem 212 (by decide +kernel) (by decide +kernel)) wiyX0_valueAtEnd weyX0_valueAtEnd wnX0 wcyX0_valueAtEnd (by decide +kernel) rfl (by omega) (zE_c gg σ hk) (ci := 0) rfl rfl hd hM hr rfl rfl hs hlen kk
theorem wcyX0_slopeAtEnd : Cond.code yX0_slopeAtEnd cX0_slopeAtEnd 2 (some .int) ∈ zT := (zmem 219 (by decide +kernel) (by decide +kernel))
theorem wiyX0_slopeAtEnd : Cond.instanceMethod yX0_slopeAtEnd ∈ zT := (zmem 218 (by decide +kernel) (by decide +kernel))
theorem weyX0_slopeAtEnd : Cond.selects yX0_slopeAtEnd.cls yX0_slopeAtEnd yX0_slopeAtEnd ∈ zT := (zmem 5 (by decide +kernel) (by decide +kernel))
theorem kX0_44 (hc : zOK cx gg cc RX0 nL) {f0 l0 : Nat} (hR : zR cx f0 l0) {fr lo : Nat} {k : Nat} (hk : k < 7) {a0 : Value} {rest : List Value} {post : Int32 → zS → Prop} (hd : decode cc pc = .ok (.invokevirtual 44, 3)) (hM : zMi cx.1.2.1 gg yX0_slopeAtEnd cX0_slopeAtEnd .int 2 fr lo (.ref (zc gg k) :: [a0]) σ post) (hr : fr + 1 ≤ f0 ∧ 8 + (2 + 11) + lo ≤ l0) (hs : (rest.map fun v => v.category).sum ≤ 8) (hlen : lv.length = nL) (kk : ∀ (r : Int32) (u : zS), post r u → J cx gg Q u (pc + 3) lv (.int r :: rest)) : J cx gg Q σ pc lv (a0 :: .ref (zc gg k) :: rest) :=
  J_cVi hc hR (n := 1) (i := 2 + k) (zmem 216 (by decide +kernel) (by decide +kernel)) wiyX0_slopeAtEnd weyX0_slopeAtEnd wnX0 wcyX0_slopeAtEnd (by decide +kernel) rfl (by omega) (zE_c gg σ hk) (ci := 0) rfl rfl hd hM hr rfl rfl hs hlen kk
theorem wcyX3_has : Cond.code yX3_has cX3_has 5 (some .int) ∈ zT := (zmem 223 (by decide +kernel) (by decide +kernel))
theorem wiyX3_has : Cond.instanceMethod yX3_has ∈ zT := (zmem 221 (by decide +kernel) (by decide +kernel))
theorem weyX3_has : Cond.selects yX3_has.cls yX3_has yX3_has ∈ zT := (zmem 222 (by decide +kernel) (by decide +kernel))
theorem wcyX3_signOfShape : Cond.code yX3_signOfShape cX3_signOfShape 1 (some .int) ∈ zT := (zmem 226 (by decide +kernel) (by decide +kernel))
theorem wtyX3_signOfShape : Cond.static yX3_signOfShape ∈ zT := (zmem 225 (by decide +kernel) (by decide +kernel))
theorem kX3_94 (hc : zOK cx gg cc RX3 nL) {f0 l0 : Nat} (hR : zR cx f0 l0) {fr lo : Nat} {a0 : Value} {rest : List Value} {post : Int32 → zS → Prop} (hd : decode cc pc = .ok (.invokestatic 94, 3)) (hM : zMi cx.1.2.1 gg yX3_signOfShape cX3_signOfShape .int 1 fr lo [a0] σ post) (hr : fr + 1 ≤ f0 ∧ 8 + (1 + 11) + lo ≤ l0) (hs : (rest.map fun v => v.category).sum ≤ 8) (hlen : lv.length = nL) (kk : ∀ (r : Int32) (u : zS), post r u → J cx gg Q u (pc + 3) lv (.int r :: rest)) : J cx gg Q σ pc lv (a0 :: rest) :=
  J_cSi hc hR (n := 1) (zmem 224 (by decide +kernel) (by decide +kernel)) wtyX3_signOfShape wnX3 wcyX3_signOfShape (by decide +kernel) hd hM hr rfl rfl hs hlen kk
theorem wcyX3_isBent : Cond.code yX3_isBent cX3_isBent 1 (some .boolean) ∈ zT := (zmem 229 (by decide +kernel) (by decide +kernel))
theorem wtyX3_isBent : Cond.static yX3_isBent ∈ zT := (zmem 228 (by decide +kernel) (by decide +kernel))
theorem kX3_97 (hc : zOK cx gg cc RX3 nL) {f0 l0 : Nat} (hR : zR cx f0 l0) {fr lo : Nat} {a0 : Value} {rest : List Value} {post : Int32 → zS → Prop} (hd : decode cc pc = .ok (.invokestatic 97, 3)) (hM : zMi cx.1.2.1 gg yX3_isBent cX3_isBent .boolean 1 fr lo [a0] σ post) (hr : fr + 1 ≤ f0 ∧ 8 + (1 + 11) + lo ≤ l0) (hs : (rest.map fun v => v.category).sum ≤ 8) (hlen : lv.length = nL) (kk : ∀ (r : Int32) (u : zS), post r u → J cx gg Q u (pc + 3) lv (.int r :: rest)) : J cx gg Q σ pc lv (a0 :: rest) :=
  J_cSi hc hR (n := 1) (zmem 227 (by decide +kernel) (by decide +kernel)) wtyX3_isBent wnX3 wcyX3_isBent (by decide +kernel) hd hM hr rfl rfl hs hlen kk
theorem wcyX0_isBentUp : Cond.code yX0_isBentUp cX0_isBentUp 3 (some .boolean) ∈ zT := (zmem 233 (by decide +kernel) (by decide +kernel))
theorem wiyX0_isBentUp : Cond.instanceMethod yX0_isBentUp ∈ zT := (zmem 232 (by decide +kernel) (by decide +kernel))
theorem weyX0_isBentUp : Cond.selects yX0_isBentUp.cls yX0_isBentUp yX0_isBentUp ∈ zT := (zmem 6 (by decide +kernel) (by decide +kernel))
theorem kX3_100 (hc : zOK cx gg cc RX3 nL) {f0 l0 : Nat} (hR : zR cx f0 l0) {fr lo : Nat} {k : Nat} (hk : k < 7) {a0 : Value} {rest : List Value} {post : Int32 → zS → Prop} (hd : decode cc pc = .ok (.invokevirtual 100, 3)) (hM : zMi cx.1.2.1 gg yX0_isBentUp cX0_isBentUp .boolean 3 fr lo (.ref (zc gg k) :: [a0]) σ post) (hr : fr + 1 ≤ f0 ∧ 8 + (3 + 11) + lo ≤ l0) (hs : (rest.map fun v => v.category).sum ≤ 8) (hlen : lv.length = nL) (kk : ∀ (r : Int32) (u : zS), post r u → J cx gg Q u (pc + 3) lv (.int r :: rest)) : J cx gg Q σ pc lv (a0 :: .ref (zc gg k) :: rest) :=
  J_cVNi hc hR (host := "SmoothPieces") (n := 1) (i := 2 + k) (zmemN 230 (by decide +kernel) (by decide +kernel)) wiyX0_isBentUp weyX0_isBentUp wnX0 wcyX0_isBentUp (by decide +kernel) rfl (by omega) (zE_c gg σ hk) (ci := 0) rfl rfl hd hM hr rfl rfl hs hlen kk
theorem kX0_47 (hc : zOK cx gg cc RX0 nL) {f0 l0 : Nat} (hR : zR cx f0 l0) {fr lo : Nat} {k : Nat} (hk : k < 7) {a0 : Value} {rest : List Value} {post : Int32 → zS → Prop} (hd : decode cc pc = .ok (.invokevirtual 47, 3)) (hM : zMi cx.1.2.1 gg yX0_joinAt cX0_joinAt .int 3 fr lo (.ref (zc gg k) :: [a0]) σ post) (hr : fr + 1 ≤ f0 ∧ 8 + (3 + 11) + lo ≤ l0) (hs : (rest.map fun v => v.category).sum ≤ 8) (hlen : lv.length = nL) (kk : ∀ (r : Int32) (u : zS), post r u → J cx gg Q u (pc + 3) lv (.int r :: rest)) : J cx gg Q σ pc lv (a0 :: .ref (zc gg k) :: rest) :=
  J_cVi hc hR (n := 1) (i := 2 + k) (zmem 234 (by decide +kernel) (by decide +kernel)) wiyX0_joinAt weyX0_joinAt wnX0 wcyX0_joinAt (by decide +kernel) rfl (by omega) (zE_c gg σ hk) (ci := 0) rfl rfl hd hM hr rfl rfl hs hlen kk
theorem wcyX0_isRising : Cond.code yX0_isRising cX0_isRising 3 (some .boolean) ∈ zT := (zmem 238 (by decide +kernel) (by decide +kernel))
theorem wiyX0_isRising : Cond.instanceMethod yX0_isRising ∈ zT := (zmem 237 (by decide +kernel) (by decide +kernel))
theorem weyX0_isRising : Cond.selects yX0_isRising.cls yX0_isRising yX0_isRising ∈ zT := (zmem 7 (by decide +kernel) (by decide +kernel))
theorem kX3_103 (hc : zOK cx gg cc RX3 nL) {f0 l0 : Nat} (hR : zR cx f0 l0) {fr lo : Nat} {k : Nat} (hk : k < 7) {a0 : Value} {rest : List Value} {post : Int32 → zS → Prop} (hd : decode cc pc = .ok (.invokevirtual 103, 3)) (hM : zMi cx.1.2.1 gg yX0_isRising cX0_isRising .boolean 3 fr lo (.ref (zc gg k) :: [a0]) σ post) (hr : fr + 1 ≤ f0 ∧ 8 + (3 + 11) + lo ≤ l0) (hs : (rest.map fun v => v.category).sum ≤ 8) (hlen : lv.length = nL) (kk : ∀ (r : Int32) (u : zS), post r u → J cx gg Q u (pc + 3) lv (.int r :: rest)) : J cx gg Q σ pc lv (a0 :: .ref (zc gg k) :: rest) :=
  J_cVNi hc hR (host := "SmoothPieces") (n := 1) (i := 2 + k) (zmemN 235 (by decide +kernel) (by decide +kernel)) wiyX0_isRising weyX0_isRising wnX0 wcyX0_isRising (by decide +kernel) rfl (by omega) (zE_c gg σ hk) (ci := 0) rfl rfl hd hM hr rfl rfl hs hlen kk
theorem wcyX3_end : Cond.code yX3_end cX3_end 3 (some .int) ∈ zT := (zmem 242 (by decide +kernel) (by decide +kernel))
theorem wiyX3_end : Cond.instanceMethod yX3_end ∈ zT := (zmem 240 (by decide +kernel) (by decide +kernel))
theorem weyX3_end : Cond.selects yX3_end.cls yX3_end yX3_end ∈ zT := (zmem 241 (by decide +kernel) (by decide +kernel))
theorem wcyX0_top : Cond.code yX0_top cX0_top 5 (some .long) ∈ zT := (zmem 246 (by decide +kernel) (by decide +kernel))
theorem wiyX0_top : Cond.instanceMethod yX0_top ∈ zT := (zmem 245 (by decide +kernel) (by decide +kernel))
theorem weyX0_top : Cond.selects yX0_top.cls yX0_top yX0_top ∈ zT := (zmem 8 (by decide +kernel) (by decide +kernel))
theorem kX3_106 (hc : zOK cx gg cc RX3 nL) {f0 l0 : Nat} (hR : zR cx f0 l0) {fr lo : Nat} {k : Nat} (hk : k < 7) {a0 : Value} {rest : List Value} {post : Int64 → zS → Prop} (hd : decode cc pc = .ok (.invokevirtual 106, 3)) (hM : zMl cx.1.2.1 gg yX0_top cX0_top 5 fr lo (.ref (zc gg k) :: [a0]) σ post) (hr : fr + 1 ≤ f0 ∧ 8 + (5 + 11) + lo ≤ l0) (hs : (rest.map fun v => v.category).sum ≤ 8) (hlen : lv.length = nL) (kk : ∀ (r : Int64) (u : zS), post r u → J cx gg Q u (pc + 3) lv (.long r :: rest)) : J cx gg Q σ pc lv (a0 :: .ref (zc gg k) :: rest) :=
  J_cVNl hc hR (host := "SmoothPieces") (n := 1) (i := 2 + k) (zmemN 243 (by decide +kernel) (by decide +kernel)) wiyX0_top weyX0_top wnX0 wcyX0_top (by decide +kernel) rfl (by omega) (zE_c gg σ hk) (ci := 0) rfl rfl hd hM hr rfl rfl hs hlen kk
theorem wcyX0_topOfPiece : Cond.code yX0_topOfPiece cX0_topOfPiece 8 (some .long) ∈ zT := (zmem 249 (by decide +kernel) (by decide +kernel))
theorem wtyX0_topOfPiece : Cond.static yX0_topOfPiece ∈ zT := (zmem 248 (by decide +kernel) (by decide +kernel))
theorem kX0_50 (hc : zOK cx gg cc RX0 nL) {f0 l0 : Nat} (hR : zR cx f0 l0) {fr lo : Nat} {a0 a1 a2 : Value} {rest : List Value} {post : Int64 → zS → Prop} (hd : decode cc pc = .ok (.invokestatic 50, 3)) (hM : zMl cx.1.2.1 gg yX0_topOfPiece cX0_topOfPiece 8 fr lo [a0, a1, a2] σ post) (hr : fr + 1 ≤ f0 ∧ 8 + (8 + 11) + lo ≤ l0) (hs : (rest.map fun v => v.category).sum ≤ 8) (hlen : lv.length = nL) (kk : ∀ (r : Int64) (u : zS), post r u → J cx gg Q u (pc + 3) lv (.long r :: rest)) : J cx gg Q σ pc lv (a2 :: a1 :: a0 :: rest) :=
  J_cSl hc hR (n := 3) (zmem 247 (by decide +kernel) (by decide +kernel)) wtyX0_topOfPiece wnX0 wcyX0_topOfPiece (by decide +kernel) hd hM hr rfl rfl hs hlen kk
theorem kX0_54 (hc : zOK cx gg cc RX0 nL) {f0 l0 : Nat} (hR : zR cx f0 l0) {fr lo : Nat} {a0 a1 : Value} {rest : List Value} {post : Int64 → zS → Prop} (hd : decode cc pc = .ok (.invokestatic 54, 3)) (hM : zMl cx.1.2.1 gg yJ9_max_f86c9 cJ9_max_f86c9 4 fr lo [a0, a1] σ post) (hr : fr + 1 ≤ f0 ∧ 8 + (4 + 11) + lo ≤ l0) (hs : (rest.map fun v => v.category).sum ≤ 8) (hlen : lv.length = nL) (kk : ∀ (r : Int64) (u : zS), post r u → J cx gg Q u (pc + 3) lv (.long r :: rest)) : J cx gg Q σ pc lv (a1 :: a0 :: rest) :=
  J_cSl hc hR (n := 2) (zmem 250 (by decide +kernel) (by decide +kernel)) wtyJ9_max_f86c9 wnJ9 wcyJ9_max_f86c9 (by decide +kernel) hd hM hr rfl rfl hs hlen kk
theorem nX0_58 (hc : zOK cx gg cc RX0 nL) (hd : decode cc pc = .ok (.ldc2_w 58, 3)) (kk : J cx gg Q σ (pc + 3) lv (.long (2) :: st)) : J cx gg Q σ pc lv st := J_ldc2 hc (zmem 251 (by decide +kernel) (by decide +kernel)) hd kk
theorem nX0_60 (hc : zOK cx gg cc RX0 nL) (hd : decode cc pc = .ok (.ldc2_w 60, 3)) (kk : J cx gg Q σ (pc + 3) lv (.long (4) :: st)) : J cx gg Q σ pc lv st := J_ldc2 hc (zmem 252 (by decide +kernel) (by decide +kernel)) hd kk
theorem wcyJ9_floorDiv_f86c9 : Cond.code yJ9_floorDiv_f86c9 cJ9_floorDiv_f86c9 6 (some .long) ∈ zT := (zmem 255 (by decide +kernel) (by decide +kernel))
theorem wtyJ9_floorDiv_f86c9 : Cond.static yJ9_floorDiv_f86c9 ∈ zT := (zmem 254 (by decide +kernel) (by decide +kernel))
theorem kX0_62 (hc : zOK cx gg cc RX0 nL) {f0 l0 : Nat} (hR : zR cx f0 l0) {fr lo : Nat} {a0 a1 : Value} {rest : List Value} {post : Int64 → zS → Prop} (hd : decode cc pc = .ok (.invokestatic 62, 3)) (hM : zMl cx.1.2.1 gg yJ9_floorDiv_f86c9 cJ9_floorDiv_f86c9 6 fr lo [a0, a1] σ post) (hr : fr + 1 ≤ f0 ∧ 8 + (6 + 11) + lo ≤ l0) (hs : (rest.map fun v => v.category).sum ≤ 8) (hlen : lv.length = nL) (kk : ∀ (r : Int64) (u : zS), post r u → J cx gg Q u (pc + 3) lv (.long r :: rest)) : J cx gg Q σ pc lv (a1 :: a0 :: rest) :=
  J_cSl hc hR (n := 2) (zmem 253 (by decide +kernel) (by decide +kernel)) wtyJ9_floorDiv_f86c9 wnJ9 wcyJ9_floorDiv_f86c9 (by decide +kernel) hd hM hr rfl rfl hs hlen kk
theorem wcyX3_zeros : Cond.code yX3_zeros cX3_zeros 2 (some .int) ∈ zT := (zmem 259 (by decide +kernel) (by decide +kernel))
theorem wiyX3_zeros : Cond.instanceMethod yX3_zeros ∈ zT := (zmem 257 (by decide +kernel) (by decide +kernel))
theorem weyX3_zeros : Cond.selects yX3_zeros.cls yX3_zeros yX3_zeros ∈ zT := (zmem 258 (by decide +kernel) (by decide +kernel))
theorem wcyX3_countZeros : Cond.code yX3_countZeros cX3_countZeros 2 (some .int) ∈ zT := (zmem 263 (by decide +kernel) (by decide +kernel))
theorem wiyX3_countZeros : Cond.instanceMethod yX3_countZeros ∈ zT := (zmem 262 (by decide +kernel) (by decide +kernel))
theorem weyX3_countZeros : Cond.selects yX3_countZeros.cls yX3_countZeros yX3_countZeros ∈ zT := (zmem 9 (by decide +kernel) (by decide +kernel))
theorem kX3_110 (hc : zOK cx gg cc RX3 nL) {f0 l0 : Nat} (hR : zR cx f0 l0) {fr lo : Nat} {a0 : Value} {rest : List Value} {post : Int32 → zS → Prop} (hd : decode cc pc = .ok (.invokevirtual 110, 3)) (hM : zMi cx.1.2.1 gg yX3_countZeros cX3_countZeros .int 2 fr lo (.ref (zo gg) :: [a0]) σ post) (hr : fr + 1 ≤ f0 ∧ 8 + (2 + 11) + lo ≤ l0) (hs : (rest.map fun v => v.category).sum ≤ 8) (hlen : lv.length = nL) (kk : ∀ (r : Int32) (u : zS), post r u → J cx gg Q u (pc + 3) lv (.int r :: rest)) : J cx gg Q σ pc lv (a0 :: .ref (zo gg) :: rest) :=
  J_cVi hc hR (n := 1) (i := 0) (zmem 260 (by decide +kernel) (by decide +kernel)) wiyX3_countZeros weyX3_countZeros wnX3 wcyX3_countZeros (by decide +kernel) rfl (by decide) rfl (ci := 3) rfl rfl hd hM hr rfl rfl hs hlen kk
theorem wcyX0_hasZeroPiece : Cond.code yX0_hasZeroPiece cX0_hasZeroPiece 2 (some .boolean) ∈ zT := (zmem 267 (by decide +kernel) (by decide +kernel))
theorem wiyX0_hasZeroPiece : Cond.instanceMethod yX0_hasZeroPiece ∈ zT := (zmem 266 (by decide +kernel) (by decide +kernel))
theorem weyX0_hasZeroPiece : Cond.selects yX0_hasZeroPiece.cls yX0_hasZeroPiece yX0_hasZeroPiece ∈ zT := (zmem 10 (by decide +kernel) (by decide +kernel))
theorem kX3_186 (hc : zOK cx gg cc RX3 nL) {f0 l0 : Nat} (hR : zR cx f0 l0) {fr lo : Nat} {k : Nat} (hk : k < 7) {rest : List Value} {post : Int32 → zS → Prop} (hd : decode cc pc = .ok (.invokevirtual 186, 3)) (hM : zMi cx.1.2.1 gg yX0_hasZeroPiece cX0_hasZeroPiece .boolean 2 fr lo (.ref (zc gg k) :: []) σ post) (hr : fr + 1 ≤ f0 ∧ 8 + (2 + 11) + lo ≤ l0) (hs : (rest.map fun v => v.category).sum ≤ 8) (hlen : lv.length = nL) (kk : ∀ (r : Int32) (u : zS), post r u → J cx gg Q u (pc + 3) lv (.int r :: rest)) : J cx gg Q σ pc lv (.ref (zc gg k) :: rest) :=
  J_cVNi hc hR (host := "SmoothPieces") (n := 0) (i := 2 + k) (zmemN 264 (by decide +kernel) (by decide +kernel)) wiyX0_hasZeroPiece weyX0_hasZeroPiece wnX0 wcyX0_hasZeroPiece (by decide +kernel) rfl (by omega) (zE_c gg σ hk) (ci := 0) rfl rfl hd hM hr rfl rfl hs hlen kk
theorem wnX2 : Cond.initialized RX2 ∈ zT := (zmem 49 (by decide +kernel) (by decide +kernel))
theorem wcyX2_search : Cond.code yX2_search cX2_search 3 none ∈ zT := (zmem 271 (by decide +kernel) (by decide +kernel))
theorem wiyX2_search : Cond.instanceMethod yX2_search ∈ zT := (zmem 270 (by decide +kernel) (by decide +kernel))
theorem weyX2_search : Cond.selects yX2_search.cls yX2_search yX2_search ∈ zT := (zmem 11 (by decide +kernel) (by decide +kernel))
theorem kX3_189 (hc : zOK cx gg cc RX3 nL) {f0 l0 : Nat} (hR : zR cx f0 l0) {fr lo : Nat} {a0 : Value} {rest : List Value} {post : zS → Prop} (hd : decode cc pc = .ok (.invokevirtual 189, 3)) (hM : zMv cx.1.2.1 gg yX2_search cX2_search 3 fr lo (.ref (zf gg) :: [a0]) σ post) (hr : fr + 1 ≤ f0 ∧ 8 + (3 + 11) + lo ≤ l0) (hs : (rest.map fun v => v.category).sum ≤ 8) (hlen : lv.length = nL) (kk : ∀ u : zS, post u → J cx gg Q u (pc + 3) lv rest) : J cx gg Q σ pc lv (a0 :: .ref (zf gg) :: rest) :=
  J_cVNv hc hR (host := "SmoothPieces") (n := 1) (i := 42) (zmemN 268 (by decide +kernel) (by decide +kernel)) wiyX2_search weyX2_search wnX2 wcyX2_search (by decide +kernel) rfl (by decide) rfl (ci := 2) rfl rfl hd hM hr rfl rfl hs hlen kk
theorem wcyX2_take : Cond.code yX2_take cX2_take 10 (some .boolean) ∈ zT := (zmem 275 (by decide +kernel) (by decide +kernel))
theorem wiyX2_take : Cond.instanceMethod yX2_take ∈ zT := (zmem 274 (by decide +kernel) (by decide +kernel))
theorem weyX2_take : Cond.selects yX2_take.cls yX2_take yX2_take ∈ zT := (zmem 12 (by decide +kernel) (by decide +kernel))
theorem kX2_40 (hc : zOK cx gg cc RX2 nL) {f0 l0 : Nat} (hR : zR cx f0 l0) {fr lo : Nat} {a0 a1 a2 : Value} {rest : List Value} {post : Int32 → zS → Prop} (hd : decode cc pc = .ok (.invokevirtual 40, 3)) (hM : zMi cx.1.2.1 gg yX2_take cX2_take .boolean 10 fr lo (.ref (zf gg) :: [a0, a1, a2]) σ post) (hr : fr + 1 ≤ f0 ∧ 8 + (10 + 11) + lo ≤ l0) (hs : (rest.map fun v => v.category).sum ≤ 8) (hlen : lv.length = nL) (kk : ∀ (r : Int32) (u : zS), post r u → J cx gg Q u (pc + 3) lv (.int r :: rest)) : J cx gg Q σ pc lv (a2 :: a1 :: a0 :: .ref (zf gg) :: rest) :=
  J_cVi hc hR (n := 3) (i := 42) (zmem 272 (by decide +kernel) (by decide +kernel)) wiyX2_take weyX2_take wnX2 wcyX2_take (by decide +kernel) rfl (by decide) rfl (ci := 2) rfl rfl hd hM hr rfl rfl hs hlen kk
theorem nX2_48 (hc : zOK cx gg cc RX2 nL) (hd : decode cc pc = .ok (.ldc2_w 48, 3)) (kk : J cx gg Q σ (pc + 3) lv (.long (64) :: st)) : J cx gg Q σ pc lv st := J_ldc2 hc (zmem 276 (by decide +kernel) (by decide +kernel)) hd kk
theorem wcyX2_discriminant : Cond.code yX2_discriminant cX2_discriminant 1 (some .long) ∈ zT := (zmem 280 (by decide +kernel) (by decide +kernel))
theorem wiyX2_discriminant : Cond.instanceMethod yX2_discriminant ∈ zT := (zmem 279 (by decide +kernel) (by decide +kernel))
theorem weyX2_discriminant : Cond.selects yX2_discriminant.cls yX2_discriminant yX2_discriminant ∈ zT := (zmem 13 (by decide +kernel) (by decide +kernel))
theorem kX2_50 (hc : zOK cx gg cc RX2 nL) {f0 l0 : Nat} (hR : zR cx f0 l0) {fr lo : Nat} {rest : List Value} {post : Int64 → zS → Prop} (hd : decode cc pc = .ok (.invokevirtual 50, 3)) (hM : zMl cx.1.2.1 gg yX2_discriminant cX2_discriminant 1 fr lo (.ref (zf gg) :: []) σ post) (hr : fr + 1 ≤ f0 ∧ 8 + (1 + 11) + lo ≤ l0) (hs : (rest.map fun v => v.category).sum ≤ 8) (hlen : lv.length = nL) (kk : ∀ (r : Int64) (u : zS), post r u → J cx gg Q u (pc + 3) lv (.long r :: rest)) : J cx gg Q σ pc lv (.ref (zf gg) :: rest) :=
  J_cVl hc hR (n := 0) (i := 42) (zmem 277 (by decide +kernel) (by decide +kernel)) wiyX2_discriminant weyX2_discriminant wnX2 wcyX2_discriminant (by decide +kernel) rfl (by decide) rfl (ci := 2) rfl rfl hd hM hr rfl rfl hs hlen kk
theorem nX2_54 (hc : zOK cx gg cc RX2 nL) (hd : decode cc pc = .ok (.ldc2_w 54, 3)) (kk : J cx gg Q σ (pc + 3) lv (.long (4) :: st)) : J cx gg Q σ pc lv st := J_ldc2 hc (zmem 281 (by decide +kernel) (by decide +kernel)) hd kk
theorem wcyX2_searchPiece : Cond.code yX2_searchPiece cX2_searchPiece 3 none ∈ zT := (zmem 285 (by decide +kernel) (by decide +kernel))
theorem wiyX2_searchPiece : Cond.instanceMethod yX2_searchPiece ∈ zT := (zmem 284 (by decide +kernel) (by decide +kernel))
theorem weyX2_searchPiece : Cond.selects yX2_searchPiece.cls yX2_searchPiece yX2_searchPiece ∈ zT := (zmem 14 (by decide +kernel) (by decide +kernel))
theorem kX2_44 (hc : zOK cx gg cc RX2 nL) {f0 l0 : Nat} (hR : zR cx f0 l0) {fr lo : Nat} {a0 a1 : Value} {rest : List Value} {post : zS → Prop} (hd : decode cc pc = .ok (.invokevirtual 44, 3)) (hM : zMv cx.1.2.1 gg yX2_searchPiece cX2_searchPiece 3 fr lo (.ref (zf gg) :: [a0, a1]) σ post) (hr : fr + 1 ≤ f0 ∧ 8 + (3 + 11) + lo ≤ l0) (hs : (rest.map fun v => v.category).sum ≤ 8) (hlen : lv.length = nL) (kk : ∀ u : zS, post u → J cx gg Q u (pc + 3) lv rest) : J cx gg Q σ pc lv (a1 :: a0 :: .ref (zf gg) :: rest) :=
  J_cVv hc hR (n := 2) (i := 42) (zmem 282 (by decide +kernel) (by decide +kernel)) wiyX2_searchPiece weyX2_searchPiece wnX2 wcyX2_searchPiece (by decide +kernel) rfl (by decide) rfl (ci := 2) rfl rfl hd hM hr rfl rfl hs hlen kk
theorem wcyX2_keepRoot : Cond.code yX2_keepRoot cX2_keepRoot 6 none ∈ zT := (zmem 289 (by decide +kernel) (by decide +kernel))
theorem wiyX2_keepRoot : Cond.instanceMethod yX2_keepRoot ∈ zT := (zmem 288 (by decide +kernel) (by decide +kernel))
theorem weyX2_keepRoot : Cond.selects yX2_keepRoot.cls yX2_keepRoot yX2_keepRoot ∈ zT := (zmem 15 (by decide +kernel) (by decide +kernel))
theorem kX2_56 (hc : zOK cx gg cc RX2 nL) {f0 l0 : Nat} (hR : zR cx f0 l0) {fr lo : Nat} {a0 a1 a2 : Value} {rest : List Value} {post : zS → Prop} (hd : decode cc pc = .ok (.invokevirtual 56, 3)) (hM : zMv cx.1.2.1 gg yX2_keepRoot cX2_keepRoot 6 fr lo (.ref (zf gg) :: [a0, a1, a2]) σ post) (hr : fr + 1 ≤ f0 ∧ 8 + (6 + 11) + lo ≤ l0) (hs : (rest.map fun v => v.category).sum ≤ 8) (hlen : lv.length = nL) (kk : ∀ u : zS, post u → J cx gg Q u (pc + 3) lv rest) : J cx gg Q σ pc lv (a2 :: a1 :: a0 :: .ref (zf gg) :: rest) :=
  J_cVv hc hR (n := 3) (i := 42) (zmem 286 (by decide +kernel) (by decide +kernel)) wiyX2_keepRoot weyX2_keepRoot wnX2 wcyX2_keepRoot (by decide +kernel) rfl (by decide) rfl (ci := 2) rfl rfl hd hM hr rfl rfl hs hlen kk
theorem wcyX2_sideOfRoot : Cond.code yX2_sideOfRoot cX2_sideOfRoot 8 (some .int) ∈ zT := (zmem 293 (by decide +kernel) (by decide +kernel))
theorem wiyX2_sideOfRoot : Cond.instanceMethod yX2_sideOfRoot ∈ zT := (zmem 292 (by decide +kernel) (by decide +kernel))
theorem weyX2_sideOfRoot : Cond.selects yX2_sideOfRoot.cls yX2_sideOfRoot yX2_sideOfRoot ∈ zT := (zmem 16 (by decide +kernel) (by decide +kernel))
theorem kX2_60 (hc : zOK cx gg cc RX2 nL) {f0 l0 : Nat} (hR : zR cx f0 l0) {fr lo : Nat} {a0 a1 : Value} {rest : List Value} {post : Int32 → zS → Prop} (hd : decode cc pc = .ok (.invokevirtual 60, 3)) (hM : zMi cx.1.2.1 gg yX2_sideOfRoot cX2_sideOfRoot .int 8 fr lo (.ref (zf gg) :: [a0, a1]) σ post) (hr : fr + 1 ≤ f0 ∧ 8 + (8 + 11) + lo ≤ l0) (hs : (rest.map fun v => v.category).sum ≤ 8) (hlen : lv.length = nL) (kk : ∀ (r : Int32) (u : zS), post r u → J cx gg Q u (pc + 3) lv (.int r :: rest)) : J cx gg Q σ pc lv (a1 :: a0 :: .ref (zf gg) :: rest) :=
  J_cVi hc hR (n := 2) (i := 42) (zmem 290 (by decide +kernel) (by decide +kernel)) wiyX2_sideOfRoot weyX2_sideOfRoot wnX2 wcyX2_sideOfRoot (by decide +kernel) rfl (by decide) rfl (ci := 2) rfl rfl hd hM hr rfl rfl hs hlen kk
theorem nX2_68 (hc : zOK cx gg cc RX2 nL) (hd : decode cc pc = .ok (.ldc2_w 68, 3)) (kk : J cx gg Q σ (pc + 3) lv (.long (2) :: st)) : J cx gg Q σ pc lv st := J_ldc2 hc (zmem 294 (by decide +kernel) (by decide +kernel)) hd kk
theorem wcyX2_boxInside : Cond.code yX2_boxInside cX2_boxInside 4 (some .int) ∈ zT := (zmem 298 (by decide +kernel) (by decide +kernel))
theorem wiyX2_boxInside : Cond.instanceMethod yX2_boxInside ∈ zT := (zmem 297 (by decide +kernel) (by decide +kernel))
theorem weyX2_boxInside : Cond.selects yX2_boxInside.cls yX2_boxInside yX2_boxInside ∈ zT := (zmem 17 (by decide +kernel) (by decide +kernel))
theorem kX2_64 (hc : zOK cx gg cc RX2 nL) {f0 l0 : Nat} (hR : zR cx f0 l0) {fr lo : Nat} {a0 : Value} {rest : List Value} {post : Int32 → zS → Prop} (hd : decode cc pc = .ok (.invokevirtual 64, 3)) (hM : zMi cx.1.2.1 gg yX2_boxInside cX2_boxInside .int 4 fr lo (.ref (zf gg) :: [a0]) σ post) (hr : fr + 1 ≤ f0 ∧ 8 + (4 + 11) + lo ≤ l0) (hs : (rest.map fun v => v.category).sum ≤ 8) (hlen : lv.length = nL) (kk : ∀ (r : Int32) (u : zS), post r u → J cx gg Q u (pc + 3) lv (.int r :: rest)) : J cx gg Q σ pc lv (a0 :: .ref (zf gg) :: rest) :=
  J_cVi hc hR (n := 1) (i := 42) (zmem 295 (by decide +kernel) (by decide +kernel)) wiyX2_boxInside weyX2_boxInside wnX2 wcyX2_boxInside (by decide +kernel) rfl (by decide) rfl (ci := 2) rfl rfl hd hM hr rfl rfl hs hlen kk
theorem wcyX3_zero : Cond.code yX3_zero cX3_zero 4 (some .int) ∈ zT := (zmem 302 (by decide +kernel) (by decide +kernel))
theorem wiyX3_zero : Cond.instanceMethod yX3_zero ∈ zT := (zmem 300 (by decide +kernel) (by decide +kernel))
theorem weyX3_zero : Cond.selects yX3_zero.cls yX3_zero yX3_zero ∈ zT := (zmem 301 (by decide +kernel) (by decide +kernel))
theorem wcyX3_area : Cond.code yX3_area cX3_area 9 (some .long) ∈ zT := (zmem 306 (by decide +kernel) (by decide +kernel))
theorem wiyX3_area : Cond.instanceMethod yX3_area ∈ zT := (zmem 304 (by decide +kernel) (by decide +kernel))
theorem weyX3_area : Cond.selects yX3_area.cls yX3_area yX3_area ∈ zT := (zmem 305 (by decide +kernel) (by decide +kernel))
theorem nX3_117 (hc : zOK cx gg cc RX3 nL) (hd : decode cc pc = .ok (.ldc2_w 117, 3)) (kk : J cx gg Q σ (pc + 3) lv (.long (6) :: st)) : J cx gg Q σ pc lv st := J_ldc2 hc (zmem 307 (by decide +kernel) (by decide +kernel)) hd kk
theorem nX3_119 (hc : zOK cx gg cc RX3 nL) (hd : decode cc pc = .ok (.ldc2_w 119, 3)) (kk : J cx gg Q σ (pc + 3) lv (.long (3) :: st)) : J cx gg Q σ pc lv st := J_ldc2 hc (zmem 308 (by decide +kernel) (by decide +kernel)) hd kk
theorem nX3_121 (hc : zOK cx gg cc RX3 nL) (hd : decode cc pc = .ok (.ldc2_w 121, 3)) (kk : J cx gg Q σ (pc + 3) lv (.long (2) :: st)) : J cx gg Q σ pc lv st := J_ldc2 hc (zmem 309 (by decide +kernel) (by decide +kernel)) hd kk
theorem wcyX3_same : Cond.code yX3_same cX3_same 3 (some .int) ∈ zT := (zmem 313 (by decide +kernel) (by decide +kernel))
theorem wiyX3_same : Cond.instanceMethod yX3_same ∈ zT := (zmem 311 (by decide +kernel) (by decide +kernel))
theorem weyX3_same : Cond.selects yX3_same.cls yX3_same yX3_same ∈ zT := (zmem 312 (by decide +kernel) (by decide +kernel))
theorem wcyX0_isLike : Cond.code yX0_isLike cX0_isLike 3 (some .boolean) ∈ zT := (zmem 317 (by decide +kernel) (by decide +kernel))
theorem wiyX0_isLike : Cond.instanceMethod yX0_isLike ∈ zT := (zmem 316 (by decide +kernel) (by decide +kernel))
theorem weyX0_isLike : Cond.selects yX0_isLike.cls yX0_isLike yX0_isLike ∈ zT := (zmem 18 (by decide +kernel) (by decide +kernel))
theorem kX3_123 (hc : zOK cx gg cc RX3 nL) {f0 l0 : Nat} (hR : zR cx f0 l0) {fr lo : Nat} {k : Nat} (hk : k < 7) {a0 : Value} {rest : List Value} {post : Int32 → zS → Prop} (hd : decode cc pc = .ok (.invokevirtual 123, 3)) (hM : zMi cx.1.2.1 gg yX0_isLike cX0_isLike .boolean 3 fr lo (.ref (zc gg k) :: [a0]) σ post) (hr : fr + 1 ≤ f0 ∧ 8 + (3 + 11) + lo ≤ l0) (hs : (rest.map fun v => v.category).sum ≤ 8) (hlen : lv.length = nL) (kk : ∀ (r : Int32) (u : zS), post r u → J cx gg Q u (pc + 3) lv (.int r :: rest)) : J cx gg Q σ pc lv (a0 :: .ref (zc gg k) :: rest) :=
  J_cVNi hc hR (host := "SmoothPieces") (n := 1) (i := 2 + k) (zmemN 314 (by decide +kernel) (by decide +kernel)) wiyX0_isLike weyX0_isLike wnX0 wcyX0_isLike (by decide +kernel) rfl (by omega) (zE_c gg σ hk) (ci := 0) rfl rfl hd hM hr rfl rfl hs hlen kk
theorem wcyX3_meets : Cond.code yX3_meets cX3_meets 3 (some .int) ∈ zT := (zmem 321 (by decide +kernel) (by decide +kernel))
theorem wiyX3_meets : Cond.instanceMethod yX3_meets ∈ zT := (zmem 319 (by decide +kernel) (by decide +kernel))
theorem weyX3_meets : Cond.selects yX3_meets.cls yX3_meets yX3_meets ∈ zT := (zmem 320 (by decide +kernel) (by decide +kernel))
theorem wcyX0_becomeSum : Cond.code yX0_becomeSum cX0_becomeSum 6 none ∈ zT := (zmem 325 (by decide +kernel) (by decide +kernel))
theorem wiyX0_becomeSum : Cond.instanceMethod yX0_becomeSum ∈ zT := (zmem 324 (by decide +kernel) (by decide +kernel))
theorem weyX0_becomeSum : Cond.selects yX0_becomeSum.cls yX0_becomeSum yX0_becomeSum ∈ zT := (zmem 19 (by decide +kernel) (by decide +kernel))
theorem kX3_127 (hc : zOK cx gg cc RX3 nL) {f0 l0 : Nat} (hR : zR cx f0 l0) {fr lo : Nat} {k : Nat} (hk : k < 7) {a0 a1 a2 a3 : Value} {rest : List Value} {post : zS → Prop} (hd : decode cc pc = .ok (.invokevirtual 127, 3)) (hM : zMv cx.1.2.1 gg yX0_becomeSum cX0_becomeSum 6 fr lo (.ref (zc gg k) :: [a0, a1, a2, a3]) σ post) (hr : fr + 1 ≤ f0 ∧ 8 + (6 + 11) + lo ≤ l0) (hs : (rest.map fun v => v.category).sum ≤ 8) (hlen : lv.length = nL) (kk : ∀ u : zS, post u → J cx gg Q u (pc + 3) lv rest) : J cx gg Q σ pc lv (a3 :: a2 :: a1 :: a0 :: .ref (zc gg k) :: rest) :=
  J_cVNv hc hR (host := "SmoothPieces") (n := 4) (i := 2 + k) (zmemN 322 (by decide +kernel) (by decide +kernel)) wiyX0_becomeSum weyX0_becomeSum wnX0 wcyX0_becomeSum (by decide +kernel) rfl (by omega) (zE_c gg σ hk) (ci := 0) rfl rfl hd hM hr rfl rfl hs hlen kk
theorem kX0_29 (hc : zOK cx gg cc RX0 nL) {f0 l0 : Nat} (hR : zR cx f0 l0) {fr lo : Nat} {a0 a1 : Value} {rest : List Value} {post : Int32 → zS → Prop} (hd : decode cc pc = .ok (.invokestatic 29, 3)) (hM : zMi cx.1.2.1 gg yJ9_min_7cf53 cJ9_min_7cf53 .int 2 fr lo [a0, a1] σ post) (hr : fr + 1 ≤ f0 ∧ 8 + (2 + 11) + lo ≤ l0) (hs : (rest.map fun v => v.category).sum ≤ 8) (hlen : lv.length = nL) (kk : ∀ (r : Int32) (u : zS), post r u → J cx gg Q u (pc + 3) lv (.int r :: rest)) : J cx gg Q σ pc lv (a1 :: a0 :: rest) :=
  J_cSi hc hR (n := 2) (zmem 326 (by decide +kernel) (by decide +kernel)) wtyJ9_min_7cf53 wnJ9 wcyJ9_min_7cf53 (by decide +kernel) hd hM hr rfl rfl hs hlen kk
theorem wcyX3_mix : Cond.code yX3_mix cX3_mix 6 (some .int) ∈ zT := (zmem 330 (by decide +kernel) (by decide +kernel))
theorem wiyX3_mix : Cond.instanceMethod yX3_mix ∈ zT := (zmem 328 (by decide +kernel) (by decide +kernel))
theorem weyX3_mix : Cond.selects yX3_mix.cls yX3_mix yX3_mix ∈ zT := (zmem 329 (by decide +kernel) (by decide +kernel))
theorem wcyX3_keepDraft : Cond.code yX3_keepDraft cX3_keepDraft 2 (some .int) ∈ zT := (zmem 334 (by decide +kernel) (by decide +kernel))
theorem wiyX3_keepDraft : Cond.instanceMethod yX3_keepDraft ∈ zT := (zmem 333 (by decide +kernel) (by decide +kernel))
theorem weyX3_keepDraft : Cond.selects yX3_keepDraft.cls yX3_keepDraft yX3_keepDraft ∈ zT := (zmem 20 (by decide +kernel) (by decide +kernel))
theorem kX3_131 (hc : zOK cx gg cc RX3 nL) {f0 l0 : Nat} (hR : zR cx f0 l0) {fr lo : Nat} {a0 : Value} {rest : List Value} {post : Int32 → zS → Prop} (hd : decode cc pc = .ok (.invokevirtual 131, 3)) (hM : zMi cx.1.2.1 gg yX3_keepDraft cX3_keepDraft .int 2 fr lo (.ref (zo gg) :: [a0]) σ post) (hr : fr + 1 ≤ f0 ∧ 8 + (2 + 11) + lo ≤ l0) (hs : (rest.map fun v => v.category).sum ≤ 8) (hlen : lv.length = nL) (kk : ∀ (r : Int32) (u : zS), post r u → J cx gg Q u (pc + 3) lv (.int r :: rest)) : J cx gg Q σ pc lv (a0 :: .ref (zo gg) :: rest) :=
  J_cVi hc hR (n := 1) (i := 0) (zmem 331 (by decide +kernel) (by decide +kernel)) wiyX3_keepDraft weyX3_keepDraft wnX3 wcyX3_keepDraft (by decide +kernel) rfl (by decide) rfl (ci := 3) rfl rfl hd hM hr rfl rfl hs hlen kk
theorem wcyX0_isInBounds : Cond.code yX0_isInBounds cX0_isInBounds 2 (some .boolean) ∈ zT := (zmem 338 (by decide +kernel) (by decide +kernel))
theorem wiyX0_isInBounds : Cond.instanceMethod yX0_isInBounds ∈ zT := (zmem 337 (by decide +kernel) (by decide +kernel))
theorem weyX0_isInBounds : Cond.selects yX0_isInBounds.cls yX0_isInBounds yX0_isInBounds ∈ zT := (zmem 21 (by decide +kernel) (by decide +kernel))
theorem kX3_180 (hc : zOK cx gg cc RX3 nL) {f0 l0 : Nat} (hR : zR cx f0 l0) {fr lo : Nat} {k : Nat} (hk : k < 7) {rest : List Value} {post : Int32 → zS → Prop} (hd : decode cc pc = .ok (.invokevirtual 180, 3)) (hM : zMi cx.1.2.1 gg yX0_isInBounds cX0_isInBounds .boolean 2 fr lo (.ref (zc gg k) :: []) σ post) (hr : fr + 1 ≤ f0 ∧ 8 + (2 + 11) + lo ≤ l0) (hs : (rest.map fun v => v.category).sum ≤ 8) (hlen : lv.length = nL) (kk : ∀ (r : Int32) (u : zS), post r u → J cx gg Q u (pc + 3) lv (.int r :: rest)) : J cx gg Q σ pc lv (.ref (zc gg k) :: rest) :=
  J_cVNi hc hR (host := "SmoothPieces") (n := 0) (i := 2 + k) (zmemN 335 (by decide +kernel) (by decide +kernel)) wiyX0_isInBounds weyX0_isInBounds wnX0 wcyX0_isInBounds (by decide +kernel) rfl (by omega) (zE_c gg σ hk) (ci := 0) rfl rfl hd hM hr rfl rfl hs hlen kk
theorem nX0_35 (hc : zOK cx gg cc RX0 nL) (hd : decode cc pc = .ok (.ldc 35, 2)) (kk : J cx gg Q σ (pc + 2) lv (.int (100000) :: st)) : J cx gg Q σ pc lv st := J_ldc hc (zmem 339 (by decide +kernel) (by decide +kernel)) hd kk
theorem kX0_36 (hc : zOK cx gg cc RX0 nL) {f0 l0 : Nat} (hR : zR cx f0 l0) {fr lo : Nat} {a0 a1 : Value} {rest : List Value} {post : Int32 → zS → Prop} (hd : decode cc pc = .ok (.invokestatic 36, 3)) (hM : zMi cx.1.2.1 gg yX3_isBeyond cX3_isBeyond .boolean 2 fr lo [a0, a1] σ post) (hr : fr + 1 ≤ f0 ∧ 8 + (2 + 11) + lo ≤ l0) (hs : (rest.map fun v => v.category).sum ≤ 8) (hlen : lv.length = nL) (kk : ∀ (r : Int32) (u : zS), post r u → J cx gg Q u (pc + 3) lv (.int r :: rest)) : J cx gg Q σ pc lv (a1 :: a0 :: rest) :=
  J_cSNi hc hR (host := "SmoothPieces") (n := 2) (zmemN 340 (by decide +kernel) (by decide +kernel)) wtyX3_isBeyond wnX3 wcyX3_isBeyond (by decide +kernel) hd hM hr rfl rfl hs hlen kk
theorem wcyX0_becomeCopy : Cond.code yX0_becomeCopy cX0_becomeCopy 3 none ∈ zT := (zmem 344 (by decide +kernel) (by decide +kernel))
theorem wiyX0_becomeCopy : Cond.instanceMethod yX0_becomeCopy ∈ zT := (zmem 343 (by decide +kernel) (by decide +kernel))
theorem weyX0_becomeCopy : Cond.selects yX0_becomeCopy.cls yX0_becomeCopy yX0_becomeCopy ∈ zT := (zmem 22 (by decide +kernel) (by decide +kernel))
theorem kX3_183 (hc : zOK cx gg cc RX3 nL) {f0 l0 : Nat} (hR : zR cx f0 l0) {fr lo : Nat} {k : Nat} (hk : k < 7) {a0 : Value} {rest : List Value} {post : zS → Prop} (hd : decode cc pc = .ok (.invokevirtual 183, 3)) (hM : zMv cx.1.2.1 gg yX0_becomeCopy cX0_becomeCopy 3 fr lo (.ref (zc gg k) :: [a0]) σ post) (hr : fr + 1 ≤ f0 ∧ 8 + (3 + 11) + lo ≤ l0) (hs : (rest.map fun v => v.category).sum ≤ 8) (hlen : lv.length = nL) (kk : ∀ u : zS, post u → J cx gg Q u (pc + 3) lv rest) : J cx gg Q σ pc lv (a0 :: .ref (zc gg k) :: rest) :=
  J_cVNv hc hR (host := "SmoothPieces") (n := 1) (i := 2 + k) (zmemN 341 (by decide +kernel) (by decide +kernel)) wiyX0_becomeCopy weyX0_becomeCopy wnX0 wcyX0_becomeCopy (by decide +kernel) rfl (by omega) (zE_c gg σ hk) (ci := 0) rfl rfl hd hM hr rfl rfl hs hlen kk
theorem wcyX3_refine : Cond.code yX3_refine cX3_refine 3 (some .int) ∈ zT := (zmem 348 (by decide +kernel) (by decide +kernel))
theorem wiyX3_refine : Cond.instanceMethod yX3_refine ∈ zT := (zmem 346 (by decide +kernel) (by decide +kernel))
theorem weyX3_refine : Cond.selects yX3_refine.cls yX3_refine yX3_refine ∈ zT := (zmem 347 (by decide +kernel) (by decide +kernel))
theorem wcyX0_becomeRefined : Cond.code yX0_becomeRefined cX0_becomeRefined 7 none ∈ zT := (zmem 352 (by decide +kernel) (by decide +kernel))
theorem wiyX0_becomeRefined : Cond.instanceMethod yX0_becomeRefined ∈ zT := (zmem 351 (by decide +kernel) (by decide +kernel))
theorem weyX0_becomeRefined : Cond.selects yX0_becomeRefined.cls yX0_becomeRefined yX0_becomeRefined ∈ zT := (zmem 23 (by decide +kernel) (by decide +kernel))
theorem kX3_134 (hc : zOK cx gg cc RX3 nL) {f0 l0 : Nat} (hR : zR cx f0 l0) {fr lo : Nat} {k : Nat} (hk : k < 7) {a0 : Value} {rest : List Value} {post : zS → Prop} (hd : decode cc pc = .ok (.invokevirtual 134, 3)) (hM : zMv cx.1.2.1 gg yX0_becomeRefined cX0_becomeRefined 7 fr lo (.ref (zc gg k) :: [a0]) σ post) (hr : fr + 1 ≤ f0 ∧ 8 + (7 + 11) + lo ≤ l0) (hs : (rest.map fun v => v.category).sum ≤ 8) (hlen : lv.length = nL) (kk : ∀ u : zS, post u → J cx gg Q u (pc + 3) lv rest) : J cx gg Q σ pc lv (a0 :: .ref (zc gg k) :: rest) :=
  J_cVNv hc hR (host := "SmoothPieces") (n := 1) (i := 2 + k) (zmemN 349 (by decide +kernel) (by decide +kernel)) wiyX0_becomeRefined weyX0_becomeRefined wnX0 wcyX0_becomeRefined (by decide +kernel) rfl (by omega) (zE_c gg σ hk) (ci := 0) rfl rfl hd hM hr rfl rfl hs hlen kk
theorem wcyX3_slope : Cond.code yX3_slope cX3_slope 3 (some .int) ∈ zT := (zmem 356 (by decide +kernel) (by decide +kernel))
theorem wiyX3_slope : Cond.instanceMethod yX3_slope ∈ zT := (zmem 354 (by decide +kernel) (by decide +kernel))
theorem weyX3_slope : Cond.selects yX3_slope.cls yX3_slope yX3_slope ∈ zT := (zmem 355 (by decide +kernel) (by decide +kernel))
theorem wcyX0_becomeSloped : Cond.code yX0_becomeSloped cX0_becomeSloped 3 none ∈ zT := (zmem 360 (by decide +kernel) (by decide +kernel))
theorem wiyX0_becomeSloped : Cond.instanceMethod yX0_becomeSloped ∈ zT := (zmem 359 (by decide +kernel) (by decide +kernel))
theorem weyX0_becomeSloped : Cond.selects yX0_becomeSloped.cls yX0_becomeSloped yX0_becomeSloped ∈ zT := (zmem 24 (by decide +kernel) (by decide +kernel))
theorem kX3_138 (hc : zOK cx gg cc RX3 nL) {f0 l0 : Nat} (hR : zR cx f0 l0) {fr lo : Nat} {k : Nat} (hk : k < 7) {a0 : Value} {rest : List Value} {post : zS → Prop} (hd : decode cc pc = .ok (.invokevirtual 138, 3)) (hM : zMv cx.1.2.1 gg yX0_becomeSloped cX0_becomeSloped 3 fr lo (.ref (zc gg k) :: [a0]) σ post) (hr : fr + 1 ≤ f0 ∧ 8 + (3 + 11) + lo ≤ l0) (hs : (rest.map fun v => v.category).sum ≤ 8) (hlen : lv.length = nL) (kk : ∀ u : zS, post u → J cx gg Q u (pc + 3) lv rest) : J cx gg Q σ pc lv (a0 :: .ref (zc gg k) :: rest) :=
  J_cVNv hc hR (host := "SmoothPieces") (n := 1) (i := 2 + k) (zmemN 357 (by decide +kernel) (by decide +kernel)) wiyX0_becomeSloped weyX0_becomeSloped wnX0 wcyX0_becomeSloped (by decide +kernel) rfl (by omega) (zE_c gg σ hk) (ci := 0) rfl rfl hd hM hr rfl rfl hs hlen kk
theorem wcyX3_push : Cond.code yX3_push cX3_push 3 (some .int) ∈ zT := (zmem 364 (by decide +kernel) (by decide +kernel))
theorem wiyX3_push : Cond.instanceMethod yX3_push ∈ zT := (zmem 362 (by decide +kernel) (by decide +kernel))
theorem weyX3_push : Cond.selects yX3_push.cls yX3_push yX3_push ∈ zT := (zmem 363 (by decide +kernel) (by decide +kernel))
theorem wcyX0_becomePushed : Cond.code yX0_becomePushed cX0_becomePushed 4 none ∈ zT := (zmem 368 (by decide +kernel) (by decide +kernel))
theorem wiyX0_becomePushed : Cond.instanceMethod yX0_becomePushed ∈ zT := (zmem 367 (by decide +kernel) (by decide +kernel))
theorem weyX0_becomePushed : Cond.selects yX0_becomePushed.cls yX0_becomePushed yX0_becomePushed ∈ zT := (zmem 25 (by decide +kernel) (by decide +kernel))
theorem kX3_141 (hc : zOK cx gg cc RX3 nL) {f0 l0 : Nat} (hR : zR cx f0 l0) {fr lo : Nat} {k : Nat} (hk : k < 7) {a0 a1 : Value} {rest : List Value} {post : zS → Prop} (hd : decode cc pc = .ok (.invokevirtual 141, 3)) (hM : zMv cx.1.2.1 gg yX0_becomePushed cX0_becomePushed 4 fr lo (.ref (zc gg k) :: [a0, a1]) σ post) (hr : fr + 1 ≤ f0 ∧ 8 + (4 + 11) + lo ≤ l0) (hs : (rest.map fun v => v.category).sum ≤ 8) (hlen : lv.length = nL) (kk : ∀ u : zS, post u → J cx gg Q u (pc + 3) lv rest) : J cx gg Q σ pc lv (a1 :: a0 :: .ref (zc gg k) :: rest) :=
  J_cVNv hc hR (host := "SmoothPieces") (n := 2) (i := 2 + k) (zmemN 365 (by decide +kernel) (by decide +kernel)) wiyX0_becomePushed weyX0_becomePushed wnX0 wcyX0_becomePushed (by decide +kernel) rfl (by omega) (zE_c gg σ hk) (ci := 0) rfl rfl hd hM hr rfl rfl hs hlen kk
theorem wcyX3_point : Cond.code yX3_point cX3_point 2 (some .int) ∈ zT := (zmem 372 (by decide +kernel) (by decide +kernel))
theorem wiyX3_point : Cond.instanceMethod yX3_point ∈ zT := (zmem 370 (by decide +kernel) (by decide +kernel))
theorem weyX3_point : Cond.selects yX3_point.cls yX3_point yX3_point ∈ zT := (zmem 371 (by decide +kernel) (by decide +kernel))
theorem wcyX3_clear : Cond.code yX3_clear cX3_clear 2 (some .int) ∈ zT := (zmem 376 (by decide +kernel) (by decide +kernel))
theorem wiyX3_clear : Cond.instanceMethod yX3_clear ∈ zT := (zmem 374 (by decide +kernel) (by decide +kernel))
theorem weyX3_clear : Cond.selects yX3_clear.cls yX3_clear yX3_clear ∈ zT := (zmem 375 (by decide +kernel) (by decide +kernel))
theorem wcyX3_slopes : Cond.code yX3_slopes cX3_slopes 3 (some .int) ∈ zT := (zmem 380 (by decide +kernel) (by decide +kernel))
theorem wiyX3_slopes : Cond.instanceMethod yX3_slopes ∈ zT := (zmem 378 (by decide +kernel) (by decide +kernel))
theorem weyX3_slopes : Cond.selects yX3_slopes.cls yX3_slopes yX3_slopes ∈ zT := (zmem 379 (by decide +kernel) (by decide +kernel))
theorem wcyX3_isNoShape : Cond.code yX3_isNoShape cX3_isNoShape 1 (some .boolean) ∈ zT := (zmem 383 (by decide +kernel) (by decide +kernel))
theorem wtyX3_isNoShape : Cond.static yX3_isNoShape ∈ zT := (zmem 382 (by decide +kernel) (by decide +kernel))
theorem kX3_145 (hc : zOK cx gg cc RX3 nL) {f0 l0 : Nat} (hR : zR cx f0 l0) {fr lo : Nat} {a0 : Value} {rest : List Value} {post : Int32 → zS → Prop} (hd : decode cc pc = .ok (.invokestatic 145, 3)) (hM : zMi cx.1.2.1 gg yX3_isNoShape cX3_isNoShape .boolean 1 fr lo [a0] σ post) (hr : fr + 1 ≤ f0 ∧ 8 + (1 + 11) + lo ≤ l0) (hs : (rest.map fun v => v.category).sum ≤ 8) (hlen : lv.length = nL) (kk : ∀ (r : Int32) (u : zS), post r u → J cx gg Q u (pc + 3) lv (.int r :: rest)) : J cx gg Q σ pc lv (a0 :: rest) :=
  J_cSi hc hR (n := 1) (zmem 381 (by decide +kernel) (by decide +kernel)) wtyX3_isNoShape wnX3 wcyX3_isNoShape (by decide +kernel) hd hM hr rfl rfl hs hlen kk
theorem wcyX3_hasTooFewPoints : Cond.code yX3_hasTooFewPoints cX3_hasTooFewPoints 1 (some .boolean) ∈ zT := (zmem 387 (by decide +kernel) (by decide +kernel))
theorem wiyX3_hasTooFewPoints : Cond.instanceMethod yX3_hasTooFewPoints ∈ zT := (zmem 386 (by decide +kernel) (by decide +kernel))
theorem weyX3_hasTooFewPoints : Cond.selects yX3_hasTooFewPoints.cls yX3_hasTooFewPoints yX3_hasTooFewPoints ∈ zT := (zmem 26 (by decide +kernel) (by decide +kernel))
theorem kX3_148 (hc : zOK cx gg cc RX3 nL) {f0 l0 : Nat} (hR : zR cx f0 l0) {fr lo : Nat} {rest : List Value} {post : Int32 → zS → Prop} (hd : decode cc pc = .ok (.invokevirtual 148, 3)) (hM : zMi cx.1.2.1 gg yX3_hasTooFewPoints cX3_hasTooFewPoints .boolean 1 fr lo (.ref (zo gg) :: []) σ post) (hr : fr + 1 ≤ f0 ∧ 8 + (1 + 11) + lo ≤ l0) (hs : (rest.map fun v => v.category).sum ≤ 8) (hlen : lv.length = nL) (kk : ∀ (r : Int32) (u : zS), post r u → J cx gg Q u (pc + 3) lv (.int r :: rest)) : J cx gg Q σ pc lv (.ref (zo gg) :: rest) :=
  J_cVi hc hR (n := 0) (i := 0) (zmem 384 (by decide +kernel) (by decide +kernel)) wiyX3_hasTooFewPoints weyX3_hasTooFewPoints wnX3 wcyX3_hasTooFewPoints (by decide +kernel) rfl (by decide) rfl (ci := 3) rfl rfl hd hM hr rfl rfl hs hlen kk
theorem wcyX3_findSlopes : Cond.code yX3_findSlopes cX3_findSlopes 5 none ∈ zT := (zmem 391 (by decide +kernel) (by decide +kernel))
theorem wiyX3_findSlopes : Cond.instanceMethod yX3_findSlopes ∈ zT := (zmem 390 (by decide +kernel) (by decide +kernel))
theorem weyX3_findSlopes : Cond.selects yX3_findSlopes.cls yX3_findSlopes yX3_findSlopes ∈ zT := (zmem 27 (by decide +kernel) (by decide +kernel))
theorem kX3_152 (hc : zOK cx gg cc RX3 nL) {f0 l0 : Nat} (hR : zR cx f0 l0) {fr lo : Nat} {a0 : Value} {rest : List Value} {post : zS → Prop} (hd : decode cc pc = .ok (.invokevirtual 152, 3)) (hM : zMv cx.1.2.1 gg yX3_findSlopes cX3_findSlopes 5 fr lo (.ref (zo gg) :: [a0]) σ post) (hr : fr + 1 ≤ f0 ∧ 8 + (5 + 11) + lo ≤ l0) (hs : (rest.map fun v => v.category).sum ≤ 8) (hlen : lv.length = nL) (kk : ∀ u : zS, post u → J cx gg Q u (pc + 3) lv rest) : J cx gg Q σ pc lv (a0 :: .ref (zo gg) :: rest) :=
  J_cVv hc hR (n := 1) (i := 0) (zmem 388 (by decide +kernel) (by decide +kernel)) wiyX3_findSlopes weyX3_findSlopes wnX3 wcyX3_findSlopes (by decide +kernel) rfl (by decide) rfl (ci := 3) rfl rfl hd hM hr rfl rfl hs hlen kk
theorem wcyX3_draftSpline : Cond.code yX3_draftSpline cX3_draftSpline 5 none ∈ zT := (zmem 395 (by decide +kernel) (by decide +kernel))
theorem wiyX3_draftSpline : Cond.instanceMethod yX3_draftSpline ∈ zT := (zmem 394 (by decide +kernel) (by decide +kernel))
theorem weyX3_draftSpline : Cond.selects yX3_draftSpline.cls yX3_draftSpline yX3_draftSpline ∈ zT := (zmem 28 (by decide +kernel) (by decide +kernel))
theorem kX3_174 (hc : zOK cx gg cc RX3 nL) {f0 l0 : Nat} (hR : zR cx f0 l0) {fr lo : Nat} {a0 : Value} {rest : List Value} {post : zS → Prop} (hd : decode cc pc = .ok (.invokevirtual 174, 3)) (hM : zMv cx.1.2.1 gg yX3_draftSpline cX3_draftSpline 5 fr lo (.ref (zo gg) :: [a0]) σ post) (hr : fr + 1 ≤ f0 ∧ 8 + (5 + 11) + lo ≤ l0) (hs : (rest.map fun v => v.category).sum ≤ 8) (hlen : lv.length = nL) (kk : ∀ u : zS, post u → J cx gg Q u (pc + 3) lv rest) : J cx gg Q σ pc lv (a0 :: .ref (zo gg) :: rest) :=
  J_cVv hc hR (n := 1) (i := 0) (zmem 392 (by decide +kernel) (by decide +kernel)) wiyX3_draftSpline weyX3_draftSpline wnX3 wcyX3_draftSpline (by decide +kernel) rfl (by decide) rfl (ci := 3) rfl rfl hd hM hr rfl rfl hs hlen kk
theorem wnX1 : Cond.initialized RX1 ∈ zT := (zmem 50 (by decide +kernel) (by decide +kernel))
theorem wcyX1_becomeAll : Cond.code yX1_becomeAll cX1_becomeAll 2 none ∈ zT := (zmem 399 (by decide +kernel) (by decide +kernel))
theorem wiyX1_becomeAll : Cond.instanceMethod yX1_becomeAll ∈ zT := (zmem 398 (by decide +kernel) (by decide +kernel))
theorem weyX1_becomeAll : Cond.selects yX1_becomeAll.cls yX1_becomeAll yX1_becomeAll ∈ zT := (zmem 29 (by decide +kernel) (by decide +kernel))
theorem kX3_205 (hc : zOK cx gg cc RX3 nL) {f0 l0 : Nat} (hR : zR cx f0 l0) {fr lo : Nat} {a0 : Value} {rest : List Value} {post : zS → Prop} (hd : decode cc pc = .ok (.invokevirtual 205, 3)) (hM : zMv cx.1.2.1 gg yX1_becomeAll cX1_becomeAll 2 fr lo (.ref (zn gg) :: [a0]) σ post) (hr : fr + 1 ≤ f0 ∧ 8 + (2 + 11) + lo ≤ l0) (hs : (rest.map fun v => v.category).sum ≤ 8) (hlen : lv.length = nL) (kk : ∀ u : zS, post u → J cx gg Q u (pc + 3) lv rest) : J cx gg Q σ pc lv (a0 :: .ref (zn gg) :: rest) :=
  J_cVNv hc hR (host := "SmoothPieces") (n := 1) (i := 43) (zmemN 396 (by decide +kernel) (by decide +kernel)) wiyX1_becomeAll weyX1_becomeAll wnX1 wcyX1_becomeAll (by decide +kernel) rfl (by decide) rfl (ci := 1) rfl rfl hd hM hr rfl rfl hs hlen kk
theorem wcyX1_require : Cond.code yX1_require cX1_require 3 none ∈ zT := (zmem 403 (by decide +kernel) (by decide +kernel))
theorem wiyX1_require : Cond.instanceMethod yX1_require ∈ zT := (zmem 402 (by decide +kernel) (by decide +kernel))
theorem weyX1_require : Cond.selects yX1_require.cls yX1_require yX1_require ∈ zT := (zmem 30 (by decide +kernel) (by decide +kernel))
theorem kX3_208 (hc : zOK cx gg cc RX3 nL) {f0 l0 : Nat} (hR : zR cx f0 l0) {fr lo : Nat} {a0 a1 : Value} {rest : List Value} {post : zS → Prop} (hd : decode cc pc = .ok (.invokevirtual 208, 3)) (hM : zMv cx.1.2.1 gg yX1_require cX1_require 3 fr lo (.ref (zn gg) :: [a0, a1]) σ post) (hr : fr + 1 ≤ f0 ∧ 8 + (3 + 11) + lo ≤ l0) (hs : (rest.map fun v => v.category).sum ≤ 8) (hlen : lv.length = nL) (kk : ∀ u : zS, post u → J cx gg Q u (pc + 3) lv rest) : J cx gg Q σ pc lv (a1 :: a0 :: .ref (zn gg) :: rest) :=
  J_cVNv hc hR (host := "SmoothPieces") (n := 2) (i := 43) (zmemN 400 (by decide +kernel) (by decide +kernel)) wiyX1_require weyX1_require wnX1 wcyX1_require (by decide +kernel) rfl (by decide) rfl (ci := 1) rfl rfl hd hM hr rfl rfl hs hlen kk
theorem wcyJ9_max_7cf53 : Cond.code yJ9_max_7cf53 cJ9_max_7cf53 2 (some .int) ∈ zT := (zmem 406 (by decide +kernel) (by decide +kernel))
theorem wtyJ9_max_7cf53 : Cond.static yJ9_max_7cf53 ∈ zT := (zmem 405 (by decide +kernel) (by decide +kernel))
theorem kX1_16 (hc : zOK cx gg cc RX1 nL) {f0 l0 : Nat} (hR : zR cx f0 l0) {fr lo : Nat} {a0 a1 : Value} {rest : List Value} {post : Int32 → zS → Prop} (hd : decode cc pc = .ok (.invokestatic 16, 3)) (hM : zMi cx.1.2.1 gg yJ9_max_7cf53 cJ9_max_7cf53 .int 2 fr lo [a0, a1] σ post) (hr : fr + 1 ≤ f0 ∧ 8 + (2 + 11) + lo ≤ l0) (hs : (rest.map fun v => v.category).sum ≤ 8) (hlen : lv.length = nL) (kk : ∀ (r : Int32) (u : zS), post r u → J cx gg Q u (pc + 3) lv (.int r :: rest)) : J cx gg Q σ pc lv (a1 :: a0 :: rest) :=
  J_cSi hc hR (n := 2) (zmem 404 (by decide +kernel) (by decide +kernel)) wtyJ9_max_7cf53 wnJ9 wcyJ9_max_7cf53 (by decide +kernel) hd hM hr rfl rfl hs hlen kk
theorem kX1_22 (hc : zOK cx gg cc RX1 nL) {f0 l0 : Nat} (hR : zR cx f0 l0) {fr lo : Nat} {a0 a1 : Value} {rest : List Value} {post : Int32 → zS → Prop} (hd : decode cc pc = .ok (.invokestatic 22, 3)) (hM : zMi cx.1.2.1 gg yJ9_min_7cf53 cJ9_min_7cf53 .int 2 fr lo [a0, a1] σ post) (hr : fr + 1 ≤ f0 ∧ 8 + (2 + 11) + lo ≤ l0) (hs : (rest.map fun v => v.category).sum ≤ 8) (hlen : lv.length = nL) (kk : ∀ (r : Int32) (u : zS), post r u → J cx gg Q u (pc + 3) lv (.int r :: rest)) : J cx gg Q σ pc lv (a1 :: a0 :: rest) :=
  J_cSi hc hR (n := 2) (zmem 407 (by decide +kernel) (by decide +kernel)) wtyJ9_min_7cf53 wnJ9 wcyJ9_min_7cf53 (by decide +kernel) hd hM hr rfl rfl hs hlen kk
theorem kX3_212 (hc : zOK cx gg cc RX3 nL) {f0 l0 : Nat} (hR : zR cx f0 l0) {fr lo : Nat} {k : Nat} (hk : k < 7) {a0 : Value} {rest : List Value} {post : Int32 → zS → Prop} (hd : decode cc pc = .ok (.invokevirtual 212, 3)) (hM : zMi cx.1.2.1 gg yX0_slopeAtEnd cX0_slopeAtEnd .int 2 fr lo (.ref (zc gg k) :: [a0]) σ post) (hr : fr + 1 ≤ f0 ∧ 8 + (2 + 11) + lo ≤ l0) (hs : (rest.map fun v => v.category).sum ≤ 8) (hlen : lv.length = nL) (kk : ∀ (r : Int32) (u : zS), post r u → J cx gg Q u (pc + 3) lv (.int r :: rest)) : J cx gg Q σ pc lv (a0 :: .ref (zc gg k) :: rest) :=
  J_cVNi hc hR (host := "SmoothPieces") (n := 1) (i := 2 + k) (zmemN 408 (by decide +kernel) (by decide +kernel)) wiyX0_slopeAtEnd weyX0_slopeAtEnd wnX0 wcyX0_slopeAtEnd (by decide +kernel) rfl (by omega) (zE_c gg σ hk) (ci := 0) rfl rfl hd hM hr rfl rfl hs hlen kk
theorem wcyX1_size : Cond.code yX1_size cX1_size 1 (some .int) ∈ zT := (zmem 412 (by decide +kernel) (by decide +kernel))
theorem wiyX1_size : Cond.instanceMethod yX1_size ∈ zT := (zmem 411 (by decide +kernel) (by decide +kernel))
theorem weyX1_size : Cond.selects yX1_size.cls yX1_size yX1_size ∈ zT := (zmem 31 (by decide +kernel) (by decide +kernel))
theorem kX3_155 (hc : zOK cx gg cc RX3 nL) {f0 l0 : Nat} (hR : zR cx f0 l0) {fr lo : Nat} {rest : List Value} {post : Int32 → zS → Prop} (hd : decode cc pc = .ok (.invokevirtual 155, 3)) (hM : zMi cx.1.2.1 gg yX1_size cX1_size .int 1 fr lo (.ref (zn gg) :: []) σ post) (hr : fr + 1 ≤ f0 ∧ 8 + (1 + 11) + lo ≤ l0) (hs : (rest.map fun v => v.category).sum ≤ 8) (hlen : lv.length = nL) (kk : ∀ (r : Int32) (u : zS), post r u → J cx gg Q u (pc + 3) lv (.int r :: rest)) : J cx gg Q σ pc lv (.ref (zn gg) :: rest) :=
  J_cVNi hc hR (host := "SmoothPieces") (n := 0) (i := 43) (zmemN 409 (by decide +kernel) (by decide +kernel)) wiyX1_size weyX1_size wnX1 wcyX1_size (by decide +kernel) rfl (by decide) rfl (ci := 1) rfl rfl hd hM hr rfl rfl hs hlen kk
theorem wcyX3_best : Cond.code yX3_best cX3_best 2 (some .int) ∈ zT := (zmem 416 (by decide +kernel) (by decide +kernel))
theorem wiyX3_best : Cond.instanceMethod yX3_best ∈ zT := (zmem 414 (by decide +kernel) (by decide +kernel))
theorem weyX3_best : Cond.selects yX3_best.cls yX3_best yX3_best ∈ zT := (zmem 415 (by decide +kernel) (by decide +kernel))
theorem wcyX3_leastBentOfAll : Cond.code yX3_leastBentOfAll cX3_leastBentOfAll 4 (some .int) ∈ zT := (zmem 420 (by decide +kernel) (by decide +kernel))
theorem wiyX3_leastBentOfAll : Cond.instanceMethod yX3_leastBentOfAll ∈ zT := (zmem 419 (by decide +kernel) (by decide +kernel))
theorem weyX3_leastBentOfAll : Cond.selects yX3_leastBentOfAll.cls yX3_leastBentOfAll yX3_leastBentOfAll ∈ zT := (zmem 32 (by decide +kernel) (by decide +kernel))
theorem kX3_164 (hc : zOK cx gg cc RX3 nL) {f0 l0 : Nat} (hR : zR cx f0 l0) {fr lo : Nat} {rest : List Value} {post : Int32 → zS → Prop} (hd : decode cc pc = .ok (.invokevirtual 164, 3)) (hM : zMi cx.1.2.1 gg yX3_leastBentOfAll cX3_leastBentOfAll .int 4 fr lo (.ref (zo gg) :: []) σ post) (hr : fr + 1 ≤ f0 ∧ 8 + (4 + 11) + lo ≤ l0) (hs : (rest.map fun v => v.category).sum ≤ 8) (hlen : lv.length = nL) (kk : ∀ (r : Int32) (u : zS), post r u → J cx gg Q u (pc + 3) lv (.int r :: rest)) : J cx gg Q σ pc lv (.ref (zo gg) :: rest) :=
  J_cVi hc hR (n := 0) (i := 0) (zmem 417 (by decide +kernel) (by decide +kernel)) wiyX3_leastBentOfAll weyX3_leastBentOfAll wnX3 wcyX3_leastBentOfAll (by decide +kernel) rfl (by decide) rfl (ci := 3) rfl rfl hd hM hr rfl rfl hs hlen kk
theorem kX3_167 (hc : zOK cx gg cc RX3 nL) {f0 l0 : Nat} (hR : zR cx f0 l0) {fr lo : Nat} {a0 a1 : Value} {rest : List Value} {post : Int32 → zS → Prop} (hd : decode cc pc = .ok (.invokestatic 167, 3)) (hM : zMi cx.1.2.1 gg yJ9_max_7cf53 cJ9_max_7cf53 .int 2 fr lo [a0, a1] σ post) (hr : fr + 1 ≤ f0 ∧ 8 + (2 + 11) + lo ≤ l0) (hs : (rest.map fun v => v.category).sum ≤ 8) (hlen : lv.length = nL) (kk : ∀ (r : Int32) (u : zS), post r u → J cx gg Q u (pc + 3) lv (.int r :: rest)) : J cx gg Q σ pc lv (a1 :: a0 :: rest) :=
  J_cSi hc hR (n := 2) (zmem 421 (by decide +kernel) (by decide +kernel)) wtyJ9_max_7cf53 wnJ9 wcyJ9_max_7cf53 (by decide +kernel) hd hM hr rfl rfl hs hlen kk
theorem wcyJ9_floorDiv_7cf53 : Cond.code yJ9_floorDiv_7cf53 cJ9_floorDiv_7cf53 3 (some .int) ∈ zT := (zmem 424 (by decide +kernel) (by decide +kernel))
theorem wtyJ9_floorDiv_7cf53 : Cond.static yJ9_floorDiv_7cf53 ∈ zT := (zmem 423 (by decide +kernel) (by decide +kernel))
theorem kX3_215 (hc : zOK cx gg cc RX3 nL) {f0 l0 : Nat} (hR : zR cx f0 l0) {fr lo : Nat} {a0 a1 : Value} {rest : List Value} {post : Int32 → zS → Prop} (hd : decode cc pc = .ok (.invokestatic 215, 3)) (hM : zMi cx.1.2.1 gg yJ9_floorDiv_7cf53 cJ9_floorDiv_7cf53 .int 3 fr lo [a0, a1] σ post) (hr : fr + 1 ≤ f0 ∧ 8 + (3 + 11) + lo ≤ l0) (hs : (rest.map fun v => v.category).sum ≤ 8) (hlen : lv.length = nL) (kk : ∀ (r : Int32) (u : zS), post r u → J cx gg Q u (pc + 3) lv (.int r :: rest)) : J cx gg Q σ pc lv (a1 :: a0 :: rest) :=
  J_cSi hc hR (n := 2) (zmem 422 (by decide +kernel) (by decide +kernel)) wtyJ9_floorDiv_7cf53 wnJ9 wcyJ9_floorDiv_7cf53 (by decide +kernel) hd hM hr rfl rfl hs hlen kk
theorem wcyX3_bend : Cond.code yX3_bend cX3_bend 5 (some .long) ∈ zT := (zmem 428 (by decide +kernel) (by decide +kernel))
theorem wiyX3_bend : Cond.instanceMethod yX3_bend ∈ zT := (zmem 426 (by decide +kernel) (by decide +kernel))
theorem weyX3_bend : Cond.selects yX3_bend.cls yX3_bend yX3_bend ∈ zT := (zmem 427 (by decide +kernel) (by decide +kernel))
theorem nX3_170 (hc : zOK cx gg cc RX3 nL) (hd : decode cc pc = .ok (.ldc2_w 170, 3)) (kk : J cx gg Q σ (pc + 3) lv (.long (-3) :: st)) : J cx gg Q σ pc lv st := J_ldc2 hc (zmem 429 (by decide +kernel) (by decide +kernel)) hd kk
theorem nX3_172 (hc : zOK cx gg cc RX3 nL) (hd : decode cc pc = .ok (.ldc2_w 172, 3)) (kk : J cx gg Q σ (pc + 3) lv (.long (-4) :: st)) : J cx gg Q σ pc lv st := J_ldc2 hc (zmem 430 (by decide +kernel) (by decide +kernel)) hd kk
theorem wcyX3_spline : Cond.code yX3_spline cX3_spline 3 (some .int) ∈ zT := (zmem 434 (by decide +kernel) (by decide +kernel))
theorem wiyX3_spline : Cond.instanceMethod yX3_spline ∈ zT := (zmem 432 (by decide +kernel) (by decide +kernel))
theorem weyX3_spline : Cond.selects yX3_spline.cls yX3_spline yX3_spline ∈ zT := (zmem 433 (by decide +kernel) (by decide +kernel))
theorem wcyX3_count : Cond.code yX3_count cX3_count 3 (some .int) ∈ zT := (zmem 438 (by decide +kernel) (by decide +kernel))
theorem wiyX3_count : Cond.instanceMethod yX3_count ∈ zT := (zmem 436 (by decide +kernel) (by decide +kernel))
theorem weyX3_count : Cond.selects yX3_count.cls yX3_count yX3_count ∈ zT := (zmem 437 (by decide +kernel) (by decide +kernel))
theorem wcyX0_knotsJoined : Cond.code yX0_knotsJoined cX0_knotsJoined 4 (some .int) ∈ zT := (zmem 442 (by decide +kernel) (by decide +kernel))
theorem wiyX0_knotsJoined : Cond.instanceMethod yX0_knotsJoined ∈ zT := (zmem 441 (by decide +kernel) (by decide +kernel))
theorem weyX0_knotsJoined : Cond.selects yX0_knotsJoined.cls yX0_knotsJoined yX0_knotsJoined ∈ zT := (zmem 33 (by decide +kernel) (by decide +kernel))
theorem kX3_177 (hc : zOK cx gg cc RX3 nL) {f0 l0 : Nat} (hR : zR cx f0 l0) {fr lo : Nat} {k : Nat} (hk : k < 7) {a0 : Value} {rest : List Value} {post : Int32 → zS → Prop} (hd : decode cc pc = .ok (.invokevirtual 177, 3)) (hM : zMi cx.1.2.1 gg yX0_knotsJoined cX0_knotsJoined .int 4 fr lo (.ref (zc gg k) :: [a0]) σ post) (hr : fr + 1 ≤ f0 ∧ 8 + (4 + 11) + lo ≤ l0) (hs : (rest.map fun v => v.category).sum ≤ 8) (hlen : lv.length = nL) (kk : ∀ (r : Int32) (u : zS), post r u → J cx gg Q u (pc + 3) lv (.int r :: rest)) : J cx gg Q σ pc lv (a0 :: .ref (zc gg k) :: rest) :=
  J_cVNi hc hR (host := "SmoothPieces") (n := 1) (i := 2 + k) (zmemN 439 (by decide +kernel) (by decide +kernel)) wiyX0_knotsJoined weyX0_knotsJoined wnX0 wcyX0_knotsJoined (by decide +kernel) rfl (by omega) (zE_c gg σ hk) (ci := 0) rfl rfl hd hM hr rfl rfl hs hlen kk
end ZK
end
section
section ZK
variable {cx : zX} {gg : zG} {Q : State → Prop} {σ : zS} {pc : Nat} {lv : List (Option Value)} {st : List Value} {cc : ByteArray} {nL : Nat}
theorem gX4_7 (hc : zOK cx gg cc RX4 nL) (hd : decode cc pc = .ok (.getfield 7, 3)) (kk : J cx gg Q σ (pc + 3) lv (.ref (zr gg 23) :: st)) : J cx gg Q σ pc lv (.ref (zM gg) :: st) :=
  J_getg hc (i := 44) rfl (by decide) rfl (ci := 4) rfl zinX4 0 (by decide) (zmem 449 (by decide +kernel) (by decide +kernel)) rfl hd kk
theorem gX4_13 (hc : zOK cx gg cc RX4 nL) (hd : decode cc pc = .ok (.getfield 13, 3)) (kk : J cx gg Q σ (pc + 3) lv (.ref (zr gg 24) :: st)) : J cx gg Q σ pc lv (.ref (zM gg) :: st) :=
  J_getg hc (i := 44) rfl (by decide) rfl (ci := 4) rfl zinX4 1 (by decide) (zmem 450 (by decide +kernel) (by decide +kernel)) rfl hd kk
theorem gX4_16 (hc : zOK cx gg cc RX4 nL) (hd : decode cc pc = .ok (.getfield 16, 3)) (kk : J cx gg Q σ (pc + 3) lv (.ref (zr gg 25) :: st)) : J cx gg Q σ pc lv (.ref (zM gg) :: st) :=
  J_getg hc (i := 44) rfl (by decide) rfl (ci := 4) rfl zinX4 2 (by decide) (zmem 451 (by decide +kernel) (by decide +kernel)) rfl hd kk
theorem gX4_19 (hc : zOK cx gg cc RX4 nL) (hd : decode cc pc = .ok (.getfield 19, 3)) (kk : J cx gg Q σ (pc + 3) lv (.ref (zr gg 26) :: st)) : J cx gg Q σ pc lv (.ref (zM gg) :: st) :=
  J_getg hc (i := 44) rfl (by decide) rfl (ci := 4) rfl zinX4 3 (by decide) (zmem 452 (by decide +kernel) (by decide +kernel)) rfl hd kk
theorem gX4_142 (hc : zOK cx gg cc RX4 nL) (hd : decode cc pc = .ok (.getfield 142, 3)) (kk : J cx gg Q σ (pc + 3) lv (.int (si σ 11) :: st)) : J cx gg Q σ pc lv (.ref (zM gg) :: st) :=
  J_getg hc (i := 44) rfl (by decide) rfl (ci := 4) rfl zinX4 4 (by decide) (zmem 453 (by decide +kernel) (by decide +kernel)) rfl hd kk
theorem pX4_142 (hc : zOK cx gg cc RX4 nL) {v : Int32} (hd : decode cc pc = .ok (.putfield 142, 3)) (kk : J cx gg Q (ui σ 11 v) (pc + 3) lv st) : J cx gg Q σ pc lv (.int v :: .ref (zM gg) :: st) :=
  J_putg hc (ty := .int) (i := 44) rfl (by decide) rfl (ci := 4) rfl zinX4 tyX4 tyX4_ok nmX4 4 (by decide) (zmem 453 (by decide +kernel) (by decide +kernel)) rfl (by decide +kernel) rfl rfl (by simp) rfl (fun j hj h => zE_ui gg σ v (by omega) hj (by unfold zoi; first | rw [if_pos hk]; exact h | exact h)) hd kk
theorem gX4_22 (hc : zOK cx gg cc RX4 nL) (hd : decode cc pc = .ok (.getfield 22, 3)) (kk : J cx gg Q σ (pc + 3) lv (.ref (zr gg 27) :: st)) : J cx gg Q σ pc lv (.ref (zM gg) :: st) :=
  J_getg hc (i := 44) rfl (by decide) rfl (ci := 4) rfl zinX4 5 (by decide) (zmem 454 (by decide +kernel) (by decide +kernel)) rfl hd kk
theorem gX4_64 (hc : zOK cx gg cc RX4 nL) (hd : decode cc pc = .ok (.getfield 64, 3)) (kk : J cx gg Q σ (pc + 3) lv (.int (si σ 12) :: st)) : J cx gg Q σ pc lv (.ref (zM gg) :: st) :=
  J_getg hc (i := 44) rfl (by decide) rfl (ci := 4) rfl zinX4 6 (by decide) (zmem 455 (by decide +kernel) (by decide +kernel)) rfl hd kk
theorem pX4_64 (hc : zOK cx gg cc RX4 nL) {v : Int32} (hd : decode cc pc = .ok (.putfield 64, 3)) (kk : J cx gg Q (ui σ 12 v) (pc + 3) lv st) : J cx gg Q σ pc lv (.int v :: .ref (zM gg) :: st) :=
  J_putg hc (ty := .int) (i := 44) rfl (by decide) rfl (ci := 4) rfl zinX4 tyX4 tyX4_ok nmX4 6 (by decide) (zmem 455 (by decide +kernel) (by decide +kernel)) rfl (by decide +kernel) rfl rfl (by simp) rfl (fun j hj h => zE_ui gg σ v (by omega) hj (by unfold zoi; first | rw [if_pos hk]; exact h | exact h)) hd kk
theorem gX4_25 (hc : zOK cx gg cc RX4 nL) (hd : decode cc pc = .ok (.getfield 25, 3)) (kk : J cx gg Q σ (pc + 3) lv (.ref (zm gg 0) :: st)) : J cx gg Q σ pc lv (.ref (zM gg) :: st) :=
  J_getg hc (i := 44) rfl (by decide) rfl (ci := 4) rfl zinX4 7 (by decide) (zmem 456 (by decide +kernel) (by decide +kernel)) rfl hd kk
theorem gX4_29 (hc : zOK cx gg cc RX4 nL) (hd : decode cc pc = .ok (.getfield 29, 3)) (kk : J cx gg Q σ (pc + 3) lv (.ref (zm gg 1) :: st)) : J cx gg Q σ pc lv (.ref (zM gg) :: st) :=
  J_getg hc (i := 44) rfl (by decide) rfl (ci := 4) rfl zinX4 8 (by decide) (zmem 457 (by decide +kernel) (by decide +kernel)) rfl hd kk
theorem gX4_32 (hc : zOK cx gg cc RX4 nL) (hd : decode cc pc = .ok (.getfield 32, 3)) (kk : J cx gg Q σ (pc + 3) lv (.ref (zm gg 2) :: st)) : J cx gg Q σ pc lv (.ref (zM gg) :: st) :=
  J_getg hc (i := 44) rfl (by decide) rfl (ci := 4) rfl zinX4 9 (by decide) (zmem 458 (by decide +kernel) (by decide +kernel)) rfl hd kk
theorem gX4_112 (hc : zOK cx gg cc RX4 nL) (hd : decode cc pc = .ok (.getfield 112, 3)) (kk : J cx gg Q σ (pc + 3) lv (.int (si σ 13) :: st)) : J cx gg Q σ pc lv (.ref (zM gg) :: st) :=
  J_getg hc (i := 44) rfl (by decide) rfl (ci := 4) rfl zinX4 10 (by decide) (zmem 459 (by decide +kernel) (by decide +kernel)) rfl hd kk
theorem pX4_112 (hc : zOK cx gg cc RX4 nL) {v : Int32} (hd : decode cc pc = .ok (.putfield 112, 3)) (kk : J cx gg Q (ui σ 13 v) (pc + 3) lv st) : J cx gg Q σ pc lv (.int v :: .ref (zM gg) :: st) :=
  J_putg hc (ty := .int) (i := 44) rfl (by decide) rfl (ci := 4) rfl zinX4 tyX4 tyX4_ok nmX4 10 (by decide) (zmem 459 (by decide +kernel) (by decide +kernel)) rfl (by decide +kernel) rfl rfl (by simp) rfl (fun j hj h => zE_ui gg σ v (by omega) hj (by unfold zoi; first | rw [if_pos hk]; exact h | exact h)) hd kk
theorem gX4_35 (hc : zOK cx gg cc RX4 nL) (hd : decode cc pc = .ok (.getfield 35, 3)) (kk : J cx gg Q σ (pc + 3) lv (.ref (zr gg 28) :: st)) : J cx gg Q σ pc lv (.ref (zM gg) :: st) :=
  J_getg hc (i := 44) rfl (by decide) rfl (ci := 4) rfl zinX4 11 (by decide) (zmem 460 (by decide +kernel) (by decide +kernel)) rfl hd kk
theorem gX4_38 (hc : zOK cx gg cc RX4 nL) (hd : decode cc pc = .ok (.getfield 38, 3)) (kk : J cx gg Q σ (pc + 3) lv (.ref (zr gg 29) :: st)) : J cx gg Q σ pc lv (.ref (zM gg) :: st) :=
  J_getg hc (i := 44) rfl (by decide) rfl (ci := 4) rfl zinX4 12 (by decide) (zmem 461 (by decide +kernel) (by decide +kernel)) rfl hd kk
theorem kL_13 (hc : zOK cx gg cc RL nL) {f0 l0 : Nat} (hR : zR cx f0 l0) {fr lo : Nat} {a0 a1 : Value} {rest : List Value} {post : Int32 → zS → Prop} (hd : decode cc pc = .ok (.invokevirtual 13, 3)) (hM : zMi cx.1.2.1 gg yX3_pieces cX3_pieces .int 3 fr lo (.ref (zo gg) :: [a0, a1]) σ post) (hr : fr + 1 ≤ f0 ∧ 8 + (3 + 11) + lo ≤ l0) (hs : (rest.map fun v => v.category).sum ≤ 8) (hlen : lv.length = nL) (kk : ∀ (r : Int32) (u : zS), post r u → J cx gg Q u (pc + 3) lv (.int r :: rest)) : J cx gg Q σ pc lv (a1 :: a0 :: .ref (zo gg) :: rest) :=
  J_cVi hc hR (n := 2) (i := 0) (zmem 148 (by decide +kernel) (by decide +kernel)) wiyX3_pieces weyX3_pieces wnX3 wcyX3_pieces (by decide +kernel) rfl (by decide) rfl (ci := 3) rfl rfl hd hM hr rfl rfl hs hlen kk
theorem kL_18 (hc : zOK cx gg cc RL nL) {f0 l0 : Nat} (hR : zR cx f0 l0) {fr lo : Nat} {a0 a1 a2 a3 a4 : Value} {rest : List Value} {post : Int32 → zS → Prop} (hd : decode cc pc = .ok (.invokevirtual 18, 3)) (hM : zMi cx.1.2.1 gg yX3_piece cX3_piece .int 6 fr lo (.ref (zo gg) :: [a0, a1, a2, a3, a4]) σ post) (hr : fr + 1 ≤ f0 ∧ 8 + (6 + 11) + lo ≤ l0) (hs : (rest.map fun v => v.category).sum ≤ 8) (hlen : lv.length = nL) (kk : ∀ (r : Int32) (u : zS), post r u → J cx gg Q u (pc + 3) lv (.int r :: rest)) : J cx gg Q σ pc lv (a4 :: a3 :: a2 :: a1 :: a0 :: .ref (zo gg) :: rest) :=
  J_cVi hc hR (n := 5) (i := 0) (zmem 163 (by decide +kernel) (by decide +kernel)) wiyX3_piece weyX3_piece wnX3 wcyX3_piece (by decide +kernel) rfl (by decide) rfl (ci := 3) rfl rfl hd hM hr rfl rfl hs hlen kk
theorem kL_23 (hc : zOK cx gg cc RL nL) {f0 l0 : Nat} (hR : zR cx f0 l0) {fr lo : Nat} {a0 a1 a2 : Value} {rest : List Value} {post : Int32 → zS → Prop} (hd : decode cc pc = .ok (.invokevirtual 23, 3)) (hM : zMi cx.1.2.1 gg yX3_of cX3_of .int 4 fr lo (.ref (zo gg) :: [a0, a1, a2]) σ post) (hr : fr + 1 ≤ f0 ∧ 8 + (4 + 11) + lo ≤ l0) (hs : (rest.map fun v => v.category).sum ≤ 8) (hlen : lv.length = nL) (kk : ∀ (r : Int32) (u : zS), post r u → J cx gg Q u (pc + 3) lv (.int r :: rest)) : J cx gg Q σ pc lv (a2 :: a1 :: a0 :: .ref (zo gg) :: rest) :=
  J_cVi hc hR (n := 3) (i := 0) (zmem 176 (by decide +kernel) (by decide +kernel)) wiyX3_of weyX3_of wnX3 wcyX3_of (by decide +kernel) rfl (by decide) rfl (ci := 3) rfl rfl hd hM hr rfl rfl hs hlen kk
theorem kL_28 (hc : zOK cx gg cc RL nL) {f0 l0 : Nat} (hR : zR cx f0 l0) {fr lo : Nat} {a0 a1 a2 a3 : Value} {rest : List Value} {post : Int64 → zS → Prop} (hd : decode cc pc = .ok (.invokevirtual 28, 3)) (hM : zMl cx.1.2.1 gg yX3_value cX3_value 11 fr lo (.ref (zo gg) :: [a0, a1, a2, a3]) σ post) (hr : fr + 1 ≤ f0 ∧ 8 + (11 + 11) + lo ≤ l0) (hs : (rest.map fun v => v.category).sum ≤ 8) (hlen : lv.length = nL) (kk : ∀ (r : Int64) (u : zS), post r u → J cx gg Q u (pc + 3) lv (.long r :: rest)) : J cx gg Q σ pc lv (a3 :: a2 :: a1 :: a0 :: .ref (zo gg) :: rest) :=
  J_cVl hc hR (n := 4) (i := 0) (zmem 181 (by decide +kernel) (by decide +kernel)) wiyX3_value weyX3_value wnX3 wcyX3_value (by decide +kernel) rfl (by decide) rfl (ci := 3) rfl rfl hd hM hr rfl rfl hs hlen kk
theorem kL_33 (hc : zOK cx gg cc RL nL) {f0 l0 : Nat} (hR : zR cx f0 l0) {fr lo : Nat} {a0 a1 : Value} {rest : List Value} {post : Int32 → zS → Prop} (hd : decode cc pc = .ok (.invokevirtual 33, 3)) (hM : zMi cx.1.2.1 gg yX3_join cX3_join .int 3 fr lo (.ref (zo gg) :: [a0, a1]) σ post) (hr : fr + 1 ≤ f0 ∧ 8 + (3 + 11) + lo ≤ l0) (hs : (rest.map fun v => v.category).sum ≤ 8) (hlen : lv.length = nL) (kk : ∀ (r : Int32) (u : zS), post r u → J cx gg Q u (pc + 3) lv (.int r :: rest)) : J cx gg Q σ pc lv (a1 :: a0 :: .ref (zo gg) :: rest) :=
  J_cVi hc hR (n := 2) (i := 0) (zmem 204 (by decide +kernel) (by decide +kernel)) wiyX3_join weyX3_join wnX3 wcyX3_join (by decide +kernel) rfl (by decide) rfl (ci := 3) rfl rfl hd hM hr rfl rfl hs hlen kk
theorem kL_37 (hc : zOK cx gg cc RL nL) {f0 l0 : Nat} (hR : zR cx f0 l0) {fr lo : Nat} {a0 a1 : Value} {rest : List Value} {post : Int32 → zS → Prop} (hd : decode cc pc = .ok (.invokevirtual 37, 3)) (hM : zMi cx.1.2.1 gg yX3_has cX3_has .int 5 fr lo (.ref (zo gg) :: [a0, a1]) σ post) (hr : fr + 1 ≤ f0 ∧ 8 + (5 + 11) + lo ≤ l0) (hs : (rest.map fun v => v.category).sum ≤ 8) (hlen : lv.length = nL) (kk : ∀ (r : Int32) (u : zS), post r u → J cx gg Q u (pc + 3) lv (.int r :: rest)) : J cx gg Q σ pc lv (a1 :: a0 :: .ref (zo gg) :: rest) :=
  J_cVi hc hR (n := 2) (i := 0) (zmem 220 (by decide +kernel) (by decide +kernel)) wiyX3_has weyX3_has wnX3 wcyX3_has (by decide +kernel) rfl (by decide) rfl (ci := 3) rfl rfl hd hM hr rfl rfl hs hlen kk
theorem kL_41 (hc : zOK cx gg cc RL nL) {f0 l0 : Nat} (hR : zR cx f0 l0) {fr lo : Nat} {a0 a1 : Value} {rest : List Value} {post : Int32 → zS → Prop} (hd : decode cc pc = .ok (.invokevirtual 41, 3)) (hM : zMi cx.1.2.1 gg yX3_end cX3_end .int 3 fr lo (.ref (zo gg) :: [a0, a1]) σ post) (hr : fr + 1 ≤ f0 ∧ 8 + (3 + 11) + lo ≤ l0) (hs : (rest.map fun v => v.category).sum ≤ 8) (hlen : lv.length = nL) (kk : ∀ (r : Int32) (u : zS), post r u → J cx gg Q u (pc + 3) lv (.int r :: rest)) : J cx gg Q σ pc lv (a1 :: a0 :: .ref (zo gg) :: rest) :=
  J_cVi hc hR (n := 2) (i := 0) (zmem 239 (by decide +kernel) (by decide +kernel)) wiyX3_end weyX3_end wnX3 wcyX3_end (by decide +kernel) rfl (by decide) rfl (ci := 3) rfl rfl hd hM hr rfl rfl hs hlen kk
theorem kL_45 (hc : zOK cx gg cc RL nL) {f0 l0 : Nat} (hR : zR cx f0 l0) {fr lo : Nat} {a0 : Value} {rest : List Value} {post : Int32 → zS → Prop} (hd : decode cc pc = .ok (.invokevirtual 45, 3)) (hM : zMi cx.1.2.1 gg yX3_zeros cX3_zeros .int 2 fr lo (.ref (zo gg) :: [a0]) σ post) (hr : fr + 1 ≤ f0 ∧ 8 + (2 + 11) + lo ≤ l0) (hs : (rest.map fun v => v.category).sum ≤ 8) (hlen : lv.length = nL) (kk : ∀ (r : Int32) (u : zS), post r u → J cx gg Q u (pc + 3) lv (.int r :: rest)) : J cx gg Q σ pc lv (a0 :: .ref (zo gg) :: rest) :=
  J_cVi hc hR (n := 1) (i := 0) (zmem 256 (by decide +kernel) (by decide +kernel)) wiyX3_zeros weyX3_zeros wnX3 wcyX3_zeros (by decide +kernel) rfl (by decide) rfl (ci := 3) rfl rfl hd hM hr rfl rfl hs hlen kk
theorem kL_50 (hc : zOK cx gg cc RL nL) {f0 l0 : Nat} (hR : zR cx f0 l0) {fr lo : Nat} {a0 a1 : Value} {rest : List Value} {post : Int32 → zS → Prop} (hd : decode cc pc = .ok (.invokevirtual 50, 3)) (hM : zMi cx.1.2.1 gg yX3_zero cX3_zero .int 4 fr lo (.ref (zo gg) :: [a0, a1]) σ post) (hr : fr + 1 ≤ f0 ∧ 8 + (4 + 11) + lo ≤ l0) (hs : (rest.map fun v => v.category).sum ≤ 8) (hlen : lv.length = nL) (kk : ∀ (r : Int32) (u : zS), post r u → J cx gg Q u (pc + 3) lv (.int r :: rest)) : J cx gg Q σ pc lv (a1 :: a0 :: .ref (zo gg) :: rest) :=
  J_cVi hc hR (n := 2) (i := 0) (zmem 299 (by decide +kernel) (by decide +kernel)) wiyX3_zero weyX3_zero wnX3 wcyX3_zero (by decide +kernel) rfl (by decide) rfl (ci := 3) rfl rfl hd hM hr rfl rfl hs hlen kk
theorem kL_54 (hc : zOK cx gg cc RL nL) {f0 l0 : Nat} (hR : zR cx f0 l0) {fr lo : Nat} {a0 a1 a2 a3 : Value} {rest : List Value} {post : Int64 → zS → Prop} (hd : decode cc pc = .ok (.invokevirtual 54, 3)) (hM : zMl cx.1.2.1 gg yX3_area cX3_area 9 fr lo (.ref (zo gg) :: [a0, a1, a2, a3]) σ post) (hr : fr + 1 ≤ f0 ∧ 8 + (9 + 11) + lo ≤ l0) (hs : (rest.map fun v => v.category).sum ≤ 8) (hlen : lv.length = nL) (kk : ∀ (r : Int64) (u : zS), post r u → J cx gg Q u (pc + 3) lv (.long r :: rest)) : J cx gg Q σ pc lv (a3 :: a2 :: a1 :: a0 :: .ref (zo gg) :: rest) :=
  J_cVl hc hR (n := 4) (i := 0) (zmem 303 (by decide +kernel) (by decide +kernel)) wiyX3_area weyX3_area wnX3 wcyX3_area (by decide +kernel) rfl (by decide) rfl (ci := 3) rfl rfl hd hM hr rfl rfl hs hlen kk
theorem kL_58 (hc : zOK cx gg cc RL nL) {f0 l0 : Nat} (hR : zR cx f0 l0) {fr lo : Nat} {a0 a1 : Value} {rest : List Value} {post : Int32 → zS → Prop} (hd : decode cc pc = .ok (.invokevirtual 58, 3)) (hM : zMi cx.1.2.1 gg yX3_same cX3_same .int 3 fr lo (.ref (zo gg) :: [a0, a1]) σ post) (hr : fr + 1 ≤ f0 ∧ 8 + (3 + 11) + lo ≤ l0) (hs : (rest.map fun v => v.category).sum ≤ 8) (hlen : lv.length = nL) (kk : ∀ (r : Int32) (u : zS), post r u → J cx gg Q u (pc + 3) lv (.int r :: rest)) : J cx gg Q σ pc lv (a1 :: a0 :: .ref (zo gg) :: rest) :=
  J_cVi hc hR (n := 2) (i := 0) (zmem 310 (by decide +kernel) (by decide +kernel)) wiyX3_same weyX3_same wnX3 wcyX3_same (by decide +kernel) rfl (by decide) rfl (ci := 3) rfl rfl hd hM hr rfl rfl hs hlen kk
theorem kL_62 (hc : zOK cx gg cc RL nL) {f0 l0 : Nat} (hR : zR cx f0 l0) {fr lo : Nat} {a0 a1 : Value} {rest : List Value} {post : Int32 → zS → Prop} (hd : decode cc pc = .ok (.invokevirtual 62, 3)) (hM : zMi cx.1.2.1 gg yX3_meets cX3_meets .int 3 fr lo (.ref (zo gg) :: [a0, a1]) σ post) (hr : fr + 1 ≤ f0 ∧ 8 + (3 + 11) + lo ≤ l0) (hs : (rest.map fun v => v.category).sum ≤ 8) (hlen : lv.length = nL) (kk : ∀ (r : Int32) (u : zS), post r u → J cx gg Q u (pc + 3) lv (.int r :: rest)) : J cx gg Q σ pc lv (a1 :: a0 :: .ref (zo gg) :: rest) :=
  J_cVi hc hR (n := 2) (i := 0) (zmem 318 (by decide +kernel) (by decide +kernel)) wiyX3_meets weyX3_meets wnX3 wcyX3_meets (by decide +kernel) rfl (by decide) rfl (ci := 3) rfl rfl hd hM hr rfl rfl hs hlen kk
theorem kL_66 (hc : zOK cx gg cc RL nL) {f0 l0 : Nat} (hR : zR cx f0 l0) {fr lo : Nat} {a0 a1 a2 a3 a4 : Value} {rest : List Value} {post : Int32 → zS → Prop} (hd : decode cc pc = .ok (.invokevirtual 66, 3)) (hM : zMi cx.1.2.1 gg yX3_mix cX3_mix .int 6 fr lo (.ref (zo gg) :: [a0, a1, a2, a3, a4]) σ post) (hr : fr + 1 ≤ f0 ∧ 8 + (6 + 11) + lo ≤ l0) (hs : (rest.map fun v => v.category).sum ≤ 8) (hlen : lv.length = nL) (kk : ∀ (r : Int32) (u : zS), post r u → J cx gg Q u (pc + 3) lv (.int r :: rest)) : J cx gg Q σ pc lv (a4 :: a3 :: a2 :: a1 :: a0 :: .ref (zo gg) :: rest) :=
  J_cVi hc hR (n := 5) (i := 0) (zmem 327 (by decide +kernel) (by decide +kernel)) wiyX3_mix weyX3_mix wnX3 wcyX3_mix (by decide +kernel) rfl (by decide) rfl (ci := 3) rfl rfl hd hM hr rfl rfl hs hlen kk
theorem kL_70 (hc : zOK cx gg cc RL nL) {f0 l0 : Nat} (hR : zR cx f0 l0) {fr lo : Nat} {a0 a1 : Value} {rest : List Value} {post : Int32 → zS → Prop} (hd : decode cc pc = .ok (.invokevirtual 70, 3)) (hM : zMi cx.1.2.1 gg yX3_refine cX3_refine .int 3 fr lo (.ref (zo gg) :: [a0, a1]) σ post) (hr : fr + 1 ≤ f0 ∧ 8 + (3 + 11) + lo ≤ l0) (hs : (rest.map fun v => v.category).sum ≤ 8) (hlen : lv.length = nL) (kk : ∀ (r : Int32) (u : zS), post r u → J cx gg Q u (pc + 3) lv (.int r :: rest)) : J cx gg Q σ pc lv (a1 :: a0 :: .ref (zo gg) :: rest) :=
  J_cVi hc hR (n := 2) (i := 0) (zmem 345 (by decide +kernel) (by decide +kernel)) wiyX3_refine weyX3_refine wnX3 wcyX3_refine (by decide +kernel) rfl (by decide) rfl (ci := 3) rfl rfl hd hM hr rfl rfl hs hlen kk
theorem kL_74 (hc : zOK cx gg cc RL nL) {f0 l0 : Nat} (hR : zR cx f0 l0) {fr lo : Nat} {a0 a1 : Value} {rest : List Value} {post : Int32 → zS → Prop} (hd : decode cc pc = .ok (.invokevirtual 74, 3)) (hM : zMi cx.1.2.1 gg yX3_slope cX3_slope .int 3 fr lo (.ref (zo gg) :: [a0, a1]) σ post) (hr : fr + 1 ≤ f0 ∧ 8 + (3 + 11) + lo ≤ l0) (hs : (rest.map fun v => v.category).sum ≤ 8) (hlen : lv.length = nL) (kk : ∀ (r : Int32) (u : zS), post r u → J cx gg Q u (pc + 3) lv (.int r :: rest)) : J cx gg Q σ pc lv (a1 :: a0 :: .ref (zo gg) :: rest) :=
  J_cVi hc hR (n := 2) (i := 0) (zmem 353 (by decide +kernel) (by decide +kernel)) wiyX3_slope weyX3_slope wnX3 wcyX3_slope (by decide +kernel) rfl (by decide) rfl (ci := 3) rfl rfl hd hM hr rfl rfl hs hlen kk
theorem kL_78 (hc : zOK cx gg cc RL nL) {f0 l0 : Nat} (hR : zR cx f0 l0) {fr lo : Nat} {a0 a1 : Value} {rest : List Value} {post : Int32 → zS → Prop} (hd : decode cc pc = .ok (.invokevirtual 78, 3)) (hM : zMi cx.1.2.1 gg yX3_push cX3_push .int 3 fr lo (.ref (zo gg) :: [a0, a1]) σ post) (hr : fr + 1 ≤ f0 ∧ 8 + (3 + 11) + lo ≤ l0) (hs : (rest.map fun v => v.category).sum ≤ 8) (hlen : lv.length = nL) (kk : ∀ (r : Int32) (u : zS), post r u → J cx gg Q u (pc + 3) lv (.int r :: rest)) : J cx gg Q σ pc lv (a1 :: a0 :: .ref (zo gg) :: rest) :=
  J_cVi hc hR (n := 2) (i := 0) (zmem 361 (by decide +kernel) (by decide +kernel)) wiyX3_push weyX3_push wnX3 wcyX3_push (by decide +kernel) rfl (by decide) rfl (ci := 3) rfl rfl hd hM hr rfl rfl hs hlen kk
theorem kL_82 (hc : zOK cx gg cc RL nL) {f0 l0 : Nat} (hR : zR cx f0 l0) {fr lo : Nat} {a0 : Value} {rest : List Value} {post : Int32 → zS → Prop} (hd : decode cc pc = .ok (.invokevirtual 82, 3)) (hM : zMi cx.1.2.1 gg yX3_point cX3_point .int 2 fr lo (.ref (zo gg) :: [a0]) σ post) (hr : fr + 1 ≤ f0 ∧ 8 + (2 + 11) + lo ≤ l0) (hs : (rest.map fun v => v.category).sum ≤ 8) (hlen : lv.length = nL) (kk : ∀ (r : Int32) (u : zS), post r u → J cx gg Q u (pc + 3) lv (.int r :: rest)) : J cx gg Q σ pc lv (a0 :: .ref (zo gg) :: rest) :=
  J_cVi hc hR (n := 1) (i := 0) (zmem 369 (by decide +kernel) (by decide +kernel)) wiyX3_point weyX3_point wnX3 wcyX3_point (by decide +kernel) rfl (by decide) rfl (ci := 3) rfl rfl hd hM hr rfl rfl hs hlen kk
theorem kL_86 (hc : zOK cx gg cc RL nL) {f0 l0 : Nat} (hR : zR cx f0 l0) {fr lo : Nat} {rest : List Value} {post : Int32 → zS → Prop} (hd : decode cc pc = .ok (.invokevirtual 86, 3)) (hM : zMi cx.1.2.1 gg yX3_clear cX3_clear .int 2 fr lo (.ref (zo gg) :: []) σ post) (hr : fr + 1 ≤ f0 ∧ 8 + (2 + 11) + lo ≤ l0) (hs : (rest.map fun v => v.category).sum ≤ 8) (hlen : lv.length = nL) (kk : ∀ (r : Int32) (u : zS), post r u → J cx gg Q u (pc + 3) lv (.int r :: rest)) : J cx gg Q σ pc lv (.ref (zo gg) :: rest) :=
  J_cVi hc hR (n := 0) (i := 0) (zmem 373 (by decide +kernel) (by decide +kernel)) wiyX3_clear weyX3_clear wnX3 wcyX3_clear (by decide +kernel) rfl (by decide) rfl (ci := 3) rfl rfl hd hM hr rfl rfl hs hlen kk
theorem kL_91 (hc : zOK cx gg cc RL nL) {f0 l0 : Nat} (hR : zR cx f0 l0) {fr lo : Nat} {a0 a1 : Value} {rest : List Value} {post : Int32 → zS → Prop} (hd : decode cc pc = .ok (.invokevirtual 91, 3)) (hM : zMi cx.1.2.1 gg yX3_slopes cX3_slopes .int 3 fr lo (.ref (zo gg) :: [a0, a1]) σ post) (hr : fr + 1 ≤ f0 ∧ 8 + (3 + 11) + lo ≤ l0) (hs : (rest.map fun v => v.category).sum ≤ 8) (hlen : lv.length = nL) (kk : ∀ (r : Int32) (u : zS), post r u → J cx gg Q u (pc + 3) lv (.int r :: rest)) : J cx gg Q σ pc lv (a1 :: a0 :: .ref (zo gg) :: rest) :=
  J_cVi hc hR (n := 2) (i := 0) (zmem 377 (by decide +kernel) (by decide +kernel)) wiyX3_slopes weyX3_slopes wnX3 wcyX3_slopes (by decide +kernel) rfl (by decide) rfl (ci := 3) rfl rfl hd hM hr rfl rfl hs hlen kk
theorem kL_95 (hc : zOK cx gg cc RL nL) {f0 l0 : Nat} (hR : zR cx f0 l0) {fr lo : Nat} {a0 : Value} {rest : List Value} {post : Int32 → zS → Prop} (hd : decode cc pc = .ok (.invokevirtual 95, 3)) (hM : zMi cx.1.2.1 gg yX3_best cX3_best .int 2 fr lo (.ref (zo gg) :: [a0]) σ post) (hr : fr + 1 ≤ f0 ∧ 8 + (2 + 11) + lo ≤ l0) (hs : (rest.map fun v => v.category).sum ≤ 8) (hlen : lv.length = nL) (kk : ∀ (r : Int32) (u : zS), post r u → J cx gg Q u (pc + 3) lv (.int r :: rest)) : J cx gg Q σ pc lv (a0 :: .ref (zo gg) :: rest) :=
  J_cVi hc hR (n := 1) (i := 0) (zmem 413 (by decide +kernel) (by decide +kernel)) wiyX3_best weyX3_best wnX3 wcyX3_best (by decide +kernel) rfl (by decide) rfl (ci := 3) rfl rfl hd hM hr rfl rfl hs hlen kk
theorem kL_99 (hc : zOK cx gg cc RL nL) {f0 l0 : Nat} (hR : zR cx f0 l0) {fr lo : Nat} {a0 : Value} {rest : List Value} {post : Int64 → zS → Prop} (hd : decode cc pc = .ok (.invokevirtual 99, 3)) (hM : zMl cx.1.2.1 gg yX3_bend cX3_bend 5 fr lo (.ref (zo gg) :: [a0]) σ post) (hr : fr + 1 ≤ f0 ∧ 8 + (5 + 11) + lo ≤ l0) (hs : (rest.map fun v => v.category).sum ≤ 8) (hlen : lv.length = nL) (kk : ∀ (r : Int64) (u : zS), post r u → J cx gg Q u (pc + 3) lv (.long r :: rest)) : J cx gg Q σ pc lv (a0 :: .ref (zo gg) :: rest) :=
  J_cVl hc hR (n := 1) (i := 0) (zmem 425 (by decide +kernel) (by decide +kernel)) wiyX3_bend weyX3_bend wnX3 wcyX3_bend (by decide +kernel) rfl (by decide) rfl (ci := 3) rfl rfl hd hM hr rfl rfl hs hlen kk
theorem kL_104 (hc : zOK cx gg cc RL nL) {f0 l0 : Nat} (hR : zR cx f0 l0) {fr lo : Nat} {a0 a1 : Value} {rest : List Value} {post : Int32 → zS → Prop} (hd : decode cc pc = .ok (.invokevirtual 104, 3)) (hM : zMi cx.1.2.1 gg yX3_spline cX3_spline .int 3 fr lo (.ref (zo gg) :: [a0, a1]) σ post) (hr : fr + 1 ≤ f0 ∧ 8 + (3 + 11) + lo ≤ l0) (hs : (rest.map fun v => v.category).sum ≤ 8) (hlen : lv.length = nL) (kk : ∀ (r : Int32) (u : zS), post r u → J cx gg Q u (pc + 3) lv (.int r :: rest)) : J cx gg Q σ pc lv (a1 :: a0 :: .ref (zo gg) :: rest) :=
  J_cVi hc hR (n := 2) (i := 0) (zmem 431 (by decide +kernel) (by decide +kernel)) wiyX3_spline weyX3_spline wnX3 wcyX3_spline (by decide +kernel) rfl (by decide) rfl (ci := 3) rfl rfl hd hM hr rfl rfl hs hlen kk
theorem kL_108 (hc : zOK cx gg cc RL nL) {f0 l0 : Nat} (hR : zR cx f0 l0) {fr lo : Nat} {a0 a1 : Value} {rest : List Value} {post : Int32 → zS → Prop} (hd : decode cc pc = .ok (.invokevirtual 108, 3)) (hM : zMi cx.1.2.1 gg yX3_count cX3_count .int 3 fr lo (.ref (zo gg) :: [a0, a1]) σ post) (hr : fr + 1 ≤ f0 ∧ 8 + (3 + 11) + lo ≤ l0) (hs : (rest.map fun v => v.category).sum ≤ 8) (hlen : lv.length = nL) (kk : ∀ (r : Int32) (u : zS), post r u → J cx gg Q u (pc + 3) lv (.int r :: rest)) : J cx gg Q σ pc lv (a1 :: a0 :: .ref (zo gg) :: rest) :=
  J_cVi hc hR (n := 2) (i := 0) (zmem 435 (by decide +kernel) (by decide +kernel)) wiyX3_count weyX3_count wnX3 wcyX3_count (by decide +kernel) rfl (by decide) rfl (ci := 3) rfl rfl hd hM hr rfl rfl hs hlen kk
theorem wnX4 : Cond.initialized RX4 ∈ zT := (zmem 51 (by decide +kernel) (by decide +kernel))
theorem wcyX4_pieces : Cond.code yX4_pieces cX4_pieces 4 (some .int) ∈ zT := (zmem 493 (by decide +kernel) (by decide +kernel))
theorem wiyX4_pieces : Cond.instanceMethod yX4_pieces ∈ zT := (zmem 491 (by decide +kernel) (by decide +kernel))
theorem weyX4_pieces : Cond.selects yX4_pieces.cls yX4_pieces yX4_pieces ∈ zT := (zmem 492 (by decide +kernel) (by decide +kernel))
theorem kL_17 (hc : zOK cx gg cc RL nL) {f0 l0 : Nat} (hR : zR cx f0 l0) {fr lo : Nat} {a0 a1 : Value} {rest : List Value} {post : Int32 → zS → Prop} (hd : decode cc pc = .ok (.invokevirtual 17, 3)) (hM : zMi cx.1.2.1 gg yX4_pieces cX4_pieces .int 4 fr lo (.ref (zM gg) :: [a0, a1]) σ post) (hr : fr + 1 ≤ f0 ∧ 8 + (4 + 11) + lo ≤ l0) (hs : (rest.map fun v => v.category).sum ≤ 8) (hlen : lv.length = nL) (kk : ∀ (r : Int32) (u : zS), post r u → J cx gg Q u (pc + 3) lv (.int r :: rest)) : J cx gg Q σ pc lv (a1 :: a0 :: .ref (zM gg) :: rest) :=
  J_cVi hc hR (n := 2) (i := 44) (zmem 490 (by decide +kernel) (by decide +kernel)) wiyX4_pieces weyX4_pieces wnX4 wcyX4_pieces (by decide +kernel) rfl (by decide) rfl (ci := 4) rfl rfl hd hM hr rfl rfl hs hlen kk
theorem wcyX4_isPlace : Cond.code yX4_isPlace cX4_isPlace 1 (some .boolean) ∈ zT := (zmem 496 (by decide +kernel) (by decide +kernel))
theorem wtyX4_isPlace : Cond.static yX4_isPlace ∈ zT := (zmem 495 (by decide +kernel) (by decide +kernel))
theorem kX4_51 (hc : zOK cx gg cc RX4 nL) {f0 l0 : Nat} (hR : zR cx f0 l0) {fr lo : Nat} {a0 : Value} {rest : List Value} {post : Int32 → zS → Prop} (hd : decode cc pc = .ok (.invokestatic 51, 3)) (hM : zMi cx.1.2.1 gg yX4_isPlace cX4_isPlace .boolean 1 fr lo [a0] σ post) (hr : fr + 1 ≤ f0 ∧ 8 + (1 + 11) + lo ≤ l0) (hs : (rest.map fun v => v.category).sum ≤ 8) (hlen : lv.length = nL) (kk : ∀ (r : Int32) (u : zS), post r u → J cx gg Q u (pc + 3) lv (.int r :: rest)) : J cx gg Q σ pc lv (a0 :: rest) :=
  J_cSi hc hR (n := 1) (zmem 494 (by decide +kernel) (by decide +kernel)) wtyX4_isPlace wnX4 wcyX4_isPlace (by decide +kernel) hd hM hr rfl rfl hs hlen kk
theorem nX4_41 (hc : zOK cx gg cc RX4 nL) (hd : decode cc pc = .ok (.ldc2_w 41, 3)) (kk : J cx gg Q σ (pc + 3) lv (.long (5) :: st)) : J cx gg Q σ pc lv st := J_ldc2 hc (zmem 497 (by decide +kernel) (by decide +kernel)) hd kk
theorem wcyX4_in : Cond.code yX4_in cX4_in 6 (some .boolean) ∈ zT := (zmem 500 (by decide +kernel) (by decide +kernel))
theorem wtyX4_in : Cond.static yX4_in ∈ zT := (zmem 499 (by decide +kernel) (by decide +kernel))
theorem kX4_43 (hc : zOK cx gg cc RX4 nL) {f0 l0 : Nat} (hR : zR cx f0 l0) {fr lo : Nat} {a0 a1 a2 : Value} {rest : List Value} {post : Int32 → zS → Prop} (hd : decode cc pc = .ok (.invokestatic 43, 3)) (hM : zMi cx.1.2.1 gg yX4_in cX4_in .boolean 6 fr lo [a0, a1, a2] σ post) (hr : fr + 1 ≤ f0 ∧ 8 + (6 + 11) + lo ≤ l0) (hs : (rest.map fun v => v.category).sum ≤ 8) (hlen : lv.length = nL) (kk : ∀ (r : Int32) (u : zS), post r u → J cx gg Q u (pc + 3) lv (.int r :: rest)) : J cx gg Q σ pc lv (a2 :: a1 :: a0 :: rest) :=
  J_cSi hc hR (n := 3) (zmem 498 (by decide +kernel) (by decide +kernel)) wtyX4_in wnX4 wcyX4_in (by decide +kernel) hd hM hr rfl rfl hs hlen kk
theorem nX4_55 (hc : zOK cx gg cc RX4 nL) (hd : decode cc pc = .ok (.ldc2_w 55, 3)) (kk : J cx gg Q σ (pc + 3) lv (.long (16) :: st)) : J cx gg Q σ pc lv st := J_ldc2 hc (zmem 501 (by decide +kernel) (by decide +kernel)) hd kk
theorem wcyX4_piece : Cond.code yX4_piece cX4_piece 6 (some .int) ∈ zT := (zmem 505 (by decide +kernel) (by decide +kernel))
theorem wiyX4_piece : Cond.instanceMethod yX4_piece ∈ zT := (zmem 503 (by decide +kernel) (by decide +kernel))
theorem weyX4_piece : Cond.selects yX4_piece.cls yX4_piece yX4_piece ∈ zT := (zmem 504 (by decide +kernel) (by decide +kernel))
theorem kL_22 (hc : zOK cx gg cc RL nL) {f0 l0 : Nat} (hR : zR cx f0 l0) {fr lo : Nat} {a0 a1 a2 a3 a4 : Value} {rest : List Value} {post : Int32 → zS → Prop} (hd : decode cc pc = .ok (.invokevirtual 22, 3)) (hM : zMi cx.1.2.1 gg yX4_piece cX4_piece .int 6 fr lo (.ref (zM gg) :: [a0, a1, a2, a3, a4]) σ post) (hr : fr + 1 ≤ f0 ∧ 8 + (6 + 11) + lo ≤ l0) (hs : (rest.map fun v => v.category).sum ≤ 8) (hlen : lv.length = nL) (kk : ∀ (r : Int32) (u : zS), post r u → J cx gg Q u (pc + 3) lv (.int r :: rest)) : J cx gg Q σ pc lv (a4 :: a3 :: a2 :: a1 :: a0 :: .ref (zM gg) :: rest) :=
  J_cVi hc hR (n := 5) (i := 44) (zmem 502 (by decide +kernel) (by decide +kernel)) wiyX4_piece weyX4_piece wnX4 wcyX4_piece (by decide +kernel) rfl (by decide) rfl (ci := 4) rfl rfl hd hM hr rfl rfl hs hlen kk
theorem wcyX4_isSmall : Cond.code yX4_isSmall cX4_isSmall 2 (some .boolean) ∈ zT := (zmem 508 (by decide +kernel) (by decide +kernel))
theorem wtyX4_isSmall : Cond.static yX4_isSmall ∈ zT := (zmem 507 (by decide +kernel) (by decide +kernel))
theorem kX4_57 (hc : zOK cx gg cc RX4 nL) {f0 l0 : Nat} (hR : zR cx f0 l0) {fr lo : Nat} {a0 : Value} {rest : List Value} {post : Int32 → zS → Prop} (hd : decode cc pc = .ok (.invokestatic 57, 3)) (hM : zMi cx.1.2.1 gg yX4_isSmall cX4_isSmall .boolean 2 fr lo [a0] σ post) (hr : fr + 1 ≤ f0 ∧ 8 + (2 + 11) + lo ≤ l0) (hs : (rest.map fun v => v.category).sum ≤ 8) (hlen : lv.length = nL) (kk : ∀ (r : Int32) (u : zS), post r u → J cx gg Q u (pc + 3) lv (.int r :: rest)) : J cx gg Q σ pc lv (a0 :: rest) :=
  J_cSi hc hR (n := 1) (zmem 506 (by decide +kernel) (by decide +kernel)) wtyX4_isSmall wnX4 wcyX4_isSmall (by decide +kernel) hd hM hr rfl rfl hs hlen kk
theorem nX4_47 (hc : zOK cx gg cc RX4 nL) (hd : decode cc pc = .ok (.ldc2_w 47, 3)) (kk : J cx gg Q σ (pc + 3) lv (.long (-100000) :: st)) : J cx gg Q σ pc lv st := J_ldc2 hc (zmem 509 (by decide +kernel) (by decide +kernel)) hd kk
theorem nX4_49 (hc : zOK cx gg cc RX4 nL) (hd : decode cc pc = .ok (.ldc2_w 49, 3)) (kk : J cx gg Q σ (pc + 3) lv (.long (100000) :: st)) : J cx gg Q σ pc lv st := J_ldc2 hc (zmem 510 (by decide +kernel) (by decide +kernel)) hd kk
theorem wcyX4_of : Cond.code yX4_of cX4_of 4 (some .int) ∈ zT := (zmem 514 (by decide +kernel) (by decide +kernel))
theorem wiyX4_of : Cond.instanceMethod yX4_of ∈ zT := (zmem 512 (by decide +kernel) (by decide +kernel))
theorem weyX4_of : Cond.selects yX4_of.cls yX4_of yX4_of ∈ zT := (zmem 513 (by decide +kernel) (by decide +kernel))
theorem kL_27 (hc : zOK cx gg cc RL nL) {f0 l0 : Nat} (hR : zR cx f0 l0) {fr lo : Nat} {a0 a1 a2 : Value} {rest : List Value} {post : Int32 → zS → Prop} (hd : decode cc pc = .ok (.invokevirtual 27, 3)) (hM : zMi cx.1.2.1 gg yX4_of cX4_of .int 4 fr lo (.ref (zM gg) :: [a0, a1, a2]) σ post) (hr : fr + 1 ≤ f0 ∧ 8 + (4 + 11) + lo ≤ l0) (hs : (rest.map fun v => v.category).sum ≤ 8) (hlen : lv.length = nL) (kk : ∀ (r : Int32) (u : zS), post r u → J cx gg Q u (pc + 3) lv (.int r :: rest)) : J cx gg Q σ pc lv (a2 :: a1 :: a0 :: .ref (zM gg) :: rest) :=
  J_cVi hc hR (n := 3) (i := 44) (zmem 511 (by decide +kernel) (by decide +kernel)) wiyX4_of weyX4_of wnX4 wcyX4_of (by decide +kernel) rfl (by decide) rfl (ci := 4) rfl rfl hd hM hr rfl rfl hs hlen kk
theorem nX4_61 (hc : zOK cx gg cc RX4 nL) (hd : decode cc pc = .ok (.ldc2_w 61, 3)) (kk : J cx gg Q σ (pc + 3) lv (.long (2) :: st)) : J cx gg Q σ pc lv st := J_ldc2 hc (zmem 515 (by decide +kernel) (by decide +kernel)) hd kk
theorem nX4_63 (hc : zOK cx gg cc RX4 nL) (hd : decode cc pc = .ok (.ldc 63, 2)) (kk : J cx gg Q σ (pc + 2) lv (.int (-2147483648) :: st)) : J cx gg Q σ pc lv st := J_ldc hc (zmem 516 (by decide +kernel) (by decide +kernel)) hd kk
theorem wcyX4_value : Cond.code yX4_value cX4_value 9 (some .long) ∈ zT := (zmem 520 (by decide +kernel) (by decide +kernel))
theorem wiyX4_value : Cond.instanceMethod yX4_value ∈ zT := (zmem 518 (by decide +kernel) (by decide +kernel))
theorem weyX4_value : Cond.selects yX4_value.cls yX4_value yX4_value ∈ zT := (zmem 519 (by decide +kernel) (by decide +kernel))
theorem kL_32 (hc : zOK cx gg cc RL nL) {f0 l0 : Nat} (hR : zR cx f0 l0) {fr lo : Nat} {a0 a1 a2 a3 : Value} {rest : List Value} {post : Int64 → zS → Prop} (hd : decode cc pc = .ok (.invokevirtual 32, 3)) (hM : zMl cx.1.2.1 gg yX4_value cX4_value 9 fr lo (.ref (zM gg) :: [a0, a1, a2, a3]) σ post) (hr : fr + 1 ≤ f0 ∧ 8 + (9 + 11) + lo ≤ l0) (hs : (rest.map fun v => v.category).sum ≤ 8) (hlen : lv.length = nL) (kk : ∀ (r : Int64) (u : zS), post r u → J cx gg Q u (pc + 3) lv (.long r :: rest)) : J cx gg Q σ pc lv (a3 :: a2 :: a1 :: a0 :: .ref (zM gg) :: rest) :=
  J_cVl hc hR (n := 4) (i := 44) (zmem 517 (by decide +kernel) (by decide +kernel)) wiyX4_value weyX4_value wnX4 wcyX4_value (by decide +kernel) rfl (by decide) rfl (ci := 4) rfl rfl hd hM hr rfl rfl hs hlen kk
theorem nX4_72 (hc : zOK cx gg cc RX4 nL) (hd : decode cc pc = .ok (.ldc2_w 72, 3)) (kk : J cx gg Q σ (pc + 3) lv (.long (64) :: st)) : J cx gg Q σ pc lv st := J_ldc2 hc (zmem 521 (by decide +kernel) (by decide +kernel)) hd kk
theorem nX4_74 (hc : zOK cx gg cc RX4 nL) (hd : decode cc pc = .ok (.ldc2_w 74, 3)) (kk : J cx gg Q σ (pc + 3) lv (.long (-9223372036854775808) :: st)) : J cx gg Q σ pc lv st := J_ldc2 hc (zmem 522 (by decide +kernel) (by decide +kernel)) hd kk
theorem wcyX4_told : Cond.code yX4_told cX4_told 7 (some .long) ∈ zT := (zmem 525 (by decide +kernel) (by decide +kernel))
theorem wtyX4_told : Cond.static yX4_told ∈ zT := (zmem 524 (by decide +kernel) (by decide +kernel))
theorem kX4_76 (hc : zOK cx gg cc RX4 nL) {f0 l0 : Nat} (hR : zR cx f0 l0) {fr lo : Nat} {a0 a1 a2 : Value} {rest : List Value} {post : Int64 → zS → Prop} (hd : decode cc pc = .ok (.invokestatic 76, 3)) (hM : zMl cx.1.2.1 gg yX4_told cX4_told 7 fr lo [a0, a1, a2] σ post) (hr : fr + 1 ≤ f0 ∧ 8 + (7 + 11) + lo ≤ l0) (hs : (rest.map fun v => v.category).sum ≤ 8) (hlen : lv.length = nL) (kk : ∀ (r : Int64) (u : zS), post r u → J cx gg Q u (pc + 3) lv (.long r :: rest)) : J cx gg Q σ pc lv (a2 :: a1 :: a0 :: rest) :=
  J_cSl hc hR (n := 3) (zmem 523 (by decide +kernel) (by decide +kernel)) wtyX4_told wnX4 wcyX4_told (by decide +kernel) hd hM hr rfl rfl hs hlen kk
theorem wcyX4_common : Cond.code yX4_common cX4_common 10 (some .long) ∈ zT := (zmem 528 (by decide +kernel) (by decide +kernel))
theorem wtyX4_common : Cond.static yX4_common ∈ zT := (zmem 527 (by decide +kernel) (by decide +kernel))
theorem kX4_68 (hc : zOK cx gg cc RX4 nL) {f0 l0 : Nat} (hR : zR cx f0 l0) {fr lo : Nat} {a0 a1 : Value} {rest : List Value} {post : Int64 → zS → Prop} (hd : decode cc pc = .ok (.invokestatic 68, 3)) (hM : zMl cx.1.2.1 gg yX4_common cX4_common 10 fr lo [a0, a1] σ post) (hr : fr + 1 ≤ f0 ∧ 8 + (10 + 11) + lo ≤ l0) (hs : (rest.map fun v => v.category).sum ≤ 8) (hlen : lv.length = nL) (kk : ∀ (r : Int64) (u : zS), post r u → J cx gg Q u (pc + 3) lv (.long r :: rest)) : J cx gg Q σ pc lv (a1 :: a0 :: rest) :=
  J_cSl hc hR (n := 2) (zmem 526 (by decide +kernel) (by decide +kernel)) wtyX4_common wnX4 wcyX4_common (by decide +kernel) hd hM hr rfl rfl hs hlen kk
theorem wcyX4_join : Cond.code yX4_join cX4_join 3 (some .int) ∈ zT := (zmem 532 (by decide +kernel) (by decide +kernel))
theorem wiyX4_join : Cond.instanceMethod yX4_join ∈ zT := (zmem 530 (by decide +kernel) (by decide +kernel))
theorem weyX4_join : Cond.selects yX4_join.cls yX4_join yX4_join ∈ zT := (zmem 531 (by decide +kernel) (by decide +kernel))
theorem kL_36 (hc : zOK cx gg cc RL nL) {f0 l0 : Nat} (hR : zR cx f0 l0) {fr lo : Nat} {a0 a1 : Value} {rest : List Value} {post : Int32 → zS → Prop} (hd : decode cc pc = .ok (.invokevirtual 36, 3)) (hM : zMi cx.1.2.1 gg yX4_join cX4_join .int 3 fr lo (.ref (zM gg) :: [a0, a1]) σ post) (hr : fr + 1 ≤ f0 ∧ 8 + (3 + 11) + lo ≤ l0) (hs : (rest.map fun v => v.category).sum ≤ 8) (hlen : lv.length = nL) (kk : ∀ (r : Int32) (u : zS), post r u → J cx gg Q u (pc + 3) lv (.int r :: rest)) : J cx gg Q σ pc lv (a1 :: a0 :: .ref (zM gg) :: rest) :=
  J_cVi hc hR (n := 2) (i := 44) (zmem 529 (by decide +kernel) (by decide +kernel)) wiyX4_join weyX4_join wnX4 wcyX4_join (by decide +kernel) rfl (by decide) rfl (ci := 4) rfl rfl hd hM hr rfl rfl hs hlen kk
theorem wcyX4_look : Cond.code yX4_look cX4_look 3 none ∈ zT := (zmem 536 (by decide +kernel) (by decide +kernel))
theorem wiyX4_look : Cond.instanceMethod yX4_look ∈ zT := (zmem 535 (by decide +kernel) (by decide +kernel))
theorem weyX4_look : Cond.selects yX4_look.cls yX4_look yX4_look ∈ zT := (zmem 34 (by decide +kernel) (by decide +kernel))
theorem kX4_80 (hc : zOK cx gg cc RX4 nL) {f0 l0 : Nat} (hR : zR cx f0 l0) {fr lo : Nat} {a0 : Value} {rest : List Value} {post : zS → Prop} (hd : decode cc pc = .ok (.invokevirtual 80, 3)) (hM : zMv cx.1.2.1 gg yX4_look cX4_look 3 fr lo (.ref (zM gg) :: [a0]) σ post) (hr : fr + 1 ≤ f0 ∧ 8 + (3 + 11) + lo ≤ l0) (hs : (rest.map fun v => v.category).sum ≤ 8) (hlen : lv.length = nL) (kk : ∀ u : zS, post u → J cx gg Q u (pc + 3) lv rest) : J cx gg Q σ pc lv (a0 :: .ref (zM gg) :: rest) :=
  J_cVv hc hR (n := 1) (i := 44) (zmem 533 (by decide +kernel) (by decide +kernel)) wiyX4_look weyX4_look wnX4 wcyX4_look (by decide +kernel) rfl (by decide) rfl (ci := 4) rfl rfl hd hM hr rfl rfl hs hlen kk
theorem wcyX4_joinOf : Cond.code yX4_joinOf cX4_joinOf 2 (some .int) ∈ zT := (zmem 540 (by decide +kernel) (by decide +kernel))
theorem wiyX4_joinOf : Cond.instanceMethod yX4_joinOf ∈ zT := (zmem 539 (by decide +kernel) (by decide +kernel))
theorem weyX4_joinOf : Cond.selects yX4_joinOf.cls yX4_joinOf yX4_joinOf ∈ zT := (zmem 35 (by decide +kernel) (by decide +kernel))
theorem kX4_84 (hc : zOK cx gg cc RX4 nL) {f0 l0 : Nat} (hR : zR cx f0 l0) {fr lo : Nat} {a0 : Value} {rest : List Value} {post : Int32 → zS → Prop} (hd : decode cc pc = .ok (.invokevirtual 84, 3)) (hM : zMi cx.1.2.1 gg yX4_joinOf cX4_joinOf .int 2 fr lo (.ref (zM gg) :: [a0]) σ post) (hr : fr + 1 ≤ f0 ∧ 8 + (2 + 11) + lo ≤ l0) (hs : (rest.map fun v => v.category).sum ≤ 8) (hlen : lv.length = nL) (kk : ∀ (r : Int32) (u : zS), post r u → J cx gg Q u (pc + 3) lv (.int r :: rest)) : J cx gg Q σ pc lv (a0 :: .ref (zM gg) :: rest) :=
  J_cVi hc hR (n := 1) (i := 44) (zmem 537 (by decide +kernel) (by decide +kernel)) wiyX4_joinOf weyX4_joinOf wnX4 wcyX4_joinOf (by decide +kernel) rfl (by decide) rfl (ci := 4) rfl rfl hd hM hr rfl rfl hs hlen kk
theorem wcyX4_has : Cond.code yX4_has cX4_has 3 (some .int) ∈ zT := (zmem 544 (by decide +kernel) (by decide +kernel))
theorem wiyX4_has : Cond.instanceMethod yX4_has ∈ zT := (zmem 542 (by decide +kernel) (by decide +kernel))
theorem weyX4_has : Cond.selects yX4_has.cls yX4_has yX4_has ∈ zT := (zmem 543 (by decide +kernel) (by decide +kernel))
theorem kL_40 (hc : zOK cx gg cc RL nL) {f0 l0 : Nat} (hR : zR cx f0 l0) {fr lo : Nat} {a0 a1 : Value} {rest : List Value} {post : Int32 → zS → Prop} (hd : decode cc pc = .ok (.invokevirtual 40, 3)) (hM : zMi cx.1.2.1 gg yX4_has cX4_has .int 3 fr lo (.ref (zM gg) :: [a0, a1]) σ post) (hr : fr + 1 ≤ f0 ∧ 8 + (3 + 11) + lo ≤ l0) (hs : (rest.map fun v => v.category).sum ≤ 8) (hlen : lv.length = nL) (kk : ∀ (r : Int32) (u : zS), post r u → J cx gg Q u (pc + 3) lv (.int r :: rest)) : J cx gg Q σ pc lv (a1 :: a0 :: .ref (zM gg) :: rest) :=
  J_cVi hc hR (n := 2) (i := 44) (zmem 541 (by decide +kernel) (by decide +kernel)) wiyX4_has weyX4_has wnX4 wcyX4_has (by decide +kernel) rfl (by decide) rfl (ci := 4) rfl rfl hd hM hr rfl rfl hs hlen kk
theorem nX4_90 (hc : zOK cx gg cc RX4 nL) (hd : decode cc pc = .ok (.ldc2_w 90, 3)) (kk : J cx gg Q σ (pc + 3) lv (.long (4) :: st)) : J cx gg Q σ pc lv st := J_ldc2 hc (zmem 545 (by decide +kernel) (by decide +kernel)) hd kk
theorem wcyX4_hasShape : Cond.code yX4_hasShape cX4_hasShape 10 (some .boolean) ∈ zT := (zmem 549 (by decide +kernel) (by decide +kernel))
theorem wiyX4_hasShape : Cond.instanceMethod yX4_hasShape ∈ zT := (zmem 548 (by decide +kernel) (by decide +kernel))
theorem weyX4_hasShape : Cond.selects yX4_hasShape.cls yX4_hasShape yX4_hasShape ∈ zT := (zmem 36 (by decide +kernel) (by decide +kernel))
theorem kX4_92 (hc : zOK cx gg cc RX4 nL) {f0 l0 : Nat} (hR : zR cx f0 l0) {fr lo : Nat} {a0 : Value} {rest : List Value} {post : Int32 → zS → Prop} (hd : decode cc pc = .ok (.invokevirtual 92, 3)) (hM : zMi cx.1.2.1 gg yX4_hasShape cX4_hasShape .boolean 10 fr lo (.ref (zM gg) :: [a0]) σ post) (hr : fr + 1 ≤ f0 ∧ 8 + (10 + 11) + lo ≤ l0) (hs : (rest.map fun v => v.category).sum ≤ 8) (hlen : lv.length = nL) (kk : ∀ (r : Int32) (u : zS), post r u → J cx gg Q u (pc + 3) lv (.int r :: rest)) : J cx gg Q σ pc lv (a0 :: .ref (zM gg) :: rest) :=
  J_cVi hc hR (n := 1) (i := 44) (zmem 546 (by decide +kernel) (by decide +kernel)) wiyX4_hasShape weyX4_hasShape wnX4 wcyX4_hasShape (by decide +kernel) rfl (by decide) rfl (ci := 4) rfl rfl hd hM hr rfl rfl hs hlen kk
theorem nX4_88 (hc : zOK cx gg cc RX4 nL) (hd : decode cc pc = .ok (.ldc2_w 88, 3)) (kk : J cx gg Q σ (pc + 3) lv (.long (-1) :: st)) : J cx gg Q σ pc lv st := J_ldc2 hc (zmem 550 (by decide +kernel) (by decide +kernel)) hd kk
theorem wcyX4_end : Cond.code yX4_end cX4_end 16 (some .int) ∈ zT := (zmem 554 (by decide +kernel) (by decide +kernel))
theorem wiyX4_end : Cond.instanceMethod yX4_end ∈ zT := (zmem 552 (by decide +kernel) (by decide +kernel))
theorem weyX4_end : Cond.selects yX4_end.cls yX4_end yX4_end ∈ zT := (zmem 553 (by decide +kernel) (by decide +kernel))
theorem kL_44 (hc : zOK cx gg cc RL nL) {f0 l0 : Nat} (hR : zR cx f0 l0) {fr lo : Nat} {a0 a1 : Value} {rest : List Value} {post : Int32 → zS → Prop} (hd : decode cc pc = .ok (.invokevirtual 44, 3)) (hM : zMi cx.1.2.1 gg yX4_end cX4_end .int 16 fr lo (.ref (zM gg) :: [a0, a1]) σ post) (hr : fr + 1 ≤ f0 ∧ 8 + (16 + 11) + lo ≤ l0) (hs : (rest.map fun v => v.category).sum ≤ 8) (hlen : lv.length = nL) (kk : ∀ (r : Int32) (u : zS), post r u → J cx gg Q u (pc + 3) lv (.int r :: rest)) : J cx gg Q σ pc lv (a1 :: a0 :: .ref (zM gg) :: rest) :=
  J_cVi hc hR (n := 2) (i := 44) (zmem 551 (by decide +kernel) (by decide +kernel)) wiyX4_end weyX4_end wnX4 wcyX4_end (by decide +kernel) rfl (by decide) rfl (ci := 4) rfl rfl hd hM hr rfl rfl hs hlen kk
theorem nX4_95 (hc : zOK cx gg cc RX4 nL) (hd : decode cc pc = .ok (.ldc2_w 95, 3)) (kk : J cx gg Q σ (pc + 3) lv (.long (-2) :: st)) : J cx gg Q σ pc lv st := J_ldc2 hc (zmem 555 (by decide +kernel) (by decide +kernel)) hd kk
theorem nX4_97 (hc : zOK cx gg cc RX4 nL) (hd : decode cc pc = .ok (.ldc2_w 97, 3)) (kk : J cx gg Q σ (pc + 3) lv (.long (-4) :: st)) : J cx gg Q σ pc lv st := J_ldc2 hc (zmem 556 (by decide +kernel) (by decide +kernel)) hd kk
theorem wcyX4_zeros : Cond.code yX4_zeros cX4_zeros 2 (some .int) ∈ zT := (zmem 560 (by decide +kernel) (by decide +kernel))
theorem wiyX4_zeros : Cond.instanceMethod yX4_zeros ∈ zT := (zmem 558 (by decide +kernel) (by decide +kernel))
theorem weyX4_zeros : Cond.selects yX4_zeros.cls yX4_zeros yX4_zeros ∈ zT := (zmem 559 (by decide +kernel) (by decide +kernel))
theorem kL_49 (hc : zOK cx gg cc RL nL) {f0 l0 : Nat} (hR : zR cx f0 l0) {fr lo : Nat} {a0 : Value} {rest : List Value} {post : Int32 → zS → Prop} (hd : decode cc pc = .ok (.invokevirtual 49, 3)) (hM : zMi cx.1.2.1 gg yX4_zeros cX4_zeros .int 2 fr lo (.ref (zM gg) :: [a0]) σ post) (hr : fr + 1 ≤ f0 ∧ 8 + (2 + 11) + lo ≤ l0) (hs : (rest.map fun v => v.category).sum ≤ 8) (hlen : lv.length = nL) (kk : ∀ (r : Int32) (u : zS), post r u → J cx gg Q u (pc + 3) lv (.int r :: rest)) : J cx gg Q σ pc lv (a0 :: .ref (zM gg) :: rest) :=
  J_cVi hc hR (n := 1) (i := 44) (zmem 557 (by decide +kernel) (by decide +kernel)) wiyX4_zeros weyX4_zeros wnX4 wcyX4_zeros (by decide +kernel) rfl (by decide) rfl (ci := 4) rfl rfl hd hM hr rfl rfl hs hlen kk
theorem wcyX4_findZeros : Cond.code yX4_findZeros cX4_findZeros 5 (some .boolean) ∈ zT := (zmem 564 (by decide +kernel) (by decide +kernel))
theorem wiyX4_findZeros : Cond.instanceMethod yX4_findZeros ∈ zT := (zmem 563 (by decide +kernel) (by decide +kernel))
theorem weyX4_findZeros : Cond.selects yX4_findZeros.cls yX4_findZeros yX4_findZeros ∈ zT := (zmem 37 (by decide +kernel) (by decide +kernel))
theorem kX4_119 (hc : zOK cx gg cc RX4 nL) {f0 l0 : Nat} (hR : zR cx f0 l0) {fr lo : Nat} {rest : List Value} {post : Int32 → zS → Prop} (hd : decode cc pc = .ok (.invokevirtual 119, 3)) (hM : zMi cx.1.2.1 gg yX4_findZeros cX4_findZeros .boolean 5 fr lo (.ref (zM gg) :: []) σ post) (hr : fr + 1 ≤ f0 ∧ 8 + (5 + 11) + lo ≤ l0) (hs : (rest.map fun v => v.category).sum ≤ 8) (hlen : lv.length = nL) (kk : ∀ (r : Int32) (u : zS), post r u → J cx gg Q u (pc + 3) lv (.int r :: rest)) : J cx gg Q σ pc lv (.ref (zM gg) :: rest) :=
  J_cVi hc hR (n := 0) (i := 44) (zmem 561 (by decide +kernel) (by decide +kernel)) wiyX4_findZeros weyX4_findZeros wnX4 wcyX4_findZeros (by decide +kernel) rfl (by decide) rfl (ci := 4) rfl rfl hd hM hr rfl rfl hs hlen kk
theorem wcyX4_at : Cond.code yX4_at cX4_at 3 (some .long) ∈ zT := (zmem 568 (by decide +kernel) (by decide +kernel))
theorem wiyX4_at : Cond.instanceMethod yX4_at ∈ zT := (zmem 567 (by decide +kernel) (by decide +kernel))
theorem weyX4_at : Cond.selects yX4_at.cls yX4_at yX4_at ∈ zT := (zmem 38 (by decide +kernel) (by decide +kernel))
theorem kX4_101 (hc : zOK cx gg cc RX4 nL) {f0 l0 : Nat} (hR : zR cx f0 l0) {fr lo : Nat} {a0 a1 : Value} {rest : List Value} {post : Int64 → zS → Prop} (hd : decode cc pc = .ok (.invokevirtual 101, 3)) (hM : zMl cx.1.2.1 gg yX4_at cX4_at 3 fr lo (.ref (zM gg) :: [a0, a1]) σ post) (hr : fr + 1 ≤ f0 ∧ 8 + (3 + 11) + lo ≤ l0) (hs : (rest.map fun v => v.category).sum ≤ 8) (hlen : lv.length = nL) (kk : ∀ (r : Int64) (u : zS), post r u → J cx gg Q u (pc + 3) lv (.long r :: rest)) : J cx gg Q σ pc lv (a1 :: a0 :: .ref (zM gg) :: rest) :=
  J_cVl hc hR (n := 2) (i := 44) (zmem 565 (by decide +kernel) (by decide +kernel)) wiyX4_at weyX4_at wnX4 wcyX4_at (by decide +kernel) rfl (by decide) rfl (ci := 4) rfl rfl hd hM hr rfl rfl hs hlen kk
theorem nX4_99 (hc : zOK cx gg cc RX4 nL) (hd : decode cc pc = .ok (.ldc2_w 99, 3)) (kk : J cx gg Q σ (pc + 3) lv (.long (4096) :: st)) : J cx gg Q σ pc lv st := J_ldc2 hc (zmem 569 (by decide +kernel) (by decide +kernel)) hd kk
theorem wcyX4_between : Cond.code yX4_between cX4_between 8 (some .int) ∈ zT := (zmem 573 (by decide +kernel) (by decide +kernel))
theorem wiyX4_between : Cond.instanceMethod yX4_between ∈ zT := (zmem 572 (by decide +kernel) (by decide +kernel))
theorem weyX4_between : Cond.selects yX4_between.cls yX4_between yX4_between ∈ zT := (zmem 39 (by decide +kernel) (by decide +kernel))
theorem kX4_115 (hc : zOK cx gg cc RX4 nL) {f0 l0 : Nat} (hR : zR cx f0 l0) {fr lo : Nat} {a0 a1 : Value} {rest : List Value} {post : Int32 → zS → Prop} (hd : decode cc pc = .ok (.invokevirtual 115, 3)) (hM : zMi cx.1.2.1 gg yX4_between cX4_between .int 8 fr lo (.ref (zM gg) :: [a0, a1]) σ post) (hr : fr + 1 ≤ f0 ∧ 8 + (8 + 11) + lo ≤ l0) (hs : (rest.map fun v => v.category).sum ≤ 8) (hlen : lv.length = nL) (kk : ∀ (r : Int32) (u : zS), post r u → J cx gg Q u (pc + 3) lv (.int r :: rest)) : J cx gg Q σ pc lv (a1 :: a0 :: .ref (zM gg) :: rest) :=
  J_cVi hc hR (n := 2) (i := 44) (zmem 570 (by decide +kernel) (by decide +kernel)) wiyX4_between weyX4_between wnX4 wcyX4_between (by decide +kernel) rfl (by decide) rfl (ci := 4) rfl rfl hd hM hr rfl rfl hs hlen kk
theorem wcyX4_sign : Cond.code yX4_sign cX4_sign 2 (some .int) ∈ zT := (zmem 576 (by decide +kernel) (by decide +kernel))
theorem wtyX4_sign : Cond.static yX4_sign ∈ zT := (zmem 575 (by decide +kernel) (by decide +kernel))
theorem kX4_105 (hc : zOK cx gg cc RX4 nL) {f0 l0 : Nat} (hR : zR cx f0 l0) {fr lo : Nat} {a0 : Value} {rest : List Value} {post : Int32 → zS → Prop} (hd : decode cc pc = .ok (.invokestatic 105, 3)) (hM : zMi cx.1.2.1 gg yX4_sign cX4_sign .int 2 fr lo [a0] σ post) (hr : fr + 1 ≤ f0 ∧ 8 + (2 + 11) + lo ≤ l0) (hs : (rest.map fun v => v.category).sum ≤ 8) (hlen : lv.length = nL) (kk : ∀ (r : Int32) (u : zS), post r u → J cx gg Q u (pc + 3) lv (.int r :: rest)) : J cx gg Q σ pc lv (a0 :: rest) :=
  J_cSi hc hR (n := 1) (zmem 574 (by decide +kernel) (by decide +kernel)) wtyX4_sign wnX4 wcyX4_sign (by decide +kernel) hd hM hr rfl rfl hs hlen kk
theorem wcyX4_slopeAt : Cond.code yX4_slopeAt cX4_slopeAt 3 (some .long) ∈ zT := (zmem 580 (by decide +kernel) (by decide +kernel))
theorem wiyX4_slopeAt : Cond.instanceMethod yX4_slopeAt ∈ zT := (zmem 579 (by decide +kernel) (by decide +kernel))
theorem weyX4_slopeAt : Cond.selects yX4_slopeAt.cls yX4_slopeAt yX4_slopeAt ∈ zT := (zmem 40 (by decide +kernel) (by decide +kernel))
theorem kX4_109 (hc : zOK cx gg cc RX4 nL) {f0 l0 : Nat} (hR : zR cx f0 l0) {fr lo : Nat} {a0 a1 : Value} {rest : List Value} {post : Int64 → zS → Prop} (hd : decode cc pc = .ok (.invokevirtual 109, 3)) (hM : zMl cx.1.2.1 gg yX4_slopeAt cX4_slopeAt 3 fr lo (.ref (zM gg) :: [a0, a1]) σ post) (hr : fr + 1 ≤ f0 ∧ 8 + (3 + 11) + lo ≤ l0) (hs : (rest.map fun v => v.category).sum ≤ 8) (hlen : lv.length = nL) (kk : ∀ (r : Int64) (u : zS), post r u → J cx gg Q u (pc + 3) lv (.long r :: rest)) : J cx gg Q σ pc lv (a1 :: a0 :: .ref (zM gg) :: rest) :=
  J_cVl hc hR (n := 2) (i := 44) (zmem 577 (by decide +kernel) (by decide +kernel)) wiyX4_slopeAt weyX4_slopeAt wnX4 wcyX4_slopeAt (by decide +kernel) rfl (by decide) rfl (ci := 4) rfl rfl hd hM hr rfl rfl hs hlen kk
theorem wcyX4_zero : Cond.code yX4_zero cX4_zero 3 (some .int) ∈ zT := (zmem 584 (by decide +kernel) (by decide +kernel))
theorem wiyX4_zero : Cond.instanceMethod yX4_zero ∈ zT := (zmem 582 (by decide +kernel) (by decide +kernel))
theorem weyX4_zero : Cond.selects yX4_zero.cls yX4_zero yX4_zero ∈ zT := (zmem 583 (by decide +kernel) (by decide +kernel))
theorem kL_53 (hc : zOK cx gg cc RL nL) {f0 l0 : Nat} (hR : zR cx f0 l0) {fr lo : Nat} {a0 a1 : Value} {rest : List Value} {post : Int32 → zS → Prop} (hd : decode cc pc = .ok (.invokevirtual 53, 3)) (hM : zMi cx.1.2.1 gg yX4_zero cX4_zero .int 3 fr lo (.ref (zM gg) :: [a0, a1]) σ post) (hr : fr + 1 ≤ f0 ∧ 8 + (3 + 11) + lo ≤ l0) (hs : (rest.map fun v => v.category).sum ≤ 8) (hlen : lv.length = nL) (kk : ∀ (r : Int32) (u : zS), post r u → J cx gg Q u (pc + 3) lv (.int r :: rest)) : J cx gg Q σ pc lv (a1 :: a0 :: .ref (zM gg) :: rest) :=
  J_cVi hc hR (n := 2) (i := 44) (zmem 581 (by decide +kernel) (by decide +kernel)) wiyX4_zero weyX4_zero wnX4 wcyX4_zero (by decide +kernel) rfl (by decide) rfl (ci := 4) rfl rfl hd hM hr rfl rfl hs hlen kk
theorem wcyX4_area : Cond.code yX4_area cX4_area 8 (some .long) ∈ zT := (zmem 588 (by decide +kernel) (by decide +kernel))
theorem wiyX4_area : Cond.instanceMethod yX4_area ∈ zT := (zmem 586 (by decide +kernel) (by decide +kernel))
theorem weyX4_area : Cond.selects yX4_area.cls yX4_area yX4_area ∈ zT := (zmem 587 (by decide +kernel) (by decide +kernel))
theorem kL_57 (hc : zOK cx gg cc RL nL) {f0 l0 : Nat} (hR : zR cx f0 l0) {fr lo : Nat} {a0 a1 a2 a3 : Value} {rest : List Value} {post : Int64 → zS → Prop} (hd : decode cc pc = .ok (.invokevirtual 57, 3)) (hM : zMl cx.1.2.1 gg yX4_area cX4_area 8 fr lo (.ref (zM gg) :: [a0, a1, a2, a3]) σ post) (hr : fr + 1 ≤ f0 ∧ 8 + (8 + 11) + lo ≤ l0) (hs : (rest.map fun v => v.category).sum ≤ 8) (hlen : lv.length = nL) (kk : ∀ (r : Int64) (u : zS), post r u → J cx gg Q u (pc + 3) lv (.long r :: rest)) : J cx gg Q σ pc lv (a3 :: a2 :: a1 :: a0 :: .ref (zM gg) :: rest) :=
  J_cVl hc hR (n := 4) (i := 44) (zmem 585 (by decide +kernel) (by decide +kernel)) wiyX4_area weyX4_area wnX4 wcyX4_area (by decide +kernel) rfl (by decide) rfl (ci := 4) rfl rfl hd hM hr rfl rfl hs hlen kk
theorem nX4_123 (hc : zOK cx gg cc RX4 nL) (hd : decode cc pc = .ok (.ldc2_w 123, 3)) (kk : J cx gg Q σ (pc + 3) lv (.long (6) :: st)) : J cx gg Q σ pc lv st := J_ldc2 hc (zmem 589 (by decide +kernel) (by decide +kernel)) hd kk
theorem nX4_125 (hc : zOK cx gg cc RX4 nL) (hd : decode cc pc = .ok (.ldc2_w 125, 3)) (kk : J cx gg Q σ (pc + 3) lv (.long (3) :: st)) : J cx gg Q σ pc lv st := J_ldc2 hc (zmem 590 (by decide +kernel) (by decide +kernel)) hd kk
theorem wcyX4_same : Cond.code yX4_same cX4_same 5 (some .int) ∈ zT := (zmem 594 (by decide +kernel) (by decide +kernel))
theorem wiyX4_same : Cond.instanceMethod yX4_same ∈ zT := (zmem 592 (by decide +kernel) (by decide +kernel))
theorem weyX4_same : Cond.selects yX4_same.cls yX4_same yX4_same ∈ zT := (zmem 593 (by decide +kernel) (by decide +kernel))
theorem kL_61 (hc : zOK cx gg cc RL nL) {f0 l0 : Nat} (hR : zR cx f0 l0) {fr lo : Nat} {a0 a1 : Value} {rest : List Value} {post : Int32 → zS → Prop} (hd : decode cc pc = .ok (.invokevirtual 61, 3)) (hM : zMi cx.1.2.1 gg yX4_same cX4_same .int 5 fr lo (.ref (zM gg) :: [a0, a1]) σ post) (hr : fr + 1 ≤ f0 ∧ 8 + (5 + 11) + lo ≤ l0) (hs : (rest.map fun v => v.category).sum ≤ 8) (hlen : lv.length = nL) (kk : ∀ (r : Int32) (u : zS), post r u → J cx gg Q u (pc + 3) lv (.int r :: rest)) : J cx gg Q σ pc lv (a1 :: a0 :: .ref (zM gg) :: rest) :=
  J_cVi hc hR (n := 2) (i := 44) (zmem 591 (by decide +kernel) (by decide +kernel)) wiyX4_same weyX4_same wnX4 wcyX4_same (by decide +kernel) rfl (by decide) rfl (ci := 4) rfl rfl hd hM hr rfl rfl hs hlen kk
theorem wcyX4_meets : Cond.code yX4_meets cX4_meets 3 (some .int) ∈ zT := (zmem 598 (by decide +kernel) (by decide +kernel))
theorem wiyX4_meets : Cond.instanceMethod yX4_meets ∈ zT := (zmem 596 (by decide +kernel) (by decide +kernel))
theorem weyX4_meets : Cond.selects yX4_meets.cls yX4_meets yX4_meets ∈ zT := (zmem 597 (by decide +kernel) (by decide +kernel))
theorem kL_65 (hc : zOK cx gg cc RL nL) {f0 l0 : Nat} (hR : zR cx f0 l0) {fr lo : Nat} {a0 a1 : Value} {rest : List Value} {post : Int32 → zS → Prop} (hd : decode cc pc = .ok (.invokevirtual 65, 3)) (hM : zMi cx.1.2.1 gg yX4_meets cX4_meets .int 3 fr lo (.ref (zM gg) :: [a0, a1]) σ post) (hr : fr + 1 ≤ f0 ∧ 8 + (3 + 11) + lo ≤ l0) (hs : (rest.map fun v => v.category).sum ≤ 8) (hlen : lv.length = nL) (kk : ∀ (r : Int32) (u : zS), post r u → J cx gg Q u (pc + 3) lv (.int r :: rest)) : J cx gg Q σ pc lv (a1 :: a0 :: .ref (zM gg) :: rest) :=
  J_cVi hc hR (n := 2) (i := 44) (zmem 595 (by decide +kernel) (by decide +kernel)) wiyX4_meets weyX4_meets wnX4 wcyX4_meets (by decide +kernel) rfl (by decide) rfl (ci := 4) rfl rfl hd hM hr rfl rfl hs hlen kk
theorem wcyX4_make : Cond.code yX4_make cX4_make 8 none ∈ zT := (zmem 602 (by decide +kernel) (by decide +kernel))
theorem wiyX4_make : Cond.instanceMethod yX4_make ∈ zT := (zmem 601 (by decide +kernel) (by decide +kernel))
theorem weyX4_make : Cond.selects yX4_make.cls yX4_make yX4_make ∈ zT := (zmem 41 (by decide +kernel) (by decide +kernel))
theorem kX4_127 (hc : zOK cx gg cc RX4 nL) {f0 l0 : Nat} (hR : zR cx f0 l0) {fr lo : Nat} {a0 a1 a2 a3 : Value} {rest : List Value} {post : zS → Prop} (hd : decode cc pc = .ok (.invokevirtual 127, 3)) (hM : zMv cx.1.2.1 gg yX4_make cX4_make 8 fr lo (.ref (zM gg) :: [a0, a1, a2, a3]) σ post) (hr : fr + 1 ≤ f0 ∧ 8 + (8 + 11) + lo ≤ l0) (hs : (rest.map fun v => v.category).sum ≤ 8) (hlen : lv.length = nL) (kk : ∀ u : zS, post u → J cx gg Q u (pc + 3) lv rest) : J cx gg Q σ pc lv (a3 :: a2 :: a1 :: a0 :: .ref (zM gg) :: rest) :=
  J_cVv hc hR (n := 4) (i := 44) (zmem 599 (by decide +kernel) (by decide +kernel)) wiyX4_make weyX4_make wnX4 wcyX4_make (by decide +kernel) rfl (by decide) rfl (ci := 4) rfl rfl hd hM hr rfl rfl hs hlen kk
theorem wcyX4_mix : Cond.code yX4_mix cX4_mix 6 (some .int) ∈ zT := (zmem 606 (by decide +kernel) (by decide +kernel))
theorem wiyX4_mix : Cond.instanceMethod yX4_mix ∈ zT := (zmem 604 (by decide +kernel) (by decide +kernel))
theorem weyX4_mix : Cond.selects yX4_mix.cls yX4_mix yX4_mix ∈ zT := (zmem 605 (by decide +kernel) (by decide +kernel))
theorem kL_69 (hc : zOK cx gg cc RL nL) {f0 l0 : Nat} (hR : zR cx f0 l0) {fr lo : Nat} {a0 a1 a2 a3 a4 : Value} {rest : List Value} {post : Int32 → zS → Prop} (hd : decode cc pc = .ok (.invokevirtual 69, 3)) (hM : zMi cx.1.2.1 gg yX4_mix cX4_mix .int 6 fr lo (.ref (zM gg) :: [a0, a1, a2, a3, a4]) σ post) (hr : fr + 1 ≤ f0 ∧ 8 + (6 + 11) + lo ≤ l0) (hs : (rest.map fun v => v.category).sum ≤ 8) (hlen : lv.length = nL) (kk : ∀ (r : Int32) (u : zS), post r u → J cx gg Q u (pc + 3) lv (.int r :: rest)) : J cx gg Q σ pc lv (a4 :: a3 :: a2 :: a1 :: a0 :: .ref (zM gg) :: rest) :=
  J_cVi hc hR (n := 5) (i := 44) (zmem 603 (by decide +kernel) (by decide +kernel)) wiyX4_mix weyX4_mix wnX4 wcyX4_mix (by decide +kernel) rfl (by decide) rfl (ci := 4) rfl rfl hd hM hr rfl rfl hs hlen kk
theorem nX4_131 (hc : zOK cx gg cc RX4 nL) (hd : decode cc pc = .ok (.ldc2_w 131, 3)) (kk : J cx gg Q σ (pc + 3) lv (.long (-100) :: st)) : J cx gg Q σ pc lv st := J_ldc2 hc (zmem 607 (by decide +kernel) (by decide +kernel)) hd kk
theorem nX4_133 (hc : zOK cx gg cc RX4 nL) (hd : decode cc pc = .ok (.ldc2_w 133, 3)) (kk : J cx gg Q σ (pc + 3) lv (.long (100) :: st)) : J cx gg Q σ pc lv st := J_ldc2 hc (zmem 608 (by decide +kernel) (by decide +kernel)) hd kk
theorem wcyX4_lay : Cond.code yX4_lay cX4_lay 4 (some .int) ∈ zT := (zmem 612 (by decide +kernel) (by decide +kernel))
theorem wiyX4_lay : Cond.instanceMethod yX4_lay ∈ zT := (zmem 611 (by decide +kernel) (by decide +kernel))
theorem weyX4_lay : Cond.selects yX4_lay.cls yX4_lay yX4_lay ∈ zT := (zmem 42 (by decide +kernel) (by decide +kernel))
theorem kX4_135 (hc : zOK cx gg cc RX4 nL) {f0 l0 : Nat} (hR : zR cx f0 l0) {fr lo : Nat} {a0 : Value} {rest : List Value} {post : Int32 → zS → Prop} (hd : decode cc pc = .ok (.invokevirtual 135, 3)) (hM : zMi cx.1.2.1 gg yX4_lay cX4_lay .int 4 fr lo (.ref (zM gg) :: [a0]) σ post) (hr : fr + 1 ≤ f0 ∧ 8 + (4 + 11) + lo ≤ l0) (hs : (rest.map fun v => v.category).sum ≤ 8) (hlen : lv.length = nL) (kk : ∀ (r : Int32) (u : zS), post r u → J cx gg Q u (pc + 3) lv (.int r :: rest)) : J cx gg Q σ pc lv (a0 :: .ref (zM gg) :: rest) :=
  J_cVi hc hR (n := 1) (i := 44) (zmem 609 (by decide +kernel) (by decide +kernel)) wiyX4_lay weyX4_lay wnX4 wcyX4_lay (by decide +kernel) rfl (by decide) rfl (ci := 4) rfl rfl hd hM hr rfl rfl hs hlen kk
theorem wcyX4_refine : Cond.code yX4_refine cX4_refine 7 (some .int) ∈ zT := (zmem 616 (by decide +kernel) (by decide +kernel))
theorem wiyX4_refine : Cond.instanceMethod yX4_refine ∈ zT := (zmem 614 (by decide +kernel) (by decide +kernel))
theorem weyX4_refine : Cond.selects yX4_refine.cls yX4_refine yX4_refine ∈ zT := (zmem 615 (by decide +kernel) (by decide +kernel))
theorem kL_73 (hc : zOK cx gg cc RL nL) {f0 l0 : Nat} (hR : zR cx f0 l0) {fr lo : Nat} {a0 a1 : Value} {rest : List Value} {post : Int32 → zS → Prop} (hd : decode cc pc = .ok (.invokevirtual 73, 3)) (hM : zMi cx.1.2.1 gg yX4_refine cX4_refine .int 7 fr lo (.ref (zM gg) :: [a0, a1]) σ post) (hr : fr + 1 ≤ f0 ∧ 8 + (7 + 11) + lo ≤ l0) (hs : (rest.map fun v => v.category).sum ≤ 8) (hlen : lv.length = nL) (kk : ∀ (r : Int32) (u : zS), post r u → J cx gg Q u (pc + 3) lv (.int r :: rest)) : J cx gg Q σ pc lv (a1 :: a0 :: .ref (zM gg) :: rest) :=
  J_cVi hc hR (n := 2) (i := 44) (zmem 613 (by decide +kernel) (by decide +kernel)) wiyX4_refine weyX4_refine wnX4 wcyX4_refine (by decide +kernel) rfl (by decide) rfl (ci := 4) rfl rfl hd hM hr rfl rfl hs hlen kk
theorem wcyX4_slope : Cond.code yX4_slope cX4_slope 4 (some .int) ∈ zT := (zmem 620 (by decide +kernel) (by decide +kernel))
theorem wiyX4_slope : Cond.instanceMethod yX4_slope ∈ zT := (zmem 618 (by decide +kernel) (by decide +kernel))
theorem weyX4_slope : Cond.selects yX4_slope.cls yX4_slope yX4_slope ∈ zT := (zmem 619 (by decide +kernel) (by decide +kernel))
theorem kL_77 (hc : zOK cx gg cc RL nL) {f0 l0 : Nat} (hR : zR cx f0 l0) {fr lo : Nat} {a0 a1 : Value} {rest : List Value} {post : Int32 → zS → Prop} (hd : decode cc pc = .ok (.invokevirtual 77, 3)) (hM : zMi cx.1.2.1 gg yX4_slope cX4_slope .int 4 fr lo (.ref (zM gg) :: [a0, a1]) σ post) (hr : fr + 1 ≤ f0 ∧ 8 + (4 + 11) + lo ≤ l0) (hs : (rest.map fun v => v.category).sum ≤ 8) (hlen : lv.length = nL) (kk : ∀ (r : Int32) (u : zS), post r u → J cx gg Q u (pc + 3) lv (.int r :: rest)) : J cx gg Q σ pc lv (a1 :: a0 :: .ref (zM gg) :: rest) :=
  J_cVi hc hR (n := 2) (i := 44) (zmem 617 (by decide +kernel) (by decide +kernel)) wiyX4_slope weyX4_slope wnX4 wcyX4_slope (by decide +kernel) rfl (by decide) rfl (ci := 4) rfl rfl hd hM hr rfl rfl hs hlen kk
theorem wcyX4_push : Cond.code yX4_push cX4_push 4 (some .int) ∈ zT := (zmem 624 (by decide +kernel) (by decide +kernel))
theorem wiyX4_push : Cond.instanceMethod yX4_push ∈ zT := (zmem 622 (by decide +kernel) (by decide +kernel))
theorem weyX4_push : Cond.selects yX4_push.cls yX4_push yX4_push ∈ zT := (zmem 623 (by decide +kernel) (by decide +kernel))
theorem kL_81 (hc : zOK cx gg cc RL nL) {f0 l0 : Nat} (hR : zR cx f0 l0) {fr lo : Nat} {a0 a1 : Value} {rest : List Value} {post : Int32 → zS → Prop} (hd : decode cc pc = .ok (.invokevirtual 81, 3)) (hM : zMi cx.1.2.1 gg yX4_push cX4_push .int 4 fr lo (.ref (zM gg) :: [a0, a1]) σ post) (hr : fr + 1 ≤ f0 ∧ 8 + (4 + 11) + lo ≤ l0) (hs : (rest.map fun v => v.category).sum ≤ 8) (hlen : lv.length = nL) (kk : ∀ (r : Int32) (u : zS), post r u → J cx gg Q u (pc + 3) lv (.int r :: rest)) : J cx gg Q σ pc lv (a1 :: a0 :: .ref (zM gg) :: rest) :=
  J_cVi hc hR (n := 2) (i := 44) (zmem 621 (by decide +kernel) (by decide +kernel)) wiyX4_push weyX4_push wnX4 wcyX4_push (by decide +kernel) rfl (by decide) rfl (ci := 4) rfl rfl hd hM hr rfl rfl hs hlen kk
theorem wcyX4_point : Cond.code yX4_point cX4_point 2 (some .int) ∈ zT := (zmem 628 (by decide +kernel) (by decide +kernel))
theorem wiyX4_point : Cond.instanceMethod yX4_point ∈ zT := (zmem 626 (by decide +kernel) (by decide +kernel))
theorem weyX4_point : Cond.selects yX4_point.cls yX4_point yX4_point ∈ zT := (zmem 627 (by decide +kernel) (by decide +kernel))
theorem kL_85 (hc : zOK cx gg cc RL nL) {f0 l0 : Nat} (hR : zR cx f0 l0) {fr lo : Nat} {a0 : Value} {rest : List Value} {post : Int32 → zS → Prop} (hd : decode cc pc = .ok (.invokevirtual 85, 3)) (hM : zMi cx.1.2.1 gg yX4_point cX4_point .int 2 fr lo (.ref (zM gg) :: [a0]) σ post) (hr : fr + 1 ≤ f0 ∧ 8 + (2 + 11) + lo ≤ l0) (hs : (rest.map fun v => v.category).sum ≤ 8) (hlen : lv.length = nL) (kk : ∀ (r : Int32) (u : zS), post r u → J cx gg Q u (pc + 3) lv (.int r :: rest)) : J cx gg Q σ pc lv (a0 :: .ref (zM gg) :: rest) :=
  J_cVi hc hR (n := 1) (i := 44) (zmem 625 (by decide +kernel) (by decide +kernel)) wiyX4_point weyX4_point wnX4 wcyX4_point (by decide +kernel) rfl (by decide) rfl (ci := 4) rfl rfl hd hM hr rfl rfl hs hlen kk
theorem nX4_138 (hc : zOK cx gg cc RX4 nL) (hd : decode cc pc = .ok (.ldc2_w 138, 3)) (kk : J cx gg Q σ (pc + 3) lv (.long (-1000) :: st)) : J cx gg Q σ pc lv st := J_ldc2 hc (zmem 629 (by decide +kernel) (by decide +kernel)) hd kk
theorem nX4_140 (hc : zOK cx gg cc RX4 nL) (hd : decode cc pc = .ok (.ldc2_w 140, 3)) (kk : J cx gg Q σ (pc + 3) lv (.long (1000) :: st)) : J cx gg Q σ pc lv st := J_ldc2 hc (zmem 630 (by decide +kernel) (by decide +kernel)) hd kk
theorem wcyX4_clear : Cond.code yX4_clear cX4_clear 2 (some .int) ∈ zT := (zmem 634 (by decide +kernel) (by decide +kernel))
theorem wiyX4_clear : Cond.instanceMethod yX4_clear ∈ zT := (zmem 632 (by decide +kernel) (by decide +kernel))
theorem weyX4_clear : Cond.selects yX4_clear.cls yX4_clear yX4_clear ∈ zT := (zmem 633 (by decide +kernel) (by decide +kernel))
theorem kL_90 (hc : zOK cx gg cc RL nL) {f0 l0 : Nat} (hR : zR cx f0 l0) {fr lo : Nat} {rest : List Value} {post : Int32 → zS → Prop} (hd : decode cc pc = .ok (.invokevirtual 90, 3)) (hM : zMi cx.1.2.1 gg yX4_clear cX4_clear .int 2 fr lo (.ref (zM gg) :: []) σ post) (hr : fr + 1 ≤ f0 ∧ 8 + (2 + 11) + lo ≤ l0) (hs : (rest.map fun v => v.category).sum ≤ 8) (hlen : lv.length = nL) (kk : ∀ (r : Int32) (u : zS), post r u → J cx gg Q u (pc + 3) lv (.int r :: rest)) : J cx gg Q σ pc lv (.ref (zM gg) :: rest) :=
  J_cVi hc hR (n := 0) (i := 44) (zmem 631 (by decide +kernel) (by decide +kernel)) wiyX4_clear weyX4_clear wnX4 wcyX4_clear (by decide +kernel) rfl (by decide) rfl (ci := 4) rfl rfl hd hM hr rfl rfl hs hlen kk
theorem wcyX4_slopes : Cond.code yX4_slopes cX4_slopes 7 (some .int) ∈ zT := (zmem 638 (by decide +kernel) (by decide +kernel))
theorem wiyX4_slopes : Cond.instanceMethod yX4_slopes ∈ zT := (zmem 636 (by decide +kernel) (by decide +kernel))
theorem weyX4_slopes : Cond.selects yX4_slopes.cls yX4_slopes yX4_slopes ∈ zT := (zmem 637 (by decide +kernel) (by decide +kernel))
theorem kL_94 (hc : zOK cx gg cc RL nL) {f0 l0 : Nat} (hR : zR cx f0 l0) {fr lo : Nat} {a0 a1 : Value} {rest : List Value} {post : Int32 → zS → Prop} (hd : decode cc pc = .ok (.invokevirtual 94, 3)) (hM : zMi cx.1.2.1 gg yX4_slopes cX4_slopes .int 7 fr lo (.ref (zM gg) :: [a0, a1]) σ post) (hr : fr + 1 ≤ f0 ∧ 8 + (7 + 11) + lo ≤ l0) (hs : (rest.map fun v => v.category).sum ≤ 8) (hlen : lv.length = nL) (kk : ∀ (r : Int32) (u : zS), post r u → J cx gg Q u (pc + 3) lv (.int r :: rest)) : J cx gg Q σ pc lv (a1 :: a0 :: .ref (zM gg) :: rest) :=
  J_cVi hc hR (n := 2) (i := 44) (zmem 635 (by decide +kernel) (by decide +kernel)) wiyX4_slopes weyX4_slopes wnX4 wcyX4_slopes (by decide +kernel) rfl (by decide) rfl (ci := 4) rfl rfl hd hM hr rfl rfl hs hlen kk
theorem wcyX4_isSlope : Cond.code yX4_isSlope cX4_isSlope 3 (some .boolean) ∈ zT := (zmem 642 (by decide +kernel) (by decide +kernel))
theorem wiyX4_isSlope : Cond.instanceMethod yX4_isSlope ∈ zT := (zmem 641 (by decide +kernel) (by decide +kernel))
theorem weyX4_isSlope : Cond.selects yX4_isSlope.cls yX4_isSlope yX4_isSlope ∈ zT := (zmem 43 (by decide +kernel) (by decide +kernel))
theorem kX4_148 (hc : zOK cx gg cc RX4 nL) {f0 l0 : Nat} (hR : zR cx f0 l0) {fr lo : Nat} {a0 a1 : Value} {rest : List Value} {post : Int32 → zS → Prop} (hd : decode cc pc = .ok (.invokevirtual 148, 3)) (hM : zMi cx.1.2.1 gg yX4_isSlope cX4_isSlope .boolean 3 fr lo (.ref (zM gg) :: [a0, a1]) σ post) (hr : fr + 1 ≤ f0 ∧ 8 + (3 + 11) + lo ≤ l0) (hs : (rest.map fun v => v.category).sum ≤ 8) (hlen : lv.length = nL) (kk : ∀ (r : Int32) (u : zS), post r u → J cx gg Q u (pc + 3) lv (.int r :: rest)) : J cx gg Q σ pc lv (a1 :: a0 :: .ref (zM gg) :: rest) :=
  J_cVi hc hR (n := 2) (i := 44) (zmem 639 (by decide +kernel) (by decide +kernel)) wiyX4_isSlope weyX4_isSlope wnX4 wcyX4_isSlope (by decide +kernel) rfl (by decide) rfl (ci := 4) rfl rfl hd hM hr rfl rfl hs hlen kk
theorem wcyX4_makeSpline : Cond.code yX4_makeSpline cX4_makeSpline 4 none ∈ zT := (zmem 646 (by decide +kernel) (by decide +kernel))
theorem wiyX4_makeSpline : Cond.instanceMethod yX4_makeSpline ∈ zT := (zmem 645 (by decide +kernel) (by decide +kernel))
theorem weyX4_makeSpline : Cond.selects yX4_makeSpline.cls yX4_makeSpline yX4_makeSpline ∈ zT := (zmem 44 (by decide +kernel) (by decide +kernel))
theorem kX4_145 (hc : zOK cx gg cc RX4 nL) {f0 l0 : Nat} (hR : zR cx f0 l0) {fr lo : Nat} {a0 : Value} {rest : List Value} {post : zS → Prop} (hd : decode cc pc = .ok (.invokevirtual 145, 3)) (hM : zMv cx.1.2.1 gg yX4_makeSpline cX4_makeSpline 4 fr lo (.ref (zM gg) :: [a0]) σ post) (hr : fr + 1 ≤ f0 ∧ 8 + (4 + 11) + lo ≤ l0) (hs : (rest.map fun v => v.category).sum ≤ 8) (hlen : lv.length = nL) (kk : ∀ u : zS, post u → J cx gg Q u (pc + 3) lv rest) : J cx gg Q σ pc lv (a0 :: .ref (zM gg) :: rest) :=
  J_cVv hc hR (n := 1) (i := 44) (zmem 643 (by decide +kernel) (by decide +kernel)) wiyX4_makeSpline weyX4_makeSpline wnX4 wcyX4_makeSpline (by decide +kernel) rfl (by decide) rfl (ci := 4) rfl rfl hd hM hr rfl rfl hs hlen kk
theorem wcyX4_best : Cond.code yX4_best cX4_best 6 (some .int) ∈ zT := (zmem 650 (by decide +kernel) (by decide +kernel))
theorem wiyX4_best : Cond.instanceMethod yX4_best ∈ zT := (zmem 648 (by decide +kernel) (by decide +kernel))
theorem weyX4_best : Cond.selects yX4_best.cls yX4_best yX4_best ∈ zT := (zmem 649 (by decide +kernel) (by decide +kernel))
theorem kL_98 (hc : zOK cx gg cc RL nL) {f0 l0 : Nat} (hR : zR cx f0 l0) {fr lo : Nat} {a0 : Value} {rest : List Value} {post : Int32 → zS → Prop} (hd : decode cc pc = .ok (.invokevirtual 98, 3)) (hM : zMi cx.1.2.1 gg yX4_best cX4_best .int 6 fr lo (.ref (zM gg) :: [a0]) σ post) (hr : fr + 1 ≤ f0 ∧ 8 + (6 + 11) + lo ≤ l0) (hs : (rest.map fun v => v.category).sum ≤ 8) (hlen : lv.length = nL) (kk : ∀ (r : Int32) (u : zS), post r u → J cx gg Q u (pc + 3) lv (.int r :: rest)) : J cx gg Q σ pc lv (a0 :: .ref (zM gg) :: rest) :=
  J_cVi hc hR (n := 1) (i := 44) (zmem 647 (by decide +kernel) (by decide +kernel)) wiyX4_best weyX4_best wnX4 wcyX4_best (by decide +kernel) rfl (by decide) rfl (ci := 4) rfl rfl hd hM hr rfl rfl hs hlen kk
theorem wcyX4_bendOf : Cond.code yX4_bendOf cX4_bendOf 4 (some .long) ∈ zT := (zmem 654 (by decide +kernel) (by decide +kernel))
theorem wiyX4_bendOf : Cond.instanceMethod yX4_bendOf ∈ zT := (zmem 653 (by decide +kernel) (by decide +kernel))
theorem weyX4_bendOf : Cond.selects yX4_bendOf.cls yX4_bendOf yX4_bendOf ∈ zT := (zmem 45 (by decide +kernel) (by decide +kernel))
theorem kX4_152 (hc : zOK cx gg cc RX4 nL) {f0 l0 : Nat} (hR : zR cx f0 l0) {fr lo : Nat} {rest : List Value} {post : Int64 → zS → Prop} (hd : decode cc pc = .ok (.invokevirtual 152, 3)) (hM : zMl cx.1.2.1 gg yX4_bendOf cX4_bendOf 4 fr lo (.ref (zM gg) :: []) σ post) (hr : fr + 1 ≤ f0 ∧ 8 + (4 + 11) + lo ≤ l0) (hs : (rest.map fun v => v.category).sum ≤ 8) (hlen : lv.length = nL) (kk : ∀ (r : Int64) (u : zS), post r u → J cx gg Q u (pc + 3) lv (.long r :: rest)) : J cx gg Q σ pc lv (.ref (zM gg) :: rest) :=
  J_cVl hc hR (n := 0) (i := 44) (zmem 651 (by decide +kernel) (by decide +kernel)) wiyX4_bendOf weyX4_bendOf wnX4 wcyX4_bendOf (by decide +kernel) rfl (by decide) rfl (ci := 4) rfl rfl hd hM hr rfl rfl hs hlen kk
theorem wcyX4_bend : Cond.code yX4_bend cX4_bend 2 (some .long) ∈ zT := (zmem 658 (by decide +kernel) (by decide +kernel))
theorem wiyX4_bend : Cond.instanceMethod yX4_bend ∈ zT := (zmem 656 (by decide +kernel) (by decide +kernel))
theorem weyX4_bend : Cond.selects yX4_bend.cls yX4_bend yX4_bend ∈ zT := (zmem 657 (by decide +kernel) (by decide +kernel))
theorem kL_103 (hc : zOK cx gg cc RL nL) {f0 l0 : Nat} (hR : zR cx f0 l0) {fr lo : Nat} {a0 : Value} {rest : List Value} {post : Int64 → zS → Prop} (hd : decode cc pc = .ok (.invokevirtual 103, 3)) (hM : zMl cx.1.2.1 gg yX4_bend cX4_bend 2 fr lo (.ref (zM gg) :: [a0]) σ post) (hr : fr + 1 ≤ f0 ∧ 8 + (2 + 11) + lo ≤ l0) (hs : (rest.map fun v => v.category).sum ≤ 8) (hlen : lv.length = nL) (kk : ∀ (r : Int64) (u : zS), post r u → J cx gg Q u (pc + 3) lv (.long r :: rest)) : J cx gg Q σ pc lv (a0 :: .ref (zM gg) :: rest) :=
  J_cVl hc hR (n := 1) (i := 44) (zmem 655 (by decide +kernel) (by decide +kernel)) wiyX4_bend weyX4_bend wnX4 wcyX4_bend (by decide +kernel) rfl (by decide) rfl (ci := 4) rfl rfl hd hM hr rfl rfl hs hlen kk
theorem nX4_156 (hc : zOK cx gg cc RX4 nL) (hd : decode cc pc = .ok (.ldc2_w 156, 3)) (kk : J cx gg Q σ (pc + 3) lv (.long (-3) :: st)) : J cx gg Q σ pc lv st := J_ldc2 hc (zmem 659 (by decide +kernel) (by decide +kernel)) hd kk
theorem wcyX4_spline : Cond.code yX4_spline cX4_spline 3 (some .int) ∈ zT := (zmem 663 (by decide +kernel) (by decide +kernel))
theorem wiyX4_spline : Cond.instanceMethod yX4_spline ∈ zT := (zmem 661 (by decide +kernel) (by decide +kernel))
theorem weyX4_spline : Cond.selects yX4_spline.cls yX4_spline yX4_spline ∈ zT := (zmem 662 (by decide +kernel) (by decide +kernel))
theorem kL_107 (hc : zOK cx gg cc RL nL) {f0 l0 : Nat} (hR : zR cx f0 l0) {fr lo : Nat} {a0 a1 : Value} {rest : List Value} {post : Int32 → zS → Prop} (hd : decode cc pc = .ok (.invokevirtual 107, 3)) (hM : zMi cx.1.2.1 gg yX4_spline cX4_spline .int 3 fr lo (.ref (zM gg) :: [a0, a1]) σ post) (hr : fr + 1 ≤ f0 ∧ 8 + (3 + 11) + lo ≤ l0) (hs : (rest.map fun v => v.category).sum ≤ 8) (hlen : lv.length = nL) (kk : ∀ (r : Int32) (u : zS), post r u → J cx gg Q u (pc + 3) lv (.int r :: rest)) : J cx gg Q σ pc lv (a1 :: a0 :: .ref (zM gg) :: rest) :=
  J_cVi hc hR (n := 2) (i := 44) (zmem 660 (by decide +kernel) (by decide +kernel)) wiyX4_spline weyX4_spline wnX4 wcyX4_spline (by decide +kernel) rfl (by decide) rfl (ci := 4) rfl rfl hd hM hr rfl rfl hs hlen kk
theorem wcyX4_count : Cond.code yX4_count cX4_count 5 (some .int) ∈ zT := (zmem 667 (by decide +kernel) (by decide +kernel))
theorem wiyX4_count : Cond.instanceMethod yX4_count ∈ zT := (zmem 665 (by decide +kernel) (by decide +kernel))
theorem weyX4_count : Cond.selects yX4_count.cls yX4_count yX4_count ∈ zT := (zmem 666 (by decide +kernel) (by decide +kernel))
theorem kL_111 (hc : zOK cx gg cc RL nL) {f0 l0 : Nat} (hR : zR cx f0 l0) {fr lo : Nat} {a0 a1 : Value} {rest : List Value} {post : Int32 → zS → Prop} (hd : decode cc pc = .ok (.invokevirtual 111, 3)) (hM : zMi cx.1.2.1 gg yX4_count cX4_count .int 5 fr lo (.ref (zM gg) :: [a0, a1]) σ post) (hr : fr + 1 ≤ f0 ∧ 8 + (5 + 11) + lo ≤ l0) (hs : (rest.map fun v => v.category).sum ≤ 8) (hlen : lv.length = nL) (kk : ∀ (r : Int32) (u : zS), post r u → J cx gg Q u (pc + 3) lv (.int r :: rest)) : J cx gg Q σ pc lv (a1 :: a0 :: .ref (zM gg) :: rest) :=
  J_cVi hc hR (n := 2) (i := 44) (zmem 664 (by decide +kernel) (by decide +kernel)) wiyX4_count weyX4_count wnX4 wcyX4_count (by decide +kernel) rfl (by decide) rfl (ci := 4) rfl rfl hd hM hr rfl rfl hs hlen kk
end ZK
end
section
/-! numbers -/
theorem zMF_i {l : Launch} {gg : zG} {y : MethodName} {cc : ByteArray} {ret : FieldType} {maxL fr lo : Nat} {as : List Value} {σ : zS} {post : Int32 → zS → Prop} {own : String} {lv : List (Option Value)} (hy : plainFor y = true) (ho : y.cls = own) (hle : (lg_sl as).length ≤ maxL) (hlv : zargs as ++ List.replicate (maxL - (zargs as).length) none = lv)
    (body : ∀ cx : zX, zOK cx gg cc own maxL → zR cx fr lo → zIn cx gg (some ret) → J cx gg (zQi cx gg post) σ 0 lv []) : zMi l gg y cc ret maxL fr lo as σ post := by
  refine va_MetF (cc := cc) (maxL := maxL) (ret := (some ret)) hy rfl ?_
  intro p e s m args below meth c s₁ B hml hv
  obtain ⟨rfl, hK, hP⟩ := hv
  have hts := atoms_spec (ws := Cond.code y cc maxL (some ret) :: zT) B.pre
  rw [lg_entry_eq]
  subst ho
  exact body ((p, l, e, { frames := fr, cells := 0, slots := 0, locals := lo }), (s, m, as.toArray, below), (meth, c, 0, 0), zA gg) ⟨B.exec, B.bytes, hml, findClass_of_methodNamed B.named, fun w hw => hts w (List.mem_cons_of_mem _ hw), hK, fun i hi => ⟨i, hi, rfl⟩, B.notSynchronized⟩ ⟨Nat.le_refl _, Nat.le_refl _, Nat.zero_le _, Nat.zero_le _⟩ ⟨B.returns, rfl⟩ s.heap [] _ hP va_S.rf (zL_entry as hle hlv)
theorem zMF_l {l : Launch} {gg : zG} {y : MethodName} {cc : ByteArray} {maxL fr lo : Nat} {as : List Value} {σ : zS} {post : Int64 → zS → Prop} {own : String} {lv : List (Option Value)} (hy : plainFor y = true) (ho : y.cls = own) (hle : (lg_sl as).length ≤ maxL) (hlv : zargs as ++ List.replicate (maxL - (zargs as).length) none = lv)
    (body : ∀ cx : zX, zOK cx gg cc own maxL → zR cx fr lo → zIn cx gg (some .long) → J cx gg (zQl cx gg post) σ 0 lv []) : zMl l gg y cc maxL fr lo as σ post := by
  refine va_MetF (cc := cc) (maxL := maxL) (ret := (some .long)) hy rfl ?_
  intro p e s m args below meth c s₁ B hml hv
  obtain ⟨rfl, hK, hP⟩ := hv
  have hts := atoms_spec (ws := Cond.code y cc maxL (some .long) :: zT) B.pre
  rw [lg_entry_eq]
  subst ho
  exact body ((p, l, e, { frames := fr, cells := 0, slots := 0, locals := lo }), (s, m, as.toArray, below), (meth, c, 0, 0), zA gg) ⟨B.exec, B.bytes, hml, findClass_of_methodNamed B.named, fun w hw => hts w (List.mem_cons_of_mem _ hw), hK, fun i hi => ⟨i, hi, rfl⟩, B.notSynchronized⟩ ⟨Nat.le_refl _, Nat.le_refl _, Nat.zero_le _, Nat.zero_le _⟩ ⟨B.returns, rfl⟩ s.heap [] _ hP va_S.rf (zL_entry as hle hlv)
theorem z16 (k i : Nat) : 16 * nI k + nI i = nI (16 * k + i) := by
  rw [show (16 : Int32) = nI 16 from rfl, pk_mul, nI_add]
theorem zm1 {i : Nat} (h : 0 < i) : nI i - 1 = nI (i - 1) := by
  rw [show (1 : Int32) = nI 1 from rfl, pk_sub h]
/-- a truth value: 1 just when P -/
def zb (r : Int32) (P : Prop) : Prop := (r = 1 ∧ P) ∨ (r = 0 ∧ ¬ P)
theorem zb_1 {P : Prop} (h : P) : zb 1 P := Or.inl ⟨rfl, h⟩
theorem zb_0 {P : Prop} (h : ¬ P) : zb 0 P := Or.inr ⟨rfl, h⟩
theorem zb.t {r : Int32} {P : Prop} (h : zb r P) (c : ¬ r = 0) : P := h.elim (fun q => q.2) (fun q => absurd q.1 c)
theorem zb.f {r : Int32} {P : Prop} (h : zb r P) (c : r = 0) : ¬ P := h.elim (fun q => absurd (q.1.symm.trans c) (by decide)) (fun q => q.2)
theorem zb.n {r : Int32} {P : Prop} (h : zb r P) : narrow .boolean (.int r) = .int r := h.elim (fun q => by rw [q.1]; exact znb1) (fun q => by rw [q.1]; exact znb0)
theorem zb.eq {r r' : Int32} {P : Prop} (h : zb r P) (h' : zb r' P) : r = r' := by
  rcases h with ⟨rfl, p⟩ | ⟨rfl, p⟩ <;> rcases h' with ⟨rfl, q⟩ | ⟨rfl, q⟩ <;> first | rfl | exact absurd p q | exact absurd q p
theorem zb.iff {r : Int32} {P P' : Prop} (h : zb r P) (e : P ↔ P') : zb r P' := h.elim (fun q => Or.inl ⟨q.1, e.mp q.2⟩) (fun q => Or.inr ⟨q.1, fun z => q.2 (e.mpr z)⟩)
theorem zi_lt {x y : Int32} : x < y ↔ x.toInt < y.toInt := Int32.lt_iff_toInt_lt
theorem zi_le {x y : Int32} : x ≤ y ↔ x.toInt ≤ y.toInt := Int32.le_iff_toInt_le
theorem zi_eq {x y : Int32} : x = y ↔ x.toInt = y.toInt := Int32.toInt_inj.symm
theorem zl_lt {x y : Int64} : x < y ↔ x.toInt < y.toInt := Int64.lt_iff_toInt_lt
theorem zl_le {x y : Int64} : x ≤ y ↔ x.toInt ≤ y.toInt := Int64.le_iff_toInt_le
theorem zl_eq {x y : Int64} : x = y ↔ x.toInt = y.toInt := Int64.toInt_inj.symm
/-- a place -/
def zpl (x : Int32) : Prop := 0 ≤ x.toInt ∧ x.toInt < 6
theorem zof_nat {x : Int32} {n : Nat} (h : 0 ≤ x.toInt) (h2 : x.toInt < n) (hn : n < 2 ^ 31) : ∃ k : Nat, k < n ∧ x = nI k := by
  refine ⟨x.toInt.toNat, by omega, ?_⟩
  rw [zi_eq, nI_toInt (by omega)]
  omega
theorem zpl_nI {x : Int32} (h : zpl x) : ∃ k : Nat, k < 6 ∧ x = nI k := zof_nat (n := 6) h.1 h.2 (by omega)
theorem zpl_k {k : Nat} (h : k < 6) : zpl (nI k) := by unfold zpl; rw [nI_toInt (by omega)]; omega
def zcf (x : Int32) : Prop := -100000 ≤ x.toInt ∧ x.toInt ≤ 100000
def zcfl (x : Int64) : Prop := -100000 ≤ x.toInt ∧ x.toInt ≤ 100000
set_option maxRecDepth 100000 in
set_option maxHeartbeats 4000000 in
theorem c_J9_max_7cf53 {l : Launch} {gg : zG} {σ : zS} {x y : Int32}  : zMi l gg yJ9_max_7cf53 cJ9_max_7cf53 .int 2 0 0 [.int x, .int y] σ (fun r u => r = (if x < y then y else x) ∧ u = σ) := by
  refine zMF_i (own := RJ9) (lv := [some (.int x), some (.int y)]) (by decide +kernel) rfl (Nat.le_of_ble_eq_true rfl) rfl (fun cx hc hR hI => ?_)
  refine J_iloadn_0 (pc := 0) hc dJ9_max_7cf53_0 ?_
  refine J_iloadn_1 (pc := 1) hc dJ9_max_7cf53_1 ?_
  refine J_icmp_lt (pc := 2) hc 9 dJ9_max_7cf53_2 (by decide) (fun bq2 => ?_) (fun bq2 => ?_)
  · skip
    refine J_iloadn_1 (pc := 9) hc dJ9_max_7cf53_9 ?_
    exact J_iret (pc := 10) hc hI dJ9_max_7cf53_10 (by first | exact ⟨(if_pos (by assumption)).symm, rfl⟩ | exact ⟨(if_neg (by assumption)).symm, rfl⟩)
  · skip
    refine J_iloadn_0 (pc := 5) hc dJ9_max_7cf53_5 ?_
    refine J_goto (pc := 6) hc 10 dJ9_max_7cf53_6 (by decide) ?_
    exact J_iret (pc := 10) hc hI dJ9_max_7cf53_10 (by first | exact ⟨(if_pos (by assumption)).symm, rfl⟩ | exact ⟨(if_neg (by assumption)).symm, rfl⟩)
set_option maxRecDepth 100000 in
set_option maxHeartbeats 4000000 in
theorem c_J9_min_7cf53 {l : Launch} {gg : zG} {σ : zS} {x y : Int32}  : zMi l gg yJ9_min_7cf53 cJ9_min_7cf53 .int 2 0 0 [.int x, .int y] σ (fun r u => r = (if y < x then y else x) ∧ u = σ) := by
  refine zMF_i (own := RJ9) (lv := [some (.int x), some (.int y)]) (by decide +kernel) rfl (Nat.le_of_ble_eq_true rfl) rfl (fun cx hc hR hI => ?_)
  refine J_iloadn_0 (pc := 0) hc dJ9_min_7cf53_0 ?_
  refine J_iloadn_1 (pc := 1) hc dJ9_min_7cf53_1 ?_
  refine J_icmp_gt (pc := 2) hc 9 dJ9_min_7cf53_2 (by decide) (fun bq2 => ?_) (fun bq2 => ?_)
  · skip
    refine J_iloadn_1 (pc := 9) hc dJ9_min_7cf53_9 ?_
    exact J_iret (pc := 10) hc hI dJ9_min_7cf53_10 (by first | exact ⟨(if_pos (by assumption)).symm, rfl⟩ | exact ⟨(if_neg (by assumption)).symm, rfl⟩)
  · skip
    refine J_iloadn_0 (pc := 5) hc dJ9_min_7cf53_5 ?_
    refine J_goto (pc := 6) hc 10 dJ9_min_7cf53_6 (by decide) ?_
    exact J_iret (pc := 10) hc hI dJ9_min_7cf53_10 (by first | exact ⟨(if_pos (by assumption)).symm, rfl⟩ | exact ⟨(if_neg (by assumption)).symm, rfl⟩)
set_option maxRecDepth 100000 in
set_option maxHeartbeats 4000000 in
theorem c_J9_max_f86c9 {l : Launch} {gg : zG} {σ : zS} {x y : Int64}  : zMl l gg yJ9_max_f86c9 cJ9_max_f86c9 4 0 0 [.long x, .long y] σ (fun r u => r = (if x < y then y else x) ∧ u = σ) := by
  refine zMF_l (own := RJ9) (lv := [some (.long x), none, some (.long y), none]) (by decide +kernel) rfl (Nat.le_of_ble_eq_true rfl) rfl (fun cx hc hR hI => ?_)
  refine J_lloadn_0 (pc := 0) hc dJ9_max_f86c9_0 ?_
  refine J_lloadn_2 (pc := 1) hc dJ9_max_f86c9_1 ?_
  refine J_lcmp_lt (pc := 2) hc 10 dJ9_max_f86c9_2 dJ9_max_f86c9_3 (by decide) (fun bq2 => ?_) (fun bq2 => ?_)
  · skip
    refine J_lloadn_2 (pc := 10) hc dJ9_max_f86c9_10 ?_
    exact J_lret (pc := 11) hc hI dJ9_max_f86c9_11 (by first | exact ⟨(if_pos (by assumption)).symm, rfl⟩ | exact ⟨(if_neg (by assumption)).symm, rfl⟩)
  · skip
    refine J_lloadn_0 (pc := 6) hc dJ9_max_f86c9_6 ?_
    refine J_goto (pc := 7) hc 11 dJ9_max_f86c9_7 (by decide) ?_
    exact J_lret (pc := 11) hc hI dJ9_max_f86c9_11 (by first | exact ⟨(if_pos (by assumption)).symm, rfl⟩ | exact ⟨(if_neg (by assumption)).symm, rfl⟩)
set_option maxRecDepth 100000 in
set_option maxHeartbeats 4000000 in
theorem c_J9_abs_067f4 {l : Launch} {gg : zG} {σ : zS} {x : Int64}  : zMl l gg yJ9_abs_067f4 cJ9_abs_067f4 2 0 0 [.long x] σ (fun r u => r = (if 0 ≤ x then x else -x) ∧ u = σ) := by
  refine zMF_l (own := RJ9) (lv := [some (.long x), none]) (by decide +kernel) rfl (Nat.le_of_ble_eq_true rfl) rfl (fun cx hc hR hI => ?_)
  refine J_lloadn_0 (pc := 0) hc dJ9_abs_067f4_0 ?_
  refine J_lconst (pc := 1) hc dJ9_abs_067f4_1 (v := 0) (by decide) ?_
  refine J_lcmp_ge (pc := 2) hc 11 dJ9_abs_067f4_2 dJ9_abs_067f4_3 (by decide) (fun bq2 => ?_) (fun bq2 => ?_)
  · skip
    refine J_lloadn_0 (pc := 11) hc dJ9_abs_067f4_11 ?_
    exact J_lret (pc := 12) hc hI dJ9_abs_067f4_12 (by first | exact ⟨(if_pos (by assumption)).symm, rfl⟩ | exact ⟨(if_neg (by assumption)).symm, rfl⟩)
  · skip
    refine J_lloadn_0 (pc := 6) hc dJ9_abs_067f4_6 ?_
    refine J_lneg (pc := 7) hc dJ9_abs_067f4_7 ?_
    refine J_goto (pc := 8) hc 12 dJ9_abs_067f4_8 (by decide) ?_
    exact J_lret (pc := 12) hc hI dJ9_abs_067f4_12 (by first | exact ⟨(if_pos (by assumption)).symm, rfl⟩ | exact ⟨(if_neg (by assumption)).symm, rfl⟩)
set_option maxRecDepth 100000 in
set_option maxHeartbeats 4000000 in
theorem c_J9_floorDiv_7cf53 {l : Launch} {gg : zG} {σ : zS} {x y : Int32} (hy : ¬ y = 0) : zMi l gg yJ9_floorDiv_7cf53 cJ9_floorDiv_7cf53 .int 3 0 0 [.int x, .int y] σ (fun r u => r = (if 0 ≤ x ^^^ y then x / y else if x / y * y = x then x / y else x / y - 1) ∧ u = σ) := by
  refine zMF_i (own := RJ9) (lv := [some (.int x), some (.int y), none]) (by decide +kernel) rfl (Nat.le_of_ble_eq_true rfl) rfl (fun cx hc hR hI => ?_)
  refine J_iloadn_0 (pc := 0) hc dJ9_floorDiv_7cf53_0 ?_
  refine J_iloadn_1 (pc := 1) hc dJ9_floorDiv_7cf53_1 ?_
  refine J_idiv (pc := 2) hc dJ9_floorDiv_7cf53_2 hy ?_
  refine J_istoren_2 (pc := 3) hc dJ9_floorDiv_7cf53_3 rfl ?_
  refine J_iloadn_0 (pc := 4) hc dJ9_floorDiv_7cf53_4 ?_
  refine J_iloadn_1 (pc := 5) hc dJ9_floorDiv_7cf53_5 ?_
  refine J_ixor (pc := 6) hc dJ9_floorDiv_7cf53_6 ?_
  refine J_if_ge (pc := 7) hc 21 dJ9_floorDiv_7cf53_7 (by decide) (fun bq7 => ?_) (fun bq7 => ?_)
  · skip
    refine J_iloadn_2 (pc := 21) hc dJ9_floorDiv_7cf53_21 ?_
    exact J_iret (pc := 22) hc hI dJ9_floorDiv_7cf53_22 (by first | exact ⟨by rw [if_pos bq7], rfl⟩ | exact ⟨by rw [if_neg bq7, if_pos bq14], rfl⟩ | exact ⟨by rw [if_neg bq7, if_neg bq14], rfl⟩)
  · skip
    refine J_iloadn_2 (pc := 10) hc dJ9_floorDiv_7cf53_10 ?_
    refine J_iloadn_1 (pc := 11) hc dJ9_floorDiv_7cf53_11 ?_
    refine J_imul (pc := 12) hc dJ9_floorDiv_7cf53_12 ?_
    refine J_iloadn_0 (pc := 13) hc dJ9_floorDiv_7cf53_13 ?_
    refine J_icmp_eq (pc := 14) hc 21 dJ9_floorDiv_7cf53_14 (by decide) (fun bq14 => ?_) (fun bq14 => ?_)
    · skip
      refine J_iloadn_2 (pc := 21) hc dJ9_floorDiv_7cf53_21 ?_
      exact J_iret (pc := 22) hc hI dJ9_floorDiv_7cf53_22 (by first | exact ⟨by rw [if_pos bq7], rfl⟩ | exact ⟨by rw [if_neg bq7, if_pos bq14], rfl⟩ | exact ⟨by rw [if_neg bq7, if_neg bq14], rfl⟩)
    · skip
      refine J_iloadn_2 (pc := 17) hc dJ9_floorDiv_7cf53_17 ?_
      refine J_iconst (pc := 18) hc dJ9_floorDiv_7cf53_18 (v := 1) (by decide) ?_
      refine J_isub (pc := 19) hc dJ9_floorDiv_7cf53_19 ?_
      exact J_iret (pc := 20) hc hI dJ9_floorDiv_7cf53_20 (by first | exact ⟨by rw [if_pos bq7], rfl⟩ | exact ⟨by rw [if_neg bq7, if_pos bq14], rfl⟩ | exact ⟨by rw [if_neg bq7, if_neg bq14], rfl⟩)
set_option maxRecDepth 100000 in
set_option maxHeartbeats 4000000 in
theorem c_J9_floorDiv_f86c9 {l : Launch} {gg : zG} {σ : zS} {x y : Int64} (hy : ¬ y = 0) : zMl l gg yJ9_floorDiv_f86c9 cJ9_floorDiv_f86c9 6 0 0 [.long x, .long y] σ (fun r u => r = (if 0 ≤ x ^^^ y then x / y else if x / y * y = x then x / y else x / y - 1) ∧ u = σ) := by
  refine zMF_l (own := RJ9) (lv := [some (.long x), none, some (.long y), none, none, none]) (by decide +kernel) rfl (Nat.le_of_ble_eq_true rfl) rfl (fun cx hc hR hI => ?_)
  refine J_lloadn_0 (pc := 0) hc dJ9_floorDiv_f86c9_0 ?_
  refine J_lloadn_2 (pc := 1) hc dJ9_floorDiv_f86c9_1 ?_
  refine J_ldiv (pc := 2) hc dJ9_floorDiv_f86c9_2 hy ?_
  refine J_lstore_4 (pc := 3) hc dJ9_floorDiv_f86c9_3 rfl ?_
  refine J_lloadn_0 (pc := 5) hc dJ9_floorDiv_f86c9_5 ?_
  refine J_lloadn_2 (pc := 6) hc dJ9_floorDiv_f86c9_6 ?_
  refine J_lxor (pc := 7) hc dJ9_floorDiv_f86c9_7 ?_
  refine J_lconst (pc := 8) hc dJ9_floorDiv_f86c9_8 (v := 0) (by decide) ?_
  refine J_lcmp_ge (pc := 9) hc 27 dJ9_floorDiv_f86c9_9 dJ9_floorDiv_f86c9_10 (by decide) (fun bq9 => ?_) (fun bq9 => ?_)
  · skip
    refine J_lload_4 (pc := 27) hc dJ9_floorDiv_f86c9_27 ?_
    exact J_lret (pc := 29) hc hI dJ9_floorDiv_f86c9_29 (by first | exact ⟨by rw [if_pos bq9], rfl⟩ | exact ⟨by rw [if_neg bq9, if_pos bq18], rfl⟩ | exact ⟨by rw [if_neg bq9, if_neg bq18], rfl⟩)
  · skip
    refine J_lload_4 (pc := 13) hc dJ9_floorDiv_f86c9_13 ?_
    refine J_lloadn_2 (pc := 15) hc dJ9_floorDiv_f86c9_15 ?_
    refine J_lmul (pc := 16) hc dJ9_floorDiv_f86c9_16 ?_
    refine J_lloadn_0 (pc := 17) hc dJ9_floorDiv_f86c9_17 ?_
    refine J_lcmp_eq (pc := 18) hc 27 dJ9_floorDiv_f86c9_18 dJ9_floorDiv_f86c9_19 (by decide) (fun bq18 => ?_) (fun bq18 => ?_)
    · skip
      refine J_lload_4 (pc := 27) hc dJ9_floorDiv_f86c9_27 ?_
      exact J_lret (pc := 29) hc hI dJ9_floorDiv_f86c9_29 (by first | exact ⟨by rw [if_pos bq9], rfl⟩ | exact ⟨by rw [if_neg bq9, if_pos bq18], rfl⟩ | exact ⟨by rw [if_neg bq9, if_neg bq18], rfl⟩)
    · skip
      refine J_lload_4 (pc := 22) hc dJ9_floorDiv_f86c9_22 ?_
      refine J_lconst (pc := 24) hc dJ9_floorDiv_f86c9_24 (v := 1) (by decide) ?_
      refine J_lsub (pc := 25) hc dJ9_floorDiv_f86c9_25 ?_
      exact J_lret (pc := 26) hc hI dJ9_floorDiv_f86c9_26 (by first | exact ⟨by rw [if_pos bq9], rfl⟩ | exact ⟨by rw [if_neg bq9, if_pos bq18], rfl⟩ | exact ⟨by rw [if_neg bq9, if_neg bq18], rfl⟩)
set_option maxRecDepth 100000 in
set_option maxHeartbeats 4000000 in
theorem c_X3_isNoPlace {l : Launch} {gg : zG} {σ : zS} {x : Int32}  : zMi l gg yX3_isNoPlace cX3_isNoPlace .boolean 1 0 0 [.int x] σ (fun r u => zb r (¬ zpl x) ∧ u = σ) := by
  refine zM_i (own := RX3) (lv := [some (.int x)]) (by decide +kernel) rfl (Nat.le_of_ble_eq_true rfl) rfl (fun cx hc hR hI => ?_)
  refine J_iloadn_0 (pc := 0) hc dX3_isNoPlace_0 ?_
  refine J_if_lt (pc := 1) hc 10 dX3_isNoPlace_1 (by decide) (fun bq1 => ?_) (fun bq1 => ?_)
  · skip
    refine J_iconst (pc := 10) hc dX3_isNoPlace_10 (v := 1) (by decide) ?_
    refine J_goto (pc := 11) hc 15 dX3_isNoPlace_11 (by decide) ?_
    exact J_zret (pc := 15) hc hI dX3_isNoPlace_15 (by first | exact znb0 | exact znb1 | exact zb.n (by assumption)) ⟨by first | (refine zb_1 ?_; (unfold zpl; (try unfold zpl); (try unfold zcf); (try unfold zcfl); (try simp [zi_lt, zi_le, zi_eq, zl_lt, zl_le, zl_eq] at bq1); (try simp [zi_lt, zi_le, zi_eq, zl_lt, zl_le, zl_eq] at bq7); (try simp [zi_lt, zi_le, zi_eq, zl_lt, zl_le, zl_eq]); omega)) | (refine zb_0 ?_; (unfold zpl; (try unfold zpl); (try unfold zcf); (try unfold zcfl); (try simp [zi_lt, zi_le, zi_eq, zl_lt, zl_le, zl_eq] at bq1); (try simp [zi_lt, zi_le, zi_eq, zl_lt, zl_le, zl_eq] at bq7); (try simp [zi_lt, zi_le, zi_eq, zl_lt, zl_le, zl_eq]); omega)), rfl⟩
  · skip
    refine J_iloadn_0 (pc := 4) hc dX3_isNoPlace_4 ?_
    refine J_bipush (pc := 5) hc dX3_isNoPlace_5 (v := 6) (by decide) ?_
    refine J_icmp_lt (pc := 7) hc 14 dX3_isNoPlace_7 (by decide) (fun bq7 => ?_) (fun bq7 => ?_)
    · skip
      refine J_iconst (pc := 14) hc dX3_isNoPlace_14 (v := 0) (by decide) ?_
      exact J_zret (pc := 15) hc hI dX3_isNoPlace_15 (by first | exact znb0 | exact znb1 | exact zb.n (by assumption)) ⟨by first | (refine zb_1 ?_; (unfold zpl; (try unfold zpl); (try unfold zcf); (try unfold zcfl); (try simp [zi_lt, zi_le, zi_eq, zl_lt, zl_le, zl_eq] at bq1); (try simp [zi_lt, zi_le, zi_eq, zl_lt, zl_le, zl_eq] at bq7); (try simp [zi_lt, zi_le, zi_eq, zl_lt, zl_le, zl_eq]); omega)) | (refine zb_0 ?_; (unfold zpl; (try unfold zpl); (try unfold zcf); (try unfold zcfl); (try simp [zi_lt, zi_le, zi_eq, zl_lt, zl_le, zl_eq] at bq1); (try simp [zi_lt, zi_le, zi_eq, zl_lt, zl_le, zl_eq] at bq7); (try simp [zi_lt, zi_le, zi_eq, zl_lt, zl_le, zl_eq]); omega)), rfl⟩
    · skip
      refine J_iconst (pc := 10) hc dX3_isNoPlace_10 (v := 1) (by decide) ?_
      refine J_goto (pc := 11) hc 15 dX3_isNoPlace_11 (by decide) ?_
      exact J_zret (pc := 15) hc hI dX3_isNoPlace_15 (by first | exact znb0 | exact znb1 | exact zb.n (by assumption)) ⟨by first | (refine zb_1 ?_; (unfold zpl; (try unfold zpl); (try unfold zcf); (try unfold zcfl); (try simp [zi_lt, zi_le, zi_eq, zl_lt, zl_le, zl_eq] at bq1); (try simp [zi_lt, zi_le, zi_eq, zl_lt, zl_le, zl_eq] at bq7); (try simp [zi_lt, zi_le, zi_eq, zl_lt, zl_le, zl_eq]); omega)) | (refine zb_0 ?_; (unfold zpl; (try unfold zpl); (try unfold zcf); (try unfold zcfl); (try simp [zi_lt, zi_le, zi_eq, zl_lt, zl_le, zl_eq] at bq1); (try simp [zi_lt, zi_le, zi_eq, zl_lt, zl_le, zl_eq] at bq7); (try simp [zi_lt, zi_le, zi_eq, zl_lt, zl_le, zl_eq]); omega)), rfl⟩
set_option maxRecDepth 100000 in
set_option maxHeartbeats 4000000 in
theorem c_X3_isNoPart {l : Launch} {gg : zG} {σ : zS} {x : Int32}  : zMi l gg yX3_isNoPart cX3_isNoPart .boolean 1 0 0 [.int x] σ (fun r u => zb r (¬ (x.toInt = 0 ∨ x.toInt = 1)) ∧ u = σ) := by
  refine zM_i (own := RX3) (lv := [some (.int x)]) (by decide +kernel) rfl (Nat.le_of_ble_eq_true rfl) rfl (fun cx hc hR hI => ?_)
  refine J_iloadn_0 (pc := 0) hc dX3_isNoPart_0 ?_
  refine J_if_eq (pc := 1) hc 13 dX3_isNoPart_1 (by decide) (fun bq1 => ?_) (fun bq1 => ?_)
  · skip
    refine J_iconst (pc := 13) hc dX3_isNoPart_13 (v := 0) (by decide) ?_
    exact J_zret (pc := 14) hc hI dX3_isNoPart_14 (by first | exact znb0 | exact znb1 | exact zb.n (by assumption)) ⟨by first | (refine zb_1 ?_; (try unfold zpl); (try unfold zcf); (try unfold zcfl); (try simp [zi_lt, zi_le, zi_eq, zl_lt, zl_le, zl_eq] at bq1); (try simp [zi_lt, zi_le, zi_eq, zl_lt, zl_le, zl_eq] at bq6); (try simp [zi_lt, zi_le, zi_eq, zl_lt, zl_le, zl_eq]); omega) | (refine zb_0 ?_; (try unfold zpl); (try unfold zcf); (try unfold zcfl); (try simp [zi_lt, zi_le, zi_eq, zl_lt, zl_le, zl_eq] at bq1); (try simp [zi_lt, zi_le, zi_eq, zl_lt, zl_le, zl_eq] at bq6); (try simp [zi_lt, zi_le, zi_eq, zl_lt, zl_le, zl_eq]); omega), rfl⟩
  · skip
    refine J_iloadn_0 (pc := 4) hc dX3_isNoPart_4 ?_
    refine J_iconst (pc := 5) hc dX3_isNoPart_5 (v := 1) (by decide) ?_
    refine J_icmp_eq (pc := 6) hc 13 dX3_isNoPart_6 (by decide) (fun bq6 => ?_) (fun bq6 => ?_)
    · skip
      refine J_iconst (pc := 13) hc dX3_isNoPart_13 (v := 0) (by decide) ?_
      exact J_zret (pc := 14) hc hI dX3_isNoPart_14 (by first | exact znb0 | exact znb1 | exact zb.n (by assumption)) ⟨by first | (refine zb_1 ?_; (try unfold zpl); (try unfold zcf); (try unfold zcfl); (try simp [zi_lt, zi_le, zi_eq, zl_lt, zl_le, zl_eq] at bq1); (try simp [zi_lt, zi_le, zi_eq, zl_lt, zl_le, zl_eq] at bq6); (try simp [zi_lt, zi_le, zi_eq, zl_lt, zl_le, zl_eq]); omega) | (refine zb_0 ?_; (try unfold zpl); (try unfold zcf); (try unfold zcfl); (try simp [zi_lt, zi_le, zi_eq, zl_lt, zl_le, zl_eq] at bq1); (try simp [zi_lt, zi_le, zi_eq, zl_lt, zl_le, zl_eq] at bq6); (try simp [zi_lt, zi_le, zi_eq, zl_lt, zl_le, zl_eq]); omega), rfl⟩
    · skip
      refine J_iconst (pc := 9) hc dX3_isNoPart_9 (v := 1) (by decide) ?_
      refine J_goto (pc := 10) hc 14 dX3_isNoPart_10 (by decide) ?_
      exact J_zret (pc := 14) hc hI dX3_isNoPart_14 (by first | exact znb0 | exact znb1 | exact zb.n (by assumption)) ⟨by first | (refine zb_1 ?_; (try unfold zpl); (try unfold zcf); (try unfold zcfl); (try simp [zi_lt, zi_le, zi_eq, zl_lt, zl_le, zl_eq] at bq1); (try simp [zi_lt, zi_le, zi_eq, zl_lt, zl_le, zl_eq] at bq6); (try simp [zi_lt, zi_le, zi_eq, zl_lt, zl_le, zl_eq]); omega) | (refine zb_0 ?_; (try unfold zpl); (try unfold zcf); (try unfold zcfl); (try simp [zi_lt, zi_le, zi_eq, zl_lt, zl_le, zl_eq] at bq1); (try simp [zi_lt, zi_le, zi_eq, zl_lt, zl_le, zl_eq] at bq6); (try simp [zi_lt, zi_le, zi_eq, zl_lt, zl_le, zl_eq]); omega), rfl⟩
set_option maxRecDepth 100000 in
set_option maxHeartbeats 4000000 in
theorem c_X3_isNoShape {l : Launch} {gg : zG} {σ : zS} {x : Int32}  : zMi l gg yX3_isNoShape cX3_isNoShape .boolean 1 0 0 [.int x] σ (fun r u => zb r (¬ (0 ≤ x.toInt ∧ x.toInt ≤ 4)) ∧ u = σ) := by
  refine zM_i (own := RX3) (lv := [some (.int x)]) (by decide +kernel) rfl (Nat.le_of_ble_eq_true rfl) rfl (fun cx hc hR hI => ?_)
  refine J_iloadn_0 (pc := 0) hc dX3_isNoShape_0 ?_
  refine J_if_lt (pc := 1) hc 9 dX3_isNoShape_1 (by decide) (fun bq1 => ?_) (fun bq1 => ?_)
  · skip
    refine J_iconst (pc := 9) hc dX3_isNoShape_9 (v := 1) (by decide) ?_
    refine J_goto (pc := 10) hc 14 dX3_isNoShape_10 (by decide) ?_
    exact J_zret (pc := 14) hc hI dX3_isNoShape_14 (by first | exact znb0 | exact znb1 | exact zb.n (by assumption)) ⟨by first | (refine zb_1 ?_; (try unfold zpl); (try unfold zcf); (try unfold zcfl); (try simp [zi_lt, zi_le, zi_eq, zl_lt, zl_le, zl_eq] at bq1); (try simp [zi_lt, zi_le, zi_eq, zl_lt, zl_le, zl_eq] at bq6); (try simp [zi_lt, zi_le, zi_eq, zl_lt, zl_le, zl_eq]); omega) | (refine zb_0 ?_; (try unfold zpl); (try unfold zcf); (try unfold zcfl); (try simp [zi_lt, zi_le, zi_eq, zl_lt, zl_le, zl_eq] at bq1); (try simp [zi_lt, zi_le, zi_eq, zl_lt, zl_le, zl_eq] at bq6); (try simp [zi_lt, zi_le, zi_eq, zl_lt, zl_le, zl_eq]); omega), rfl⟩
  · skip
    refine J_iloadn_0 (pc := 4) hc dX3_isNoShape_4 ?_
    refine J_iconst (pc := 5) hc dX3_isNoShape_5 (v := 4) (by decide) ?_
    refine J_icmp_le (pc := 6) hc 13 dX3_isNoShape_6 (by decide) (fun bq6 => ?_) (fun bq6 => ?_)
    · skip
      refine J_iconst (pc := 13) hc dX3_isNoShape_13 (v := 0) (by decide) ?_
      exact J_zret (pc := 14) hc hI dX3_isNoShape_14 (by first | exact znb0 | exact znb1 | exact zb.n (by assumption)) ⟨by first | (refine zb_1 ?_; (try unfold zpl); (try unfold zcf); (try unfold zcfl); (try simp [zi_lt, zi_le, zi_eq, zl_lt, zl_le, zl_eq] at bq1); (try simp [zi_lt, zi_le, zi_eq, zl_lt, zl_le, zl_eq] at bq6); (try simp [zi_lt, zi_le, zi_eq, zl_lt, zl_le, zl_eq]); omega) | (refine zb_0 ?_; (try unfold zpl); (try unfold zcf); (try unfold zcfl); (try simp [zi_lt, zi_le, zi_eq, zl_lt, zl_le, zl_eq] at bq1); (try simp [zi_lt, zi_le, zi_eq, zl_lt, zl_le, zl_eq] at bq6); (try simp [zi_lt, zi_le, zi_eq, zl_lt, zl_le, zl_eq]); omega), rfl⟩
    · skip
      refine J_iconst (pc := 9) hc dX3_isNoShape_9 (v := 1) (by decide) ?_
      refine J_goto (pc := 10) hc 14 dX3_isNoShape_10 (by decide) ?_
      exact J_zret (pc := 14) hc hI dX3_isNoShape_14 (by first | exact znb0 | exact znb1 | exact zb.n (by assumption)) ⟨by first | (refine zb_1 ?_; (try unfold zpl); (try unfold zcf); (try unfold zcfl); (try simp [zi_lt, zi_le, zi_eq, zl_lt, zl_le, zl_eq] at bq1); (try simp [zi_lt, zi_le, zi_eq, zl_lt, zl_le, zl_eq] at bq6); (try simp [zi_lt, zi_le, zi_eq, zl_lt, zl_le, zl_eq]); omega) | (refine zb_0 ?_; (try unfold zpl); (try unfold zcf); (try unfold zcfl); (try simp [zi_lt, zi_le, zi_eq, zl_lt, zl_le, zl_eq] at bq1); (try simp [zi_lt, zi_le, zi_eq, zl_lt, zl_le, zl_eq] at bq6); (try simp [zi_lt, zi_le, zi_eq, zl_lt, zl_le, zl_eq]); omega), rfl⟩
set_option maxRecDepth 100000 in
set_option maxHeartbeats 4000000 in
theorem c_X3_isBeyond {l : Launch} {gg : zG} {σ : zS} {x b : Int32}  : zMi l gg yX3_isBeyond cX3_isBeyond .boolean 2 0 0 [.int x, .int b] σ (fun r u => zb r (¬ ((-b).toInt ≤ x.toInt ∧ x.toInt ≤ b.toInt)) ∧ u = σ) := by
  refine zM_i (own := RX3) (lv := [some (.int x), some (.int b)]) (by decide +kernel) rfl (Nat.le_of_ble_eq_true rfl) rfl (fun cx hc hR hI => ?_)
  refine J_iloadn_0 (pc := 0) hc dX3_isBeyond_0 ?_
  refine J_iloadn_1 (pc := 1) hc dX3_isBeyond_1 ?_
  refine J_ineg (pc := 2) hc dX3_isBeyond_2 ?_
  refine J_icmp_lt (pc := 3) hc 11 dX3_isBeyond_3 (by decide) (fun bq3 => ?_) (fun bq3 => ?_)
  · skip
    refine J_iconst (pc := 11) hc dX3_isBeyond_11 (v := 1) (by decide) ?_
    refine J_goto (pc := 12) hc 16 dX3_isBeyond_12 (by decide) ?_
    exact J_zret (pc := 16) hc hI dX3_isBeyond_16 (by first | exact znb0 | exact znb1 | exact zb.n (by assumption)) ⟨by first | (refine zb_1 ?_; rw [zi_lt] at bq3; omega) | (refine zb_1 ?_; rw [zi_lt] at bq3; rw [zi_le] at bq8; omega) | (refine zb_0 ?_; rw [zi_lt] at bq3; rw [zi_le] at bq8; omega), rfl⟩
  · skip
    refine J_iloadn_0 (pc := 6) hc dX3_isBeyond_6 ?_
    refine J_iloadn_1 (pc := 7) hc dX3_isBeyond_7 ?_
    refine J_icmp_le (pc := 8) hc 15 dX3_isBeyond_8 (by decide) (fun bq8 => ?_) (fun bq8 => ?_)
    · skip
      refine J_iconst (pc := 15) hc dX3_isBeyond_15 (v := 0) (by decide) ?_
      exact J_zret (pc := 16) hc hI dX3_isBeyond_16 (by first | exact znb0 | exact znb1 | exact zb.n (by assumption)) ⟨by first | (refine zb_1 ?_; rw [zi_lt] at bq3; omega) | (refine zb_1 ?_; rw [zi_lt] at bq3; rw [zi_le] at bq8; omega) | (refine zb_0 ?_; rw [zi_lt] at bq3; rw [zi_le] at bq8; omega), rfl⟩
    · skip
      refine J_iconst (pc := 11) hc dX3_isBeyond_11 (v := 1) (by decide) ?_
      refine J_goto (pc := 12) hc 16 dX3_isBeyond_12 (by decide) ?_
      exact J_zret (pc := 16) hc hI dX3_isBeyond_16 (by first | exact znb0 | exact znb1 | exact zb.n (by assumption)) ⟨by first | (refine zb_1 ?_; rw [zi_lt] at bq3; omega) | (refine zb_1 ?_; rw [zi_lt] at bq3; rw [zi_le] at bq8; omega) | (refine zb_0 ?_; rw [zi_lt] at bq3; rw [zi_le] at bq8; omega), rfl⟩
set_option maxRecDepth 100000 in
set_option maxHeartbeats 4000000 in
theorem c_X3_hasTooFewPoints {l : Launch} {gg : zG} {σ : zS}   : zMi l gg yX3_hasTooFewPoints cX3_hasTooFewPoints .boolean 1 0 0 [.ref (zo gg)] σ (fun r u => zb r ((si σ 7).toInt < 2) ∧ u = σ) := by
  refine zM_i (own := RX3) (lv := [some (.ref (zo gg))]) (by decide +kernel) rfl (Nat.le_of_ble_eq_true rfl) rfl (fun cx hc hR hI => ?_)
  refine J_aloadn_0 (pc := 0) hc dX3_hasTooFewPoints_0 ?_
  refine gX3_38 (pc := 1) hc dX3_hasTooFewPoints_1 ?_
  refine J_iconst (pc := 4) hc dX3_hasTooFewPoints_4 (v := 2) (by decide) ?_
  refine J_icmp_ge (pc := 5) hc 12 dX3_hasTooFewPoints_5 (by decide) (fun bq5 => ?_) (fun bq5 => ?_)
  · skip
    refine J_iconst (pc := 12) hc dX3_hasTooFewPoints_12 (v := 0) (by decide) ?_
    exact J_zret (pc := 13) hc hI dX3_hasTooFewPoints_13 (by first | exact znb0 | exact znb1 | exact zb.n (by assumption)) ⟨by first | (refine zb_1 ?_; (try unfold zpl); (try unfold zcf); (try unfold zcfl); (try simp [zi_lt, zi_le, zi_eq, zl_lt, zl_le, zl_eq] at bq5); (try simp [zi_lt, zi_le, zi_eq, zl_lt, zl_le, zl_eq]); omega) | (refine zb_0 ?_; (try unfold zpl); (try unfold zcf); (try unfold zcfl); (try simp [zi_lt, zi_le, zi_eq, zl_lt, zl_le, zl_eq] at bq5); (try simp [zi_lt, zi_le, zi_eq, zl_lt, zl_le, zl_eq]); omega), rfl⟩
  · skip
    refine J_iconst (pc := 8) hc dX3_hasTooFewPoints_8 (v := 1) (by decide) ?_
    refine J_goto (pc := 9) hc 13 dX3_hasTooFewPoints_9 (by decide) ?_
    exact J_zret (pc := 13) hc hI dX3_hasTooFewPoints_13 (by first | exact znb0 | exact znb1 | exact zb.n (by assumption)) ⟨by first | (refine zb_1 ?_; (try unfold zpl); (try unfold zcf); (try unfold zcfl); (try simp [zi_lt, zi_le, zi_eq, zl_lt, zl_le, zl_eq] at bq5); (try simp [zi_lt, zi_le, zi_eq, zl_lt, zl_le, zl_eq]); omega) | (refine zb_0 ?_; (try unfold zpl); (try unfold zcf); (try unfold zcfl); (try simp [zi_lt, zi_le, zi_eq, zl_lt, zl_le, zl_eq] at bq5); (try simp [zi_lt, zi_le, zi_eq, zl_lt, zl_le, zl_eq]); omega), rfl⟩
set_option maxRecDepth 100000 in
set_option maxHeartbeats 4000000 in
theorem c_X3_signOfShape {l : Launch} {gg : zG} {σ : zS} {x : Int32}  : zMi l gg yX3_signOfShape cX3_signOfShape .int 1 0 0 [.int x] σ (fun r u => r = (if x = 2 ∨ x = 4 then -1 else 1) ∧ u = σ) := by
  refine zM_i (own := RX3) (lv := [some (.int x)]) (by decide +kernel) rfl (Nat.le_of_ble_eq_true rfl) rfl (fun cx hc hR hI => ?_)
  refine J_iloadn_0 (pc := 0) hc dX3_signOfShape_0 ?_
  refine J_iconst (pc := 1) hc dX3_signOfShape_1 (v := 2) (by decide) ?_
  refine J_icmp_eq (pc := 2) hc 10 dX3_signOfShape_2 (by decide) (fun bq2 => ?_) (fun bq2 => ?_)
  · skip
    refine J_iconst (pc := 10) hc dX3_signOfShape_10 (v := -1) (by decide) ?_
    refine J_goto (pc := 11) hc 15 dX3_signOfShape_11 (by decide) ?_
    exact J_iret (pc := 15) hc hI dX3_signOfShape_15 (by first | exact ⟨(if_pos (Or.inl bq2)).symm, rfl⟩ | exact ⟨(if_pos (Or.inr bq7)).symm, rfl⟩ | exact ⟨(if_neg (fun h => h.elim bq2 bq7)).symm, rfl⟩)
  · skip
    refine J_iloadn_0 (pc := 5) hc dX3_signOfShape_5 ?_
    refine J_iconst (pc := 6) hc dX3_signOfShape_6 (v := 4) (by decide) ?_
    refine J_icmp_ne (pc := 7) hc 14 dX3_signOfShape_7 (by decide) (fun bq7 => ?_) (fun bq7 => ?_)
    · skip
      refine J_iconst (pc := 14) hc dX3_signOfShape_14 (v := 1) (by decide) ?_
      exact J_iret (pc := 15) hc hI dX3_signOfShape_15 (by first | exact ⟨(if_pos (Or.inl bq2)).symm, rfl⟩ | exact ⟨(if_pos (Or.inr bq7)).symm, rfl⟩ | exact ⟨(if_neg (fun h => h.elim bq2 bq7)).symm, rfl⟩)
    · skip
      refine J_iconst (pc := 10) hc dX3_signOfShape_10 (v := -1) (by decide) ?_
      refine J_goto (pc := 11) hc 15 dX3_signOfShape_11 (by decide) ?_
      exact J_iret (pc := 15) hc hI dX3_signOfShape_15 (by first | exact ⟨(if_pos (Or.inl bq2)).symm, rfl⟩ | exact ⟨(if_pos (Or.inr bq7)).symm, rfl⟩ | exact ⟨(if_neg (fun h => h.elim bq2 bq7)).symm, rfl⟩)
set_option maxRecDepth 100000 in
set_option maxHeartbeats 4000000 in
theorem c_X3_isBent {l : Launch} {gg : zG} {σ : zS} {x : Int32}  : zMi l gg yX3_isBent cX3_isBent .boolean 1 0 0 [.int x] σ (fun r u => zb r (x = 3 ∨ x = 4) ∧ u = σ) := by
  refine zM_i (own := RX3) (lv := [some (.int x)]) (by decide +kernel) rfl (Nat.le_of_ble_eq_true rfl) rfl (fun cx hc hR hI => ?_)
  refine J_iloadn_0 (pc := 0) hc dX3_isBent_0 ?_
  refine J_iconst (pc := 1) hc dX3_isBent_1 (v := 3) (by decide) ?_
  refine J_icmp_eq (pc := 2) hc 10 dX3_isBent_2 (by decide) (fun bq2 => ?_) (fun bq2 => ?_)
  · skip
    refine J_iconst (pc := 10) hc dX3_isBent_10 (v := 1) (by decide) ?_
    refine J_goto (pc := 11) hc 15 dX3_isBent_11 (by decide) ?_
    exact J_zret (pc := 15) hc hI dX3_isBent_15 (by first | exact znb0 | exact znb1 | exact zb.n (by assumption)) ⟨by first | exact zb_1 (Or.inl bq2) | exact zb_1 (Or.inr bq7) | exact zb_0 (fun h => h.elim bq2 bq7), rfl⟩
  · skip
    refine J_iloadn_0 (pc := 5) hc dX3_isBent_5 ?_
    refine J_iconst (pc := 6) hc dX3_isBent_6 (v := 4) (by decide) ?_
    refine J_icmp_ne (pc := 7) hc 14 dX3_isBent_7 (by decide) (fun bq7 => ?_) (fun bq7 => ?_)
    · skip
      refine J_iconst (pc := 14) hc dX3_isBent_14 (v := 0) (by decide) ?_
      exact J_zret (pc := 15) hc hI dX3_isBent_15 (by first | exact znb0 | exact znb1 | exact zb.n (by assumption)) ⟨by first | exact zb_1 (Or.inl bq2) | exact zb_1 (Or.inr bq7) | exact zb_0 (fun h => h.elim bq2 bq7), rfl⟩
    · skip
      refine J_iconst (pc := 10) hc dX3_isBent_10 (v := 1) (by decide) ?_
      refine J_goto (pc := 11) hc 15 dX3_isBent_11 (by decide) ?_
      exact J_zret (pc := 15) hc hI dX3_isBent_15 (by first | exact znb0 | exact znb1 | exact zb.n (by assumption)) ⟨by first | exact zb_1 (Or.inl bq2) | exact zb_1 (Or.inr bq7) | exact zb_0 (fun h => h.elim bq2 bq7), rfl⟩
set_option maxRecDepth 100000 in
set_option maxHeartbeats 4000000 in
theorem c_X4_in {l : Launch} {gg : zG} {σ : zS} {v a b : Int64}  : zMi l gg yX4_in cX4_in .boolean 6 0 0 [.long v, .long a, .long b] σ (fun r u => zb r (a.toInt ≤ v.toInt ∧ v.toInt ≤ b.toInt) ∧ u = σ) := by
  refine zM_i (own := RX4) (lv := [some (.long v), none, some (.long a), none, some (.long b), none]) (by decide +kernel) rfl (Nat.le_of_ble_eq_true rfl) rfl (fun cx hc hR hI => ?_)
  refine J_lloadn_0 (pc := 0) hc dX4_in_0 ?_
  refine J_lloadn_2 (pc := 1) hc dX4_in_1 ?_
  refine J_lcmp_lt (pc := 2) hc 17 dX4_in_2 dX4_in_3 (by decide) (fun bq2 => ?_) (fun bq2 => ?_)
  · skip
    refine J_iconst (pc := 17) hc dX4_in_17 (v := 0) (by decide) ?_
    exact J_zret (pc := 18) hc hI dX4_in_18 (by first | exact znb0 | exact znb1 | exact zb.n (by assumption)) ⟨by first | (refine zb_1 ?_; rw [zl_lt] at bq2 bq9; omega) | (refine zb_0 ?_; rw [zl_lt] at bq2; omega) | (refine zb_0 ?_; rw [zl_lt] at bq2 bq9; omega), rfl⟩
  · skip
    refine J_lloadn_0 (pc := 6) hc dX4_in_6 ?_
    refine J_lload_4 (pc := 7) hc dX4_in_7 ?_
    refine J_lcmp_gt (pc := 9) hc 17 dX4_in_9 dX4_in_10 (by decide) (fun bq9 => ?_) (fun bq9 => ?_)
    · skip
      refine J_iconst (pc := 17) hc dX4_in_17 (v := 0) (by decide) ?_
      exact J_zret (pc := 18) hc hI dX4_in_18 (by first | exact znb0 | exact znb1 | exact zb.n (by assumption)) ⟨by first | (refine zb_1 ?_; rw [zl_lt] at bq2 bq9; omega) | (refine zb_0 ?_; rw [zl_lt] at bq2; omega) | (refine zb_0 ?_; rw [zl_lt] at bq2 bq9; omega), rfl⟩
    · skip
      refine J_iconst (pc := 13) hc dX4_in_13 (v := 1) (by decide) ?_
      refine J_goto (pc := 14) hc 18 dX4_in_14 (by decide) ?_
      exact J_zret (pc := 18) hc hI dX4_in_18 (by first | exact znb0 | exact znb1 | exact zb.n (by assumption)) ⟨by first | (refine zb_1 ?_; rw [zl_lt] at bq2 bq9; omega) | (refine zb_0 ?_; rw [zl_lt] at bq2; omega) | (refine zb_0 ?_; rw [zl_lt] at bq2 bq9; omega), rfl⟩
set_option maxRecDepth 100000 in
set_option maxHeartbeats 4000000 in
theorem c_X4_isPlace {l : Launch} {gg : zG} {σ : zS} {x : Int32}  : zMi l gg yX4_isPlace cX4_isPlace .boolean 1 1 25 [.int x] σ (fun r u => zb r (zpl x) ∧ u = σ) := by
  refine zM_i (own := RX4) (lv := [some (.int x)]) (by decide +kernel) rfl (Nat.le_of_ble_eq_true rfl) rfl (fun cx hc hR hI => ?_)
  refine J_iloadn_0 (pc := 0) hc dX4_isPlace_0 ?_
  refine J_i2l (pc := 1) hc dX4_isPlace_1 ?_
  refine J_lconst (pc := 2) hc dX4_isPlace_2 (v := 0) (by decide) ?_
  refine nX4_41 (pc := 3) hc dX4_isPlace_3 ?_
  refine kX4_43 (pc := 6) hc hR dX4_isPlace_6 (c_X4_in) (by decide) (Nat.le_of_ble_eq_true rfl) rfl (fun r u hu => ?_)
  have hr := hu.1
  refine J_eq hu.2 ?_
  exact J_zret (pc := 9) hc hI dX4_isPlace_9 (by first | exact znb0 | exact znb1 | exact zb.n (by assumption)) ⟨hr.iff (by unfold zpl; simp; omega), rfl⟩
set_option maxRecDepth 100000 in
set_option maxHeartbeats 4000000 in
theorem c_X4_isSmall {l : Launch} {gg : zG} {σ : zS} {v : Int64}  : zMi l gg yX4_isSmall cX4_isSmall .boolean 2 1 25 [.long v] σ (fun r u => zb r (zcfl v) ∧ u = σ) := by
  refine zM_i (own := RX4) (lv := [some (.long v), none]) (by decide +kernel) rfl (Nat.le_of_ble_eq_true rfl) rfl (fun cx hc hR hI => ?_)
  refine J_lloadn_0 (pc := 0) hc dX4_isSmall_0 ?_
  refine nX4_47 (pc := 1) hc dX4_isSmall_1 ?_
  refine nX4_49 (pc := 4) hc dX4_isSmall_4 ?_
  refine kX4_43 (pc := 7) hc hR dX4_isSmall_7 (c_X4_in) (by decide) (Nat.le_of_ble_eq_true rfl) rfl (fun r u hu => ?_)
  have hr := hu.1
  refine J_eq hu.2 ?_
  exact J_zret (pc := 10) hc hI dX4_isSmall_10 (by first | exact znb0 | exact znb1 | exact zb.n (by assumption)) ⟨hr.iff (by unfold zcfl; simp), rfl⟩
set_option maxRecDepth 100000 in
set_option maxHeartbeats 4000000 in
theorem c_X4_sign {l : Launch} {gg : zG} {σ : zS} {v : Int64}  : zMi l gg yX4_sign cX4_sign .int 2 0 0 [.long v] σ (fun r u => r = (if 0 < v.toInt then 1 else if v.toInt < 0 then -1 else 0) ∧ u = σ) := by
  refine zM_i (own := RX4) (lv := [some (.long v), none]) (by decide +kernel) rfl (Nat.le_of_ble_eq_true rfl) rfl (fun cx hc hR hI => ?_)
  refine J_lloadn_0 (pc := 0) hc dX4_sign_0 ?_
  refine J_lconst (pc := 1) hc dX4_sign_1 (v := 0) (by decide) ?_
  refine J_lcmp_le (pc := 2) hc 10 dX4_sign_2 dX4_sign_3 (by decide) (fun bq2 => ?_) (fun bq2 => ?_)
  · skip
    refine J_lloadn_0 (pc := 10) hc dX4_sign_10 ?_
    refine J_lconst (pc := 11) hc dX4_sign_11 (v := 0) (by decide) ?_
    refine J_lcmp_ge (pc := 12) hc 20 dX4_sign_12 dX4_sign_13 (by decide) (fun bq12 => ?_) (fun bq12 => ?_)
    · skip
      refine J_iconst (pc := 20) hc dX4_sign_20 (v := 0) (by decide) ?_
      exact J_iret (pc := 21) hc hI dX4_sign_21 (by first | (refine ⟨?_, rfl⟩; simp [zl_lt, zl_le] at *; omega) | (refine ⟨?_, rfl⟩; simp [zl_lt, zl_le] at *; split <;> first | rfl | omega | (split <;> first | rfl | omega)))
    · skip
      refine J_iconst (pc := 16) hc dX4_sign_16 (v := -1) (by decide) ?_
      refine J_goto (pc := 17) hc 21 dX4_sign_17 (by decide) ?_
      exact J_iret (pc := 21) hc hI dX4_sign_21 (by first | (refine ⟨?_, rfl⟩; simp [zl_lt, zl_le] at *; omega) | (refine ⟨?_, rfl⟩; simp [zl_lt, zl_le] at *; split <;> first | rfl | omega | (split <;> first | rfl | omega)))
  · skip
    refine J_iconst (pc := 6) hc dX4_sign_6 (v := 1) (by decide) ?_
    refine J_goto (pc := 7) hc 21 dX4_sign_7 (by decide) ?_
    exact J_iret (pc := 21) hc hI dX4_sign_21 (by first | (refine ⟨?_, rfl⟩; simp [zl_lt, zl_le] at *; omega) | (refine ⟨?_, rfl⟩; simp [zl_lt, zl_le] at *; split <;> first | rfl | omega | (split <;> first | rfl | omega)))
end
section
def zfill {α : Type} (n : Nat) (f g : Nat → α) : Nat → α := fun i => if i < n then f i else g i
theorem zfill_0 {α : Type} (f g : Nat → α) : zfill 0 f g = g := by funext i; simp [zfill]
theorem zfill_in {α : Type} {n i : Nat} (f g : Nat → α) (h : i < n) : zfill n f g i = f i := if_pos h
theorem zfill_succ (f g : Nat → Int32) (i : Nat) : upd (zfill i f g) i (f i) = zfill (i + 1) f g := by
  funext j
  unfold upd zfill
  by_cases h : j = i
  · subst h; rw [if_pos rfl, if_pos (by omega)]
  · rw [if_neg h]
    by_cases h2 : j < i
    · rw [if_pos h2, if_pos (by omega)]
    · rw [if_neg h2, if_neg (by omega)]
theorem zfill_succL (f g : Nat → Int64) (i : Nat) : vp_updL (zfill i f g) i (f i) = zfill (i + 1) f g := by
  funext j
  unfold vp_updL zfill
  by_cases h : j = i
  · subst h; rw [if_pos rfl, if_pos (by omega)]
  · rw [if_neg h]
    by_cases h2 : j < i
    · rw [if_pos h2, if_pos (by omega)]
    · rw [if_neg h2, if_neg (by omega)]
/-- the three rows of curve k -/
def zc3 (σ : zS) (k : Nat) (A B C : Nat → Int32) : zS := (σ.1, σ.2.1, fun j => if j = k then A else if j = 7 + k then B else if j = 14 + k then C else σ.2.2.1 j, σ.2.2.2)
theorem si_zc3 (σ : zS) (k : Nat) (A B C : Nat → Int32) (j : Nat) : si (zc3 σ k A B C) j = si σ j := rfl
theorem sl_zc3 (σ : zS) (k : Nat) (A B C : Nat → Int32) (j : Nat) : sl (zc3 σ k A B C) j = sl σ j := rfl
theorem sm_zc3 (σ : zS) (k : Nat) (A B C : Nat → Int32) (j : Nat) : sm (zc3 σ k A B C) j = sm σ j := rfl
theorem sa_zc3_a (σ : zS) (k : Nat) (A B C : Nat → Int32) : sa (zc3 σ k A B C) k = A := if_pos rfl
theorem sa_zc3_b (σ : zS) (k : Nat) (A B C : Nat → Int32) : sa (zc3 σ k A B C) (7 + k) = B := by
  show (if 7 + k = k then A else if 7 + k = 7 + k then B else _) = B
  rw [if_neg (by omega), if_pos rfl]
theorem sa_zc3_c (σ : zS) (k : Nat) (A B C : Nat → Int32) : sa (zc3 σ k A B C) (14 + k) = C := by
  show (if 14 + k = k then A else if 14 + k = 7 + k then B else if 14 + k = 14 + k then C else _) = C
  rw [if_neg (by omega), if_neg (by omega), if_pos rfl]
theorem sa_zc3_n (σ : zS) (k : Nat) (A B C : Nat → Int32) {j : Nat} (h1 : ¬ j = k) (h2 : ¬ j = 7 + k) (h3 : ¬ j = 14 + k) : sa (zc3 σ k A B C) j = sa σ j := by
  show (if j = k then A else if j = 7 + k then B else if j = 14 + k then C else σ.2.2.1 j) = _
  rw [if_neg h1, if_neg h2, if_neg h3]; rfl
theorem zc3_zc3 (σ : zS) (k : Nat) (A B C A' B' C' : Nat → Int32) : zc3 (zc3 σ k A B C) k A' B' C' = zc3 σ k A' B' C' := by
  apply zS_ext <;> intro j <;> try rfl
  show (if j = k then A' else if j = 7 + k then B' else if j = 14 + k then C' else _) = (if j = k then A' else if j = 7 + k then B' else if j = 14 + k then C' else _)
  repeat' split
  all_goals first | rfl | (show (if j = k then A else if j = 7 + k then B else if j = 14 + k then C else _) = _; rw [if_neg (by omega), if_neg (by omega), if_neg (by omega)])
theorem zc3_self (σ : zS) (k : Nat) : zc3 σ k (sa σ k) (sa σ (7 + k)) (sa σ (14 + k)) = σ := by
  apply zS_ext <;> intro j <;> try rfl
  show (if j = k then sa σ k else if j = 7 + k then sa σ (7 + k) else if j = 14 + k then sa σ (14 + k) else _) = _
  repeat' split
  all_goals first | rfl | (subst_vars; rfl)
theorem zc3_eq {σ : zS} {k : Nat} {A B C A' B' C' : Nat → Int32} (h1 : A = A') (h2 : B = B') (h3 : C = C') : zc3 σ k A B C = zc3 σ k A' B' C' := by rw [h1, h2, h3]
theorem ua3 (σ : zS) (k : Nat) (A B C : Nat → Int32) : ua (ua (ua σ k A) (7 + k) B) (14 + k) C = zc3 σ k A B C := by
  apply zS_ext <;> intro j <;> try rfl
  rw [sa_ua, sa_ua, sa_ua]
  show _ = (if j = k then A else if j = 7 + k then B else if j = 14 + k then C else _)
  repeat' split
  all_goals first | rfl | omega
theorem zge {x y : Int32} {i n : Nat} (hx : x = nI i) (hy : y = nI n) (hi : i < 2 ^ 31) (hn : n < 2 ^ 31) : y ≤ x ↔ n ≤ i := by
  subst hx; subst hy; exact nI_leI hn hi
/-- what a curve is at the end of a piece; how it is joined -/
def zva (σ : zS) (k i : Nat) : Int32 := sa σ k i + sa σ (7 + k) i + sa σ (14 + k) i
def zsl (σ : zS) (k i : Nat) : Int32 := sa σ (7 + k) i + 2 * sa σ (14 + k) i
def zjn (σ : zS) (k i : Nat) : Int32 := if zva σ k (i - 1) = sa σ k i then (if zsl σ k (i - 1) = sa σ (7 + k) i then (if sa σ (14 + k) (i - 1) = sa σ (14 + k) i then 2 else 1) else 0) else -1
/-- how many of the first n numbers -/
def zct (p : Nat → Prop) [DecidablePred p] : Nat → Nat
  | 0 => 0
  | n + 1 => zct p n + (if p n then 1 else 0)
theorem zct_le (p : Nat → Prop) [DecidablePred p] : ∀ n, zct p n ≤ n
  | 0 => Nat.le_refl 0
  | n + 1 => by have := zct_le p n; unfold zct; split <;> omega
set_option maxRecDepth 100000 in
set_option maxHeartbeats 4000000 in
theorem c_X0_put {l : Launch} {gg : zG} {σ : zS} {k i : Nat} {x A B C : Int32} (hk : k < 7) (hx : x = nI i) (hi : i < 16) : zMv l gg yX0_put cX0_put 5 0 0 [.ref (zc gg k), .int x, .int A, .int B, .int C] σ (fun u => u = zc3 σ k (upd (sa σ k) i A) (upd (sa σ (7 + k)) i B) (upd (sa σ (14 + k)) i C)) := by
  refine zM_v (own := RX0) (lv := [some (.ref (zc gg k)), some (.int x), some (.int A), some (.int B), some (.int C)]) (by decide +kernel) rfl (Nat.le_of_ble_eq_true rfl) rfl (fun cx hc hR hI => ?_)
  refine J_aloadn_0 (pc := 0) hc dX0_put_0 ?_
  refine gX0_9 (pc := 1) hc (by omega) dX0_put_1 ?_
  refine J_iloadn_1 (pc := 4) hc dX0_put_4 ?_
  refine J_iloadn_2 (pc := 5) hc dX0_put_5 ?_
  refine J_iast (pc := 6) hc 16 (by omega) (zlen_c (by omega)) dX0_put_6 (by first | exact rfl | exact z16 _ _ | exact nI_1 _ | exact zm1 (by omega) | assumption) (by omega) ?_
  refine J_aloadn_0 (pc := 7) hc dX0_put_7 ?_
  refine gX0_15 (pc := 8) hc (by omega) dX0_put_8 ?_
  refine J_iloadn_1 (pc := 11) hc dX0_put_11 ?_
  refine J_iloadn_3 (pc := 12) hc dX0_put_12 ?_
  refine J_iast (pc := 13) hc 16 (by omega) (zlen_c (by omega)) dX0_put_13 (by first | exact rfl | exact z16 _ _ | exact nI_1 _ | exact zm1 (by omega) | assumption) (by omega) ?_
  refine J_aloadn_0 (pc := 14) hc dX0_put_14 ?_
  refine gX0_18 (pc := 15) hc (by omega) dX0_put_15 ?_
  refine J_iloadn_1 (pc := 18) hc dX0_put_18 ?_
  refine J_iload_4 (pc := 19) hc dX0_put_19 ?_
  refine J_iast (pc := 21) hc 16 (by omega) (zlen_c (by omega)) dX0_put_21 (by first | exact rfl | exact z16 _ _ | exact nI_1 _ | exact zm1 (by omega) | assumption) (by omega) ?_
  exact J_vret (pc := 22) hc hI dX0_put_22 (by rw [ua3, sa_ua_n _ _ _ _ (by omega), sa_ua_n _ _ _ _ (by omega), sa_ua_n _ _ _ _ (by omega)])
set_option maxRecDepth 100000 in
set_option maxHeartbeats 4000000 in
theorem c_X0_valueAtEnd {l : Launch} {gg : zG} {σ : zS} {k i : Nat} {x : Int32} (hk : k < 7) (hx : x = nI i) (hi : i < 16) : zMi l gg yX0_valueAtEnd cX0_valueAtEnd .int 2 0 0 [.ref (zc gg k), .int x] σ (fun r u => r = zva σ k i ∧ u = σ) := by
  refine zM_i (own := RX0) (lv := [some (.ref (zc gg k)), some (.int x)]) (by decide +kernel) rfl (Nat.le_of_ble_eq_true rfl) rfl (fun cx hc hR hI => ?_)
  refine J_aloadn_0 (pc := 0) hc dX0_valueAtEnd_0 ?_
  refine gX0_9 (pc := 1) hc (by omega) dX0_valueAtEnd_1 ?_
  refine J_iloadn_1 (pc := 4) hc dX0_valueAtEnd_4 ?_
  refine J_iald (pc := 5) hc 16 (by omega) (zlen_c (by omega)) dX0_valueAtEnd_5 (by first | exact rfl | exact z16 _ _ | exact nI_1 _ | exact zm1 (by omega) | assumption) (by omega) ?_
  refine J_aloadn_0 (pc := 6) hc dX0_valueAtEnd_6 ?_
  refine gX0_15 (pc := 7) hc (by omega) dX0_valueAtEnd_7 ?_
  refine J_iloadn_1 (pc := 10) hc dX0_valueAtEnd_10 ?_
  refine J_iald (pc := 11) hc 16 (by omega) (zlen_c (by omega)) dX0_valueAtEnd_11 (by first | exact rfl | exact z16 _ _ | exact nI_1 _ | exact zm1 (by omega) | assumption) (by omega) ?_
  refine J_iadd (pc := 12) hc dX0_valueAtEnd_12 ?_
  refine J_aloadn_0 (pc := 13) hc dX0_valueAtEnd_13 ?_
  refine gX0_18 (pc := 14) hc (by omega) dX0_valueAtEnd_14 ?_
  refine J_iloadn_1 (pc := 17) hc dX0_valueAtEnd_17 ?_
  refine J_iald (pc := 18) hc 16 (by omega) (zlen_c (by omega)) dX0_valueAtEnd_18 (by first | exact rfl | exact z16 _ _ | exact nI_1 _ | exact zm1 (by omega) | assumption) (by omega) ?_
  refine J_iadd (pc := 19) hc dX0_valueAtEnd_19 ?_
  exact J_iret (pc := 20) hc hI dX0_valueAtEnd_20 ⟨rfl, rfl⟩
set_option maxRecDepth 100000 in
set_option maxHeartbeats 4000000 in
theorem c_X0_slopeAtEnd {l : Launch} {gg : zG} {σ : zS} {k i : Nat} {x : Int32} (hk : k < 7) (hx : x = nI i) (hi : i < 16) : zMi l gg yX0_slopeAtEnd cX0_slopeAtEnd .int 2 0 0 [.ref (zc gg k), .int x] σ (fun r u => r = zsl σ k i ∧ u = σ) := by
  refine zM_i (own := RX0) (lv := [some (.ref (zc gg k)), some (.int x)]) (by decide +kernel) rfl (Nat.le_of_ble_eq_true rfl) rfl (fun cx hc hR hI => ?_)
  refine J_aloadn_0 (pc := 0) hc dX0_slopeAtEnd_0 ?_
  refine gX0_15 (pc := 1) hc (by omega) dX0_slopeAtEnd_1 ?_
  refine J_iloadn_1 (pc := 4) hc dX0_slopeAtEnd_4 ?_
  refine J_iald (pc := 5) hc 16 (by omega) (zlen_c (by omega)) dX0_slopeAtEnd_5 (by first | exact rfl | exact z16 _ _ | exact nI_1 _ | exact zm1 (by omega) | assumption) (by omega) ?_
  refine J_iconst (pc := 6) hc dX0_slopeAtEnd_6 (v := 2) (by decide) ?_
  refine J_aloadn_0 (pc := 7) hc dX0_slopeAtEnd_7 ?_
  refine gX0_18 (pc := 8) hc (by omega) dX0_slopeAtEnd_8 ?_
  refine J_iloadn_1 (pc := 11) hc dX0_slopeAtEnd_11 ?_
  refine J_iald (pc := 12) hc 16 (by omega) (zlen_c (by omega)) dX0_slopeAtEnd_12 (by first | exact rfl | exact z16 _ _ | exact nI_1 _ | exact zm1 (by omega) | assumption) (by omega) ?_
  refine J_imul (pc := 13) hc dX0_slopeAtEnd_13 ?_
  refine J_iadd (pc := 14) hc dX0_slopeAtEnd_14 ?_
  exact J_iret (pc := 15) hc hI dX0_slopeAtEnd_15 ⟨rfl, rfl⟩
set_option maxRecDepth 100000 in
set_option maxHeartbeats 4000000 in
theorem c_X0_joinAt {l : Launch} {gg : zG} {σ : zS} {k i : Nat} {x : Int32} (hk : k < 7) (hx : x = nI i) (h0 : 0 < i) (hi : i < 16) : zMi l gg yX0_joinAt cX0_joinAt .int 3 1 21 [.ref (zc gg k), .int x] σ (fun r u => r = zjn σ k i ∧ u = σ) := by
  subst hx
  refine zM_i (own := RX0) (lv := [some (.ref (zc gg k)), some (.int (nI i)), none]) (by decide +kernel) rfl (Nat.le_of_ble_eq_true rfl) rfl (fun cx hc hR hI => ?_)
  refine J_iloadn_1 (pc := 0) hc dX0_joinAt_0 ?_
  refine J_iconst (pc := 1) hc dX0_joinAt_1 (v := 1) (by decide) ?_
  refine J_isub (pc := 2) hc dX0_joinAt_2 ?_
  refine J_topi (zm1 h0) ?_
  refine J_istoren_2 (pc := 3) hc dX0_joinAt_3 rfl ?_
  refine J_aloadn_0 (pc := 4) hc dX0_joinAt_4 ?_
  refine J_iloadn_2 (pc := 5) hc dX0_joinAt_5 ?_
  refine kX0_40 (pc := 6) hc hR (by omega) dX0_joinAt_6 (c_X0_valueAtEnd (by omega) (by first | rfl | assumption) (by omega)) (by decide) (Nat.le_of_ble_eq_true rfl) rfl (fun r u hu => ?_)
  refine J_eq hu.2 (J_topi hu.1 ?_)
  refine J_aloadn_0 (pc := 9) hc dX0_joinAt_9 ?_
  refine gX0_9 (pc := 10) hc (by omega) dX0_joinAt_10 ?_
  refine J_iloadn_1 (pc := 13) hc dX0_joinAt_13 ?_
  refine J_iald (pc := 14) hc 16 (by omega) (zlen_c (by omega)) dX0_joinAt_14 (by first | exact rfl | exact z16 _ _ | exact nI_1 _ | exact zm1 (by omega) | assumption) (by omega) ?_
  refine J_icmp_eq (pc := 15) hc 20 dX0_joinAt_15 (by decide) (fun bq15 => ?_) (fun bq15 => ?_)
  · skip
    refine J_aloadn_0 (pc := 20) hc dX0_joinAt_20 ?_
    refine J_iloadn_2 (pc := 21) hc dX0_joinAt_21 ?_
    refine kX0_44 (pc := 22) hc hR (by omega) dX0_joinAt_22 (c_X0_slopeAtEnd (by omega) (by first | rfl | assumption) (by omega)) (by decide) (Nat.le_of_ble_eq_true rfl) rfl (fun r u hu => ?_)
    refine J_eq hu.2 (J_topi hu.1 ?_)
    refine J_aloadn_0 (pc := 25) hc dX0_joinAt_25 ?_
    refine gX0_15 (pc := 26) hc (by omega) dX0_joinAt_26 ?_
    refine J_iloadn_1 (pc := 29) hc dX0_joinAt_29 ?_
    refine J_iald (pc := 30) hc 16 (by omega) (zlen_c (by omega)) dX0_joinAt_30 (by first | exact rfl | exact z16 _ _ | exact nI_1 _ | exact zm1 (by omega) | assumption) (by omega) ?_
    refine J_icmp_eq (pc := 31) hc 36 dX0_joinAt_31 (by decide) (fun bq31 => ?_) (fun bq31 => ?_)
    · skip
      refine J_aloadn_0 (pc := 36) hc dX0_joinAt_36 ?_
      refine gX0_18 (pc := 37) hc (by omega) dX0_joinAt_37 ?_
      refine J_iloadn_2 (pc := 40) hc dX0_joinAt_40 ?_
      refine J_iald (pc := 41) hc 16 (by omega) (zlen_c (by omega)) dX0_joinAt_41 (by first | exact rfl | exact z16 _ _ | exact nI_1 _ | exact zm1 (by omega) | assumption) (by omega) ?_
      refine J_aloadn_0 (pc := 42) hc dX0_joinAt_42 ?_
      refine gX0_18 (pc := 43) hc (by omega) dX0_joinAt_43 ?_
      refine J_iloadn_1 (pc := 46) hc dX0_joinAt_46 ?_
      refine J_iald (pc := 47) hc 16 (by omega) (zlen_c (by omega)) dX0_joinAt_47 (by first | exact rfl | exact z16 _ _ | exact nI_1 _ | exact zm1 (by omega) | assumption) (by omega) ?_
      refine J_icmp_eq (pc := 48) hc 55 dX0_joinAt_48 (by decide) (fun bq48 => ?_) (fun bq48 => ?_)
      · skip
        refine J_iconst (pc := 55) hc dX0_joinAt_55 (v := 2) (by decide) ?_
        exact J_iret (pc := 56) hc hI dX0_joinAt_56 (by first | exact ⟨by unfold zjn; rw [if_pos bq15, if_pos bq31, if_pos bq48], rfl⟩ | exact ⟨by unfold zjn; rw [if_pos bq15, if_pos bq31, if_neg bq48], rfl⟩)
      · skip
        refine J_iconst (pc := 51) hc dX0_joinAt_51 (v := 1) (by decide) ?_
        refine J_goto (pc := 52) hc 56 dX0_joinAt_52 (by decide) ?_
        exact J_iret (pc := 56) hc hI dX0_joinAt_56 (by first | exact ⟨by unfold zjn; rw [if_pos bq15, if_pos bq31, if_pos bq48], rfl⟩ | exact ⟨by unfold zjn; rw [if_pos bq15, if_pos bq31, if_neg bq48], rfl⟩)
    · skip
      refine J_iconst (pc := 34) hc dX0_joinAt_34 (v := 0) (by decide) ?_
      exact J_iret (pc := 35) hc hI dX0_joinAt_35 ⟨by unfold zjn; rw [if_pos bq15, if_neg bq31], rfl⟩
  · skip
    refine J_iconst (pc := 18) hc dX0_joinAt_18 (v := -1) (by decide) ?_
    exact J_iret (pc := 19) hc hI dX0_joinAt_19 ⟨(if_neg bq15).symm, rfl⟩
set_option maxRecDepth 100000 in
set_option maxHeartbeats 4000000 in
theorem c_X0_becomeZero {l : Launch} {gg : zG} {σ : zS} {k n : Nat} {x : Int32} (hk : k < 7) (hx : x = nI n) (hn : n ≤ 16) : zMv l gg yX0_becomeZero cX0_becomeZero 3 1 24 [.ref (zc gg k), .int x] σ (fun u => u = (zc3 (ui σ k (nI n)) k (zfill n (fun _ => 0) (sa σ k)) (zfill n (fun _ => 0) (sa σ (7 + k))) (zfill n (fun _ => 0) (sa σ (14 + k))))) := by
  subst hx
  refine zM_v (own := RX0) (lv := [some (.ref (zc gg k)), some (.int (nI n)), none]) (by decide +kernel) rfl (Nat.le_of_ble_eq_true rfl) rfl (fun cx hc hR hI => ?_)
  refine J_aloadn_0 (pc := 0) hc dX0_becomeZero_0 ?_
  refine J_iloadn_1 (pc := 1) hc dX0_becomeZero_1 ?_
  refine pX0_21 (pc := 2) hc (by omega) dX0_becomeZero_2 ?_
  refine J_iconst (pc := 5) hc dX0_becomeZero_5 (v := 0) (by decide) ?_
  refine J_istoren_2 (pc := 6) hc dX0_becomeZero_6 rfl ?_
  have hL7 : ∀ (μ : Nat) (i : Nat), n - i = μ → i ≤ n → J cx gg (zQv cx gg (fun u => u = (zc3 (ui σ k (nI n)) k (zfill n (fun _ => 0) (sa σ k)) (zfill n (fun _ => 0) (sa σ (7 + k))) (zfill n (fun _ => 0) (sa σ (14 + k)))))) (zc3 (ui σ k (nI n)) k (zfill i (fun _ => 0) (sa σ k)) (zfill i (fun _ => 0) (sa σ (7 + k))) (zfill i (fun _ => 0) (sa σ (14 + k)))) 7 [some (.ref (zc gg k)), some (.int (nI n)), some (.int (nI i))] [] := by
    intro μ
    induction μ using Nat.strongRecOn with
    | ind μ ih7 =>
      intro i hμ hi
      refine J_iloadn_2 (pc := 7) hc dX0_becomeZero_7 ?_
      refine J_aloadn_0 (pc := 8) hc dX0_becomeZero_8 ?_
      refine gX0_21 (pc := 9) hc (by omega) dX0_becomeZero_9 ?_
      refine J_icmp_ge (pc := 12) hc 29 dX0_becomeZero_12 (by decide) (fun bq12 => ?_) (fun bq12 => ?_)
      · skip
        have bq12 := (zge rfl (by rw [si_zc3, si_ui_s]) (by omega) (by omega)).mp bq12
        exact J_vret (pc := 29) hc hI dX0_becomeZero_29 (by rw [show i = n by omega])
      · skip
        have bq12 := mt (zge rfl (by rw [si_zc3, si_ui_s]) (by omega) (by omega)).mpr bq12
        refine J_aloadn_0 (pc := 15) hc dX0_becomeZero_15 ?_
        refine J_iloadn_2 (pc := 16) hc dX0_becomeZero_16 ?_
        refine J_iconst (pc := 17) hc dX0_becomeZero_17 (v := 0) (by decide) ?_
        refine J_iconst (pc := 18) hc dX0_becomeZero_18 (v := 0) (by decide) ?_
        refine J_iconst (pc := 19) hc dX0_becomeZero_19 (v := 0) (by decide) ?_
        refine kX0_25 (pc := 20) hc hR (by omega) dX0_becomeZero_20 (c_X0_put (by omega) (by first | rfl | assumption) (by omega)) (by decide) (Nat.le_of_ble_eq_true rfl) rfl (fun u hu => ?_)
        refine J_eq hu ?_
        refine J_iinc_2 (pc := 23) hc dX0_becomeZero_23 (by first | exact nI_1 _ | exact rfl) rfl ?_
        refine J_goto (pc := 26) hc 7 dX0_becomeZero_26 (by decide) ?_
        exact J_weak (by repeat (first | exact zle_nil | apply zle_s | apply zle_n)) (J_eq (by rw [sa_zc3_a, sa_zc3_b, sa_zc3_c, zc3_zc3]; exact zc3_eq (zfill_succ _ _ _) (zfill_succ _ _ _) (zfill_succ _ _ _)) (ih7 _ (by omega) (i + 1) rfl (by omega)))
  exact J_weak (by repeat (first | exact zle_nil | apply zle_s | apply zle_n)) (J_eq (by rw [zfill_0, zfill_0, zfill_0]; exact (zc3_self (ui σ k (nI n)) k).symm) (hL7 _ 0 rfl (by omega)))
set_option maxRecDepth 100000 in
set_option maxHeartbeats 4000000 in
theorem c_X0_becomeCopy {l : Launch} {gg : zG} {σ : zS} {k j n : Nat} (hk : k < 7) (hj : j < 7) (hkj : ¬ k = j) (hs : si σ j = nI n) (hn : n ≤ 16) : zMv l gg yX0_becomeCopy cX0_becomeCopy 3 1 24 [.ref (zc gg k), .ref (zc gg j)] σ (fun u => u = (zc3 (ui σ k (nI n)) k (zfill n (sa σ j) (sa σ k)) (zfill n (sa σ (7 + j)) (sa σ (7 + k))) (zfill n (sa σ (14 + j)) (sa σ (14 + k))))) := by
  refine zM_v (own := RX0) (lv := [some (.ref (zc gg k)), some (.ref (zc gg j)), none]) (by decide +kernel) rfl (Nat.le_of_ble_eq_true rfl) rfl (fun cx hc hR hI => ?_)
  refine J_aloadn_0 (pc := 0) hc dX0_becomeCopy_0 ?_
  refine J_aloadn_1 (pc := 1) hc dX0_becomeCopy_1 ?_
  refine gX0_21 (pc := 2) hc (by omega) dX0_becomeCopy_2 ?_
  refine J_topi hs ?_
  refine pX0_21 (pc := 5) hc (by omega) dX0_becomeCopy_5 ?_
  refine J_iconst (pc := 8) hc dX0_becomeCopy_8 (v := 0) (by decide) ?_
  refine J_istoren_2 (pc := 9) hc dX0_becomeCopy_9 rfl ?_
  have hL10 : ∀ (μ : Nat) (i : Nat), n - i = μ → i ≤ n → J cx gg (zQv cx gg (fun u => u = (zc3 (ui σ k (nI n)) k (zfill n (sa σ j) (sa σ k)) (zfill n (sa σ (7 + j)) (sa σ (7 + k))) (zfill n (sa σ (14 + j)) (sa σ (14 + k)))))) (zc3 (ui σ k (nI n)) k (zfill i (sa σ j) (sa σ k)) (zfill i (sa σ (7 + j)) (sa σ (7 + k))) (zfill i (sa σ (14 + j)) (sa σ (14 + k)))) 10 [some (.ref (zc gg k)), some (.ref (zc gg j)), some (.int (nI i))] [] := by
    intro μ
    induction μ using Nat.strongRecOn with
    | ind μ ih10 =>
      intro i hμ hi
      refine J_iloadn_2 (pc := 10) hc dX0_becomeCopy_10 ?_
      refine J_aloadn_0 (pc := 11) hc dX0_becomeCopy_11 ?_
      refine gX0_21 (pc := 12) hc (by omega) dX0_becomeCopy_12 ?_
      refine J_icmp_ge (pc := 15) hc 47 dX0_becomeCopy_15 (by decide) (fun bq15 => ?_) (fun bq15 => ?_)
      · skip
        have bq15 := (zge rfl (by rw [si_zc3, si_ui_s]) (by omega) (by omega)).mp bq15
        exact J_vret (pc := 47) hc hI dX0_becomeCopy_47 (by rw [show i = n by omega])
      · skip
        have bq15 := mt (zge rfl (by rw [si_zc3, si_ui_s]) (by omega) (by omega)).mpr bq15
        refine J_aloadn_0 (pc := 18) hc dX0_becomeCopy_18 ?_
        refine J_iloadn_2 (pc := 19) hc dX0_becomeCopy_19 ?_
        refine J_aloadn_1 (pc := 20) hc dX0_becomeCopy_20 ?_
        refine gX0_9 (pc := 21) hc (by omega) dX0_becomeCopy_21 ?_
        refine J_iloadn_2 (pc := 24) hc dX0_becomeCopy_24 ?_
        refine J_iald (pc := 25) hc 16 (by omega) (zlen_c (by omega)) dX0_becomeCopy_25 (by first | exact rfl | exact z16 _ _ | exact nI_1 _ | exact zm1 (by omega) | assumption) (by omega) ?_
        refine J_aloadn_1 (pc := 26) hc dX0_becomeCopy_26 ?_
        refine gX0_15 (pc := 27) hc (by omega) dX0_becomeCopy_27 ?_
        refine J_iloadn_2 (pc := 30) hc dX0_becomeCopy_30 ?_
        refine J_iald (pc := 31) hc 16 (by omega) (zlen_c (by omega)) dX0_becomeCopy_31 (by first | exact rfl | exact z16 _ _ | exact nI_1 _ | exact zm1 (by omega) | assumption) (by omega) ?_
        refine J_aloadn_1 (pc := 32) hc dX0_becomeCopy_32 ?_
        refine gX0_18 (pc := 33) hc (by omega) dX0_becomeCopy_33 ?_
        refine J_iloadn_2 (pc := 36) hc dX0_becomeCopy_36 ?_
        refine J_iald (pc := 37) hc 16 (by omega) (zlen_c (by omega)) dX0_becomeCopy_37 (by first | exact rfl | exact z16 _ _ | exact nI_1 _ | exact zm1 (by omega) | assumption) (by omega) ?_
        refine kX0_25 (pc := 38) hc hR (by omega) dX0_becomeCopy_38 (c_X0_put (by omega) (by first | rfl | assumption) (by omega)) (by decide) (Nat.le_of_ble_eq_true rfl) rfl (fun u hu => ?_)
        refine J_eq hu ?_
        refine J_iinc_2 (pc := 41) hc dX0_becomeCopy_41 (by first | exact nI_1 _ | exact rfl) rfl ?_
        refine J_goto (pc := 44) hc 10 dX0_becomeCopy_44 (by decide) ?_
        exact J_weak (by repeat (first | exact zle_nil | apply zle_s | apply zle_n)) (J_eq (by rw [sa_zc3_a, sa_zc3_b, sa_zc3_c, sa_zc3_n _ _ _ _ _ (by omega) (by omega) (by omega), sa_zc3_n _ _ _ _ _ (by omega) (by omega) (by omega), sa_zc3_n _ _ _ _ _ (by omega) (by omega) (by omega), zc3_zc3]; exact zc3_eq (zfill_succ _ _ _) (zfill_succ _ _ _) (zfill_succ _ _ _)) (ih10 _ (by omega) (i + 1) rfl (by omega)))
  exact J_weak (by repeat (first | exact zle_nil | apply zle_s | apply zle_n)) (J_eq (by rw [zfill_0, zfill_0, zfill_0]; exact (zc3_self (ui σ k (nI n)) k).symm) (hL10 _ 0 rfl (by omega)))
set_option maxRecDepth 100000 in
set_option maxHeartbeats 4000000 in
theorem c_X0_becomeSum {l : Launch} {gg : zG} {σ : zS} {f h n : Nat} {p q : Int32} (hf : f < 6) (hh : h < 6) (hs : si σ f = nI n) (hs2 : si σ h = nI n) (hn : n ≤ 16) : zMv l gg yX0_becomeSum cX0_becomeSum 6 1 24 [.ref (zc gg 6), .ref (zc gg f), .int p, .ref (zc gg h), .int q] σ (fun u => u = (zc3 (ui σ 6 (nI n)) 6 (zfill n (fun i => p * sa σ f i + q * sa σ h i) (sa σ 6)) (zfill n (fun i => p * sa σ (7 + f) i + q * sa σ (7 + h) i) (sa σ (7 + 6))) (zfill n (fun i => p * sa σ (14 + f) i + q * sa σ (14 + h) i) (sa σ (14 + 6))))) := by
  refine zM_v (own := RX0) (lv := [some (.ref (zc gg 6)), some (.ref (zc gg f)), some (.int p), some (.ref (zc gg h)), some (.int q), none]) (by decide +kernel) rfl (Nat.le_of_ble_eq_true rfl) rfl (fun cx hc hR hI => ?_)
  refine J_aloadn_0 (pc := 0) hc dX0_becomeSum_0 ?_
  refine J_aloadn_1 (pc := 1) hc dX0_becomeSum_1 ?_
  refine gX0_21 (pc := 2) hc (by omega) dX0_becomeSum_2 ?_
  refine J_aloadn_3 (pc := 5) hc dX0_becomeSum_5 ?_
  refine gX0_21 (pc := 6) hc (by omega) dX0_becomeSum_6 ?_
  refine kX0_29 (pc := 9) hc hR dX0_becomeSum_9 (c_J9_min_7cf53) (by decide) (Nat.le_of_ble_eq_true rfl) rfl (fun r u hu => ?_)
  refine J_eq hu.2 (J_topi hu.1 ?_)
  refine J_topi (y := nI n) (by rw [hs, hs2, if_neg Int32.lt_irrefl]) ?_
  refine pX0_21 (pc := 12) hc (by omega) dX0_becomeSum_12 ?_
  refine J_iconst (pc := 15) hc dX0_becomeSum_15 (v := 0) (by decide) ?_
  refine J_istore_5 (pc := 16) hc dX0_becomeSum_16 rfl ?_
  have hL18 : ∀ (μ : Nat) (i : Nat), n - i = μ → i ≤ n → J cx gg (zQv cx gg (fun u => u = (zc3 (ui σ 6 (nI n)) 6 (zfill n (fun i => p * sa σ f i + q * sa σ h i) (sa σ 6)) (zfill n (fun i => p * sa σ (7 + f) i + q * sa σ (7 + h) i) (sa σ (7 + 6))) (zfill n (fun i => p * sa σ (14 + f) i + q * sa σ (14 + h) i) (sa σ (14 + 6)))))) (zc3 (ui σ 6 (nI n)) 6 (zfill i (fun i => p * sa σ f i + q * sa σ h i) (sa σ 6)) (zfill i (fun i => p * sa σ (7 + f) i + q * sa σ (7 + h) i) (sa σ (7 + 6))) (zfill i (fun i => p * sa σ (14 + f) i + q * sa σ (14 + h) i) (sa σ (14 + 6)))) 18 [some (.ref (zc gg 6)), some (.ref (zc gg f)), some (.int p), some (.ref (zc gg h)), some (.int q), some (.int (nI i))] [] := by
    intro μ
    induction μ using Nat.strongRecOn with
    | ind μ ih18 =>
      intro i hμ hi
      refine J_iload_5 (pc := 18) hc dX0_becomeSum_18 ?_
      refine J_aloadn_0 (pc := 20) hc dX0_becomeSum_20 ?_
      refine gX0_21 (pc := 21) hc (by omega) dX0_becomeSum_21 ?_
      refine J_icmp_ge (pc := 24) hc 99 dX0_becomeSum_24 (by decide) (fun bq24 => ?_) (fun bq24 => ?_)
      · skip
        have bq24 := (zge rfl (by rw [si_zc3, si_ui_s]) (by omega) (by omega)).mp bq24
        exact J_vret (pc := 99) hc hI dX0_becomeSum_99 (by rw [show i = n by omega])
      · skip
        have bq24 := mt (zge rfl (by rw [si_zc3, si_ui_s]) (by omega) (by omega)).mpr bq24
        refine J_aloadn_0 (pc := 27) hc dX0_becomeSum_27 ?_
        refine J_iload_5 (pc := 28) hc dX0_becomeSum_28 ?_
        refine J_iloadn_2 (pc := 30) hc dX0_becomeSum_30 ?_
        refine J_aloadn_1 (pc := 31) hc dX0_becomeSum_31 ?_
        refine gX0_9 (pc := 32) hc (by omega) dX0_becomeSum_32 ?_
        refine J_iload_5 (pc := 35) hc dX0_becomeSum_35 ?_
        refine J_iald (pc := 37) hc 16 (by omega) (zlen_c (by omega)) dX0_becomeSum_37 (by first | exact rfl | exact z16 _ _ | exact nI_1 _ | exact zm1 (by omega) | assumption) (by omega) ?_
        refine J_imul (pc := 38) hc dX0_becomeSum_38 ?_
        refine J_iload_4 (pc := 39) hc dX0_becomeSum_39 ?_
        refine J_aloadn_3 (pc := 41) hc dX0_becomeSum_41 ?_
        refine gX0_9 (pc := 42) hc (by omega) dX0_becomeSum_42 ?_
        refine J_iload_5 (pc := 45) hc dX0_becomeSum_45 ?_
        refine J_iald (pc := 47) hc 16 (by omega) (zlen_c (by omega)) dX0_becomeSum_47 (by first | exact rfl | exact z16 _ _ | exact nI_1 _ | exact zm1 (by omega) | assumption) (by omega) ?_
        refine J_imul (pc := 48) hc dX0_becomeSum_48 ?_
        refine J_iadd (pc := 49) hc dX0_becomeSum_49 ?_
        refine J_iloadn_2 (pc := 50) hc dX0_becomeSum_50 ?_
        refine J_aloadn_1 (pc := 51) hc dX0_becomeSum_51 ?_
        refine gX0_15 (pc := 52) hc (by omega) dX0_becomeSum_52 ?_
        refine J_iload_5 (pc := 55) hc dX0_becomeSum_55 ?_
        refine J_iald (pc := 57) hc 16 (by omega) (zlen_c (by omega)) dX0_becomeSum_57 (by first | exact rfl | exact z16 _ _ | exact nI_1 _ | exact zm1 (by omega) | assumption) (by omega) ?_
        refine J_imul (pc := 58) hc dX0_becomeSum_58 ?_
        refine J_iload_4 (pc := 59) hc dX0_becomeSum_59 ?_
        refine J_aloadn_3 (pc := 61) hc dX0_becomeSum_61 ?_
        refine gX0_15 (pc := 62) hc (by omega) dX0_becomeSum_62 ?_
        refine J_iload_5 (pc := 65) hc dX0_becomeSum_65 ?_
        refine J_iald (pc := 67) hc 16 (by omega) (zlen_c (by omega)) dX0_becomeSum_67 (by first | exact rfl | exact z16 _ _ | exact nI_1 _ | exact zm1 (by omega) | assumption) (by omega) ?_
        refine J_imul (pc := 68) hc dX0_becomeSum_68 ?_
        refine J_iadd (pc := 69) hc dX0_becomeSum_69 ?_
        refine J_iloadn_2 (pc := 70) hc dX0_becomeSum_70 ?_
        refine J_aloadn_1 (pc := 71) hc dX0_becomeSum_71 ?_
        refine gX0_18 (pc := 72) hc (by omega) dX0_becomeSum_72 ?_
        refine J_iload_5 (pc := 75) hc dX0_becomeSum_75 ?_
        refine J_iald (pc := 77) hc 16 (by omega) (zlen_c (by omega)) dX0_becomeSum_77 (by first | exact rfl | exact z16 _ _ | exact nI_1 _ | exact zm1 (by omega) | assumption) (by omega) ?_
        refine J_imul (pc := 78) hc dX0_becomeSum_78 ?_
        refine J_iload_4 (pc := 79) hc dX0_becomeSum_79 ?_
        refine J_aloadn_3 (pc := 81) hc dX0_becomeSum_81 ?_
        refine gX0_18 (pc := 82) hc (by omega) dX0_becomeSum_82 ?_
        refine J_iload_5 (pc := 85) hc dX0_becomeSum_85 ?_
        refine J_iald (pc := 87) hc 16 (by omega) (zlen_c (by omega)) dX0_becomeSum_87 (by first | exact rfl | exact z16 _ _ | exact nI_1 _ | exact zm1 (by omega) | assumption) (by omega) ?_
        refine J_imul (pc := 88) hc dX0_becomeSum_88 ?_
        refine J_iadd (pc := 89) hc dX0_becomeSum_89 ?_
        refine kX0_25 (pc := 90) hc hR (by omega) dX0_becomeSum_90 (c_X0_put (by omega) (by first | rfl | assumption) (by omega)) (by decide) (Nat.le_of_ble_eq_true rfl) rfl (fun u hu => ?_)
        refine J_eq hu ?_
        refine J_iinc_5 (pc := 93) hc dX0_becomeSum_93 (by first | exact nI_1 _ | exact rfl) rfl ?_
        refine J_goto (pc := 96) hc 18 dX0_becomeSum_96 (by decide) ?_
        exact J_weak (by repeat (first | exact zle_nil | apply zle_s | apply zle_n)) (J_eq (by rw [sa_zc3_a, sa_zc3_b, sa_zc3_c, sa_zc3_n _ _ _ _ _ (by omega) (by omega) (by omega), sa_zc3_n _ _ _ _ _ (by omega) (by omega) (by omega), sa_zc3_n _ _ _ _ _ (by omega) (by omega) (by omega), sa_zc3_n _ _ _ _ _ (by omega) (by omega) (by omega), sa_zc3_n _ _ _ _ _ (by omega) (by omega) (by omega), sa_zc3_n _ _ _ _ _ (by omega) (by omega) (by omega), zc3_zc3]; exact zc3_eq (zfill_succ _ _ _) (zfill_succ _ _ _) (zfill_succ _ _ _)) (ih18 _ (by omega) (i + 1) rfl (by omega)))
  exact J_weak (by repeat (first | exact zle_nil | apply zle_s | apply zle_n)) (J_eq (by rw [zfill_0, zfill_0, zfill_0]; exact (zc3_self (ui σ 6 (nI n)) 6).symm) (hL18 _ 0 rfl (by omega)))
set_option maxRecDepth 100000 in
set_option maxHeartbeats 4000000 in
theorem c_X0_becomeSloped {l : Launch} {gg : zG} {σ : zS} {j n : Nat} (hj : j < 6) (hs : si σ j = nI n) (hn : n ≤ 16) : zMv l gg yX0_becomeSloped cX0_becomeSloped 3 1 24 [.ref (zc gg 6), .ref (zc gg j)] σ (fun u => u = (zc3 (ui σ 6 (nI n)) 6 (zfill n (sa σ (7 + j)) (sa σ 6)) (zfill n (fun i => 2 * sa σ (14 + j) i) (sa σ (7 + 6))) (zfill n (fun _ => 0) (sa σ (14 + 6))))) := by
  refine zM_v (own := RX0) (lv := [some (.ref (zc gg 6)), some (.ref (zc gg j)), none]) (by decide +kernel) rfl (Nat.le_of_ble_eq_true rfl) rfl (fun cx hc hR hI => ?_)
  refine J_aloadn_0 (pc := 0) hc dX0_becomeSloped_0 ?_
  refine J_aloadn_1 (pc := 1) hc dX0_becomeSloped_1 ?_
  refine gX0_21 (pc := 2) hc (by omega) dX0_becomeSloped_2 ?_
  refine J_topi hs ?_
  refine pX0_21 (pc := 5) hc (by omega) dX0_becomeSloped_5 ?_
  refine J_iconst (pc := 8) hc dX0_becomeSloped_8 (v := 0) (by decide) ?_
  refine J_istoren_2 (pc := 9) hc dX0_becomeSloped_9 rfl ?_
  have hL10 : ∀ (μ : Nat) (i : Nat), n - i = μ → i ≤ n → J cx gg (zQv cx gg (fun u => u = (zc3 (ui σ 6 (nI n)) 6 (zfill n (sa σ (7 + j)) (sa σ 6)) (zfill n (fun i => 2 * sa σ (14 + j) i) (sa σ (7 + 6))) (zfill n (fun _ => 0) (sa σ (14 + 6)))))) (zc3 (ui σ 6 (nI n)) 6 (zfill i (sa σ (7 + j)) (sa σ 6)) (zfill i (fun i => 2 * sa σ (14 + j) i) (sa σ (7 + 6))) (zfill i (fun _ => 0) (sa σ (14 + 6)))) 10 [some (.ref (zc gg 6)), some (.ref (zc gg j)), some (.int (nI i))] [] := by
    intro μ
    induction μ using Nat.strongRecOn with
    | ind μ ih10 =>
      intro i hμ hi
      refine J_iloadn_2 (pc := 10) hc dX0_becomeSloped_10 ?_
      refine J_aloadn_0 (pc := 11) hc dX0_becomeSloped_11 ?_
      refine gX0_21 (pc := 12) hc (by omega) dX0_becomeSloped_12 ?_
      refine J_icmp_ge (pc := 15) hc 44 dX0_becomeSloped_15 (by decide) (fun bq15 => ?_) (fun bq15 => ?_)
      · skip
        have bq15 := (zge rfl (by rw [si_zc3, si_ui_s]) (by omega) (by omega)).mp bq15
        exact J_vret (pc := 44) hc hI dX0_becomeSloped_44 (by rw [show i = n by omega])
      · skip
        have bq15 := mt (zge rfl (by rw [si_zc3, si_ui_s]) (by omega) (by omega)).mpr bq15
        refine J_aloadn_0 (pc := 18) hc dX0_becomeSloped_18 ?_
        refine J_iloadn_2 (pc := 19) hc dX0_becomeSloped_19 ?_
        refine J_aloadn_1 (pc := 20) hc dX0_becomeSloped_20 ?_
        refine gX0_15 (pc := 21) hc (by omega) dX0_becomeSloped_21 ?_
        refine J_iloadn_2 (pc := 24) hc dX0_becomeSloped_24 ?_
        refine J_iald (pc := 25) hc 16 (by omega) (zlen_c (by omega)) dX0_becomeSloped_25 (by first | exact rfl | exact z16 _ _ | exact nI_1 _ | exact zm1 (by omega) | assumption) (by omega) ?_
        refine J_iconst (pc := 26) hc dX0_becomeSloped_26 (v := 2) (by decide) ?_
        refine J_aloadn_1 (pc := 27) hc dX0_becomeSloped_27 ?_
        refine gX0_18 (pc := 28) hc (by omega) dX0_becomeSloped_28 ?_
        refine J_iloadn_2 (pc := 31) hc dX0_becomeSloped_31 ?_
        refine J_iald (pc := 32) hc 16 (by omega) (zlen_c (by omega)) dX0_becomeSloped_32 (by first | exact rfl | exact z16 _ _ | exact nI_1 _ | exact zm1 (by omega) | assumption) (by omega) ?_
        refine J_imul (pc := 33) hc dX0_becomeSloped_33 ?_
        refine J_iconst (pc := 34) hc dX0_becomeSloped_34 (v := 0) (by decide) ?_
        refine kX0_25 (pc := 35) hc hR (by omega) dX0_becomeSloped_35 (c_X0_put (by omega) (by first | rfl | assumption) (by omega)) (by decide) (Nat.le_of_ble_eq_true rfl) rfl (fun u hu => ?_)
        refine J_eq hu ?_
        refine J_iinc_2 (pc := 38) hc dX0_becomeSloped_38 (by first | exact nI_1 _ | exact rfl) rfl ?_
        refine J_goto (pc := 41) hc 10 dX0_becomeSloped_41 (by decide) ?_
        exact J_weak (by repeat (first | exact zle_nil | apply zle_s | apply zle_n)) (J_eq (by rw [sa_zc3_a, sa_zc3_b, sa_zc3_c, sa_zc3_n _ _ _ _ _ (by omega) (by omega) (by omega), sa_zc3_n _ _ _ _ _ (by omega) (by omega) (by omega), zc3_zc3]; exact zc3_eq (zfill_succ _ _ _) (zfill_succ _ _ _) (zfill_succ _ _ _)) (ih10 _ (by omega) (i + 1) rfl (by omega)))
  exact J_weak (by repeat (first | exact zle_nil | apply zle_s | apply zle_n)) (J_eq (by rw [zfill_0, zfill_0, zfill_0]; exact (zc3_self (ui σ 6 (nI n)) 6).symm) (hL10 _ 0 rfl (by omega)))
set_option maxRecDepth 100000 in
set_option maxHeartbeats 4000000 in
theorem c_X0_becomePushed {l : Launch} {gg : zG} {σ : zS} {j n : Nat} {v : Int32} (hj : j < 6) (hs : si σ j = nI n) (hn : n ≤ 16) : zMv l gg yX0_becomePushed cX0_becomePushed 4 1 24 [.ref (zc gg 6), .ref (zc gg j), .int v] σ (fun u => u = (zc3 (ui σ 6 (nI n)) 6 (zfill n (fun i => sa σ j i + v) (sa σ 6)) (zfill n (sa σ (7 + j)) (sa σ (7 + 6))) (zfill n (sa σ (14 + j)) (sa σ (14 + 6))))) := by
  refine zM_v (own := RX0) (lv := [some (.ref (zc gg 6)), some (.ref (zc gg j)), some (.int v), none]) (by decide +kernel) rfl (Nat.le_of_ble_eq_true rfl) rfl (fun cx hc hR hI => ?_)
  refine J_aloadn_0 (pc := 0) hc dX0_becomePushed_0 ?_
  refine J_aloadn_1 (pc := 1) hc dX0_becomePushed_1 ?_
  refine gX0_21 (pc := 2) hc (by omega) dX0_becomePushed_2 ?_
  refine J_topi hs ?_
  refine pX0_21 (pc := 5) hc (by omega) dX0_becomePushed_5 ?_
  refine J_iconst (pc := 8) hc dX0_becomePushed_8 (v := 0) (by decide) ?_
  refine J_istoren_3 (pc := 9) hc dX0_becomePushed_9 rfl ?_
  have hL10 : ∀ (μ : Nat) (i : Nat), n - i = μ → i ≤ n → J cx gg (zQv cx gg (fun u => u = (zc3 (ui σ 6 (nI n)) 6 (zfill n (fun i => sa σ j i + v) (sa σ 6)) (zfill n (sa σ (7 + j)) (sa σ (7 + 6))) (zfill n (sa σ (14 + j)) (sa σ (14 + 6)))))) (zc3 (ui σ 6 (nI n)) 6 (zfill i (fun i => sa σ j i + v) (sa σ 6)) (zfill i (sa σ (7 + j)) (sa σ (7 + 6))) (zfill i (sa σ (14 + j)) (sa σ (14 + 6)))) 10 [some (.ref (zc gg 6)), some (.ref (zc gg j)), some (.int v), some (.int (nI i))] [] := by
    intro μ
    induction μ using Nat.strongRecOn with
    | ind μ ih10 =>
      intro i hμ hi
      refine J_iloadn_3 (pc := 10) hc dX0_becomePushed_10 ?_
      refine J_aloadn_0 (pc := 11) hc dX0_becomePushed_11 ?_
      refine gX0_21 (pc := 12) hc (by omega) dX0_becomePushed_12 ?_
      refine J_icmp_ge (pc := 15) hc 49 dX0_becomePushed_15 (by decide) (fun bq15 => ?_) (fun bq15 => ?_)
      · skip
        have bq15 := (zge rfl (by rw [si_zc3, si_ui_s]) (by omega) (by omega)).mp bq15
        exact J_vret (pc := 49) hc hI dX0_becomePushed_49 (by rw [show i = n by omega])
      · skip
        have bq15 := mt (zge rfl (by rw [si_zc3, si_ui_s]) (by omega) (by omega)).mpr bq15
        refine J_aloadn_0 (pc := 18) hc dX0_becomePushed_18 ?_
        refine J_iloadn_3 (pc := 19) hc dX0_becomePushed_19 ?_
        refine J_aloadn_1 (pc := 20) hc dX0_becomePushed_20 ?_
        refine gX0_9 (pc := 21) hc (by omega) dX0_becomePushed_21 ?_
        refine J_iloadn_3 (pc := 24) hc dX0_becomePushed_24 ?_
        refine J_iald (pc := 25) hc 16 (by omega) (zlen_c (by omega)) dX0_becomePushed_25 (by first | exact rfl | exact z16 _ _ | exact nI_1 _ | exact zm1 (by omega) | assumption) (by omega) ?_
        refine J_iloadn_2 (pc := 26) hc dX0_becomePushed_26 ?_
        refine J_iadd (pc := 27) hc dX0_becomePushed_27 ?_
        refine J_aloadn_1 (pc := 28) hc dX0_becomePushed_28 ?_
        refine gX0_15 (pc := 29) hc (by omega) dX0_becomePushed_29 ?_
        refine J_iloadn_3 (pc := 32) hc dX0_becomePushed_32 ?_
        refine J_iald (pc := 33) hc 16 (by omega) (zlen_c (by omega)) dX0_becomePushed_33 (by first | exact rfl | exact z16 _ _ | exact nI_1 _ | exact zm1 (by omega) | assumption) (by omega) ?_
        refine J_aloadn_1 (pc := 34) hc dX0_becomePushed_34 ?_
        refine gX0_18 (pc := 35) hc (by omega) dX0_becomePushed_35 ?_
        refine J_iloadn_3 (pc := 38) hc dX0_becomePushed_38 ?_
        refine J_iald (pc := 39) hc 16 (by omega) (zlen_c (by omega)) dX0_becomePushed_39 (by first | exact rfl | exact z16 _ _ | exact nI_1 _ | exact zm1 (by omega) | assumption) (by omega) ?_
        refine kX0_25 (pc := 40) hc hR (by omega) dX0_becomePushed_40 (c_X0_put (by omega) (by first | rfl | assumption) (by omega)) (by decide) (Nat.le_of_ble_eq_true rfl) rfl (fun u hu => ?_)
        refine J_eq hu ?_
        refine J_iinc_3 (pc := 43) hc dX0_becomePushed_43 (by first | exact nI_1 _ | exact rfl) rfl ?_
        refine J_goto (pc := 46) hc 10 dX0_becomePushed_46 (by decide) ?_
        exact J_weak (by repeat (first | exact zle_nil | apply zle_s | apply zle_n)) (J_eq (by rw [sa_zc3_a, sa_zc3_b, sa_zc3_c, sa_zc3_n _ _ _ _ _ (by omega) (by omega) (by omega), sa_zc3_n _ _ _ _ _ (by omega) (by omega) (by omega), sa_zc3_n _ _ _ _ _ (by omega) (by omega) (by omega), zc3_zc3]; exact zc3_eq (zfill_succ _ _ _) (zfill_succ _ _ _) (zfill_succ _ _ _)) (ih10 _ (by omega) (i + 1) rfl (by omega)))
  exact J_weak (by repeat (first | exact zle_nil | apply zle_s | apply zle_n)) (J_eq (by rw [zfill_0, zfill_0, zfill_0]; exact (zc3_self (ui σ 6 (nI n)) 6).symm) (hL10 _ 0 rfl (by omega)))
end
section
theorem z2 (i : Nat) : 2 * nI i = nI (2 * i) := by rw [show (2 : Int32) = nI 2 from rfl, pk_mul]
theorem z21 (i : Nat) : 2 * nI i + 1 = nI (2 * i + 1) := by rw [z2, nI_1]
theorem zfill_s {f g : Nat → Int32} {i : Nat} {v : Int32} (h : v = f i) : upd (zfill i f g) i v = zfill (i + 1) f g := by rw [h]; exact zfill_succ f g i
theorem zfill_sL {f g : Nat → Int64} {i : Nat} {v : Int64} (h : v = f i) : vp_updL (zfill i f g) i v = zfill (i + 1) f g := by subst h; exact zfill_succL f g i
theorem zle0 {i : Nat} (h : i < 2 ^ 31) : nI i ≤ 0 ↔ i = 0 := by
  rw [zi_le, nI_toInt h]
  show (i : Int) ≤ 0 ↔ i = 0
  omega
theorem zct_t {p : Nat → Prop} [DecidablePred p] {n : Nat} (h : p n) : zct p (n + 1) = zct p n + 1 := by rw [zct, if_pos h]
theorem zct_f {p : Nat → Prop} [DecidablePred p] {n : Nat} (h : ¬ p n) : zct p (n + 1) = zct p n := by rw [zct, if_neg h]; rfl
theorem zbnd {r x : Int32} (h : zb r (¬ ((-(100000 : Int32)).toInt ≤ x.toInt ∧ x.toInt ≤ (100000 : Int32).toInt))) : zb r (¬ zcf x) := h.iff (by unfold zcf; rw [show (-(100000 : Int32)).toInt = -100000 by decide, show (100000 : Int32).toInt = 100000 by decide])
def zrA (σ : zS) (j : Nat) : Nat → Int32 := fun m => if m % 2 = 0 then 4 * sa σ j (m / 2) else 4 * sa σ j (m / 2) + 2 * sa σ (7 + j) (m / 2) + sa σ (14 + j) (m / 2)
def zrB (σ : zS) (j : Nat) : Nat → Int32 := fun m => if m % 2 = 0 then 2 * sa σ (7 + j) (m / 2) else 2 * sa σ (7 + j) (m / 2) + 2 * sa σ (14 + j) (m / 2)
def zrC (σ : zS) (j : Nat) : Nat → Int32 := fun m => sa σ (14 + j) (m / 2)
theorem zrA_0 (σ : zS) (j i : Nat) : 4 * sa σ j i = zrA σ j (2 * i) := by unfold zrA; rw [if_pos (by omega), show 2 * i / 2 = i by omega]
theorem zrA_1 (σ : zS) (j i : Nat) : 4 * sa σ j i + 2 * sa σ (7 + j) i + sa σ (14 + j) i = zrA σ j (2 * i + 1) := by unfold zrA; rw [if_neg (by omega), show (2 * i + 1) / 2 = i by omega]
theorem zrB_0 (σ : zS) (j i : Nat) : 2 * sa σ (7 + j) i = zrB σ j (2 * i) := by unfold zrB; rw [if_pos (by omega), show 2 * i / 2 = i by omega]
theorem zrB_1 (σ : zS) (j i : Nat) : 2 * sa σ (7 + j) i + 2 * sa σ (14 + j) i = zrB σ j (2 * i + 1) := by unfold zrB; rw [if_neg (by omega), show (2 * i + 1) / 2 = i by omega]
theorem zrC_0 (σ : zS) (j i : Nat) : sa σ (14 + j) i = zrC σ j (2 * i) := by unfold zrC; rw [show 2 * i / 2 = i by omega]
theorem zrC_1 (σ : zS) (j i : Nat) : sa σ (14 + j) i = zrC σ j (2 * i + 1) := by unfold zrC; rw [show (2 * i + 1) / 2 = i by omega]
theorem zfill_2 {f g : Nat → Int32} {i : Nat} {v w : Int32} (h : v = f (2 * i)) (h2 : w = f (2 * i + 1)) : upd (upd (zfill (2 * i) f g) (2 * i) v) (2 * i + 1) w = zfill (2 * (i + 1)) f g := by rw [zfill_s h, zfill_s h2]; rfl
def zfd (x y : Int64) : Int64 := if 0 ≤ x ^^^ y then x / y else if x / y * y = x then x / y else x / y - 1
def ztp (a b c : Int64) : Int64 := if c < 0 ∧ 0 < b ∧ b + 2 * c < 0 then a - zfd (b * b) (4 * c) else (if a < a + b + c then a + b + c else a)
theorem ztp_t {a b c : Int64} (h : c < 0 ∧ 0 < b ∧ b + 2 * c < 0) : ztp a b c = a - zfd (b * b) (4 * c) := if_pos h
theorem ztp_f {a b c : Int64} (h : ¬ (c < 0 ∧ 0 < b ∧ b + 2 * c < 0)) : ztp a b c = (if a < a + b + c then a + b + c else a) := if_neg h
def zTop (σ : zS) (k : Nat) (s : Int32) : Nat → Int64
  | 0 => ztp (s * sa σ k 0).toInt64 (s * sa σ (7 + k) 0).toInt64 (s * sa σ (14 + k) 0).toInt64
  | i + 1 => if zTop σ k s i < ztp (s * sa σ k (i + 1)).toInt64 (s * sa σ (7 + k) (i + 1)).toInt64 (s * sa σ (14 + k) (i + 1)).toInt64 then ztp (s * sa σ k (i + 1)).toInt64 (s * sa σ (7 + k) (i + 1)).toInt64 (s * sa σ (14 + k) (i + 1)).toInt64 else zTop σ k s i
theorem z4c {c : Int64} (h : -1000000 ≤ c.toInt) (h2 : ¬ 0 ≤ c) : ¬ 4 * c = 0 := by
  rw [zl_le] at h2
  rw [zl_eq, Int64.toInt_mul, show (4 : Int64).toInt = 4 by decide, Int.bmod_eq_of_le (by simp at h2; omega) (by simp at h2; omega)]
  simp at h2 ⊢
  omega
def zriP (σ : zS) (k : Nat) (s : Int32) (i : Nat) : Prop := ¬ s * sa σ (7 + k) i < 0 ∧ ¬ s * zsl σ k i < 0 ∧ (0 < i → ¬ s * (sa σ k i - zva σ k (i - 1)) < 0)
def zbuP (σ : zS) (k : Nat) (s : Int32) (i : Nat) : Prop := ¬ s * sa σ (14 + k) i < 0 ∧ (0 < i → ¬ zjn σ k i < 0 ∧ ¬ s * (sa σ (7 + k) i - zsl σ k (i - 1)) < 0)
def zzP (σ : zS) (k i : Nat) : Prop := sa σ k i = 0 ∧ sa σ (7 + k) i = 0 ∧ sa σ (14 + k) i = 0
def zbdP (σ : zS) (k i : Nat) : Prop := zcf (sa σ k i) ∧ zcf (sa σ (7 + k) i) ∧ zcf (sa σ (14 + k) i)
def zeqP (σ : zS) (f h i : Nat) : Prop := sa σ f i = sa σ h i ∧ sa σ (7 + f) i = sa σ (7 + h) i ∧ sa σ (14 + f) i = sa σ (14 + h) i
theorem znl {x : Int32} (h : 0 ≤ x) : ¬ x < 0 := by rw [zi_le] at h; rw [zi_lt]; omega
theorem znge {x : Int32} (h : ¬ 0 ≤ x) : x < 0 := by rw [zi_le] at h; rw [zi_lt]; omega
set_option maxRecDepth 100000 in
set_option maxHeartbeats 4000000 in
theorem c_X0_becomeRefined {l : Launch} {gg : zG} {σ : zS} {j n : Nat} (hj : j < 6) (hs : si σ j = nI n) (hn : n ≤ 8) : zMv l gg yX0_becomeRefined cX0_becomeRefined 7 1 24 [.ref (zc gg 6), .ref (zc gg j)] σ (fun u => u = (zc3 (ui σ 6 (nI (2 * n))) 6 (zfill (2 * n) (zrA σ j) (sa σ 6)) (zfill (2 * n) (zrB σ j) (sa σ (7 + 6))) (zfill (2 * n) (zrC σ j) (sa σ (14 + 6))))) := by
  refine zM_v (own := RX0) (lv := [some (.ref (zc gg 6)), some (.ref (zc gg j)), none, none, none, none, none]) (by decide +kernel) rfl (Nat.le_of_ble_eq_true rfl) rfl (fun cx hc hR hI => ?_)
  refine J_aloadn_1 (pc := 0) hc dX0_becomeRefined_0 ?_
  refine gX0_21 (pc := 1) hc (by omega) dX0_becomeRefined_1 ?_
  refine J_bipush (pc := 4) hc dX0_becomeRefined_4 (v := 8) (by decide) ?_
  refine kX0_29 (pc := 6) hc hR dX0_becomeRefined_6 (c_J9_min_7cf53) (by decide) (Nat.le_of_ble_eq_true rfl) rfl (fun r u hu => ?_)
  refine J_eq hu.2 (J_topi hu.1 ?_)
  refine J_topi (y := nI n) (by rw [hs, if_neg (by rw [zi_lt, nI_toInt (by omega)]; simp; omega)]) ?_
  refine J_istoren_2 (pc := 9) hc dX0_becomeRefined_9 rfl ?_
  refine J_aloadn_0 (pc := 10) hc dX0_becomeRefined_10 ?_
  refine J_iconst (pc := 11) hc dX0_becomeRefined_11 (v := 2) (by decide) ?_
  refine J_iloadn_2 (pc := 12) hc dX0_becomeRefined_12 ?_
  refine J_imul (pc := 13) hc dX0_becomeRefined_13 ?_
  refine J_topi (z2 n) ?_
  refine pX0_21 (pc := 14) hc (by omega) dX0_becomeRefined_14 ?_
  refine J_iconst (pc := 17) hc dX0_becomeRefined_17 (v := 0) (by decide) ?_
  refine J_istoren_3 (pc := 18) hc dX0_becomeRefined_18 rfl ?_
  have hL19 : ∀ (μ : Nat) (i : Nat), n - i = μ → i ≤ n → J cx gg (zQv cx gg (fun u => u = (zc3 (ui σ 6 (nI (2 * n))) 6 (zfill (2 * n) (zrA σ j) (sa σ 6)) (zfill (2 * n) (zrB σ j) (sa σ (7 + 6))) (zfill (2 * n) (zrC σ j) (sa σ (14 + 6)))))) (zc3 (ui σ 6 (nI (2 * n))) 6 (zfill (2 * i) (zrA σ j) (sa σ 6)) (zfill (2 * i) (zrB σ j) (sa σ (7 + 6))) (zfill (2 * i) (zrC σ j) (sa σ (14 + 6)))) 19 [some (.ref (zc gg 6)), some (.ref (zc gg j)), some (.int (nI n)), some (.int (nI i)), none, none, none] [] := by
    intro μ
    induction μ using Nat.strongRecOn with
    | ind μ ih19 =>
      intro i hμ hi
      refine J_iloadn_3 (pc := 19) hc dX0_becomeRefined_19 ?_
      refine J_iloadn_2 (pc := 20) hc dX0_becomeRefined_20 ?_
      refine J_icmp_ge (pc := 21) hc 103 dX0_becomeRefined_21 (by decide) (fun bq21 => ?_) (fun bq21 => ?_)
      · skip
        have bq21 := (zge rfl rfl (by omega) (by omega)).mp bq21
        exact J_vret (pc := 103) hc hI dX0_becomeRefined_103 (by rw [show i = n by omega])
      · skip
        have bq21 := mt (zge rfl rfl (by omega) (by omega)).mpr bq21
        refine J_aloadn_1 (pc := 24) hc dX0_becomeRefined_24 ?_
        refine gX0_9 (pc := 25) hc (by omega) dX0_becomeRefined_25 ?_
        refine J_iloadn_3 (pc := 28) hc dX0_becomeRefined_28 ?_
        refine J_iald (pc := 29) hc 16 (by omega) (zlen_c (by omega)) dX0_becomeRefined_29 (by first | exact rfl | exact z16 _ _ | exact nI_1 _ | exact zm1 (by omega) | assumption) (by omega) ?_
        refine J_istore_4 (pc := 30) hc dX0_becomeRefined_30 rfl ?_
        refine J_aloadn_1 (pc := 32) hc dX0_becomeRefined_32 ?_
        refine gX0_15 (pc := 33) hc (by omega) dX0_becomeRefined_33 ?_
        refine J_iloadn_3 (pc := 36) hc dX0_becomeRefined_36 ?_
        refine J_iald (pc := 37) hc 16 (by omega) (zlen_c (by omega)) dX0_becomeRefined_37 (by first | exact rfl | exact z16 _ _ | exact nI_1 _ | exact zm1 (by omega) | assumption) (by omega) ?_
        refine J_istore_5 (pc := 38) hc dX0_becomeRefined_38 rfl ?_
        refine J_aloadn_1 (pc := 40) hc dX0_becomeRefined_40 ?_
        refine gX0_18 (pc := 41) hc (by omega) dX0_becomeRefined_41 ?_
        refine J_iloadn_3 (pc := 44) hc dX0_becomeRefined_44 ?_
        refine J_iald (pc := 45) hc 16 (by omega) (zlen_c (by omega)) dX0_becomeRefined_45 (by first | exact rfl | exact z16 _ _ | exact nI_1 _ | exact zm1 (by omega) | assumption) (by omega) ?_
        refine J_istore_6 (pc := 46) hc dX0_becomeRefined_46 rfl ?_
        refine J_aloadn_0 (pc := 48) hc dX0_becomeRefined_48 ?_
        refine J_iconst (pc := 49) hc dX0_becomeRefined_49 (v := 2) (by decide) ?_
        refine J_iloadn_3 (pc := 50) hc dX0_becomeRefined_50 ?_
        refine J_imul (pc := 51) hc dX0_becomeRefined_51 ?_
        refine J_iconst (pc := 52) hc dX0_becomeRefined_52 (v := 4) (by decide) ?_
        refine J_iload_4 (pc := 53) hc dX0_becomeRefined_53 ?_
        refine J_imul (pc := 55) hc dX0_becomeRefined_55 ?_
        refine J_iconst (pc := 56) hc dX0_becomeRefined_56 (v := 2) (by decide) ?_
        refine J_iload_5 (pc := 57) hc dX0_becomeRefined_57 ?_
        refine J_imul (pc := 59) hc dX0_becomeRefined_59 ?_
        refine J_iload_6 (pc := 60) hc dX0_becomeRefined_60 ?_
        refine kX0_25 (pc := 62) hc hR (by omega) dX0_becomeRefined_62 (c_X0_put (by omega) (z2 i) (by omega)) (by decide) (Nat.le_of_ble_eq_true rfl) rfl (fun u hu => ?_)
        refine J_eq hu ?_
        refine J_aloadn_0 (pc := 65) hc dX0_becomeRefined_65 ?_
        refine J_iconst (pc := 66) hc dX0_becomeRefined_66 (v := 2) (by decide) ?_
        refine J_iloadn_3 (pc := 67) hc dX0_becomeRefined_67 ?_
        refine J_imul (pc := 68) hc dX0_becomeRefined_68 ?_
        refine J_iconst (pc := 69) hc dX0_becomeRefined_69 (v := 1) (by decide) ?_
        refine J_iadd (pc := 70) hc dX0_becomeRefined_70 ?_
        refine J_iconst (pc := 71) hc dX0_becomeRefined_71 (v := 4) (by decide) ?_
        refine J_iload_4 (pc := 72) hc dX0_becomeRefined_72 ?_
        refine J_imul (pc := 74) hc dX0_becomeRefined_74 ?_
        refine J_iconst (pc := 75) hc dX0_becomeRefined_75 (v := 2) (by decide) ?_
        refine J_iload_5 (pc := 76) hc dX0_becomeRefined_76 ?_
        refine J_imul (pc := 78) hc dX0_becomeRefined_78 ?_
        refine J_iadd (pc := 79) hc dX0_becomeRefined_79 ?_
        refine J_iload_6 (pc := 80) hc dX0_becomeRefined_80 ?_
        refine J_iadd (pc := 82) hc dX0_becomeRefined_82 ?_
        refine J_iconst (pc := 83) hc dX0_becomeRefined_83 (v := 2) (by decide) ?_
        refine J_iload_5 (pc := 84) hc dX0_becomeRefined_84 ?_
        refine J_imul (pc := 86) hc dX0_becomeRefined_86 ?_
        refine J_iconst (pc := 87) hc dX0_becomeRefined_87 (v := 2) (by decide) ?_
        refine J_iload_6 (pc := 88) hc dX0_becomeRefined_88 ?_
        refine J_imul (pc := 90) hc dX0_becomeRefined_90 ?_
        refine J_iadd (pc := 91) hc dX0_becomeRefined_91 ?_
        refine J_iload_6 (pc := 92) hc dX0_becomeRefined_92 ?_
        refine kX0_25 (pc := 94) hc hR (by omega) dX0_becomeRefined_94 (c_X0_put (by omega) (z21 i) (by omega)) (by decide) (Nat.le_of_ble_eq_true rfl) rfl (fun u hu => ?_)
        refine J_eq hu ?_
        refine J_iinc_3 (pc := 97) hc dX0_becomeRefined_97 (by first | exact nI_1 _ | exact rfl) rfl ?_
        refine J_goto (pc := 100) hc 19 dX0_becomeRefined_100 (by decide) ?_
        exact J_weak (by repeat (first | exact zle_nil | apply zle_s | apply zle_n)) (J_eq (by simp only [sa_zc3_a, sa_zc3_b, sa_zc3_c, zc3_zc3]; rw [sa_zc3_n _ _ _ _ _ (by omega) (by omega) (by omega), sa_zc3_n _ _ _ _ _ (by omega) (by omega) (by omega), sa_zc3_n _ _ _ _ _ (by omega) (by omega) (by omega)]; exact zc3_eq (zfill_2 (zrA_0 σ j i) (zrA_1 σ j i)) (zfill_2 (zrB_0 σ j i) (zrB_1 σ j i)) (zfill_2 (zrC_0 σ j i) (zrC_1 σ j i))) (ih19 _ (by omega) (i + 1) rfl (by omega)))
  exact J_weak (by repeat (first | exact zle_nil | apply zle_s | apply zle_n)) (J_eq (by rw [zfill_0, zfill_0, zfill_0]; exact (zc3_self (ui σ 6 (nI (2 * n))) 6).symm) (hL19 _ 0 rfl (by omega)))
set_option maxRecDepth 100000 in
set_option maxHeartbeats 4000000 in
theorem c_X0_isInBounds {l : Launch} {gg : zG} {σ : zS} {k n : Nat} (hk : k < 7) (hs : si σ k = nI n) (hn : n ≤ 16) : zMi l gg yX0_isInBounds cX0_isInBounds .boolean 2 1 21 [.ref (zc gg k)] σ (fun r u => zb r (∀ i, i < n → zbdP σ k i) ∧ u = σ) := by
  refine zM_i (own := RX0) (lv := [some (.ref (zc gg k)), none]) (by decide +kernel) rfl (Nat.le_of_ble_eq_true rfl) rfl (fun cx hc hR hI => ?_)
  refine J_iconst (pc := 0) hc dX0_isInBounds_0 (v := 0) (by decide) ?_
  refine J_istoren_1 (pc := 1) hc dX0_isInBounds_1 rfl ?_
  have hL2 : ∀ (μ : Nat) (i : Nat), n - i = μ → i ≤ n → (∀ j, j < i → zbdP σ k j) → J cx gg (zQi cx gg (fun r u => zb r (∀ i, i < n → zbdP σ k i) ∧ u = σ)) σ 2 [some (.ref (zc gg k)), some (.int (nI i))] [] := by
    intro μ
    induction μ using Nat.strongRecOn with
    | ind μ ih2 =>
      intro i hμ hi hall
      refine J_iloadn_1 (pc := 2) hc dX0_isInBounds_2 ?_
      refine J_aloadn_0 (pc := 3) hc dX0_isInBounds_3 ?_
      refine gX0_21 (pc := 4) hc (by omega) dX0_isInBounds_4 ?_
      refine J_icmp_ge (pc := 7) hc 60 dX0_isInBounds_7 (by decide) (fun bq7 => ?_) (fun bq7 => ?_)
      · skip
        have bq7 := (zge rfl hs (by omega) (by omega)).mp bq7
        refine J_iconst (pc := 60) hc dX0_isInBounds_60 (v := 1) (by decide) ?_
        exact J_zret (pc := 61) hc hI dX0_isInBounds_61 (by first | exact znb0 | exact znb1 | exact zb.n (by assumption)) ⟨zb_1 (fun j hj => hall j (by omega)), rfl⟩
      · skip
        have bq7 := mt (zge rfl hs (by omega) (by omega)).mpr bq7
        refine J_aloadn_0 (pc := 10) hc dX0_isInBounds_10 ?_
        refine gX0_9 (pc := 11) hc (by omega) dX0_isInBounds_11 ?_
        refine J_iloadn_1 (pc := 14) hc dX0_isInBounds_14 ?_
        refine J_iald (pc := 15) hc 16 (by omega) (zlen_c (by omega)) dX0_isInBounds_15 (by first | exact rfl | exact z16 _ _ | exact nI_1 _ | exact zm1 (by omega) | assumption) (by omega) ?_
        refine nX0_35 (pc := 16) hc dX0_isInBounds_16 ?_
        refine kX0_36 (pc := 18) hc hR dX0_isInBounds_18 (c_X3_isBeyond) (by decide) (Nat.le_of_ble_eq_true rfl) rfl (fun r u hu => ?_)
        have hr := hu.1
        refine J_eq hu.2 ?_
        refine J_if_ne (pc := 21) hc 52 dX0_isInBounds_21 (by decide) (fun bq21 => ?_) (fun bq21 => ?_)
        · skip
          refine J_iconst (pc := 52) hc dX0_isInBounds_52 (v := 0) (by decide) ?_
          exact J_zret (pc := 53) hc hI dX0_isInBounds_53 (by first | exact znb0 | exact znb1 | exact zb.n (by assumption)) ⟨zb_0 (fun h => by first | exact (zbnd hr).t bq49 (h i (by omega)).2.2 | exact (zbnd hr).t bq35 (h i (by omega)).2.1 | exact (zbnd hr).t bq21 (h i (by omega)).1), rfl⟩
        · skip
          have h1 := (zbnd hr).f bq21
          refine J_aloadn_0 (pc := 24) hc dX0_isInBounds_24 ?_
          refine gX0_15 (pc := 25) hc (by omega) dX0_isInBounds_25 ?_
          refine J_iloadn_1 (pc := 28) hc dX0_isInBounds_28 ?_
          refine J_iald (pc := 29) hc 16 (by omega) (zlen_c (by omega)) dX0_isInBounds_29 (by first | exact rfl | exact z16 _ _ | exact nI_1 _ | exact zm1 (by omega) | assumption) (by omega) ?_
          refine nX0_35 (pc := 30) hc dX0_isInBounds_30 ?_
          refine kX0_36 (pc := 32) hc hR dX0_isInBounds_32 (c_X3_isBeyond) (by decide) (Nat.le_of_ble_eq_true rfl) rfl (fun r u hu => ?_)
          have hr := hu.1
          refine J_eq hu.2 ?_
          refine J_if_ne (pc := 35) hc 52 dX0_isInBounds_35 (by decide) (fun bq35 => ?_) (fun bq35 => ?_)
          · skip
            refine J_iconst (pc := 52) hc dX0_isInBounds_52 (v := 0) (by decide) ?_
            exact J_zret (pc := 53) hc hI dX0_isInBounds_53 (by first | exact znb0 | exact znb1 | exact zb.n (by assumption)) ⟨zb_0 (fun h => by first | exact (zbnd hr).t bq49 (h i (by omega)).2.2 | exact (zbnd hr).t bq35 (h i (by omega)).2.1 | exact (zbnd hr).t bq21 (h i (by omega)).1), rfl⟩
          · skip
            have h2 := (zbnd hr).f bq35
            refine J_aloadn_0 (pc := 38) hc dX0_isInBounds_38 ?_
            refine gX0_18 (pc := 39) hc (by omega) dX0_isInBounds_39 ?_
            refine J_iloadn_1 (pc := 42) hc dX0_isInBounds_42 ?_
            refine J_iald (pc := 43) hc 16 (by omega) (zlen_c (by omega)) dX0_isInBounds_43 (by first | exact rfl | exact z16 _ _ | exact nI_1 _ | exact zm1 (by omega) | assumption) (by omega) ?_
            refine nX0_35 (pc := 44) hc dX0_isInBounds_44 ?_
            refine kX0_36 (pc := 46) hc hR dX0_isInBounds_46 (c_X3_isBeyond) (by decide) (Nat.le_of_ble_eq_true rfl) rfl (fun r u hu => ?_)
            have hr := hu.1
            refine J_eq hu.2 ?_
            refine J_if_eq (pc := 49) hc 54 dX0_isInBounds_49 (by decide) (fun bq49 => ?_) (fun bq49 => ?_)
            · skip
              have h3 := (zbnd hr).f bq49
              refine J_iinc_1 (pc := 54) hc dX0_isInBounds_54 (by first | exact nI_1 _ | exact rfl) rfl ?_
              refine J_goto (pc := 57) hc 2 dX0_isInBounds_57 (by decide) ?_
              exact J_weak (by repeat (first | exact zle_nil | apply zle_s | apply zle_n)) (ih2 _ (by omega) (i + 1) rfl (by omega) (lt_s hall ⟨Classical.not_not.mp h1, Classical.not_not.mp h2, Classical.not_not.mp h3⟩))
            · skip
              refine J_iconst (pc := 52) hc dX0_isInBounds_52 (v := 0) (by decide) ?_
              exact J_zret (pc := 53) hc hI dX0_isInBounds_53 (by first | exact znb0 | exact znb1 | exact zb.n (by assumption)) ⟨zb_0 (fun h => by first | exact (zbnd hr).t bq49 (h i (by omega)).2.2 | exact (zbnd hr).t bq35 (h i (by omega)).2.1 | exact (zbnd hr).t bq21 (h i (by omega)).1), rfl⟩
  exact J_weak (by repeat (first | exact zle_nil | apply zle_s | apply zle_n)) (hL2 _ 0 rfl (by omega) lt_0)
set_option maxRecDepth 100000 in
set_option maxHeartbeats 4000000 in
theorem c_X0_hasZeroPiece {l : Launch} {gg : zG} {σ : zS} {k n : Nat} (hk : k < 7) (hs : si σ k = nI n) (hn : n ≤ 16) : zMi l gg yX0_hasZeroPiece cX0_hasZeroPiece .boolean 2 0 0 [.ref (zc gg k)] σ (fun r u => zb r (∃ i, i < n ∧ zzP σ k i) ∧ u = σ) := by
  refine zM_i (own := RX0) (lv := [some (.ref (zc gg k)), none]) (by decide +kernel) rfl (Nat.le_of_ble_eq_true rfl) rfl (fun cx hc hR hI => ?_)
  refine J_iconst (pc := 0) hc dX0_hasZeroPiece_0 (v := 0) (by decide) ?_
  refine J_istoren_1 (pc := 1) hc dX0_hasZeroPiece_1 rfl ?_
  have hL2 : ∀ (μ : Nat) (i : Nat), n - i = μ → i ≤ n → (∀ j, j < i → ¬ zzP σ k j) → J cx gg (zQi cx gg (fun r u => zb r (∃ i, i < n ∧ zzP σ k i) ∧ u = σ)) σ 2 [some (.ref (zc gg k)), some (.int (nI i))] [] := by
    intro μ
    induction μ using Nat.strongRecOn with
    | ind μ ih2 =>
      intro i hμ hi hall
      refine J_iloadn_1 (pc := 2) hc dX0_hasZeroPiece_2 ?_
      refine J_aloadn_0 (pc := 3) hc dX0_hasZeroPiece_3 ?_
      refine gX0_21 (pc := 4) hc (by omega) dX0_hasZeroPiece_4 ?_
      refine J_icmp_ge (pc := 7) hc 45 dX0_hasZeroPiece_7 (by decide) (fun bq7 => ?_) (fun bq7 => ?_)
      · skip
        have bq7 := (zge rfl hs (by omega) (by omega)).mp bq7
        refine J_iconst (pc := 45) hc dX0_hasZeroPiece_45 (v := 0) (by decide) ?_
        exact J_zret (pc := 46) hc hI dX0_hasZeroPiece_46 (by first | exact znb0 | exact znb1 | exact zb.n (by assumption)) ⟨zb_0 (fun ⟨j, hj, h⟩ => hall j (by omega) h), rfl⟩
      · skip
        have bq7 := mt (zge rfl hs (by omega) (by omega)).mpr bq7
        refine J_aloadn_0 (pc := 10) hc dX0_hasZeroPiece_10 ?_
        refine gX0_9 (pc := 11) hc (by omega) dX0_hasZeroPiece_11 ?_
        refine J_iloadn_1 (pc := 14) hc dX0_hasZeroPiece_14 ?_
        refine J_iald (pc := 15) hc 16 (by omega) (zlen_c (by omega)) dX0_hasZeroPiece_15 (by first | exact rfl | exact z16 _ _ | exact nI_1 _ | exact zm1 (by omega) | assumption) (by omega) ?_
        refine J_if_ne (pc := 16) hc 39 dX0_hasZeroPiece_16 (by decide) (fun bq16 => ?_) (fun bq16 => ?_)
        · skip
          refine J_iinc_1 (pc := 39) hc dX0_hasZeroPiece_39 (by first | exact nI_1 _ | exact rfl) rfl ?_
          refine J_goto (pc := 42) hc 2 dX0_hasZeroPiece_42 (by decide) ?_
          exact J_weak (by repeat (first | exact zle_nil | apply zle_s | apply zle_n)) (ih2 _ (by omega) (i + 1) rfl (by omega) (lt_s hall (fun h => by first | exact bq34 h.2.2 | exact bq25 h.2.1 | exact bq16 h.1)))
        · skip
          refine J_aloadn_0 (pc := 19) hc dX0_hasZeroPiece_19 ?_
          refine gX0_15 (pc := 20) hc (by omega) dX0_hasZeroPiece_20 ?_
          refine J_iloadn_1 (pc := 23) hc dX0_hasZeroPiece_23 ?_
          refine J_iald (pc := 24) hc 16 (by omega) (zlen_c (by omega)) dX0_hasZeroPiece_24 (by first | exact rfl | exact z16 _ _ | exact nI_1 _ | exact zm1 (by omega) | assumption) (by omega) ?_
          refine J_if_ne (pc := 25) hc 39 dX0_hasZeroPiece_25 (by decide) (fun bq25 => ?_) (fun bq25 => ?_)
          · skip
            refine J_iinc_1 (pc := 39) hc dX0_hasZeroPiece_39 (by first | exact nI_1 _ | exact rfl) rfl ?_
            refine J_goto (pc := 42) hc 2 dX0_hasZeroPiece_42 (by decide) ?_
            exact J_weak (by repeat (first | exact zle_nil | apply zle_s | apply zle_n)) (ih2 _ (by omega) (i + 1) rfl (by omega) (lt_s hall (fun h => by first | exact bq34 h.2.2 | exact bq25 h.2.1 | exact bq16 h.1)))
          · skip
            refine J_aloadn_0 (pc := 28) hc dX0_hasZeroPiece_28 ?_
            refine gX0_18 (pc := 29) hc (by omega) dX0_hasZeroPiece_29 ?_
            refine J_iloadn_1 (pc := 32) hc dX0_hasZeroPiece_32 ?_
            refine J_iald (pc := 33) hc 16 (by omega) (zlen_c (by omega)) dX0_hasZeroPiece_33 (by first | exact rfl | exact z16 _ _ | exact nI_1 _ | exact zm1 (by omega) | assumption) (by omega) ?_
            refine J_if_ne (pc := 34) hc 39 dX0_hasZeroPiece_34 (by decide) (fun bq34 => ?_) (fun bq34 => ?_)
            · skip
              refine J_iinc_1 (pc := 39) hc dX0_hasZeroPiece_39 (by first | exact nI_1 _ | exact rfl) rfl ?_
              refine J_goto (pc := 42) hc 2 dX0_hasZeroPiece_42 (by decide) ?_
              exact J_weak (by repeat (first | exact zle_nil | apply zle_s | apply zle_n)) (ih2 _ (by omega) (i + 1) rfl (by omega) (lt_s hall (fun h => by first | exact bq34 h.2.2 | exact bq25 h.2.1 | exact bq16 h.1)))
            · skip
              refine J_iconst (pc := 37) hc dX0_hasZeroPiece_37 (v := 1) (by decide) ?_
              exact J_zret (pc := 38) hc hI dX0_hasZeroPiece_38 (by first | exact znb0 | exact znb1 | exact zb.n (by assumption)) ⟨zb_1 ⟨i, by omega, bq16, bq25, bq34⟩, rfl⟩
  exact J_weak (by repeat (first | exact zle_nil | apply zle_s | apply zle_n)) (hL2 _ 0 rfl (by omega) lt_0)
set_option maxRecDepth 100000 in
set_option maxHeartbeats 4000000 in
theorem c_X0_isLike {l : Launch} {gg : zG} {σ : zS} {f h n m : Nat} (hf : f < 7) (hh : h < 7) (hs : si σ f = nI n) (hs2 : si σ h = nI m) (hn : n ≤ 16) (hm : m ≤ 16) : zMi l gg yX0_isLike cX0_isLike .boolean 3 0 0 [.ref (zc gg f), .ref (zc gg h)] σ (fun r u => zb r (n = m ∧ ∀ i, i < n → zeqP σ f h i) ∧ u = σ) := by
  refine zM_i (own := RX0) (lv := [some (.ref (zc gg f)), some (.ref (zc gg h)), none]) (by decide +kernel) rfl (Nat.le_of_ble_eq_true rfl) rfl (fun cx hc hR hI => ?_)
  refine J_aloadn_0 (pc := 0) hc dX0_isLike_0 ?_
  refine gX0_21 (pc := 1) hc (by omega) dX0_isLike_1 ?_
  refine J_aloadn_1 (pc := 4) hc dX0_isLike_4 ?_
  refine gX0_21 (pc := 5) hc (by omega) dX0_isLike_5 ?_
  refine J_icmp_eq (pc := 8) hc 13 dX0_isLike_8 (by decide) (fun bq8 => ?_) (fun bq8 => ?_)
  · skip
    rw [hs, hs2, nI_eq (by omega) (by omega)] at bq8
    refine J_iconst (pc := 13) hc dX0_isLike_13 (v := 0) (by decide) ?_
    refine J_istoren_2 (pc := 14) hc dX0_isLike_14 rfl ?_
    have hL15 : ∀ (μ : Nat) (i : Nat), n - i = μ → i ≤ n → (∀ j, j < i → zeqP σ f h j) → J cx gg (zQi cx gg (fun r u => zb r (n = m ∧ ∀ i, i < n → zeqP σ f h i) ∧ u = σ)) σ 15 [some (.ref (zc gg f)), some (.ref (zc gg h)), some (.int (nI i))] [] := by
      intro μ
      induction μ using Nat.strongRecOn with
      | ind μ ih15 =>
        intro i hμ hi hall
        refine J_iloadn_2 (pc := 15) hc dX0_isLike_15 ?_
        refine J_aloadn_0 (pc := 16) hc dX0_isLike_16 ?_
        refine gX0_21 (pc := 17) hc (by omega) dX0_isLike_17 ?_
        refine J_icmp_ge (pc := 20) hc 76 dX0_isLike_20 (by decide) (fun bq20 => ?_) (fun bq20 => ?_)
        · skip
          have bq20 := (zge rfl hs (by omega) (by omega)).mp bq20
          refine J_iconst (pc := 76) hc dX0_isLike_76 (v := 1) (by decide) ?_
          exact J_zret (pc := 77) hc hI dX0_isLike_77 (by first | exact znb0 | exact znb1 | exact zb.n (by assumption)) ⟨zb_1 ⟨bq8, fun j hj => hall j (by omega)⟩, rfl⟩
        · skip
          have bq20 := mt (zge rfl hs (by omega) (by omega)).mpr bq20
          refine J_aloadn_0 (pc := 23) hc dX0_isLike_23 ?_
          refine gX0_9 (pc := 24) hc (by omega) dX0_isLike_24 ?_
          refine J_iloadn_2 (pc := 27) hc dX0_isLike_27 ?_
          refine J_iald (pc := 28) hc 16 (by omega) (zlen_c (by omega)) dX0_isLike_28 (by first | exact rfl | exact z16 _ _ | exact nI_1 _ | exact zm1 (by omega) | assumption) (by omega) ?_
          refine J_aloadn_1 (pc := 29) hc dX0_isLike_29 ?_
          refine gX0_9 (pc := 30) hc (by omega) dX0_isLike_30 ?_
          refine J_iloadn_2 (pc := 33) hc dX0_isLike_33 ?_
          refine J_iald (pc := 34) hc 16 (by omega) (zlen_c (by omega)) dX0_isLike_34 (by first | exact rfl | exact z16 _ _ | exact nI_1 _ | exact zm1 (by omega) | assumption) (by omega) ?_
          refine J_icmp_ne (pc := 35) hc 68 dX0_isLike_35 (by decide) (fun bq35 => ?_) (fun bq35 => ?_)
          · skip
            refine J_iconst (pc := 68) hc dX0_isLike_68 (v := 0) (by decide) ?_
            exact J_zret (pc := 69) hc hI dX0_isLike_69 (by first | exact znb0 | exact znb1 | exact zb.n (by assumption)) ⟨zb_0 (fun h => by first | exact bq65 (h.2 i (by omega)).2.2 | exact bq50 (h.2 i (by omega)).2.1 | exact bq35 (h.2 i (by omega)).1), rfl⟩
          · skip
            refine J_aloadn_0 (pc := 38) hc dX0_isLike_38 ?_
            refine gX0_15 (pc := 39) hc (by omega) dX0_isLike_39 ?_
            refine J_iloadn_2 (pc := 42) hc dX0_isLike_42 ?_
            refine J_iald (pc := 43) hc 16 (by omega) (zlen_c (by omega)) dX0_isLike_43 (by first | exact rfl | exact z16 _ _ | exact nI_1 _ | exact zm1 (by omega) | assumption) (by omega) ?_
            refine J_aloadn_1 (pc := 44) hc dX0_isLike_44 ?_
            refine gX0_15 (pc := 45) hc (by omega) dX0_isLike_45 ?_
            refine J_iloadn_2 (pc := 48) hc dX0_isLike_48 ?_
            refine J_iald (pc := 49) hc 16 (by omega) (zlen_c (by omega)) dX0_isLike_49 (by first | exact rfl | exact z16 _ _ | exact nI_1 _ | exact zm1 (by omega) | assumption) (by omega) ?_
            refine J_icmp_ne (pc := 50) hc 68 dX0_isLike_50 (by decide) (fun bq50 => ?_) (fun bq50 => ?_)
            · skip
              refine J_iconst (pc := 68) hc dX0_isLike_68 (v := 0) (by decide) ?_
              exact J_zret (pc := 69) hc hI dX0_isLike_69 (by first | exact znb0 | exact znb1 | exact zb.n (by assumption)) ⟨zb_0 (fun h => by first | exact bq65 (h.2 i (by omega)).2.2 | exact bq50 (h.2 i (by omega)).2.1 | exact bq35 (h.2 i (by omega)).1), rfl⟩
            · skip
              refine J_aloadn_0 (pc := 53) hc dX0_isLike_53 ?_
              refine gX0_18 (pc := 54) hc (by omega) dX0_isLike_54 ?_
              refine J_iloadn_2 (pc := 57) hc dX0_isLike_57 ?_
              refine J_iald (pc := 58) hc 16 (by omega) (zlen_c (by omega)) dX0_isLike_58 (by first | exact rfl | exact z16 _ _ | exact nI_1 _ | exact zm1 (by omega) | assumption) (by omega) ?_
              refine J_aloadn_1 (pc := 59) hc dX0_isLike_59 ?_
              refine gX0_18 (pc := 60) hc (by omega) dX0_isLike_60 ?_
              refine J_iloadn_2 (pc := 63) hc dX0_isLike_63 ?_
              refine J_iald (pc := 64) hc 16 (by omega) (zlen_c (by omega)) dX0_isLike_64 (by first | exact rfl | exact z16 _ _ | exact nI_1 _ | exact zm1 (by omega) | assumption) (by omega) ?_
              refine J_icmp_eq (pc := 65) hc 70 dX0_isLike_65 (by decide) (fun bq65 => ?_) (fun bq65 => ?_)
              · skip
                refine J_iinc_2 (pc := 70) hc dX0_isLike_70 (by first | exact nI_1 _ | exact rfl) rfl ?_
                refine J_goto (pc := 73) hc 15 dX0_isLike_73 (by decide) ?_
                exact J_weak (by repeat (first | exact zle_nil | apply zle_s | apply zle_n)) (ih15 _ (by omega) (i + 1) rfl (by omega) (lt_s hall ⟨bq35, bq50, bq65⟩))
              · skip
                refine J_iconst (pc := 68) hc dX0_isLike_68 (v := 0) (by decide) ?_
                exact J_zret (pc := 69) hc hI dX0_isLike_69 (by first | exact znb0 | exact znb1 | exact zb.n (by assumption)) ⟨zb_0 (fun h => by first | exact bq65 (h.2 i (by omega)).2.2 | exact bq50 (h.2 i (by omega)).2.1 | exact bq35 (h.2 i (by omega)).1), rfl⟩
    exact J_weak (by repeat (first | exact zle_nil | apply zle_s | apply zle_n)) (hL15 _ 0 rfl (by omega) lt_0)
  · skip
    rw [hs, hs2, nI_eq (by omega) (by omega)] at bq8
    refine J_iconst (pc := 11) hc dX0_isLike_11 (v := 0) (by decide) ?_
    exact J_zret (pc := 12) hc hI dX0_isLike_12 (by first | exact znb0 | exact znb1 | exact zb.n (by assumption)) ⟨zb_0 (fun h => bq8 h.1), rfl⟩
set_option maxRecDepth 100000 in
set_option maxHeartbeats 4000000 in
theorem c_X0_knotsJoined {l : Launch} {gg : zG} {σ : zS} {k n : Nat} {w : Int32} (hk : k < 7) (hs : si σ k = nI n) (h1 : 1 ≤ n) (hn : n ≤ 16) : zMi l gg yX0_knotsJoined cX0_knotsJoined .int 4 2 43 [.ref (zc gg k), .int w] σ (fun r u => r = nI (zct (fun i => 1 ≤ i ∧ zjn σ k i = w) n) ∧ u = σ) := by
  refine zM_i (own := RX0) (lv := [some (.ref (zc gg k)), some (.int w), none, none]) (by decide +kernel) rfl (Nat.le_of_ble_eq_true rfl) rfl (fun cx hc hR hI => ?_)
  refine J_iconst (pc := 0) hc dX0_knotsJoined_0 (v := 0) (by decide) ?_
  refine J_istoren_2 (pc := 1) hc dX0_knotsJoined_1 rfl ?_
  refine J_iconst (pc := 2) hc dX0_knotsJoined_2 (v := 1) (by decide) ?_
  refine J_istoren_3 (pc := 3) hc dX0_knotsJoined_3 rfl ?_
  have hL4 : ∀ (μ : Nat) (i : Nat), n - i = μ → 1 ≤ i → i ≤ n → J cx gg (zQi cx gg (fun r u => r = nI (zct (fun i => 1 ≤ i ∧ zjn σ k i = w) n) ∧ u = σ)) σ 4 [some (.ref (zc gg k)), some (.int w), some (.int (nI (zct (fun i => 1 ≤ i ∧ zjn σ k i = w) i))), some (.int (nI i))] [] := by
    intro μ
    induction μ using Nat.strongRecOn with
    | ind μ ih4 =>
      intro i hμ hi1 hi
      refine J_iloadn_3 (pc := 4) hc dX0_knotsJoined_4 ?_
      refine J_aloadn_0 (pc := 5) hc dX0_knotsJoined_5 ?_
      refine gX0_21 (pc := 6) hc (by omega) dX0_knotsJoined_6 ?_
      refine J_icmp_ge (pc := 9) hc 30 dX0_knotsJoined_9 (by decide) (fun bq9 => ?_) (fun bq9 => ?_)
      · skip
        have bq9 := (zge rfl hs (by omega) (by omega)).mp bq9
        refine J_iloadn_2 (pc := 30) hc dX0_knotsJoined_30 ?_
        exact J_iret (pc := 31) hc hI dX0_knotsJoined_31 ⟨by rw [show i = n by omega], rfl⟩
      · skip
        have bq9 := mt (zge rfl hs (by omega) (by omega)).mpr bq9
        refine J_aloadn_0 (pc := 12) hc dX0_knotsJoined_12 ?_
        refine J_iloadn_3 (pc := 13) hc dX0_knotsJoined_13 ?_
        refine kX0_47 (pc := 14) hc hR (by omega) dX0_knotsJoined_14 (c_X0_joinAt (by omega) (by first | rfl | assumption) (by omega) (by omega)) (by decide) (Nat.le_of_ble_eq_true rfl) rfl (fun r u hu => ?_)
        refine J_eq hu.2 (J_topi hu.1 ?_)
        refine J_iloadn_1 (pc := 17) hc dX0_knotsJoined_17 ?_
        refine J_icmp_ne (pc := 18) hc 24 dX0_knotsJoined_18 (by decide) (fun bq18 => ?_) (fun bq18 => ?_)
        · skip
          refine J_iinc_3 (pc := 24) hc dX0_knotsJoined_24 (by first | exact nI_1 _ | exact rfl) rfl ?_
          refine J_goto (pc := 27) hc 4 dX0_knotsJoined_27 (by decide) ?_
          first | (rw [← zct_t (p := fun i => 1 ≤ i ∧ zjn σ k i = w) (n := i) ⟨hi1, bq18⟩]; exact J_weak (by repeat (first | exact zle_nil | apply zle_s | apply zle_n)) (ih4 _ (by omega) (i + 1) rfl (by omega) (by omega))) | (rw [← zct_f (p := fun i => 1 ≤ i ∧ zjn σ k i = w) (n := i) (fun h => bq18 h.2)]; exact J_weak (by repeat (first | exact zle_nil | apply zle_s | apply zle_n)) (ih4 _ (by omega) (i + 1) rfl (by omega) (by omega)))
        · skip
          refine J_iinc_2 (pc := 21) hc dX0_knotsJoined_21 (by first | exact nI_1 _ | exact rfl) rfl ?_
          refine J_iinc_3 (pc := 24) hc dX0_knotsJoined_24 (by first | exact nI_1 _ | exact rfl) rfl ?_
          refine J_goto (pc := 27) hc 4 dX0_knotsJoined_27 (by decide) ?_
          first | (rw [← zct_t (p := fun i => 1 ≤ i ∧ zjn σ k i = w) (n := i) ⟨hi1, bq18⟩]; exact J_weak (by repeat (first | exact zle_nil | apply zle_s | apply zle_n)) (ih4 _ (by omega) (i + 1) rfl (by omega) (by omega))) | (rw [← zct_f (p := fun i => 1 ≤ i ∧ zjn σ k i = w) (n := i) (fun h => bq18 h.2)]; exact J_weak (by repeat (first | exact zle_nil | apply zle_s | apply zle_n)) (ih4 _ (by omega) (i + 1) rfl (by omega) (by omega)))
  exact J_weak (by repeat (first | exact zle_nil | apply zle_s | apply zle_n)) (hL4 _ 1 rfl (by omega) (by omega))
set_option maxRecDepth 100000 in
set_option maxHeartbeats 4000000 in
theorem c_X0_isRising {l : Launch} {gg : zG} {σ : zS} {k n : Nat} {s : Int32} (hk : k < 7) (hs : si σ k = nI n) (hn : n ≤ 16) : zMi l gg yX0_isRising cX0_isRising .boolean 3 1 21 [.ref (zc gg k), .int s] σ (fun r u => zb r (∀ i, i < n → zriP σ k s i) ∧ u = σ) := by
  refine zM_i (own := RX0) (lv := [some (.ref (zc gg k)), some (.int s), none]) (by decide +kernel) rfl (Nat.le_of_ble_eq_true rfl) rfl (fun cx hc hR hI => ?_)
  refine J_iconst (pc := 0) hc dX0_isRising_0 (v := 0) (by decide) ?_
  refine J_istoren_2 (pc := 1) hc dX0_isRising_1 rfl ?_
  have hL2 : ∀ (μ : Nat) (i : Nat), n - i = μ → i ≤ n → (∀ j, j < i → zriP σ k s j) → J cx gg (zQi cx gg (fun r u => zb r (∀ i, i < n → zriP σ k s i) ∧ u = σ)) σ 2 [some (.ref (zc gg k)), some (.int s), some (.int (nI i))] [] := by
    intro μ
    induction μ using Nat.strongRecOn with
    | ind μ ih2 =>
      intro i hμ hi hall
      refine J_iloadn_2 (pc := 2) hc dX0_isRising_2 ?_
      refine J_aloadn_0 (pc := 3) hc dX0_isRising_3 ?_
      refine gX0_21 (pc := 4) hc (by omega) dX0_isRising_4 ?_
      refine J_icmp_ge (pc := 7) hc 64 dX0_isRising_7 (by decide) (fun bq7 => ?_) (fun bq7 => ?_)
      · skip
        have bq7 := (zge rfl hs (by omega) (by omega)).mp bq7
        refine J_iconst (pc := 64) hc dX0_isRising_64 (v := 1) (by decide) ?_
        exact J_zret (pc := 65) hc hI dX0_isRising_65 (by first | exact znb0 | exact znb1 | exact zb.n (by assumption)) ⟨zb_1 (fun j hj => hall j (by omega)), rfl⟩
      · skip
        have bq7 := mt (zge rfl hs (by omega) (by omega)).mpr bq7
        refine J_iloadn_1 (pc := 10) hc dX0_isRising_10 ?_
        refine J_aloadn_0 (pc := 11) hc dX0_isRising_11 ?_
        refine gX0_15 (pc := 12) hc (by omega) dX0_isRising_12 ?_
        refine J_iloadn_2 (pc := 15) hc dX0_isRising_15 ?_
        refine J_iald (pc := 16) hc 16 (by omega) (zlen_c (by omega)) dX0_isRising_16 (by first | exact rfl | exact z16 _ _ | exact nI_1 _ | exact zm1 (by omega) | assumption) (by omega) ?_
        refine J_imul (pc := 17) hc dX0_isRising_17 ?_
        refine J_if_lt (pc := 18) hc 31 dX0_isRising_18 (by decide) (fun bq18 => ?_) (fun bq18 => ?_)
        · skip
          refine J_iconst (pc := 31) hc dX0_isRising_31 (v := 0) (by decide) ?_
          exact J_zret (pc := 32) hc hI dX0_isRising_32 (by first | exact znb0 | exact znb1 | exact zb.n (by assumption)) ⟨zb_0 (fun h => by first | exact (h i (by omega)).2.1 (znge bq28) | exact (h i (by omega)).1 bq18), rfl⟩
        · skip
          refine J_iloadn_1 (pc := 21) hc dX0_isRising_21 ?_
          refine J_aloadn_0 (pc := 22) hc dX0_isRising_22 ?_
          refine J_iloadn_2 (pc := 23) hc dX0_isRising_23 ?_
          refine kX0_44 (pc := 24) hc hR (by omega) dX0_isRising_24 (c_X0_slopeAtEnd (by omega) (by first | rfl | assumption) (by omega)) (by decide) (Nat.le_of_ble_eq_true rfl) rfl (fun r u hu => ?_)
          refine J_eq hu.2 (J_topi hu.1 ?_)
          refine J_imul (pc := 27) hc dX0_isRising_27 ?_
          refine J_if_ge (pc := 28) hc 33 dX0_isRising_28 (by decide) (fun bq28 => ?_) (fun bq28 => ?_)
          · skip
            refine J_iloadn_2 (pc := 33) hc dX0_isRising_33 ?_
            refine J_if_le (pc := 34) hc 58 dX0_isRising_34 (by decide) (fun bq34 => ?_) (fun bq34 => ?_)
            · skip
              have bq34 := (zle0 (by omega)).mp bq34
              refine J_iinc_2 (pc := 58) hc dX0_isRising_58 (by first | exact nI_1 _ | exact rfl) rfl ?_
              refine J_goto (pc := 61) hc 2 dX0_isRising_61 (by decide) ?_
              exact J_weak (by repeat (first | exact zle_nil | apply zle_s | apply zle_n)) (ih2 _ (by omega) (i + 1) rfl (by omega) (lt_s hall ⟨bq18, znl bq28, fun h => by first | exact znl bq53 | omega⟩))
            · skip
              have bq34 := mt (zle0 (by omega)).mpr bq34
              refine J_iloadn_1 (pc := 37) hc dX0_isRising_37 ?_
              refine J_aloadn_0 (pc := 38) hc dX0_isRising_38 ?_
              refine gX0_9 (pc := 39) hc (by omega) dX0_isRising_39 ?_
              refine J_iloadn_2 (pc := 42) hc dX0_isRising_42 ?_
              refine J_iald (pc := 43) hc 16 (by omega) (zlen_c (by omega)) dX0_isRising_43 (by first | exact rfl | exact z16 _ _ | exact nI_1 _ | exact zm1 (by omega) | assumption) (by omega) ?_
              refine J_aloadn_0 (pc := 44) hc dX0_isRising_44 ?_
              refine J_iloadn_2 (pc := 45) hc dX0_isRising_45 ?_
              refine J_iconst (pc := 46) hc dX0_isRising_46 (v := 1) (by decide) ?_
              refine J_isub (pc := 47) hc dX0_isRising_47 ?_
              refine kX0_40 (pc := 48) hc hR (by omega) dX0_isRising_48 (c_X0_valueAtEnd (by omega) (zm1 (by omega)) (by omega)) (by decide) (Nat.le_of_ble_eq_true rfl) rfl (fun r u hu => ?_)
              refine J_eq hu.2 (J_topi hu.1 ?_)
              refine J_isub (pc := 51) hc dX0_isRising_51 ?_
              refine J_imul (pc := 52) hc dX0_isRising_52 ?_
              refine J_if_ge (pc := 53) hc 58 dX0_isRising_53 (by decide) (fun bq53 => ?_) (fun bq53 => ?_)
              · skip
                refine J_iinc_2 (pc := 58) hc dX0_isRising_58 (by first | exact nI_1 _ | exact rfl) rfl ?_
                refine J_goto (pc := 61) hc 2 dX0_isRising_61 (by decide) ?_
                exact J_weak (by repeat (first | exact zle_nil | apply zle_s | apply zle_n)) (ih2 _ (by omega) (i + 1) rfl (by omega) (lt_s hall ⟨bq18, znl bq28, fun h => by first | exact znl bq53 | omega⟩))
              · skip
                refine J_iconst (pc := 56) hc dX0_isRising_56 (v := 0) (by decide) ?_
                exact J_zret (pc := 57) hc hI dX0_isRising_57 (by first | exact znb0 | exact znb1 | exact zb.n (by assumption)) ⟨zb_0 (fun h => (h i (by omega)).2.2 (by omega) (znge bq53)), rfl⟩
          · skip
            refine J_iconst (pc := 31) hc dX0_isRising_31 (v := 0) (by decide) ?_
            exact J_zret (pc := 32) hc hI dX0_isRising_32 (by first | exact znb0 | exact znb1 | exact zb.n (by assumption)) ⟨zb_0 (fun h => by first | exact (h i (by omega)).2.1 (znge bq28) | exact (h i (by omega)).1 bq18), rfl⟩
  exact J_weak (by repeat (first | exact zle_nil | apply zle_s | apply zle_n)) (hL2 _ 0 rfl (by omega) lt_0)
set_option maxRecDepth 100000 in
set_option maxHeartbeats 4000000 in
theorem c_X0_isBentUp {l : Launch} {gg : zG} {σ : zS} {k n : Nat} {s : Int32} (hk : k < 7) (hs : si σ k = nI n) (hn : n ≤ 16) : zMi l gg yX0_isBentUp cX0_isBentUp .boolean 3 2 43 [.ref (zc gg k), .int s] σ (fun r u => zb r (∀ i, i < n → zbuP σ k s i) ∧ u = σ) := by
  refine zM_i (own := RX0) (lv := [some (.ref (zc gg k)), some (.int s), none]) (by decide +kernel) rfl (Nat.le_of_ble_eq_true rfl) rfl (fun cx hc hR hI => ?_)
  refine J_iconst (pc := 0) hc dX0_isBentUp_0 (v := 0) (by decide) ?_
  refine J_istoren_2 (pc := 1) hc dX0_isBentUp_1 rfl ?_
  have hL2 : ∀ (μ : Nat) (i : Nat), n - i = μ → i ≤ n → (∀ j, j < i → zbuP σ k s j) → J cx gg (zQi cx gg (fun r u => zb r (∀ i, i < n → zbuP σ k s i) ∧ u = σ)) σ 2 [some (.ref (zc gg k)), some (.int s), some (.int (nI i))] [] := by
    intro μ
    induction μ using Nat.strongRecOn with
    | ind μ ih2 =>
      intro i hμ hi hall
      refine J_iloadn_2 (pc := 2) hc dX0_isBentUp_2 ?_
      refine J_aloadn_0 (pc := 3) hc dX0_isBentUp_3 ?_
      refine gX0_21 (pc := 4) hc (by omega) dX0_isBentUp_4 ?_
      refine J_icmp_ge (pc := 7) hc 62 dX0_isBentUp_7 (by decide) (fun bq7 => ?_) (fun bq7 => ?_)
      · skip
        have bq7 := (zge rfl hs (by omega) (by omega)).mp bq7
        refine J_iconst (pc := 62) hc dX0_isBentUp_62 (v := 1) (by decide) ?_
        exact J_zret (pc := 63) hc hI dX0_isBentUp_63 (by first | exact znb0 | exact znb1 | exact zb.n (by assumption)) ⟨zb_1 (fun j hj => hall j (by omega)), rfl⟩
      · skip
        have bq7 := mt (zge rfl hs (by omega) (by omega)).mpr bq7
        refine J_iloadn_1 (pc := 10) hc dX0_isBentUp_10 ?_
        refine J_aloadn_0 (pc := 11) hc dX0_isBentUp_11 ?_
        refine gX0_18 (pc := 12) hc (by omega) dX0_isBentUp_12 ?_
        refine J_iloadn_2 (pc := 15) hc dX0_isBentUp_15 ?_
        refine J_iald (pc := 16) hc 16 (by omega) (zlen_c (by omega)) dX0_isBentUp_16 (by first | exact rfl | exact z16 _ _ | exact nI_1 _ | exact zm1 (by omega) | assumption) (by omega) ?_
        refine J_imul (pc := 17) hc dX0_isBentUp_17 ?_
        refine J_if_ge (pc := 18) hc 23 dX0_isBentUp_18 (by decide) (fun bq18 => ?_) (fun bq18 => ?_)
        · skip
          refine J_iloadn_2 (pc := 23) hc dX0_isBentUp_23 ?_
          refine J_if_le (pc := 24) hc 56 dX0_isBentUp_24 (by decide) (fun bq24 => ?_) (fun bq24 => ?_)
          · skip
            have bq24 := (zle0 (by omega)).mp bq24
            refine J_iinc_2 (pc := 56) hc dX0_isBentUp_56 (by first | exact nI_1 _ | exact rfl) rfl ?_
            refine J_goto (pc := 59) hc 2 dX0_isBentUp_59 (by decide) ?_
            exact J_weak (by repeat (first | exact zle_nil | apply zle_s | apply zle_n)) (ih2 _ (by omega) (i + 1) rfl (by omega) (lt_s hall ⟨znl bq18, fun h => by first | exact ⟨bq32, znl bq51⟩ | omega⟩))
          · skip
            have bq24 := mt (zle0 (by omega)).mpr bq24
            refine J_aloadn_0 (pc := 27) hc dX0_isBentUp_27 ?_
            refine J_iloadn_2 (pc := 28) hc dX0_isBentUp_28 ?_
            refine kX0_47 (pc := 29) hc hR (by omega) dX0_isBentUp_29 (c_X0_joinAt (by omega) (by first | rfl | assumption) (by omega) (by omega)) (by decide) (Nat.le_of_ble_eq_true rfl) rfl (fun r u hu => ?_)
            refine J_eq hu.2 (J_topi hu.1 ?_)
            refine J_if_lt (pc := 32) hc 54 dX0_isBentUp_32 (by decide) (fun bq32 => ?_) (fun bq32 => ?_)
            · skip
              refine J_iconst (pc := 54) hc dX0_isBentUp_54 (v := 0) (by decide) ?_
              exact J_zret (pc := 55) hc hI dX0_isBentUp_55 (by first | exact znb0 | exact znb1 | exact zb.n (by assumption)) ⟨zb_0 (fun h => by first | exact ((h i (by omega)).2 (by omega)).2 (znge bq51) | exact ((h i (by omega)).2 (by omega)).1 bq32), rfl⟩
            · skip
              refine J_iloadn_1 (pc := 35) hc dX0_isBentUp_35 ?_
              refine J_aloadn_0 (pc := 36) hc dX0_isBentUp_36 ?_
              refine gX0_15 (pc := 37) hc (by omega) dX0_isBentUp_37 ?_
              refine J_iloadn_2 (pc := 40) hc dX0_isBentUp_40 ?_
              refine J_iald (pc := 41) hc 16 (by omega) (zlen_c (by omega)) dX0_isBentUp_41 (by first | exact rfl | exact z16 _ _ | exact nI_1 _ | exact zm1 (by omega) | assumption) (by omega) ?_
              refine J_aloadn_0 (pc := 42) hc dX0_isBentUp_42 ?_
              refine J_iloadn_2 (pc := 43) hc dX0_isBentUp_43 ?_
              refine J_iconst (pc := 44) hc dX0_isBentUp_44 (v := 1) (by decide) ?_
              refine J_isub (pc := 45) hc dX0_isBentUp_45 ?_
              refine kX0_44 (pc := 46) hc hR (by omega) dX0_isBentUp_46 (c_X0_slopeAtEnd (by omega) (zm1 (by omega)) (by omega)) (by decide) (Nat.le_of_ble_eq_true rfl) rfl (fun r u hu => ?_)
              refine J_eq hu.2 (J_topi hu.1 ?_)
              refine J_isub (pc := 49) hc dX0_isBentUp_49 ?_
              refine J_imul (pc := 50) hc dX0_isBentUp_50 ?_
              refine J_if_ge (pc := 51) hc 56 dX0_isBentUp_51 (by decide) (fun bq51 => ?_) (fun bq51 => ?_)
              · skip
                refine J_iinc_2 (pc := 56) hc dX0_isBentUp_56 (by first | exact nI_1 _ | exact rfl) rfl ?_
                refine J_goto (pc := 59) hc 2 dX0_isBentUp_59 (by decide) ?_
                exact J_weak (by repeat (first | exact zle_nil | apply zle_s | apply zle_n)) (ih2 _ (by omega) (i + 1) rfl (by omega) (lt_s hall ⟨znl bq18, fun h => by first | exact ⟨bq32, znl bq51⟩ | omega⟩))
              · skip
                refine J_iconst (pc := 54) hc dX0_isBentUp_54 (v := 0) (by decide) ?_
                exact J_zret (pc := 55) hc hI dX0_isBentUp_55 (by first | exact znb0 | exact znb1 | exact zb.n (by assumption)) ⟨zb_0 (fun h => by first | exact ((h i (by omega)).2 (by omega)).2 (znge bq51) | exact ((h i (by omega)).2 (by omega)).1 bq32), rfl⟩
        · skip
          refine J_iconst (pc := 21) hc dX0_isBentUp_21 (v := 0) (by decide) ?_
          exact J_zret (pc := 22) hc hI dX0_isBentUp_22 (by first | exact znb0 | exact znb1 | exact zb.n (by assumption)) ⟨zb_0 (fun h => (h i (by omega)).1 (znge bq18)), rfl⟩
  exact J_weak (by repeat (first | exact zle_nil | apply zle_s | apply zle_n)) (hL2 _ 0 rfl (by omega) lt_0)
set_option maxRecDepth 100000 in
set_option maxHeartbeats 4000000 in
theorem c_X0_topOfPiece {l : Launch} {gg : zG} {σ : zS} {a b c : Int64} (hb : -1000000 ≤ c.toInt) : zMl l gg yX0_topOfPiece cX0_topOfPiece 8 1 25 [.long a, .long b, .long c] σ (fun r u => r = ztp a b c ∧ u = σ) := by
  refine zM_l (own := RX0) (lv := [some (.long a), none, some (.long b), none, some (.long c), none, none, none]) (by decide +kernel) rfl (Nat.le_of_ble_eq_true rfl) rfl (fun cx hc hR hI => ?_)
  refine J_lloadn_0 (pc := 0) hc dX0_topOfPiece_0 ?_
  refine J_lloadn_0 (pc := 1) hc dX0_topOfPiece_1 ?_
  refine J_lloadn_2 (pc := 2) hc dX0_topOfPiece_2 ?_
  refine J_ladd (pc := 3) hc dX0_topOfPiece_3 ?_
  refine J_lload_4 (pc := 4) hc dX0_topOfPiece_4 ?_
  refine J_ladd (pc := 6) hc dX0_topOfPiece_6 ?_
  refine kX0_54 (pc := 7) hc hR dX0_topOfPiece_7 (c_J9_max_f86c9) (by decide) (Nat.le_of_ble_eq_true rfl) rfl (fun r u hu => ?_)
  refine J_eq hu.2 (J_topl hu.1 ?_)
  refine J_lstore_6 (pc := 10) hc dX0_topOfPiece_10 rfl ?_
  refine J_lload_4 (pc := 12) hc dX0_topOfPiece_12 ?_
  refine J_lconst (pc := 14) hc dX0_topOfPiece_14 (v := 0) (by decide) ?_
  refine J_lcmp_ge (pc := 15) hc 54 dX0_topOfPiece_15 dX0_topOfPiece_16 (by decide) (fun bq15 => ?_) (fun bq15 => ?_)
  · skip
    refine J_lload_6 (pc := 54) hc dX0_topOfPiece_54 ?_
    exact J_lret (pc := 56) hc hI dX0_topOfPiece_56 (by first | exact ⟨(ztp_t ⟨by rw [zl_le] at bq15; rw [zl_lt]; omega, by rw [zl_le] at bq21; rw [zl_lt]; omega, by rw [zl_le] at bq34; rw [zl_lt]; omega⟩).symm, rfl⟩ | exact ⟨(ztp_f (fun h => by have h3 := h.2.2; rw [zl_lt] at h3; rw [zl_le] at bq34; omega)).symm, rfl⟩ | exact ⟨(ztp_f (fun h => by have h3 := h.2.1; rw [zl_lt] at h3; rw [zl_le] at bq21; omega)).symm, rfl⟩ | exact ⟨(ztp_f (fun h => by have h3 := h.1; rw [zl_lt] at h3; rw [zl_le] at bq15; omega)).symm, rfl⟩)
  · skip
    refine J_lloadn_2 (pc := 19) hc dX0_topOfPiece_19 ?_
    refine J_lconst (pc := 20) hc dX0_topOfPiece_20 (v := 0) (by decide) ?_
    refine J_lcmp_le (pc := 21) hc 54 dX0_topOfPiece_21 dX0_topOfPiece_22 (by decide) (fun bq21 => ?_) (fun bq21 => ?_)
    · skip
      refine J_lload_6 (pc := 54) hc dX0_topOfPiece_54 ?_
      exact J_lret (pc := 56) hc hI dX0_topOfPiece_56 (by first | exact ⟨(ztp_t ⟨by rw [zl_le] at bq15; rw [zl_lt]; omega, by rw [zl_le] at bq21; rw [zl_lt]; omega, by rw [zl_le] at bq34; rw [zl_lt]; omega⟩).symm, rfl⟩ | exact ⟨(ztp_f (fun h => by have h3 := h.2.2; rw [zl_lt] at h3; rw [zl_le] at bq34; omega)).symm, rfl⟩ | exact ⟨(ztp_f (fun h => by have h3 := h.2.1; rw [zl_lt] at h3; rw [zl_le] at bq21; omega)).symm, rfl⟩ | exact ⟨(ztp_f (fun h => by have h3 := h.1; rw [zl_lt] at h3; rw [zl_le] at bq15; omega)).symm, rfl⟩)
    · skip
      refine J_lloadn_2 (pc := 25) hc dX0_topOfPiece_25 ?_
      refine nX0_58 (pc := 26) hc dX0_topOfPiece_26 ?_
      refine J_lload_4 (pc := 29) hc dX0_topOfPiece_29 ?_
      refine J_lmul (pc := 31) hc dX0_topOfPiece_31 ?_
      refine J_ladd (pc := 32) hc dX0_topOfPiece_32 ?_
      refine J_lconst (pc := 33) hc dX0_topOfPiece_33 (v := 0) (by decide) ?_
      refine J_lcmp_ge (pc := 34) hc 54 dX0_topOfPiece_34 dX0_topOfPiece_35 (by decide) (fun bq34 => ?_) (fun bq34 => ?_)
      · skip
        refine J_lload_6 (pc := 54) hc dX0_topOfPiece_54 ?_
        exact J_lret (pc := 56) hc hI dX0_topOfPiece_56 (by first | exact ⟨(ztp_t ⟨by rw [zl_le] at bq15; rw [zl_lt]; omega, by rw [zl_le] at bq21; rw [zl_lt]; omega, by rw [zl_le] at bq34; rw [zl_lt]; omega⟩).symm, rfl⟩ | exact ⟨(ztp_f (fun h => by have h3 := h.2.2; rw [zl_lt] at h3; rw [zl_le] at bq34; omega)).symm, rfl⟩ | exact ⟨(ztp_f (fun h => by have h3 := h.2.1; rw [zl_lt] at h3; rw [zl_le] at bq21; omega)).symm, rfl⟩ | exact ⟨(ztp_f (fun h => by have h3 := h.1; rw [zl_lt] at h3; rw [zl_le] at bq15; omega)).symm, rfl⟩)
      · skip
        refine J_lloadn_0 (pc := 38) hc dX0_topOfPiece_38 ?_
        refine J_lloadn_2 (pc := 39) hc dX0_topOfPiece_39 ?_
        refine J_lloadn_2 (pc := 40) hc dX0_topOfPiece_40 ?_
        refine J_lmul (pc := 41) hc dX0_topOfPiece_41 ?_
        refine nX0_60 (pc := 42) hc dX0_topOfPiece_42 ?_
        refine J_lload_4 (pc := 45) hc dX0_topOfPiece_45 ?_
        refine J_lmul (pc := 47) hc dX0_topOfPiece_47 ?_
        refine kX0_62 (pc := 48) hc hR dX0_topOfPiece_48 (c_J9_floorDiv_f86c9 (z4c hb bq15)) (by decide) (Nat.le_of_ble_eq_true rfl) rfl (fun r u hu => ?_)
        refine J_eq hu.2 (J_topl hu.1 ?_)
        refine J_lsub (pc := 51) hc dX0_topOfPiece_51 ?_
        refine J_lstore_6 (pc := 52) hc dX0_topOfPiece_52 rfl ?_
        refine J_lload_6 (pc := 54) hc dX0_topOfPiece_54 ?_
        exact J_lret (pc := 56) hc hI dX0_topOfPiece_56 (by first | exact ⟨(ztp_t ⟨by rw [zl_le] at bq15; rw [zl_lt]; omega, by rw [zl_le] at bq21; rw [zl_lt]; omega, by rw [zl_le] at bq34; rw [zl_lt]; omega⟩).symm, rfl⟩ | exact ⟨(ztp_f (fun h => by have h3 := h.2.2; rw [zl_lt] at h3; rw [zl_le] at bq34; omega)).symm, rfl⟩ | exact ⟨(ztp_f (fun h => by have h3 := h.2.1; rw [zl_lt] at h3; rw [zl_le] at bq21; omega)).symm, rfl⟩ | exact ⟨(ztp_f (fun h => by have h3 := h.1; rw [zl_lt] at h3; rw [zl_le] at bq15; omega)).symm, rfl⟩)
set_option maxRecDepth 100000 in
set_option maxHeartbeats 4000000 in
theorem c_X0_top {l : Launch} {gg : zG} {σ : zS} {k n : Nat} {s : Int32} (hk : k < 7) (hs : si σ k = nI n) (h1 : 1 ≤ n) (hn : n ≤ 16) (hb : ∀ i, i < n → -1000000 ≤ (s * sa σ (14 + k) i).toInt64.toInt) : zMl l gg yX0_top cX0_top 5 2 52 [.ref (zc gg k), .int s] σ (fun r u => r = zTop σ k s (n - 1) ∧ u = σ) := by
  refine zM_l (own := RX0) (lv := [some (.ref (zc gg k)), some (.int s), none, none, none]) (by decide +kernel) rfl (Nat.le_of_ble_eq_true rfl) rfl (fun cx hc hR hI => ?_)
  refine J_iloadn_1 (pc := 0) hc dX0_top_0 ?_
  refine J_aloadn_0 (pc := 1) hc dX0_top_1 ?_
  refine gX0_9 (pc := 2) hc (by omega) dX0_top_2 ?_
  refine J_iconst (pc := 5) hc dX0_top_5 (v := 0) (by decide) ?_
  refine J_iald (pc := 6) hc 16 (by omega) (zlen_c (by omega)) dX0_top_6 nI_0.symm (by omega) ?_
  refine J_imul (pc := 7) hc dX0_top_7 ?_
  refine J_i2l (pc := 8) hc dX0_top_8 ?_
  refine J_iloadn_1 (pc := 9) hc dX0_top_9 ?_
  refine J_aloadn_0 (pc := 10) hc dX0_top_10 ?_
  refine gX0_15 (pc := 11) hc (by omega) dX0_top_11 ?_
  refine J_iconst (pc := 14) hc dX0_top_14 (v := 0) (by decide) ?_
  refine J_iald (pc := 15) hc 16 (by omega) (zlen_c (by omega)) dX0_top_15 nI_0.symm (by omega) ?_
  refine J_imul (pc := 16) hc dX0_top_16 ?_
  refine J_i2l (pc := 17) hc dX0_top_17 ?_
  refine J_iloadn_1 (pc := 18) hc dX0_top_18 ?_
  refine J_aloadn_0 (pc := 19) hc dX0_top_19 ?_
  refine gX0_18 (pc := 20) hc (by omega) dX0_top_20 ?_
  refine J_iconst (pc := 23) hc dX0_top_23 (v := 0) (by decide) ?_
  refine J_iald (pc := 24) hc 16 (by omega) (zlen_c (by omega)) dX0_top_24 nI_0.symm (by omega) ?_
  refine J_imul (pc := 25) hc dX0_top_25 ?_
  refine J_i2l (pc := 26) hc dX0_top_26 ?_
  refine kX0_50 (pc := 27) hc hR dX0_top_27 (c_X0_topOfPiece (hb 0 (by omega))) (by decide) (Nat.le_of_ble_eq_true rfl) rfl (fun r u hu => ?_)
  refine J_eq hu.2 (J_topl hu.1 ?_)
  refine J_lstoren_2 (pc := 30) hc dX0_top_30 rfl ?_
  refine J_iconst (pc := 31) hc dX0_top_31 (v := 1) (by decide) ?_
  refine J_istore_4 (pc := 32) hc dX0_top_32 rfl ?_
  have hL34 : ∀ (μ : Nat) (i : Nat), n - i = μ → 1 ≤ i → i ≤ n → J cx gg (zQl cx gg (fun r u => r = zTop σ k s (n - 1) ∧ u = σ)) σ 34 [some (.ref (zc gg k)), some (.int s), some (.long (zTop σ k s (i - 1))), none, some (.int (nI i))] [] := by
    intro μ
    induction μ using Nat.strongRecOn with
    | ind μ ih34 =>
      intro i hμ hi1 hi
      refine J_iload_4 (pc := 34) hc dX0_top_34 ?_
      refine J_aloadn_0 (pc := 36) hc dX0_top_36 ?_
      refine gX0_21 (pc := 37) hc (by omega) dX0_top_37 ?_
      refine J_icmp_ge (pc := 40) hc 87 dX0_top_40 (by decide) (fun bq40 => ?_) (fun bq40 => ?_)
      · skip
        have bq40 := (zge rfl hs (by omega) (by omega)).mp bq40
        refine J_lloadn_2 (pc := 87) hc dX0_top_87 ?_
        exact J_lret (pc := 88) hc hI dX0_top_88 ⟨by rw [show i = n by omega], rfl⟩
      · skip
        have bq40 := mt (zge rfl hs (by omega) (by omega)).mpr bq40
        refine J_lloadn_2 (pc := 43) hc dX0_top_43 ?_
        refine J_iloadn_1 (pc := 44) hc dX0_top_44 ?_
        refine J_aloadn_0 (pc := 45) hc dX0_top_45 ?_
        refine gX0_9 (pc := 46) hc (by omega) dX0_top_46 ?_
        refine J_iload_4 (pc := 49) hc dX0_top_49 ?_
        refine J_iald (pc := 51) hc 16 (by omega) (zlen_c (by omega)) dX0_top_51 (by first | exact rfl | exact z16 _ _ | exact nI_1 _ | exact zm1 (by omega) | assumption) (by omega) ?_
        refine J_imul (pc := 52) hc dX0_top_52 ?_
        refine J_i2l (pc := 53) hc dX0_top_53 ?_
        refine J_iloadn_1 (pc := 54) hc dX0_top_54 ?_
        refine J_aloadn_0 (pc := 55) hc dX0_top_55 ?_
        refine gX0_15 (pc := 56) hc (by omega) dX0_top_56 ?_
        refine J_iload_4 (pc := 59) hc dX0_top_59 ?_
        refine J_iald (pc := 61) hc 16 (by omega) (zlen_c (by omega)) dX0_top_61 (by first | exact rfl | exact z16 _ _ | exact nI_1 _ | exact zm1 (by omega) | assumption) (by omega) ?_
        refine J_imul (pc := 62) hc dX0_top_62 ?_
        refine J_i2l (pc := 63) hc dX0_top_63 ?_
        refine J_iloadn_1 (pc := 64) hc dX0_top_64 ?_
        refine J_aloadn_0 (pc := 65) hc dX0_top_65 ?_
        refine gX0_18 (pc := 66) hc (by omega) dX0_top_66 ?_
        refine J_iload_4 (pc := 69) hc dX0_top_69 ?_
        refine J_iald (pc := 71) hc 16 (by omega) (zlen_c (by omega)) dX0_top_71 (by first | exact rfl | exact z16 _ _ | exact nI_1 _ | exact zm1 (by omega) | assumption) (by omega) ?_
        refine J_imul (pc := 72) hc dX0_top_72 ?_
        refine J_i2l (pc := 73) hc dX0_top_73 ?_
        refine kX0_50 (pc := 74) hc hR dX0_top_74 (c_X0_topOfPiece (hb i (by omega))) (by decide) (Nat.le_of_ble_eq_true rfl) rfl (fun r u hu => ?_)
        refine J_eq hu.2 (J_topl hu.1 ?_)
        refine kX0_54 (pc := 77) hc hR dX0_top_77 (c_J9_max_f86c9) (by decide) (Nat.le_of_ble_eq_true rfl) rfl (fun r u hu => ?_)
        refine J_eq hu.2 (J_topl hu.1 ?_)
        refine J_lstoren_2 (pc := 80) hc dX0_top_80 rfl ?_
        refine J_iinc_4 (pc := 81) hc dX0_top_81 (by first | exact nI_1 _ | exact rfl) rfl ?_
        refine J_goto (pc := 84) hc 34 dX0_top_84 (by decide) ?_
        obtain ⟨q, rfl⟩ : ∃ q, i = q + 1 := ⟨i - 1, by omega⟩
        exact J_weak (by repeat (first | exact zle_nil | apply zle_s | apply zle_n)) (ih34 _ (by omega) (q + 1 + 1) rfl (by omega) (by omega))
  exact J_weak (by repeat (first | exact zle_nil | apply zle_s | apply zle_n)) (hL34 _ 1 rfl (by omega) (by omega))
end
section
theorem J_alen {cx : zX} {gg : zG} {Q : State → Prop} {σ : zS} {pc : Nat} {lv : List (Option Value)} {st : List Value} {cc : ByteArray} {own : String} {nL : Nat} (hc : zOK cx gg cc own nL) {j : Nat} (L : Nat) (hj : j < 30) (hL : zlen j = L) (hd : decode cc pc = .ok (.arraylength, 1)) (kk : J cx gg Q σ (pc + 1) lv (.int (nI L) :: st)) : J cx gg Q σ pc lv (.ref (zr gg j) :: st) := by
  subst hL
  intro H locs ls hP hS hl
  exact va_alen (D := zD gg) hc.1 hc.2.1 hc.2.2.2.2.2.1.1 hP (9 + j) 0 (x := (zlen j, .inl (sa σ j))) (by rw [zW_get gg σ (by omega), zE_r gg σ hj]; rfl) rfl rfl hd (kk H locs ls hP hS hl)
/-! numbers with bounds -/
def zbd (x : Int) (X : Nat) : Prop := x.natAbs ≤ X
theorem zbd.mul {x y : Int} {X Y : Nat} (h : zbd x X) (h2 : zbd y Y) : zbd (x * y) (X * Y) := by
  unfold zbd at *; rw [Int.natAbs_mul]; exact Nat.mul_le_mul h h2
theorem zbd.add {x y : Int} {X Y : Nat} (h : zbd x X) (h2 : zbd y Y) : zbd (x + y) (X + Y) := by unfold zbd at *; omega
theorem zbd.sub {x y : Int} {X Y : Nat} (h : zbd x X) (h2 : zbd y Y) : zbd (x - y) (X + Y) := by unfold zbd at *; omega
theorem zbd.neg {x : Int} {X : Nat} (h : zbd x X) : zbd (-x) X := by unfold zbd at *; omega
theorem zbd.le {x : Int} {X Y : Nat} (h : zbd x X) (h2 : X ≤ Y) : zbd x Y := Nat.le_trans h h2
theorem zbd.of {x : Int} {X : Nat} (h : -(X : Int) ≤ x) (h2 : x ≤ X) : zbd x X := by unfold zbd; omega
theorem zbd.lo {x : Int} {X : Nat} (h : zbd x X) : -(X : Int) ≤ x ∧ x ≤ X := by unfold zbd at h; omega
theorem zcf.b {x : Int32} (h : zcf x) : zbd x.toInt 100000 := by unfold zcf at h; unfold zbd; omega
theorem zLm {x y : Int64} {X Y : Nat} (h : zbd x.toInt X) (h2 : zbd y.toInt Y) (hb : X * Y < 9223372036854775808) : (x * y).toInt = x.toInt * y.toInt := by
  have := (h.mul h2).lo
  rw [Int64.toInt_mul, Int.bmod_eq_of_le (by omega) (by omega)]
theorem zLa {x y : Int64} {X Y : Nat} (h : zbd x.toInt X) (h2 : zbd y.toInt Y) (hb : X + Y < 9223372036854775808) : (x + y).toInt = x.toInt + y.toInt := by
  have := (h.add h2).lo
  rw [Int64.toInt_add, Int.bmod_eq_of_le (by omega) (by omega)]
theorem zLs {x y : Int64} {X Y : Nat} (h : zbd x.toInt X) (h2 : zbd y.toInt Y) (hb : X + Y < 9223372036854775808) : (x - y).toInt = x.toInt - y.toInt := by
  have := (h.sub h2).lo
  rw [Int64.toInt_sub, Int.bmod_eq_of_le (by omega) (by omega)]
theorem zIm {x y : Int32} {X Y : Nat} (h : zbd x.toInt X) (h2 : zbd y.toInt Y) (hb : X * Y < 2147483648) : (x * y).toInt = x.toInt * y.toInt := by
  have := (h.mul h2).lo
  rw [Int32.toInt_mul, Int.bmod_eq_of_le (by omega) (by omega)]
theorem zIa {x y : Int32} {X Y : Nat} (h : zbd x.toInt X) (h2 : zbd y.toInt Y) (hb : X + Y < 2147483648) : (x + y).toInt = x.toInt + y.toInt := by
  have := (h.add h2).lo
  rw [Int32.toInt_add, Int.bmod_eq_of_le (by omega) (by omega)]
theorem zIs {x y : Int32} {X Y : Nat} (h : zbd x.toInt X) (h2 : zbd y.toInt Y) (hb : X + Y < 2147483648) : (x - y).toInt = x.toInt - y.toInt := by
  have := (h.sub h2).lo
  rw [Int32.toInt_sub, Int.bmod_eq_of_le (by omega) (by omega)]
theorem z0L : (0 : Int64).toInt = 0 := rfl
theorem z0I : (0 : Int32).toInt = 0 := rfl
/-! the search for zeros, over whole numbers -/
def zh (a b c s : Int) : Int := (c * s + b) * s + a
def zrr (b c s : Int) : Int := 2 * c * s + b
def zside (a b c : Int) (l : Bool) (s : Int) : Int := if l = true then (if zh a b c s < 0 ∨ 0 < zrr b c s then 1 else if zh a b c s = 0 then 0 else -1) else (if zh a b c s < 0 ∨ zrr b c s < 0 then -1 else if zh a b c s = 0 then 0 else 1)
theorem zside_t (a b c s : Int) : zside a b c true s = (if zh a b c s < 0 ∨ 0 < zrr b c s then 1 else if zh a b c s = 0 then 0 else -1) := rfl
theorem zside_f (a b c s : Int) : zside a b c false s = (if zh a b c s < 0 ∨ zrr b c s < 0 then -1 else if zh a b c s = 0 then 0 else 1) := rfl
def zds (a b c : Int) : Int := b * b - 4 * a * c
def zbi (l : Bool) : Int32 := if l = true then 1 else 0
def zfb (σ : zS) : Prop := zbd (sl σ 0).toInt 1000000000 ∧ zbd (sl σ 1).toInt 20000000 ∧ zbd (sl σ 2).toInt 1000000
theorem zHH {σ : zS} {s : Int64} {m : Nat} (hb : zfb σ) (hs : s.toInt = m) (hm : m ≤ 64) : ((sl σ 2 * s + sl σ 1) * s + sl σ 0).toInt = zh (sl σ 0).toInt (sl σ 1).toInt (sl σ 2).toInt m := by
  obtain ⟨h0, h1, h2⟩ := hb
  have h3 : zbd s.toInt 64 := by rw [hs]; unfold zbd; omega
  have e1 := zLm h2 h3 (by decide)
  have b1 : zbd (sl σ 2 * s).toInt 64000000 := by rw [e1]; exact h2.mul h3
  have e2 := zLa b1 h1 (by decide)
  have b2 : zbd (sl σ 2 * s + sl σ 1).toInt 84000000 := by rw [e2]; exact b1.add h1
  have e3 := zLm b2 h3 (by decide)
  have b3 : zbd ((sl σ 2 * s + sl σ 1) * s).toInt 5376000000 := by rw [e3]; exact b2.mul h3
  rw [zLa b3 h0 (by decide), e3, e2, e1, hs]
  rfl
theorem zRR {σ : zS} {s : Int64} {m : Nat} (hb : zfb σ) (hs : s.toInt = m) (hm : m ≤ 64) : (2 * sl σ 2 * s + sl σ 1).toInt = zrr (sl σ 1).toInt (sl σ 2).toInt m := by
  obtain ⟨h0, h1, h2⟩ := hb
  have h3 : zbd s.toInt 64 := by rw [hs]; unfold zbd; omega
  have h5 : zbd (2 : Int64).toInt 2 := by unfold zbd; decide
  have e1 := zLm h5 h2 (by decide)
  have b1 : zbd (2 * sl σ 2).toInt 2000000 := by rw [e1]; exact h5.mul h2
  have e2 := zLm b1 h3 (by decide)
  have b2 : zbd (2 * sl σ 2 * s).toInt 128000000 := by rw [e2]; exact b1.mul h3
  rw [zLa b2 h1 (by decide), e2, e1, hs]
  rfl
theorem zDD {σ : zS} (hb : zfb σ) : (sl σ 1 * sl σ 1 - 4 * sl σ 0 * sl σ 2).toInt = zds (sl σ 0).toInt (sl σ 1).toInt (sl σ 2).toInt := by
  obtain ⟨h0, h1, h2⟩ := hb
  have h5 : zbd (4 : Int64).toInt 4 := by unfold zbd; decide
  have e1 := zLm h5 h0 (by decide)
  have b1 : zbd (4 * sl σ 0).toInt 4000000000 := by rw [e1]; exact h5.mul h0
  have e2 := zLm b1 h2 (by decide)
  have b2 : zbd (4 * sl σ 0 * sl σ 2).toInt 4000000000000000 := by rw [e2]; exact b1.mul h2
  have e3 := zLm h1 h1 (by decide)
  have b3 : zbd (sl σ 1 * sl σ 1).toInt 400000000000000 := by rw [e3]; exact h1.mul h1
  rw [zLs b3 b2 (by decide), e3, e2, e1]
  rfl
set_option maxRecDepth 100000 in
set_option maxHeartbeats 4000000 in
theorem c_X1_becomeAll {l : Launch} {gg : zG} {σ : zS} {b : Int32}  : zMv l gg yX1_becomeAll cX1_becomeAll 2 0 0 [.ref (zn gg), .int b] σ (fun u => u = ui (ui σ 9 (-b)) 10 b) := by
  refine zM_v (own := RX1) (lv := [some (.ref (zn gg)), some (.int b)]) (by decide +kernel) rfl (Nat.le_of_ble_eq_true rfl) rfl (fun cx hc hR hI => ?_)
  refine J_aloadn_0 (pc := 0) hc dX1_becomeAll_0 ?_
  refine J_iloadn_1 (pc := 1) hc dX1_becomeAll_1 ?_
  refine J_ineg (pc := 2) hc dX1_becomeAll_2 ?_
  refine pX1_7 (pc := 3) hc dX1_becomeAll_3 ?_
  refine J_aloadn_0 (pc := 6) hc dX1_becomeAll_6 ?_
  refine J_iloadn_1 (pc := 7) hc dX1_becomeAll_7 ?_
  refine pX1_13 (pc := 8) hc dX1_becomeAll_8 ?_
  exact J_vret (pc := 11) hc hI dX1_becomeAll_11 rfl
set_option maxRecDepth 100000 in
set_option maxHeartbeats 4000000 in
theorem c_X1_require {l : Launch} {gg : zG} {σ : zS} {x t : Int32}  : zMv l gg yX1_require cX1_require 3 1 21 [.ref (zn gg), .int x, .int t] σ (fun u => u = (if 0 < t then ui σ 9 (if si σ 9 < -x then -x else si σ 9) else ui σ 10 (if x < si σ 10 then x else si σ 10))) := by
  refine zM_v (own := RX1) (lv := [some (.ref (zn gg)), some (.int x), some (.int t)]) (by decide +kernel) rfl (Nat.le_of_ble_eq_true rfl) rfl (fun cx hc hR hI => ?_)
  refine J_iloadn_2 (pc := 0) hc dX1_require_0 ?_
  refine J_if_le (pc := 1) hc 20 dX1_require_1 (by decide) (fun bq1 => ?_) (fun bq1 => ?_)
  · skip
    refine J_aloadn_0 (pc := 20) hc dX1_require_20 ?_
    refine J_aloadn_0 (pc := 21) hc dX1_require_21 ?_
    refine gX1_13 (pc := 22) hc dX1_require_22 ?_
    refine J_iloadn_1 (pc := 25) hc dX1_require_25 ?_
    refine kX1_22 (pc := 26) hc hR dX1_require_26 (c_J9_min_7cf53) (by decide) (Nat.le_of_ble_eq_true rfl) rfl (fun r u hu => ?_)
    refine J_eq hu.2 (J_topi hu.1 ?_)
    refine pX1_13 (pc := 29) hc dX1_require_29 ?_
    exact J_vret (pc := 32) hc hI dX1_require_32 (by first | exact (if_pos (by rw [zi_le] at bq1; rw [zi_lt]; omega)).symm | exact (if_neg (by rw [zi_le] at bq1; rw [zi_lt]; omega)).symm)
  · skip
    refine J_aloadn_0 (pc := 4) hc dX1_require_4 ?_
    refine J_aloadn_0 (pc := 5) hc dX1_require_5 ?_
    refine gX1_7 (pc := 6) hc dX1_require_6 ?_
    refine J_iloadn_1 (pc := 9) hc dX1_require_9 ?_
    refine J_ineg (pc := 10) hc dX1_require_10 ?_
    refine kX1_16 (pc := 11) hc hR dX1_require_11 (c_J9_max_7cf53) (by decide) (Nat.le_of_ble_eq_true rfl) rfl (fun r u hu => ?_)
    refine J_eq hu.2 (J_topi hu.1 ?_)
    refine pX1_7 (pc := 14) hc dX1_require_14 ?_
    refine J_goto (pc := 17) hc 32 dX1_require_17 (by decide) ?_
    exact J_vret (pc := 32) hc hI dX1_require_32 (by first | exact (if_pos (by rw [zi_le] at bq1; rw [zi_lt]; omega)).symm | exact (if_neg (by rw [zi_le] at bq1; rw [zi_lt]; omega)).symm)
set_option maxRecDepth 100000 in
set_option maxHeartbeats 4000000 in
theorem c_X1_size {l : Launch} {gg : zG} {σ : zS}   : zMi l gg yX1_size cX1_size .int 1 1 21 [.ref (zn gg)] σ (fun r u => r = (if 0 < si σ 10 - si σ 9 + 1 then si σ 10 - si σ 9 + 1 else 0) ∧ u = σ) := by
  refine zM_i (own := RX1) (lv := [some (.ref (zn gg))]) (by decide +kernel) rfl (Nat.le_of_ble_eq_true rfl) rfl (fun cx hc hR hI => ?_)
  refine J_iconst (pc := 0) hc dX1_size_0 (v := 0) (by decide) ?_
  refine J_aloadn_0 (pc := 1) hc dX1_size_1 ?_
  refine gX1_13 (pc := 2) hc dX1_size_2 ?_
  refine J_aloadn_0 (pc := 5) hc dX1_size_5 ?_
  refine gX1_7 (pc := 6) hc dX1_size_6 ?_
  refine J_isub (pc := 9) hc dX1_size_9 ?_
  refine J_iconst (pc := 10) hc dX1_size_10 (v := 1) (by decide) ?_
  refine J_iadd (pc := 11) hc dX1_size_11 ?_
  refine kX1_16 (pc := 12) hc hR dX1_size_12 (c_J9_max_7cf53) (by decide) (Nat.le_of_ble_eq_true rfl) rfl (fun r u hu => ?_)
  refine J_eq hu.2 (J_topi hu.1 ?_)
  exact J_iret (pc := 15) hc hI dX1_size_15 ⟨rfl, rfl⟩
set_option maxRecDepth 100000 in
set_option maxHeartbeats 4000000 in
theorem c_X2_discriminant {l : Launch} {gg : zG} {σ : zS}  (hb : zfb σ) : zMl l gg yX2_discriminant cX2_discriminant 1 0 0 [.ref (zf gg)] σ (fun r u => r.toInt = zds (sl σ 0).toInt (sl σ 1).toInt (sl σ 2).toInt ∧ u = σ) := by
  refine zM_l (own := RX2) (lv := [some (.ref (zf gg))]) (by decide +kernel) rfl (Nat.le_of_ble_eq_true rfl) rfl (fun cx hc hR hI => ?_)
  refine J_aloadn_0 (pc := 0) hc dX2_discriminant_0 ?_
  refine gX2_23 (pc := 1) hc dX2_discriminant_1 ?_
  refine J_aloadn_0 (pc := 4) hc dX2_discriminant_4 ?_
  refine gX2_23 (pc := 5) hc dX2_discriminant_5 ?_
  refine J_lmul (pc := 8) hc dX2_discriminant_8 ?_
  refine nX2_54 (pc := 9) hc dX2_discriminant_9 ?_
  refine J_aloadn_0 (pc := 12) hc dX2_discriminant_12 ?_
  refine gX2_19 (pc := 13) hc dX2_discriminant_13 ?_
  refine J_lmul (pc := 16) hc dX2_discriminant_16 ?_
  refine J_aloadn_0 (pc := 17) hc dX2_discriminant_17 ?_
  refine gX2_26 (pc := 18) hc dX2_discriminant_18 ?_
  refine J_lmul (pc := 21) hc dX2_discriminant_21 ?_
  refine J_lsub (pc := 22) hc dX2_discriminant_22 ?_
  exact J_lret (pc := 23) hc hI dX2_discriminant_23 ⟨zDD hb, rfl⟩
set_option maxRecDepth 100000 in
set_option maxHeartbeats 4000000 in
theorem c_X2_sideOfRoot {l : Launch} {gg : zG} {σ : zS} {s : Int64} {m : Nat} {ll : Bool} {x : Int32} (hb : zfb σ) (hs : s.toInt = m) (hm : m ≤ 64) (hx : x = zbi ll) : zMi l gg yX2_sideOfRoot cX2_sideOfRoot .int 8 0 0 [.ref (zf gg), .long s, .int x] σ (fun r u => r.toInt = zside (sl σ 0).toInt (sl σ 1).toInt (sl σ 2).toInt ll m ∧ u = σ) := by
  refine zM_i (own := RX2) (lv := [some (.ref (zf gg)), some (.long s), none, some (.int x), none, none, none, none]) (by decide +kernel) rfl (Nat.le_of_ble_eq_true rfl) rfl (fun cx hc hR hI => ?_)
  refine J_aloadn_0 (pc := 0) hc dX2_sideOfRoot_0 ?_
  refine gX2_26 (pc := 1) hc dX2_sideOfRoot_1 ?_
  refine J_lloadn_1 (pc := 4) hc dX2_sideOfRoot_4 ?_
  refine J_lmul (pc := 5) hc dX2_sideOfRoot_5 ?_
  refine J_aloadn_0 (pc := 6) hc dX2_sideOfRoot_6 ?_
  refine gX2_23 (pc := 7) hc dX2_sideOfRoot_7 ?_
  refine J_ladd (pc := 10) hc dX2_sideOfRoot_10 ?_
  refine J_lloadn_1 (pc := 11) hc dX2_sideOfRoot_11 ?_
  refine J_lmul (pc := 12) hc dX2_sideOfRoot_12 ?_
  refine J_aloadn_0 (pc := 13) hc dX2_sideOfRoot_13 ?_
  refine gX2_19 (pc := 14) hc dX2_sideOfRoot_14 ?_
  refine J_ladd (pc := 17) hc dX2_sideOfRoot_17 ?_
  refine J_naml (fun hh ehh => ?_)
  have h4 : hh.toInt = zh (sl σ 0).toInt (sl σ 1).toInt (sl σ 2).toInt m := by rw [ehh]; exact zHH hb hs hm
  refine J_lstore_4 (pc := 18) hc dX2_sideOfRoot_18 rfl ?_
  refine nX2_68 (pc := 20) hc dX2_sideOfRoot_20 ?_
  refine J_aloadn_0 (pc := 23) hc dX2_sideOfRoot_23 ?_
  refine gX2_26 (pc := 24) hc dX2_sideOfRoot_24 ?_
  refine J_lmul (pc := 27) hc dX2_sideOfRoot_27 ?_
  refine J_lloadn_1 (pc := 28) hc dX2_sideOfRoot_28 ?_
  refine J_lmul (pc := 29) hc dX2_sideOfRoot_29 ?_
  refine J_aloadn_0 (pc := 30) hc dX2_sideOfRoot_30 ?_
  refine gX2_23 (pc := 31) hc dX2_sideOfRoot_31 ?_
  refine J_ladd (pc := 34) hc dX2_sideOfRoot_34 ?_
  refine J_naml (fun hq ehq => ?_)
  have h6 : hq.toInt = zrr (sl σ 1).toInt (sl σ 2).toInt m := by rw [ehq]; exact zRR hb hs hm
  refine J_lstore_6 (pc := 35) hc dX2_sideOfRoot_35 rfl ?_
  refine J_iloadn_3 (pc := 37) hc dX2_sideOfRoot_37 ?_
  refine J_if_eq (pc := 38) hc 72 dX2_sideOfRoot_38 (by decide) (fun bq38 => ?_) (fun bq38 => ?_)
  · skip
    have hl : ll = false := by cases ll; rfl; rw [hx] at bq38; exact absurd bq38 (by decide)
    refine J_lload_4 (pc := 72) hc dX2_sideOfRoot_72 ?_
    refine J_lconst (pc := 74) hc dX2_sideOfRoot_74 (v := 0) (by decide) ?_
    refine J_lcmp_lt (pc := 75) hc 86 dX2_sideOfRoot_75 dX2_sideOfRoot_76 (by decide) (fun bq75 => ?_) (fun bq75 => ?_)
    · skip
      refine J_iconst (pc := 86) hc dX2_sideOfRoot_86 (v := -1) (by decide) ?_
      refine J_goto (pc := 87) hc 102 dX2_sideOfRoot_87 (by decide) ?_
      exact J_iret (pc := 102) hc hI dX2_sideOfRoot_102 (by refine ⟨?_, rfl⟩; (try rw [zl_lt, h4, z0L] at bq44); (try rw [zl_le, h6, z0L] at bq51); (try rw [zl_eq, h4, z0L] at bq62); (try rw [zl_lt, h4, z0L] at bq75); (try rw [zl_le, h6, z0L] at bq82); (try rw [zl_eq, h4, z0L] at bq93); rw [hl]; (first | rw [zside_t] | rw [zside_f]); (repeat' split) <;> first | rfl | omega | (exfalso; omega) | contradiction)
    · skip
      refine J_lload_6 (pc := 79) hc dX2_sideOfRoot_79 ?_
      refine J_lconst (pc := 81) hc dX2_sideOfRoot_81 (v := 0) (by decide) ?_
      refine J_lcmp_ge (pc := 82) hc 90 dX2_sideOfRoot_82 dX2_sideOfRoot_83 (by decide) (fun bq82 => ?_) (fun bq82 => ?_)
      · skip
        refine J_lload_4 (pc := 90) hc dX2_sideOfRoot_90 ?_
        refine J_lconst (pc := 92) hc dX2_sideOfRoot_92 (v := 0) (by decide) ?_
        refine J_lcmp_ne (pc := 93) hc 101 dX2_sideOfRoot_93 dX2_sideOfRoot_94 (by decide) (fun bq93 => ?_) (fun bq93 => ?_)
        · skip
          refine J_iconst (pc := 101) hc dX2_sideOfRoot_101 (v := 1) (by decide) ?_
          exact J_iret (pc := 102) hc hI dX2_sideOfRoot_102 (by refine ⟨?_, rfl⟩; (try rw [zl_lt, h4, z0L] at bq44); (try rw [zl_le, h6, z0L] at bq51); (try rw [zl_eq, h4, z0L] at bq62); (try rw [zl_lt, h4, z0L] at bq75); (try rw [zl_le, h6, z0L] at bq82); (try rw [zl_eq, h4, z0L] at bq93); rw [hl]; (first | rw [zside_t] | rw [zside_f]); (repeat' split) <;> first | rfl | omega | (exfalso; omega) | contradiction)
        · skip
          refine J_iconst (pc := 97) hc dX2_sideOfRoot_97 (v := 0) (by decide) ?_
          refine J_goto (pc := 98) hc 102 dX2_sideOfRoot_98 (by decide) ?_
          exact J_iret (pc := 102) hc hI dX2_sideOfRoot_102 (by refine ⟨?_, rfl⟩; (try rw [zl_lt, h4, z0L] at bq44); (try rw [zl_le, h6, z0L] at bq51); (try rw [zl_eq, h4, z0L] at bq62); (try rw [zl_lt, h4, z0L] at bq75); (try rw [zl_le, h6, z0L] at bq82); (try rw [zl_eq, h4, z0L] at bq93); rw [hl]; (first | rw [zside_t] | rw [zside_f]); (repeat' split) <;> first | rfl | omega | (exfalso; omega) | contradiction)
      · skip
        refine J_iconst (pc := 86) hc dX2_sideOfRoot_86 (v := -1) (by decide) ?_
        refine J_goto (pc := 87) hc 102 dX2_sideOfRoot_87 (by decide) ?_
        exact J_iret (pc := 102) hc hI dX2_sideOfRoot_102 (by refine ⟨?_, rfl⟩; (try rw [zl_lt, h4, z0L] at bq44); (try rw [zl_le, h6, z0L] at bq51); (try rw [zl_eq, h4, z0L] at bq62); (try rw [zl_lt, h4, z0L] at bq75); (try rw [zl_le, h6, z0L] at bq82); (try rw [zl_eq, h4, z0L] at bq93); rw [hl]; (first | rw [zside_t] | rw [zside_f]); (repeat' split) <;> first | rfl | omega | (exfalso; omega) | contradiction)
  · skip
    have hl : ll = true := by cases ll; rw [hx] at bq38; exact absurd rfl bq38; rfl
    refine J_lload_4 (pc := 41) hc dX2_sideOfRoot_41 ?_
    refine J_lconst (pc := 43) hc dX2_sideOfRoot_43 (v := 0) (by decide) ?_
    refine J_lcmp_lt (pc := 44) hc 55 dX2_sideOfRoot_44 dX2_sideOfRoot_45 (by decide) (fun bq44 => ?_) (fun bq44 => ?_)
    · skip
      refine J_iconst (pc := 55) hc dX2_sideOfRoot_55 (v := 1) (by decide) ?_
      refine J_goto (pc := 56) hc 71 dX2_sideOfRoot_56 (by decide) ?_
      exact J_iret (pc := 71) hc hI dX2_sideOfRoot_71 (by refine ⟨?_, rfl⟩; (try rw [zl_lt, h4, z0L] at bq44); (try rw [zl_le, h6, z0L] at bq51); (try rw [zl_eq, h4, z0L] at bq62); (try rw [zl_lt, h4, z0L] at bq75); (try rw [zl_le, h6, z0L] at bq82); (try rw [zl_eq, h4, z0L] at bq93); rw [hl]; (first | rw [zside_t] | rw [zside_f]); (repeat' split) <;> first | rfl | omega | (exfalso; omega) | contradiction)
    · skip
      refine J_lload_6 (pc := 48) hc dX2_sideOfRoot_48 ?_
      refine J_lconst (pc := 50) hc dX2_sideOfRoot_50 (v := 0) (by decide) ?_
      refine J_lcmp_le (pc := 51) hc 59 dX2_sideOfRoot_51 dX2_sideOfRoot_52 (by decide) (fun bq51 => ?_) (fun bq51 => ?_)
      · skip
        refine J_lload_4 (pc := 59) hc dX2_sideOfRoot_59 ?_
        refine J_lconst (pc := 61) hc dX2_sideOfRoot_61 (v := 0) (by decide) ?_
        refine J_lcmp_ne (pc := 62) hc 70 dX2_sideOfRoot_62 dX2_sideOfRoot_63 (by decide) (fun bq62 => ?_) (fun bq62 => ?_)
        · skip
          refine J_iconst (pc := 70) hc dX2_sideOfRoot_70 (v := -1) (by decide) ?_
          exact J_iret (pc := 71) hc hI dX2_sideOfRoot_71 (by refine ⟨?_, rfl⟩; (try rw [zl_lt, h4, z0L] at bq44); (try rw [zl_le, h6, z0L] at bq51); (try rw [zl_eq, h4, z0L] at bq62); (try rw [zl_lt, h4, z0L] at bq75); (try rw [zl_le, h6, z0L] at bq82); (try rw [zl_eq, h4, z0L] at bq93); rw [hl]; (first | rw [zside_t] | rw [zside_f]); (repeat' split) <;> first | rfl | omega | (exfalso; omega) | contradiction)
        · skip
          refine J_iconst (pc := 66) hc dX2_sideOfRoot_66 (v := 0) (by decide) ?_
          refine J_goto (pc := 67) hc 71 dX2_sideOfRoot_67 (by decide) ?_
          exact J_iret (pc := 71) hc hI dX2_sideOfRoot_71 (by refine ⟨?_, rfl⟩; (try rw [zl_lt, h4, z0L] at bq44); (try rw [zl_le, h6, z0L] at bq51); (try rw [zl_eq, h4, z0L] at bq62); (try rw [zl_lt, h4, z0L] at bq75); (try rw [zl_le, h6, z0L] at bq82); (try rw [zl_eq, h4, z0L] at bq93); rw [hl]; (first | rw [zside_t] | rw [zside_f]); (repeat' split) <;> first | rfl | omega | (exfalso; omega) | contradiction)
      · skip
        refine J_iconst (pc := 55) hc dX2_sideOfRoot_55 (v := 1) (by decide) ?_
        refine J_goto (pc := 56) hc 71 dX2_sideOfRoot_56 (by decide) ?_
        exact J_iret (pc := 71) hc hI dX2_sideOfRoot_71 (by refine ⟨?_, rfl⟩; (try rw [zl_lt, h4, z0L] at bq44); (try rw [zl_le, h6, z0L] at bq51); (try rw [zl_eq, h4, z0L] at bq62); (try rw [zl_lt, h4, z0L] at bq75); (try rw [zl_le, h6, z0L] at bq82); (try rw [zl_eq, h4, z0L] at bq93); rw [hl]; (first | rw [zside_t] | rw [zside_f]); (repeat' split) <;> first | rfl | omega | (exfalso; omega) | contradiction)
end
section
theorem zh_s (a b c s : Int) : zh a b c (s + 1) = zh a b c s + zrr b c s + c := by unfold zh zrr; grind
theorem zrr_s (b c s : Int) : zrr b c (s + 1) = zrr b c s + 2 * c := by unfold zrr; grind
theorem zmono {a b c : Int} (l : Bool) {s : Int} (hc : 0 ≤ c) (h : ¬ zside a b c l s ≤ 0) : ¬ zside a b c l (s + 1) ≤ 0 := by
  have e1 := zh_s a b c s
  have e2 := zrr_s b c s
  cases l
  · rw [zside_f] at h ⊢
    generalize zh a b c s = x at *
    generalize zrr b c s = y at *
    generalize zh a b c (s + 1) = x' at *
    generalize zrr b c (s + 1) = y' at *
    by_cases q : x < 0 ∨ y < 0
    · rw [if_pos q] at h; omega
    · rw [if_neg q] at h
      by_cases q2 : x = 0
      · rw [if_pos q2] at h; omega
      · rw [if_neg (by omega), if_neg (by omega)]; decide
  · rw [zside_t] at h ⊢
    generalize zh a b c s = x at *
    generalize zrr b c s = y at *
    generalize zh a b c (s + 1) = x' at *
    generalize zrr b c (s + 1) = y' at *
    by_cases q : x < 0 ∨ 0 < y
    · rw [if_pos (by omega)]; decide
    · rw [if_neg q] at h
      by_cases q2 : x = 0
      · rw [if_pos q2] at h; omega
      · rw [if_neg q2] at h; omega
theorem zct_bx {P : Nat → Prop} [DecidablePred P] {bx : Nat} (hm : ∀ m, ¬ P m → ¬ P (m + 1)) (h1 : P bx) (h2 : ¬ P (bx + 1)) (hb : bx < 64) : zct (fun m => P (m + 1)) 63 = bx := by
  have up : ∀ d, ¬ P (bx + 1 + d) := fun d => by
    induction d with
    | zero => exact h2
    | succ d ih => exact hm _ ih
  have dn : ∀ d m, m + d = bx → P m := fun d => by
    induction d with
    | zero => intro m e; rw [show m = bx by omega]; exact h1
    | succ d ih => intro m e; exact Classical.not_not.mp (fun q => hm m q (ih (m + 1) (by omega)))
  have key : ∀ n, zct (fun m => P (m + 1)) n = min n bx := fun n => by
    induction n with
    | zero => simp [zct]
    | succ n ih =>
      by_cases q : n < bx
      · rw [zct_t (p := fun m => P (m + 1)) (dn (bx - (n + 1)) (n + 1) (by omega)), ih]; omega
      · rw [zct_f (p := fun m => P (m + 1)) (by rw [show n + 1 = bx + 1 + (n - bx) by omega]; exact up _), ih]; omega
  rw [key]; omega
/-- the box of a root, if it is kept -/
def zbx (a b c : Int) (l : Bool) : Nat := zct (fun m => zside a b c l ((m + 1 : Nat) : Int) ≤ 0) 63
def zkr (a b c : Int) (l la : Bool) : List Nat := if 0 < zside a b c l 0 then [] else if zside a b c l 64 < 0 ∨ (zside a b c l 64 = 0 ∧ la = false) then [] else if zside a b c l 64 = 0 then [64] else [zbx a b c l]
theorem zkr_len (a b c : Int) (l la : Bool) : (zkr a b c l la).length ≤ 1 := by
  unfold zkr
  (repeat' split) <;> simp
def zputs (f : Nat → Int32) (m : Nat) : List Nat → Nat → Int32
  | [] => f
  | x :: t => zputs (upd f m (nI x)) (m + 1) t
theorem zputs_app (f : Nat → Int32) (m : Nat) (L M : List Nat) : zputs f m (L ++ M) = zputs (zputs f m L) (m + L.length) M := by
  induction L generalizing f m with
  | nil => rfl
  | cons x t ih => rw [List.cons_append, zputs, zputs, ih, List.length_cons, show m + 1 + t.length = m + (t.length + 1) by omega]
theorem zputs_out (f : Nat → Int32) (m : Nat) (L : List Nat) {j : Nat} (h : j < m ∨ m + L.length ≤ j) : zputs f m L j = f j := by
  induction L generalizing f m with
  | nil => rfl
  | cons x t ih =>
    rw [zputs, ih (upd f m (nI x)) (m + 1) (by simp at h; omega)]
    unfold upd
    rw [if_neg (by simp at h; omega)]
theorem zputs_in (f : Nat → Int32) (m : Nat) (L : List Nat) {j : Nat} (h : j < L.length) : zputs f m L (m + j) = nI (L.getD j 0) := by
  induction L generalizing f m j with
  | nil => simp at h
  | cons x t ih =>
    rw [zputs]
    cases j with
    | zero =>
      rw [zputs_out _ _ _ (by omega)]
      simp [upd]
    | succ j =>
      rw [show m + (j + 1) = m + 1 + j by omega, ih (upd f m (nI x)) (m + 1) (by simpa using h)]
      simp
def zkl (σ : zS) (f i : Nat) (L : List Nat) : zS := ui (ua σ 22 (zputs (sa σ 22) f (L.map (fun b => 64 * i + b)))) 8 (nI (f + L.length))
theorem ui_self (σ : zS) {k : Nat} {v : Int32} (h : si σ k = v) : ui σ k v = σ := by
  apply zS_ext <;> intro j <;> try rfl
  rw [si_ui]; split
  · subst_vars; rfl
  · rfl
theorem ua_self (σ : zS) (k : Nat) : ua σ k (sa σ k) = σ := by
  apply zS_ext <;> intro j <;> try rfl
  rw [sa_ua]; split
  · subst_vars; rfl
  · rfl
theorem zkl_nil {σ : zS} {f i : Nat} (h : si σ 8 = nI f) : zkl σ f i [] = σ := by
  unfold zkl
  show ui (ua σ 22 (sa σ 22)) 8 (nI f) = σ
  rw [ua_self]; exact ui_self σ h
theorem zkl_app (σ : zS) (f i j : Nat) (L M : List Nat) : zkl (zkl σ f i L) (f + L.length) j M = ui (ua σ 22 (zputs (sa σ 22) f (L.map (fun b => 64 * i + b) ++ M.map (fun b => 64 * j + b)))) 8 (nI (f + (L.length + M.length))) := by
  unfold zkl
  apply zS_ext <;> intro q <;> try rfl
  · simp only [si_ui, si_ua]
    split
    · congr 1; omega
    · rfl
  · simp only [sa_ui, sa_ua]
    split
    · simp only [if_true, zputs_app, List.length_map]
    · rfl
theorem zkl_app1 (σ : zS) (f i : Nat) (L M : List Nat) : zkl (zkl σ f i L) (f + L.length) i M = zkl σ f i (L ++ M) := by
  rw [zkl_app]; unfold zkl; rw [List.map_append, List.length_append]
theorem zpw {W : Nat} (h : ∃ e, W = 2 ^ e) (h2 : ¬ W / 2 = 0) : ∃ V, W = 2 * V ∧ 0 < V ∧ ∃ e, V = 2 ^ e := by
  obtain ⟨e, rfl⟩ := h
  cases e with
  | zero => exact absurd (by decide) h2
  | succ e => exact ⟨2 ^ e, by rw [Nat.pow_succ]; omega, Nat.pos_of_ne_zero (by intro q; rw [Nat.pow_succ] at h2; omega), e, rfl⟩
theorem zpw1 {W : Nat} (h : ∃ e, W = 2 ^ e) (h2 : W / 2 = 0) : W = 1 := by
  obtain ⟨e, rfl⟩ := h
  cases e with
  | zero => rfl
  | succ e => have : 0 < 2 ^ e := Nat.pos_of_ne_zero (by simp); rw [Nat.pow_succ] at h2; omega
theorem zts {a b : Nat} (h : a + b < 2 ^ 31) : (nI a + nI b).toInt64.toInt = ((a + b : Nat) : Int) := by rw [nI_add, Int32.toInt_toInt64, nI_toInt h]
theorem zdiv2 {V : Nat} (h : V < 2 ^ 31) : nI V / 2 = nI (V / 2) := by rw [show (2 : Int32) = nI 2 from rfl, pk_div h (by omega) (by omega)]
theorem z64 (i b : Nat) : nI i * 64 + nI b = nI (64 * i + b) := by rw [show (64 : Int32) = nI 64 from rfl, pk_mul, nI_add, Nat.mul_comm]
/-- the sign by which a piece is turned; its leading number -/
def zld (b c : Int) : Int := if c = 0 then b else c
def zsg (b c : Int) : Int := if zld b c < 0 then -1 else 1
set_option maxRecDepth 100000 in
set_option maxHeartbeats 4000000 in
theorem c_X2_boxInside {l : Launch} {gg : zG} {σ : zS} {ll : Bool} {x : Int32} (hb : zfb σ) (hx : x = zbi ll) (hc0 : 0 ≤ (sl σ 2).toInt) (h0 : zside (sl σ 0).toInt (sl σ 1).toInt (sl σ 2).toInt ll 0 ≤ 0) (h64 : ¬ zside (sl σ 0).toInt (sl σ 1).toInt (sl σ 2).toInt ll 64 ≤ 0) : zMi l gg yX2_boxInside cX2_boxInside .int 4 1 27 [.ref (zf gg), .int x] σ (fun r u => r = nI (zbx (sl σ 0).toInt (sl σ 1).toInt (sl σ 2).toInt ll) ∧ u = σ) := by
  refine zM_i (own := RX2) (lv := [some (.ref (zf gg)), some (.int x), none, none]) (by decide +kernel) rfl (Nat.le_of_ble_eq_true rfl) rfl (fun cx hc hR hI => ?_)
  refine J_iconst (pc := 0) hc dX2_boxInside_0 (v := 0) (by decide) ?_
  refine J_istoren_2 (pc := 1) hc dX2_boxInside_1 rfl ?_
  refine J_bipush (pc := 2) hc dX2_boxInside_2 (v := 32) (by decide) ?_
  refine J_istoren_3 (pc := 4) hc dX2_boxInside_4 rfl ?_
  have hL5 : ∀ (μ : Nat) (W bx : Nat), W = μ → (∃ e, W = 2 ^ e) → bx + W ≤ 64 → zside (sl σ 0).toInt (sl σ 1).toInt (sl σ 2).toInt ll ((bx : Nat) : Int) ≤ 0 → ¬ zside (sl σ 0).toInt (sl σ 1).toInt (sl σ 2).toInt ll ((bx + W : Nat) : Int) ≤ 0 → J cx gg (zQi cx gg (fun r u => r = nI (zbx (sl σ 0).toInt (sl σ 1).toInt (sl σ 2).toInt ll) ∧ u = σ)) σ 5 [some (.ref (zf gg)), some (.int x), some (.int (nI bx)), some (.int (nI (W / 2)))] [] := by
    intro μ
    induction μ using Nat.strongRecOn with
    | ind μ ih5 =>
      intro W bx hμ hW hle hD hN
      refine J_iloadn_3 (pc := 5) hc dX2_boxInside_5 ?_
      refine J_if_le (pc := 6) hc 32 dX2_boxInside_6 (by decide) (fun bq6 => ?_) (fun bq6 => ?_)
      · skip
        have hW1 := zpw1 hW ((zle0 (by omega)).mp bq6)
        subst hW1
        refine J_iloadn_2 (pc := 32) hc dX2_boxInside_32 ?_
        exact J_iret (pc := 33) hc hI dX2_boxInside_33 ⟨by rw [show zbx (sl σ 0).toInt (sl σ 1).toInt (sl σ 2).toInt ll = bx from zct_bx (P := fun m => zside (sl σ 0).toInt (sl σ 1).toInt (sl σ 2).toInt ll ((m : Nat) : Int) ≤ 0) (fun m h => by have := zmono ll hc0 h; rwa [show ((m + 1 : Nat) : Int) = (m : Int) + 1 by omega]) hD hN (by omega)], rfl⟩
      · skip
        obtain ⟨V, rfl, hV0, hVe⟩ := zpw hW (mt (zle0 (by omega)).mpr bq6)
        rw [show 2 * V / 2 = V by omega]
        refine J_aloadn_0 (pc := 9) hc dX2_boxInside_9 ?_
        refine J_iloadn_2 (pc := 10) hc dX2_boxInside_10 ?_
        refine J_iloadn_3 (pc := 11) hc dX2_boxInside_11 ?_
        refine J_iadd (pc := 12) hc dX2_boxInside_12 ?_
        refine J_i2l (pc := 13) hc dX2_boxInside_13 ?_
        refine J_iloadn_1 (pc := 14) hc dX2_boxInside_14 ?_
        refine kX2_60 (pc := 15) hc hR dX2_boxInside_15 (c_X2_sideOfRoot (m := bx + V) hb (zts (by omega)) (by omega) hx) (by decide) (Nat.le_of_ble_eq_true rfl) rfl (fun r u hu => ?_)
        have hr := hu.1
        refine J_eq hu.2 ?_
        refine J_if_gt (pc := 18) hc 25 dX2_boxInside_18 (by decide) (fun bq18 => ?_) (fun bq18 => ?_)
        · skip
          have hn : ¬ zside (sl σ 0).toInt (sl σ 1).toInt (sl σ 2).toInt ll ((bx + V : Nat) : Int) ≤ 0 := by rw [zi_lt, hr, z0I] at bq18; omega
          refine J_iloadn_3 (pc := 25) hc dX2_boxInside_25 ?_
          refine J_iconst (pc := 26) hc dX2_boxInside_26 (v := 2) (by decide) ?_
          refine J_idiv (pc := 27) hc dX2_boxInside_27 (by decide) ?_
          refine J_topi (zdiv2 (by omega)) ?_
          refine J_istoren_3 (pc := 28) hc dX2_boxInside_28 rfl ?_
          refine J_goto (pc := 29) hc 5 dX2_boxInside_29 (by decide) ?_
          first | exact J_weak (by repeat (first | exact zle_nil | apply zle_s | apply zle_n)) (ih5 V (by omega) V bx rfl hVe (by omega) hD hn) | exact J_weak (by repeat (first | exact zle_nil | apply zle_s | apply zle_n)) (ih5 V (by omega) V (bx + V) rfl hVe (by omega) hp (by rw [show bx + V + V = bx + 2 * V by omega]; exact hN))
        · skip
          have hp : zside (sl σ 0).toInt (sl σ 1).toInt (sl σ 2).toInt ll ((bx + V : Nat) : Int) ≤ 0 := by rw [zi_lt, hr, z0I] at bq18; omega
          refine J_iloadn_2 (pc := 21) hc dX2_boxInside_21 ?_
          refine J_iloadn_3 (pc := 22) hc dX2_boxInside_22 ?_
          refine J_iadd (pc := 23) hc dX2_boxInside_23 ?_
          refine J_topi (nI_add bx V) ?_
          refine J_istoren_2 (pc := 24) hc dX2_boxInside_24 rfl ?_
          refine J_iloadn_3 (pc := 25) hc dX2_boxInside_25 ?_
          refine J_iconst (pc := 26) hc dX2_boxInside_26 (v := 2) (by decide) ?_
          refine J_idiv (pc := 27) hc dX2_boxInside_27 (by decide) ?_
          refine J_topi (zdiv2 (by omega)) ?_
          refine J_istoren_3 (pc := 28) hc dX2_boxInside_28 rfl ?_
          refine J_goto (pc := 29) hc 5 dX2_boxInside_29 (by decide) ?_
          first | exact J_weak (by repeat (first | exact zle_nil | apply zle_s | apply zle_n)) (ih5 V (by omega) V bx rfl hVe (by omega) hD hn) | exact J_weak (by repeat (first | exact zle_nil | apply zle_s | apply zle_n)) (ih5 V (by omega) V (bx + V) rfl hVe (by omega) hp (by rw [show bx + V + V = bx + 2 * V by omega]; exact hN))
  exact J_weak (by repeat (first | exact zle_nil | apply zle_s | apply zle_n)) (hL5 _ 64 0 rfl ⟨6, rfl⟩ (by omega) h0 h64)
set_option maxRecDepth 100000 in
set_option maxHeartbeats 4000000 in
theorem c_X2_keepRoot {l : Launch} {gg : zG} {σ : zS} {i f : Nat} {ll la : Bool} {x y z : Int32} (hb : zfb σ) (hc0 : 0 ≤ (sl σ 2).toInt) (hf : si σ 8 = nI f) (hf2 : f < 32) (hx : x = nI i) (hi : i < 16) (hy : y = zbi la) (hz : z = zbi ll) : zMv l gg yX2_keepRoot cX2_keepRoot 6 2 50 [.ref (zf gg), .int x, .int y, .int z] σ (fun u => u = zkl σ f i (zkr (sl σ 0).toInt (sl σ 1).toInt (sl σ 2).toInt ll la)) := by
  subst hx
  refine zM_v (own := RX2) (lv := [some (.ref (zf gg)), some (.int (nI i)), some (.int y), some (.int z), none, none]) (by decide +kernel) rfl (Nat.le_of_ble_eq_true rfl) rfl (fun cx hc hR hI => ?_)
  refine J_aloadn_0 (pc := 0) hc dX2_keepRoot_0 ?_
  refine J_lconst (pc := 1) hc dX2_keepRoot_1 (v := 0) (by decide) ?_
  refine J_iloadn_3 (pc := 2) hc dX2_keepRoot_2 ?_
  refine kX2_60 (pc := 3) hc hR dX2_keepRoot_3 (c_X2_sideOfRoot (m := 0) hb rfl (by omega) hz) (by decide) (Nat.le_of_ble_eq_true rfl) rfl (fun r u hu => ?_)
  have hr1 := hu.1
  refine J_eq hu.2 ?_
  refine J_if_le (pc := 6) hc 10 dX2_keepRoot_6 (by decide) (fun bq6 => ?_) (fun bq6 => ?_)
  · skip
    have h1 : zside (sl σ 0).toInt (sl σ 1).toInt (sl σ 2).toInt ll 0 ≤ 0 := by rw [zi_le, hr1, z0I] at bq6; exact bq6
    refine J_aloadn_0 (pc := 10) hc dX2_keepRoot_10 ?_
    refine nX2_48 (pc := 11) hc dX2_keepRoot_11 ?_
    refine J_iloadn_3 (pc := 14) hc dX2_keepRoot_14 ?_
    refine kX2_60 (pc := 15) hc hR dX2_keepRoot_15 (c_X2_sideOfRoot (m := 64) hb rfl (by omega) hz) (by decide) (Nat.le_of_ble_eq_true rfl) rfl (fun r u hu => ?_)
    have hr2 := hu.1
    refine J_eq hu.2 ?_
    refine J_istore_4 (pc := 18) hc dX2_keepRoot_18 rfl ?_
    refine J_iload_4 (pc := 20) hc dX2_keepRoot_20 ?_
    refine J_if_lt (pc := 22) hc 46 dX2_keepRoot_22 (by decide) (fun bq22 => ?_) (fun bq22 => ?_)
    · skip
      have h2 : zside (sl σ 0).toInt (sl σ 1).toInt (sl σ 2).toInt ll 64 < 0 := by rw [zi_lt, hr2, z0I] at bq22; exact bq22
      exact J_vret (pc := 46) hc hI dX2_keepRoot_46 (by first | rw [show zkr (sl σ 0).toInt (sl σ 1).toInt (sl σ 2).toInt ll la = [] from (if_neg (Int.not_lt.mpr h1)).trans (if_pos (Or.inl h2)), zkl_nil hf] | rw [show zkr (sl σ 0).toInt (sl σ 1).toInt (sl σ 2).toInt ll la = [] from (if_neg (Int.not_lt.mpr h1)).trans (if_pos (Or.inr ⟨h2, hla⟩)), zkl_nil hf])
    · skip
      have h3 : ¬ zside (sl σ 0).toInt (sl σ 1).toInt (sl σ 2).toInt ll 64 < 0 := by rw [zi_lt, hr2, z0I] at bq22; exact bq22
      refine J_iload_4 (pc := 25) hc dX2_keepRoot_25 ?_
      refine J_if_ne (pc := 27) hc 34 dX2_keepRoot_27 (by decide) (fun bq27 => ?_) (fun bq27 => ?_)
      · skip
        refine J_aloadn_0 (pc := 34) hc dX2_keepRoot_34 ?_
        refine gX2_15 (pc := 35) hc dX2_keepRoot_35 ?_
        refine J_aloadn_0 (pc := 38) hc dX2_keepRoot_38 ?_
        refine gX2_9 (pc := 39) hc dX2_keepRoot_39 ?_
        refine J_alen (pc := 42) hc 32 (by omega) rfl dX2_keepRoot_42 ?_
        refine J_icmp_lt (pc := 43) hc 47 dX2_keepRoot_43 (by decide) (fun bq43 => ?_) (fun bq43 => ?_)
        · skip
          refine J_iload_4 (pc := 47) hc dX2_keepRoot_47 ?_
          refine J_if_ne (pc := 49) hc 57 dX2_keepRoot_49 (by decide) (fun bq49 => ?_) (fun bq49 => ?_)
          · skip
            have h2 : ¬ zside (sl σ 0).toInt (sl σ 1).toInt (sl σ 2).toInt ll 64 ≤ 0 := by rw [zi_eq, hr2, z0I] at bq49; have bq49 : ¬ zside (sl σ 0).toInt (sl σ 1).toInt (sl σ 2).toInt ll 64 = 0 := bq49; omega
            refine J_aloadn_0 (pc := 57) hc dX2_keepRoot_57 ?_
            refine J_iloadn_3 (pc := 58) hc dX2_keepRoot_58 ?_
            refine kX2_64 (pc := 59) hc hR dX2_keepRoot_59 (c_X2_boxInside hb hz hc0 h1 h2) (by decide) (Nat.le_of_ble_eq_true rfl) rfl (fun r u hu => ?_)
            refine J_eq hu.2 (J_topi hu.1 ?_)
            refine J_istore_5 (pc := 62) hc dX2_keepRoot_62 rfl ?_
            refine J_aloadn_0 (pc := 64) hc dX2_keepRoot_64 ?_
            refine gX2_9 (pc := 65) hc dX2_keepRoot_65 ?_
            refine J_aloadn_0 (pc := 68) hc dX2_keepRoot_68 ?_
            refine gX2_15 (pc := 69) hc dX2_keepRoot_69 ?_
            refine J_iloadn_1 (pc := 72) hc dX2_keepRoot_72 ?_
            refine J_bipush (pc := 73) hc dX2_keepRoot_73 (v := 64) (by decide) ?_
            refine J_imul (pc := 75) hc dX2_keepRoot_75 ?_
            refine J_iload_5 (pc := 76) hc dX2_keepRoot_76 ?_
            refine J_iadd (pc := 78) hc dX2_keepRoot_78 ?_
            first | (refine J_topi (z64 i 64) ?_) | (refine J_topi (z64 i _) ?_)
            refine J_iast (pc := 79) hc 32 (by omega) rfl dX2_keepRoot_79 hf (by omega) ?_
            refine J_aloadn_0 (pc := 80) hc dX2_keepRoot_80 ?_
            refine J_dup (pc := 81) hc dX2_keepRoot_81 rfl ?_
            refine gX2_15 (pc := 82) hc dX2_keepRoot_82 ?_
            refine J_iconst (pc := 85) hc dX2_keepRoot_85 (v := 1) (by decide) ?_
            refine J_iadd (pc := 86) hc dX2_keepRoot_86 ?_
            refine J_topi (y := nI (f + 1)) (by rw [si_ua, hf, nI_1]) ?_
            refine pX2_15 (pc := 87) hc dX2_keepRoot_87 ?_
            exact J_vret (pc := 90) hc hI dX2_keepRoot_90 (by first | exact absurd bq49 bq27 | exact absurd bq27 bq49 | rw [show zkr (sl σ 0).toInt (sl σ 1).toInt (sl σ 2).toInt ll la = [64] from (if_neg (Int.not_lt.mpr h1)).trans ((if_neg (fun h => h.elim (fun q => h3 q) (fun q => by rw [hla] at q; cases q.2))).trans (if_pos h2))]; rfl | rw [show zkr (sl σ 0).toInt (sl σ 1).toInt (sl σ 2).toInt ll la = [zbx (sl σ 0).toInt (sl σ 1).toInt (sl σ 2).toInt ll] from (if_neg (Int.not_lt.mpr h1)).trans ((if_neg (fun h => h.elim (fun q => h2 (Int.le_of_lt q)) (fun q => h2 (Int.le_of_eq q.1)))).trans (if_neg (fun q => h2 (Int.le_of_eq q))))]; rfl)
          · skip
            have h2 : zside (sl σ 0).toInt (sl σ 1).toInt (sl σ 2).toInt ll 64 = 0 := by rw [zi_eq, hr2, z0I] at bq49; exact bq49
            refine J_bipush (pc := 52) hc dX2_keepRoot_52 (v := 64) (by decide) ?_
            refine J_goto (pc := 54) hc 62 dX2_keepRoot_54 (by decide) ?_
            refine J_istore_5 (pc := 62) hc dX2_keepRoot_62 rfl ?_
            refine J_aloadn_0 (pc := 64) hc dX2_keepRoot_64 ?_
            refine gX2_9 (pc := 65) hc dX2_keepRoot_65 ?_
            refine J_aloadn_0 (pc := 68) hc dX2_keepRoot_68 ?_
            refine gX2_15 (pc := 69) hc dX2_keepRoot_69 ?_
            refine J_iloadn_1 (pc := 72) hc dX2_keepRoot_72 ?_
            refine J_bipush (pc := 73) hc dX2_keepRoot_73 (v := 64) (by decide) ?_
            refine J_imul (pc := 75) hc dX2_keepRoot_75 ?_
            refine J_iload_5 (pc := 76) hc dX2_keepRoot_76 ?_
            refine J_iadd (pc := 78) hc dX2_keepRoot_78 ?_
            first | (refine J_topi (z64 i 64) ?_) | (refine J_topi (z64 i _) ?_)
            refine J_iast (pc := 79) hc 32 (by omega) rfl dX2_keepRoot_79 hf (by omega) ?_
            refine J_aloadn_0 (pc := 80) hc dX2_keepRoot_80 ?_
            refine J_dup (pc := 81) hc dX2_keepRoot_81 rfl ?_
            refine gX2_15 (pc := 82) hc dX2_keepRoot_82 ?_
            refine J_iconst (pc := 85) hc dX2_keepRoot_85 (v := 1) (by decide) ?_
            refine J_iadd (pc := 86) hc dX2_keepRoot_86 ?_
            refine J_topi (y := nI (f + 1)) (by rw [si_ua, hf, nI_1]) ?_
            refine pX2_15 (pc := 87) hc dX2_keepRoot_87 ?_
            exact J_vret (pc := 90) hc hI dX2_keepRoot_90 (by first | exact absurd bq49 bq27 | exact absurd bq27 bq49 | rw [show zkr (sl σ 0).toInt (sl σ 1).toInt (sl σ 2).toInt ll la = [64] from (if_neg (Int.not_lt.mpr h1)).trans ((if_neg (fun h => h.elim (fun q => h3 q) (fun q => by rw [hla] at q; cases q.2))).trans (if_pos h2))]; rfl | rw [show zkr (sl σ 0).toInt (sl σ 1).toInt (sl σ 2).toInt ll la = [zbx (sl σ 0).toInt (sl σ 1).toInt (sl σ 2).toInt ll] from (if_neg (Int.not_lt.mpr h1)).trans ((if_neg (fun h => h.elim (fun q => h2 (Int.le_of_lt q)) (fun q => h2 (Int.le_of_eq q.1)))).trans (if_neg (fun q => h2 (Int.le_of_eq q))))]; rfl)
        · skip
          exact absurd (show si σ 8 < nI 32 by rw [hf]; exact (nI_ltI (by omega) (by omega)).mpr hf2) bq43 --stop
      · skip
        have h2 : zside (sl σ 0).toInt (sl σ 1).toInt (sl σ 2).toInt ll 64 = 0 := by rw [zi_eq, hr2, z0I] at bq27; exact bq27
        refine J_iloadn_2 (pc := 30) hc dX2_keepRoot_30 ?_
        refine J_if_eq (pc := 31) hc 46 dX2_keepRoot_31 (by decide) (fun bq31 => ?_) (fun bq31 => ?_)
        · skip
          have hla : la = false := by cases la; rfl; rw [hy] at bq31; exact absurd bq31 (by decide)
          exact J_vret (pc := 46) hc hI dX2_keepRoot_46 (by first | rw [show zkr (sl σ 0).toInt (sl σ 1).toInt (sl σ 2).toInt ll la = [] from (if_neg (Int.not_lt.mpr h1)).trans (if_pos (Or.inl h2)), zkl_nil hf] | rw [show zkr (sl σ 0).toInt (sl σ 1).toInt (sl σ 2).toInt ll la = [] from (if_neg (Int.not_lt.mpr h1)).trans (if_pos (Or.inr ⟨h2, hla⟩)), zkl_nil hf])
        · skip
          have hla : la = true := by cases la; rw [hy] at bq31; exact absurd rfl bq31; rfl
          refine J_aloadn_0 (pc := 34) hc dX2_keepRoot_34 ?_
          refine gX2_15 (pc := 35) hc dX2_keepRoot_35 ?_
          refine J_aloadn_0 (pc := 38) hc dX2_keepRoot_38 ?_
          refine gX2_9 (pc := 39) hc dX2_keepRoot_39 ?_
          refine J_alen (pc := 42) hc 32 (by omega) rfl dX2_keepRoot_42 ?_
          refine J_icmp_lt (pc := 43) hc 47 dX2_keepRoot_43 (by decide) (fun bq43 => ?_) (fun bq43 => ?_)
          · skip
            refine J_iload_4 (pc := 47) hc dX2_keepRoot_47 ?_
            refine J_if_ne (pc := 49) hc 57 dX2_keepRoot_49 (by decide) (fun bq49 => ?_) (fun bq49 => ?_)
            · skip
              have h2 : ¬ zside (sl σ 0).toInt (sl σ 1).toInt (sl σ 2).toInt ll 64 ≤ 0 := by rw [zi_eq, hr2, z0I] at bq49; have bq49 : ¬ zside (sl σ 0).toInt (sl σ 1).toInt (sl σ 2).toInt ll 64 = 0 := bq49; omega
              refine J_aloadn_0 (pc := 57) hc dX2_keepRoot_57 ?_
              refine J_iloadn_3 (pc := 58) hc dX2_keepRoot_58 ?_
              refine kX2_64 (pc := 59) hc hR dX2_keepRoot_59 (c_X2_boxInside hb hz hc0 h1 h2) (by decide) (Nat.le_of_ble_eq_true rfl) rfl (fun r u hu => ?_)
              refine J_eq hu.2 (J_topi hu.1 ?_)
              refine J_istore_5 (pc := 62) hc dX2_keepRoot_62 rfl ?_
              refine J_aloadn_0 (pc := 64) hc dX2_keepRoot_64 ?_
              refine gX2_9 (pc := 65) hc dX2_keepRoot_65 ?_
              refine J_aloadn_0 (pc := 68) hc dX2_keepRoot_68 ?_
              refine gX2_15 (pc := 69) hc dX2_keepRoot_69 ?_
              refine J_iloadn_1 (pc := 72) hc dX2_keepRoot_72 ?_
              refine J_bipush (pc := 73) hc dX2_keepRoot_73 (v := 64) (by decide) ?_
              refine J_imul (pc := 75) hc dX2_keepRoot_75 ?_
              refine J_iload_5 (pc := 76) hc dX2_keepRoot_76 ?_
              refine J_iadd (pc := 78) hc dX2_keepRoot_78 ?_
              first | (refine J_topi (z64 i 64) ?_) | (refine J_topi (z64 i _) ?_)
              refine J_iast (pc := 79) hc 32 (by omega) rfl dX2_keepRoot_79 hf (by omega) ?_
              refine J_aloadn_0 (pc := 80) hc dX2_keepRoot_80 ?_
              refine J_dup (pc := 81) hc dX2_keepRoot_81 rfl ?_
              refine gX2_15 (pc := 82) hc dX2_keepRoot_82 ?_
              refine J_iconst (pc := 85) hc dX2_keepRoot_85 (v := 1) (by decide) ?_
              refine J_iadd (pc := 86) hc dX2_keepRoot_86 ?_
              refine J_topi (y := nI (f + 1)) (by rw [si_ua, hf, nI_1]) ?_
              refine pX2_15 (pc := 87) hc dX2_keepRoot_87 ?_
              exact J_vret (pc := 90) hc hI dX2_keepRoot_90 (by first | exact absurd bq49 bq27 | exact absurd bq27 bq49 | rw [show zkr (sl σ 0).toInt (sl σ 1).toInt (sl σ 2).toInt ll la = [64] from (if_neg (Int.not_lt.mpr h1)).trans ((if_neg (fun h => h.elim (fun q => h3 q) (fun q => by rw [hla] at q; cases q.2))).trans (if_pos h2))]; rfl | rw [show zkr (sl σ 0).toInt (sl σ 1).toInt (sl σ 2).toInt ll la = [zbx (sl σ 0).toInt (sl σ 1).toInt (sl σ 2).toInt ll] from (if_neg (Int.not_lt.mpr h1)).trans ((if_neg (fun h => h.elim (fun q => h2 (Int.le_of_lt q)) (fun q => h2 (Int.le_of_eq q.1)))).trans (if_neg (fun q => h2 (Int.le_of_eq q))))]; rfl)
            · skip
              have h2 : zside (sl σ 0).toInt (sl σ 1).toInt (sl σ 2).toInt ll 64 = 0 := by rw [zi_eq, hr2, z0I] at bq49; exact bq49
              refine J_bipush (pc := 52) hc dX2_keepRoot_52 (v := 64) (by decide) ?_
              refine J_goto (pc := 54) hc 62 dX2_keepRoot_54 (by decide) ?_
              refine J_istore_5 (pc := 62) hc dX2_keepRoot_62 rfl ?_
              refine J_aloadn_0 (pc := 64) hc dX2_keepRoot_64 ?_
              refine gX2_9 (pc := 65) hc dX2_keepRoot_65 ?_
              refine J_aloadn_0 (pc := 68) hc dX2_keepRoot_68 ?_
              refine gX2_15 (pc := 69) hc dX2_keepRoot_69 ?_
              refine J_iloadn_1 (pc := 72) hc dX2_keepRoot_72 ?_
              refine J_bipush (pc := 73) hc dX2_keepRoot_73 (v := 64) (by decide) ?_
              refine J_imul (pc := 75) hc dX2_keepRoot_75 ?_
              refine J_iload_5 (pc := 76) hc dX2_keepRoot_76 ?_
              refine J_iadd (pc := 78) hc dX2_keepRoot_78 ?_
              first | (refine J_topi (z64 i 64) ?_) | (refine J_topi (z64 i _) ?_)
              refine J_iast (pc := 79) hc 32 (by omega) rfl dX2_keepRoot_79 hf (by omega) ?_
              refine J_aloadn_0 (pc := 80) hc dX2_keepRoot_80 ?_
              refine J_dup (pc := 81) hc dX2_keepRoot_81 rfl ?_
              refine gX2_15 (pc := 82) hc dX2_keepRoot_82 ?_
              refine J_iconst (pc := 85) hc dX2_keepRoot_85 (v := 1) (by decide) ?_
              refine J_iadd (pc := 86) hc dX2_keepRoot_86 ?_
              refine J_topi (y := nI (f + 1)) (by rw [si_ua, hf, nI_1]) ?_
              refine pX2_15 (pc := 87) hc dX2_keepRoot_87 ?_
              exact J_vret (pc := 90) hc hI dX2_keepRoot_90 (by first | exact absurd bq49 bq27 | exact absurd bq27 bq49 | rw [show zkr (sl σ 0).toInt (sl σ 1).toInt (sl σ 2).toInt ll la = [64] from (if_neg (Int.not_lt.mpr h1)).trans ((if_neg (fun h => h.elim (fun q => h3 q) (fun q => by rw [hla] at q; cases q.2))).trans (if_pos h2))]; rfl | rw [show zkr (sl σ 0).toInt (sl σ 1).toInt (sl σ 2).toInt ll la = [zbx (sl σ 0).toInt (sl σ 1).toInt (sl σ 2).toInt ll] from (if_neg (Int.not_lt.mpr h1)).trans ((if_neg (fun h => h.elim (fun q => h2 (Int.le_of_lt q)) (fun q => h2 (Int.le_of_eq q.1)))).trans (if_neg (fun q => h2 (Int.le_of_eq q))))]; rfl)
          · skip
            exact absurd (show si σ 8 < nI 32 by rw [hf]; exact (nI_ltI (by omega) (by omega)).mpr hf2) bq43 --stop
  · skip
    have h1 : 0 < zside (sl σ 0).toInt (sl σ 1).toInt (sl σ 2).toInt ll 0 := by rw [zi_le, hr1, z0I] at bq6; exact Int.not_le.mp bq6
    exact J_vret (pc := 9) hc hI dX2_keepRoot_9 (by rw [show zkr (sl σ 0).toInt (sl σ 1).toInt (sl σ 2).toInt ll la = [] from if_pos h1, zkl_nil hf])
end
section
theorem zsg_b (b c : Int) : zbd (zsg b c) 1 := by unfold zsg zbd; split <;> decide
theorem zTA {sg : Int32} {x : Int64} {b c : Int} (h : sg.toInt = zsg b c) (hx : zbd x.toInt 200000) : (sg.toInt64 * x * 64 * 64).toInt = zsg b c * x.toInt * 4096 := by
  have h1 : zbd sg.toInt64.toInt 1 := by rw [Int32.toInt_toInt64, h]; exact zsg_b b c
  have h5 : zbd (64 : Int64).toInt 64 := by unfold zbd; decide
  have e1 := zLm h1 hx (by decide)
  have b1 : zbd (sg.toInt64 * x).toInt 200000 := by rw [e1]; exact (h1.mul hx).le (by decide)
  have e2 := zLm b1 h5 (by decide)
  have b2 : zbd (sg.toInt64 * x * 64).toInt 12800000 := by rw [e2]; exact (b1.mul h5).le (by decide)
  rw [zLm b2 h5 (by decide), e2, e1, Int32.toInt_toInt64, h, show (64 : Int64).toInt = 64 by decide]
  omega
theorem zTB {sg : Int32} {x : Int64} {b c : Int} (h : sg.toInt = zsg b c) (hx : zbd x.toInt 200000) : (sg.toInt64 * x * 64).toInt = zsg b c * x.toInt * 64 := by
  have h1 : zbd sg.toInt64.toInt 1 := by rw [Int32.toInt_toInt64, h]; exact zsg_b b c
  have h5 : zbd (64 : Int64).toInt 64 := by unfold zbd; decide
  have e1 := zLm h1 hx (by decide)
  have b1 : zbd (sg.toInt64 * x).toInt 200000 := by rw [e1]; exact (h1.mul hx).le (by decide)
  rw [zLm b1 h5 (by decide), e1, Int32.toInt_toInt64, h, show (64 : Int64).toInt = 64 by decide]
theorem zTC {sg : Int32} {x : Int64} {b c : Int} (h : sg.toInt = zsg b c) (hx : zbd x.toInt 200000) : (sg.toInt64 * x).toInt = zsg b c * x.toInt := by
  have h1 : zbd sg.toInt64.toInt 1 := by rw [Int32.toInt_toInt64, h]; exact zsg_b b c
  rw [zLm h1 hx (by decide), Int32.toInt_toInt64, h]
theorem zfb_t {a b c : Int} {AA BB CC : Int64} {σ : zS} (ha : zbd a 200000) (hb : zbd b 200000) (hc : zbd c 200000) (hA : AA.toInt = zsg b c * a * 4096) (hB : BB.toInt = zsg b c * b * 64) (hC : CC.toInt = zsg b c * c) : zfb (ul (ul (ul σ 0 AA) 1 BB) 2 CC) := by
  refine ⟨?_, ?_, ?_⟩
  · show zbd AA.toInt _
    rw [hA]; exact (((zsg_b b c).mul ha).mul (y := 4096) (Y := 4096) (by unfold zbd; decide)).le (by decide)
  · show zbd BB.toInt _
    rw [hB]; exact (((zsg_b b c).mul hb).mul (y := 64) (Y := 64) (by unfold zbd; decide)).le (by decide)
  · show zbd CC.toInt _
    rw [hC]; exact ((zsg_b b c).mul hc).le (by decide)
def zsp (a b c : Int) (la : Bool) : List Nat := (if 0 < c ∧ 0 < zds a b c then zkr a b c true la else []) ++ zkr a b c false la
theorem zsp_len (a b c : Int) (la : Bool) : (zsp a b c la).length ≤ 2 := by
  unfold zsp
  rw [List.length_append]
  have h1 := zkr_len a b c true la
  have h2 := zkr_len a b c false la
  split
  · omega
  · simp; omega
/-- the boxes of a piece's zeros, 64 of them to a piece; the boxes of the first i pieces -/
def zpb (a b c : Int) (la : Bool) : List Nat := if ¬ zld b c = 0 ∧ 0 ≤ zds (zsg b c * a * 4096) (zsg b c * b * 64) (zsg b c * c) then zsp (zsg b c * a * 4096) (zsg b c * b * 64) (zsg b c * c) la else []
theorem zpb_len (a b c : Int) (la : Bool) : (zpb a b c la).length ≤ 2 := by
  unfold zpb
  split
  · exact zsp_len _ _ _ _
  · simp
def zbl (A B C : Nat → Int) (n : Nat) : Nat → List Nat
  | 0 => []
  | i + 1 => zbl A B C n i ++ (zpb (A i) (B i) (C i) (decide (i + 1 = n))).map (fun b => 64 * i + b)
theorem zbl_len (A B C : Nat → Int) (n : Nat) : ∀ i, (zbl A B C n i).length ≤ 2 * i
  | 0 => by simp [zbl]
  | i + 1 => by
    have := zbl_len A B C n i
    have h2 := zpb_len (A i) (B i) (C i) (decide (i + 1 = n))
    rw [zbl, List.length_append, List.length_map]; omega
def zfs (σ : zS) (L : List Nat) (w : Nat → Int64) : zS := (va_up σ.1 8 (nI L.length), w, va_up σ.2.2.1 22 (zputs (sa σ 22) 0 L), σ.2.2.2)
theorem si_zfs {σ : zS} {L : List Nat} {w : Nat → Int64} {j : Nat} (h : ¬ j = 8) : si (zfs σ L w) j = si σ j := if_neg h
theorem sa_zfs {σ : zS} {L : List Nat} {w : Nat → Int64} {j : Nat} (h : ¬ j = 22) : sa (zfs σ L w) j = sa σ j := if_neg h
theorem sm_zfs {σ : zS} {L : List Nat} {w : Nat → Int64} {j : Nat} : sm (zfs σ L w) j = sm σ j := rfl
theorem zfs_kl (σ : zS) (L : List Nat) (w : Nat → Int64) (i : Nat) (M : List Nat) : zkl (zfs σ L w) L.length i M = zfs σ (L ++ M.map (fun b => 64 * i + b)) w := by
  unfold zkl
  apply zS_ext <;> intro q <;> try rfl
  · show (if q = 8 then nI (L.length + M.length) else (if q = 8 then _ else _)) = (if q = 8 then nI (L ++ M.map (fun b => 64 * i + b)).length else _)
    rw [List.length_append, List.length_map]
    by_cases h : q = 8
    · rw [if_pos h, if_pos h]
    · rw [if_neg h, if_neg h, if_neg h]
  · simp only [sa_ui, sa_ua]
    by_cases h : q = 22
    · subst h
      rw [if_pos rfl]
      show zputs (zputs (sa σ 22) 0 L) L.length _ = zputs (sa σ 22) 0 (L ++ _)
      rw [zputs_app, Nat.zero_add]
    · rw [if_neg h, sa_zfs h, sa_zfs h]
theorem zfs_0 (σ : zS) : ui σ 8 0 = zfs σ [] σ.2.1 := by
  apply zS_ext <;> intro q <;> try rfl
  by_cases h : q = 22
  · subst h; rfl
  · rw [sa_zfs h]; rfl
theorem zbl_skip {A B C : Nat → Int} {n i : Nat} (h : ¬ (¬ zld (B i) (C i) = 0 ∧ 0 ≤ zds (zsg (B i) (C i) * A i * 4096) (zsg (B i) (C i) * B i * 64) (zsg (B i) (C i) * C i))) : zbl A B C n (i + 1) = zbl A B C n i := by
  rw [zbl, zpb, if_neg h]; simp
theorem zbl_keep {A B C : Nat → Int} {n i : Nat} (h : ¬ zld (B i) (C i) = 0 ∧ 0 ≤ zds (zsg (B i) (C i) * A i * 4096) (zsg (B i) (C i) * B i * 64) (zsg (B i) (C i) * C i)) : zbl A B C n (i + 1) = zbl A B C n i ++ (zsp (zsg (B i) (C i) * A i * 4096) (zsg (B i) (C i) * B i * 64) (zsg (B i) (C i) * C i) (decide (i + 1 = n))).map (fun b => 64 * i + b) := by
  rw [zbl, zpb, if_pos h]
theorem sl_u0 (X : zS) (a b c : Int64) : sl (ul (ul (ul X 0 a) 1 b) 2 c) 0 = a := rfl
theorem sl_u1 (X : zS) (a b c : Int64) : sl (ul (ul (ul X 0 a) 1 b) 2 c) 1 = b := rfl
theorem sl_u2 (X : zS) (a b c : Int64) : sl (ul (ul (ul X 0 a) 1 b) 2 c) 2 = c := rfl
theorem zsgc {b c : Int} : 0 ≤ zsg b c * c := by
  unfold zsg zld
  by_cases h : c = 0
  · rw [h]; simp
  · rw [if_neg h]; split <;> omega
def zcoI (σ : zS) (k : Nat) : Nat → Int := fun i => (sa σ k i).toInt
set_option maxRecDepth 100000 in
set_option maxHeartbeats 4000000 in
theorem c_X2_take {l : Launch} {gg : zG} {σ : zS} {x y z : Int64} (hx : zbd x.toInt 200000) (hy : zbd y.toInt 200000) (hz : zbd z.toInt 200000) : zMi l gg yX2_take cX2_take .boolean 10 1 20 [.ref (zf gg), .long x, .long y, .long z] σ (fun r u => ∃ AA BB CC : Int64, u = ul (ul (ul σ 0 AA) 1 BB) 2 CC ∧ AA.toInt = zsg y.toInt z.toInt * x.toInt * 4096 ∧ BB.toInt = zsg y.toInt z.toInt * y.toInt * 64 ∧ CC.toInt = zsg y.toInt z.toInt * z.toInt ∧ zb r (¬ zld y.toInt z.toInt = 0 ∧ 0 ≤ zds AA.toInt BB.toInt CC.toInt)) := by
  refine zM_i (own := RX2) (lv := [some (.ref (zf gg)), some (.long x), none, some (.long y), none, some (.long z), none, none, none, none]) (by decide +kernel) rfl (Nat.le_of_ble_eq_true rfl) rfl (fun cx hc hR hI => ?_)
  have hJ15 : ∀ (ld : Int64), ld.toInt = zld y.toInt z.toInt → J cx gg (zQi cx gg (fun r u => ∃ AA BB CC : Int64, u = ul (ul (ul σ 0 AA) 1 BB) 2 CC ∧ AA.toInt = zsg y.toInt z.toInt * x.toInt * 4096 ∧ BB.toInt = zsg y.toInt z.toInt * y.toInt * 64 ∧ CC.toInt = zsg y.toInt z.toInt * z.toInt ∧ zb r (¬ zld y.toInt z.toInt = 0 ∧ 0 ≤ zds AA.toInt BB.toInt CC.toInt))) σ 15 [some (.ref (zf gg)), some (.long x), none, some (.long y), none, some (.long z), none, some (.long ld), none, none] [] := by
    intro ld hld
    have hJ29 : ∀ (sg : Int32), sg.toInt = zsg y.toInt z.toInt → J cx gg (zQi cx gg (fun r u => ∃ AA BB CC : Int64, u = ul (ul (ul σ 0 AA) 1 BB) 2 CC ∧ AA.toInt = zsg y.toInt z.toInt * x.toInt * 4096 ∧ BB.toInt = zsg y.toInt z.toInt * y.toInt * 64 ∧ CC.toInt = zsg y.toInt z.toInt * z.toInt ∧ zb r (¬ zld y.toInt z.toInt = 0 ∧ 0 ≤ zds AA.toInt BB.toInt CC.toInt))) σ 29 [some (.ref (zf gg)), some (.long x), none, some (.long y), none, some (.long z), none, some (.long ld), none, some (.int sg)] [] := by
      intro sg hsg
      refine J_aloadn_0 (pc := 29) hc dX2_take_29 ?_
      refine J_iload_9 (pc := 30) hc dX2_take_30 ?_
      refine J_i2l (pc := 32) hc dX2_take_32 ?_
      refine J_lloadn_1 (pc := 33) hc dX2_take_33 ?_
      refine J_lmul (pc := 34) hc dX2_take_34 ?_
      refine nX2_48 (pc := 35) hc dX2_take_35 ?_
      refine J_lmul (pc := 38) hc dX2_take_38 ?_
      refine nX2_48 (pc := 39) hc dX2_take_39 ?_
      refine J_lmul (pc := 42) hc dX2_take_42 ?_
      refine J_naml (fun AA eA => ?_)
      have hA : AA.toInt = zsg y.toInt z.toInt * x.toInt * 4096 := by rw [eA]; exact zTA hsg hx
      refine pX2_19 (pc := 43) hc dX2_take_43 ?_
      refine J_aloadn_0 (pc := 46) hc dX2_take_46 ?_
      refine J_iload_9 (pc := 47) hc dX2_take_47 ?_
      refine J_i2l (pc := 49) hc dX2_take_49 ?_
      refine J_lloadn_3 (pc := 50) hc dX2_take_50 ?_
      refine J_lmul (pc := 51) hc dX2_take_51 ?_
      refine nX2_48 (pc := 52) hc dX2_take_52 ?_
      refine J_lmul (pc := 55) hc dX2_take_55 ?_
      refine J_naml (fun BB eB => ?_)
      have hB : BB.toInt = zsg y.toInt z.toInt * y.toInt * 64 := by rw [eB]; exact zTB hsg hy
      refine pX2_23 (pc := 56) hc dX2_take_56 ?_
      refine J_aloadn_0 (pc := 59) hc dX2_take_59 ?_
      refine J_iload_9 (pc := 60) hc dX2_take_60 ?_
      refine J_i2l (pc := 62) hc dX2_take_62 ?_
      refine J_lload_5 (pc := 63) hc dX2_take_63 ?_
      refine J_lmul (pc := 65) hc dX2_take_65 ?_
      refine J_naml (fun CC eC => ?_)
      have hC : CC.toInt = zsg y.toInt z.toInt * z.toInt := by rw [eC]; exact zTC hsg hz
      refine pX2_26 (pc := 66) hc dX2_take_66 ?_
      refine J_lload_7 (pc := 69) hc dX2_take_69 ?_
      refine J_lconst (pc := 71) hc dX2_take_71 (v := 0) (by decide) ?_
      refine J_lcmp_eq (pc := 72) hc 89 dX2_take_72 dX2_take_73 (by decide) (fun bq72 => ?_) (fun bq72 => ?_)
      · skip
        refine J_iconst (pc := 89) hc dX2_take_89 (v := 0) (by decide) ?_
        exact J_zret (pc := 90) hc hI dX2_take_90 (by first | exact znb0 | exact znb1 | exact zb.n (by assumption)) (by first | exact ⟨AA, BB, CC, rfl, hA, hB, hC, zb_1 ⟨fun h => bq72 (zl_eq.mpr (by rw [hld, h]; rfl)), by rw [zl_lt, hr, z0L] at bq81; exact Int.not_lt.mp bq81⟩⟩ | exact ⟨AA, BB, CC, rfl, hA, hB, hC, zb_0 (fun h => by rw [zl_lt, hr, z0L] at bq81; exact absurd bq81 (Int.not_lt.mpr h.2))⟩ | exact ⟨AA, BB, CC, rfl, hA, hB, hC, zb_0 (fun h => h.1 (by rw [← hld, bq72]; rfl))⟩)
      · skip
        refine J_aloadn_0 (pc := 76) hc dX2_take_76 ?_
        refine kX2_50 (pc := 77) hc hR dX2_take_77 (c_X2_discriminant (zfb_t hx hy hz hA hB hC)) (by decide) (Nat.le_of_ble_eq_true rfl) rfl (fun r u hu => ?_)
        have hr := hu.1
        refine J_eq hu.2 ?_
        refine J_lconst (pc := 80) hc dX2_take_80 (v := 0) (by decide) ?_
        refine J_lcmp_lt (pc := 81) hc 89 dX2_take_81 dX2_take_82 (by decide) (fun bq81 => ?_) (fun bq81 => ?_)
        · skip
          refine J_iconst (pc := 89) hc dX2_take_89 (v := 0) (by decide) ?_
          exact J_zret (pc := 90) hc hI dX2_take_90 (by first | exact znb0 | exact znb1 | exact zb.n (by assumption)) (by first | exact ⟨AA, BB, CC, rfl, hA, hB, hC, zb_1 ⟨fun h => bq72 (zl_eq.mpr (by rw [hld, h]; rfl)), by rw [zl_lt, hr, z0L] at bq81; exact Int.not_lt.mp bq81⟩⟩ | exact ⟨AA, BB, CC, rfl, hA, hB, hC, zb_0 (fun h => by rw [zl_lt, hr, z0L] at bq81; exact absurd bq81 (Int.not_lt.mpr h.2))⟩ | exact ⟨AA, BB, CC, rfl, hA, hB, hC, zb_0 (fun h => h.1 (by rw [← hld, bq72]; rfl))⟩)
        · skip
          refine J_iconst (pc := 85) hc dX2_take_85 (v := 1) (by decide) ?_
          refine J_goto (pc := 86) hc 90 dX2_take_86 (by decide) ?_
          exact J_zret (pc := 90) hc hI dX2_take_90 (by first | exact znb0 | exact znb1 | exact zb.n (by assumption)) (by first | exact ⟨AA, BB, CC, rfl, hA, hB, hC, zb_1 ⟨fun h => bq72 (zl_eq.mpr (by rw [hld, h]; rfl)), by rw [zl_lt, hr, z0L] at bq81; exact Int.not_lt.mp bq81⟩⟩ | exact ⟨AA, BB, CC, rfl, hA, hB, hC, zb_0 (fun h => by rw [zl_lt, hr, z0L] at bq81; exact absurd bq81 (Int.not_lt.mpr h.2))⟩ | exact ⟨AA, BB, CC, rfl, hA, hB, hC, zb_0 (fun h => h.1 (by rw [← hld, bq72]; rfl))⟩)
    refine J_lload_7 (pc := 15) hc dX2_take_15 ?_
    refine J_lconst (pc := 17) hc dX2_take_17 (v := 0) (by decide) ?_
    refine J_lcmp_ge (pc := 18) hc 26 dX2_take_18 dX2_take_19 (by decide) (fun bq18 => ?_) (fun bq18 => ?_)
    · skip
      refine J_iconst (pc := 26) hc dX2_take_26 (v := 1) (by decide) ?_
      refine J_istore_9 (pc := 27) hc dX2_take_27 rfl ?_
      exact J_weak (by repeat (first | exact zle_nil | apply zle_s | apply zle_n)) (hJ29 _ (by unfold zsg; rw [zl_le, hld, z0L] at bq18; first | rw [if_neg (by omega)]; rfl | rw [if_pos (by omega)]; rfl))
    · skip
      refine J_iconst (pc := 22) hc dX2_take_22 (v := -1) (by decide) ?_
      refine J_goto (pc := 23) hc 27 dX2_take_23 (by decide) ?_
      refine J_istore_9 (pc := 27) hc dX2_take_27 rfl ?_
      exact J_weak (by repeat (first | exact zle_nil | apply zle_s | apply zle_n)) (hJ29 _ (by unfold zsg; rw [zl_le, hld, z0L] at bq18; first | rw [if_neg (by omega)]; rfl | rw [if_pos (by omega)]; rfl))
  refine J_lload_5 (pc := 0) hc dX2_take_0 ?_
  refine J_lconst (pc := 2) hc dX2_take_2 (v := 0) (by decide) ?_
  refine J_lcmp_eq (pc := 3) hc 12 dX2_take_3 dX2_take_4 (by decide) (fun bq3 => ?_) (fun bq3 => ?_)
  · skip
    refine J_lloadn_3 (pc := 12) hc dX2_take_12 ?_
    refine J_lstore_7 (pc := 13) hc dX2_take_13 rfl ?_
    exact J_weak (by repeat (first | exact zle_nil | apply zle_s | apply zle_n)) (hJ15 _ (by unfold zld; first | rw [if_pos (by rw [bq3]; rfl)] | rw [if_neg (fun (h : z.toInt = 0) => bq3 (zl_eq.mpr h))]))
  · skip
    refine J_lload_5 (pc := 7) hc dX2_take_7 ?_
    refine J_goto (pc := 9) hc 13 dX2_take_9 (by decide) ?_
    refine J_lstore_7 (pc := 13) hc dX2_take_13 rfl ?_
    exact J_weak (by repeat (first | exact zle_nil | apply zle_s | apply zle_n)) (hJ15 _ (by unfold zld; first | rw [if_pos (by rw [bq3]; rfl)] | rw [if_neg (fun (h : z.toInt = 0) => bq3 (zl_eq.mpr h))]))
set_option maxRecDepth 100000 in
set_option maxHeartbeats 4000000 in
theorem c_X2_searchPiece {l : Launch} {gg : zG} {σ : zS} {i f : Nat} {la : Bool} {x y : Int32} (hb : zfb σ) (hc0 : 0 ≤ (sl σ 2).toInt) (hf : si σ 8 = nI f) (hf2 : f ≤ 30) (hx : x = nI i) (hi : i < 16) (hy : y = zbi la) : zMv l gg yX2_searchPiece cX2_searchPiece 3 3 75 [.ref (zf gg), .int x, .int y] σ (fun u => u = zkl σ f i (zsp (sl σ 0).toInt (sl σ 1).toInt (sl σ 2).toInt la)) := by
  refine zM_v (own := RX2) (lv := [some (.ref (zf gg)), some (.int x), some (.int y)]) (by decide +kernel) rfl (Nat.le_of_ble_eq_true rfl) rfl (fun cx hc hR hI => ?_)
  have hJ25 : ∀ (L : List Nat), L.length ≤ 1 → L = (if 0 < (sl σ 2).toInt ∧ 0 < zds (sl σ 0).toInt (sl σ 1).toInt (sl σ 2).toInt then zkr (sl σ 0).toInt (sl σ 1).toInt (sl σ 2).toInt true la else []) → J cx gg (zQv cx gg (fun u => u = zkl σ f i (zsp (sl σ 0).toInt (sl σ 1).toInt (sl σ 2).toInt la))) (zkl σ f i L) 25 [some (.ref (zf gg)), some (.int x), some (.int y)] [] := by
    intro L hLl hL
    refine J_aloadn_0 (pc := 25) hc dX2_searchPiece_25 ?_
    refine J_iloadn_1 (pc := 26) hc dX2_searchPiece_26 ?_
    refine J_iloadn_2 (pc := 27) hc dX2_searchPiece_27 ?_
    refine J_iconst (pc := 28) hc dX2_searchPiece_28 (v := 0) (by decide) ?_
    refine kX2_56 (pc := 29) hc hR dX2_searchPiece_29 (c_X2_keepRoot (f := f + L.length) (ll := false) hb hc0 rfl (by omega) hx hi hy rfl) (by decide) (Nat.le_of_ble_eq_true rfl) rfl (fun u hu => ?_)
    refine J_eq hu ?_
    exact J_vret (pc := 32) hc hI dX2_searchPiece_32 (by rw [zkl_app1]; subst hL; rfl)
  refine J_aloadn_0 (pc := 0) hc dX2_searchPiece_0 ?_
  refine gX2_26 (pc := 1) hc dX2_searchPiece_1 ?_
  refine J_lconst (pc := 4) hc dX2_searchPiece_4 (v := 0) (by decide) ?_
  refine J_lcmp_le (pc := 5) hc 25 dX2_searchPiece_5 dX2_searchPiece_6 (by decide) (fun bq5 => ?_) (fun bq5 => ?_)
  · skip
    first | exact J_eq (zkl_nil hf).symm (hJ25 [] (by simp) (if_neg (fun h => by rw [zl_le, z0L] at bq5; omega)).symm) | exact J_eq (zkl_nil hf).symm (hJ25 [] (by simp) (if_neg (fun h => by rw [zl_le, hr, z0L] at bq14; omega)).symm) | exact hJ25 _ (zkr_len _ _ _ _ _) (if_pos ⟨by rw [zl_le, z0L] at bq5; omega, by rw [zl_le, hr, z0L] at bq14; omega⟩).symm
  · skip
    refine J_aloadn_0 (pc := 9) hc dX2_searchPiece_9 ?_
    refine kX2_50 (pc := 10) hc hR dX2_searchPiece_10 (c_X2_discriminant (by assumption)) (by decide) (Nat.le_of_ble_eq_true rfl) rfl (fun r u hu => ?_)
    have hr := hu.1
    refine J_eq hu.2 ?_
    refine J_lconst (pc := 13) hc dX2_searchPiece_13 (v := 0) (by decide) ?_
    refine J_lcmp_le (pc := 14) hc 25 dX2_searchPiece_14 dX2_searchPiece_15 (by decide) (fun bq14 => ?_) (fun bq14 => ?_)
    · skip
      first | exact J_eq (zkl_nil hf).symm (hJ25 [] (by simp) (if_neg (fun h => by rw [zl_le, z0L] at bq5; omega)).symm) | exact J_eq (zkl_nil hf).symm (hJ25 [] (by simp) (if_neg (fun h => by rw [zl_le, hr, z0L] at bq14; omega)).symm) | exact hJ25 _ (zkr_len _ _ _ _ _) (if_pos ⟨by rw [zl_le, z0L] at bq5; omega, by rw [zl_le, hr, z0L] at bq14; omega⟩).symm
    · skip
      refine J_aloadn_0 (pc := 18) hc dX2_searchPiece_18 ?_
      refine J_iloadn_1 (pc := 19) hc dX2_searchPiece_19 ?_
      refine J_iloadn_2 (pc := 20) hc dX2_searchPiece_20 ?_
      refine J_iconst (pc := 21) hc dX2_searchPiece_21 (v := 1) (by decide) ?_
      refine kX2_56 (pc := 22) hc hR dX2_searchPiece_22 (c_X2_keepRoot (ll := true) hb hc0 hf (by omega) hx hi hy rfl) (by decide) (Nat.le_of_ble_eq_true rfl) rfl (fun u hu => ?_)
      refine J_eq hu ?_
      first | exact J_eq (zkl_nil hf).symm (hJ25 [] (by simp) (if_neg (fun h => by rw [zl_le, z0L] at bq5; omega)).symm) | exact J_eq (zkl_nil hf).symm (hJ25 [] (by simp) (if_neg (fun h => by rw [zl_le, hr, z0L] at bq14; omega)).symm) | exact hJ25 _ (zkr_len _ _ _ _ _) (if_pos ⟨by rw [zl_le, z0L] at bq5; omega, by rw [zl_le, hr, z0L] at bq14; omega⟩).symm
set_option maxRecDepth 100000 in
set_option maxHeartbeats 4000000 in
theorem c_X2_search {l : Launch} {gg : zG} {σ : zS} {k n : Nat} (hk : k < 7) (hs : si σ k = nI n) (hn : n ≤ 16) (hbn : ∀ i, i < n → zbd (sa σ k i).toInt 200000 ∧ zbd (sa σ (7 + k) i).toInt 200000 ∧ zbd (sa σ (14 + k) i).toInt 200000) : zMv l gg yX2_search cX2_search 3 4 97 [.ref (zf gg), .ref (zc gg k)] σ (fun u => ∃ w, u = zfs σ (zbl (zcoI σ k) (zcoI σ (7 + k)) (zcoI σ (14 + k)) n n) w) := by
  refine zM_v (own := RX2) (lv := [some (.ref (zf gg)), some (.ref (zc gg k)), none]) (by decide +kernel) rfl (Nat.le_of_ble_eq_true rfl) rfl (fun cx hc hR hI => ?_)
  refine J_aloadn_0 (pc := 0) hc dX2_search_0 ?_
  refine J_iconst (pc := 1) hc dX2_search_1 (v := 0) (by decide) ?_
  refine pX2_15 (pc := 2) hc dX2_search_2 ?_
  refine J_iconst (pc := 5) hc dX2_search_5 (v := 0) (by decide) ?_
  refine J_istoren_2 (pc := 6) hc dX2_search_6 rfl ?_
  have hL7 : ∀ (μ : Nat) (i : Nat) (w : Nat → Int64), n - i = μ → i ≤ n → J cx gg (zQv cx gg (fun u => ∃ w, u = zfs σ (zbl (zcoI σ k) (zcoI σ (7 + k)) (zcoI σ (14 + k)) n n) w)) (zfs σ (zbl (zcoI σ k) (zcoI σ (7 + k)) (zcoI σ (14 + k)) n i) w) 7 [some (.ref (zf gg)), some (.ref (zc gg k)), some (.int (nI i))] [] := by
    intro μ
    induction μ using Nat.strongRecOn with
    | ind μ ih7 =>
      intro i w hμ hi
      refine J_iloadn_2 (pc := 7) hc dX2_search_7 ?_
      refine J_aloadn_1 (pc := 8) hc dX2_search_8 ?_
      refine gX2_29 (pc := 9) hc (by omega) dX2_search_9 ?_
      refine J_icmp_ge (pc := 12) hc 69 dX2_search_12 (by decide) (fun bq12 => ?_) (fun bq12 => ?_)
      · skip
        have bq12 := (zge rfl ((si_zfs (by omega)).trans hs) (by omega) (by omega)).mp bq12
        exact J_vret (pc := 69) hc hI dX2_search_69 ⟨w, by rw [show i = n by omega]⟩
      · skip
        have bq12 := mt (zge rfl ((si_zfs (by omega)).trans hs) (by omega) (by omega)).mpr bq12
        refine J_aloadn_0 (pc := 15) hc dX2_search_15 ?_
        refine J_aloadn_1 (pc := 16) hc dX2_search_16 ?_
        refine gX2_34 (pc := 17) hc (by omega) dX2_search_17 ?_
        refine J_iloadn_2 (pc := 20) hc dX2_search_20 ?_
        refine J_iald (pc := 21) hc 16 (by omega) (zlen_c (by omega)) dX2_search_21 (by first | exact rfl | exact z16 _ _ | exact nI_1 _ | exact zm1 (by omega) | assumption) (by omega) ?_
        rw [sa_zfs (by omega)]
        refine J_i2l (pc := 22) hc dX2_search_22 ?_
        refine J_aloadn_1 (pc := 23) hc dX2_search_23 ?_
        refine gX2_36 (pc := 24) hc (by omega) dX2_search_24 ?_
        refine J_iloadn_2 (pc := 27) hc dX2_search_27 ?_
        refine J_iald (pc := 28) hc 16 (by omega) (zlen_c (by omega)) dX2_search_28 (by first | exact rfl | exact z16 _ _ | exact nI_1 _ | exact zm1 (by omega) | assumption) (by omega) ?_
        rw [sa_zfs (by omega)]
        refine J_i2l (pc := 29) hc dX2_search_29 ?_
        refine J_aloadn_1 (pc := 30) hc dX2_search_30 ?_
        refine gX2_38 (pc := 31) hc (by omega) dX2_search_31 ?_
        refine J_iloadn_2 (pc := 34) hc dX2_search_34 ?_
        refine J_iald (pc := 35) hc 16 (by omega) (zlen_c (by omega)) dX2_search_35 (by first | exact rfl | exact z16 _ _ | exact nI_1 _ | exact zm1 (by omega) | assumption) (by omega) ?_
        rw [sa_zfs (by omega)]
        refine J_i2l (pc := 36) hc dX2_search_36 ?_
        refine kX2_40 (pc := 37) hc hR dX2_search_37 (c_X2_take (by rw [Int32.toInt_toInt64]; exact (hbn i (by omega)).1) (by rw [Int32.toInt_toInt64]; exact (hbn i (by omega)).2.1) (by rw [Int32.toInt_toInt64]; exact (hbn i (by omega)).2.2)) (by decide) (Nat.le_of_ble_eq_true rfl) rfl (fun r u hu => ?_)
        obtain ⟨AA, BB, CC, hu, hA, hB, hC, hr⟩ := hu
        refine J_eq hu ?_
        simp only [Int32.toInt_toInt64] at hA hB hC hr
        refine J_if_eq (pc := 40) hc 63 dX2_search_40 (by decide) (fun bq40 => ?_) (fun bq40 => ?_)
        · skip
          refine J_iinc_2 (pc := 63) hc dX2_search_63 (by first | exact nI_1 _ | exact rfl) rfl ?_
          refine J_goto (pc := 66) hc 7 dX2_search_66 (by decide) ?_
          first | exact J_weak (by repeat (first | exact zle_nil | apply zle_s | apply zle_n)) (J_eq (σ' := zfs σ (zbl (zcoI σ k) (zcoI σ (7 + k)) (zcoI σ (14 + k)) n (i + 1)) _) (by rw [zbl_skip (hA ▸ hB ▸ hC ▸ hr.f bq40)]; rfl) (ih7 _ (by omega) (i + 1) _ rfl (by omega))) | exact J_weak (by repeat (first | exact zle_nil | apply zle_s | apply zle_n)) (J_eq (σ' := zfs σ (zbl (zcoI σ k) (zcoI σ (7 + k)) (zcoI σ (14 + k)) n (i + 1)) _) (by rw [zbl_keep (hA ▸ hB ▸ hC ▸ hr.t bq40)]; exact (zfs_kl σ _ _ i _).trans (by rw [sl_u0, sl_u1, sl_u2, hA, hB, hC]; rfl)) (ih7 _ (by omega) (i + 1) _ rfl (by omega)))
        · skip
          refine J_aloadn_0 (pc := 43) hc dX2_search_43 ?_
          refine J_iloadn_2 (pc := 44) hc dX2_search_44 ?_
          refine J_iloadn_2 (pc := 45) hc dX2_search_45 ?_
          refine J_aloadn_1 (pc := 46) hc dX2_search_46 ?_
          refine gX2_29 (pc := 47) hc (by omega) dX2_search_47 ?_
          refine J_topi (y := nI n) ((si_zfs (by omega)).trans hs) ?_
          refine J_iconst (pc := 50) hc dX2_search_50 (v := 1) (by decide) ?_
          refine J_isub (pc := 51) hc dX2_search_51 ?_
          refine J_topi (zm1 (by omega)) ?_
          refine J_icmp_ne (pc := 52) hc 59 dX2_search_52 (by decide) (fun bq52 => ?_) (fun bq52 => ?_)
          · skip
            rw [nI_eq (by omega) (by omega)] at bq52
            refine J_iconst (pc := 59) hc dX2_search_59 (v := 0) (by decide) ?_
            refine kX2_44 (pc := 60) hc hR dX2_search_60 (c_X2_searchPiece (la := decide (i + 1 = n)) (f := (zbl (zcoI σ k) (zcoI σ (7 + k)) (zcoI σ (14 + k)) n i).length) (zfb_t (hbn i (by omega)).1 (hbn i (by omega)).2.1 (hbn i (by omega)).2.2 hA hB hC) (by show 0 ≤ CC.toInt; rw [hC]; exact zsgc) rfl (by have := zbl_len (zcoI σ k) (zcoI σ (7 + k)) (zcoI σ (14 + k)) n i; omega) rfl (by omega) (by first | (rw [decide_eq_true (show i + 1 = n by omega)]; rfl) | (rw [decide_eq_false (show ¬ i + 1 = n by omega)]; rfl))) (by decide) (Nat.le_of_ble_eq_true rfl) rfl (fun u hu => ?_)
            refine J_eq hu ?_
            refine J_iinc_2 (pc := 63) hc dX2_search_63 (by first | exact nI_1 _ | exact rfl) rfl ?_
            refine J_goto (pc := 66) hc 7 dX2_search_66 (by decide) ?_
            first | exact J_weak (by repeat (first | exact zle_nil | apply zle_s | apply zle_n)) (J_eq (σ' := zfs σ (zbl (zcoI σ k) (zcoI σ (7 + k)) (zcoI σ (14 + k)) n (i + 1)) _) (by rw [zbl_skip (hA ▸ hB ▸ hC ▸ hr.f bq40)]; rfl) (ih7 _ (by omega) (i + 1) _ rfl (by omega))) | exact J_weak (by repeat (first | exact zle_nil | apply zle_s | apply zle_n)) (J_eq (σ' := zfs σ (zbl (zcoI σ k) (zcoI σ (7 + k)) (zcoI σ (14 + k)) n (i + 1)) _) (by rw [zbl_keep (hA ▸ hB ▸ hC ▸ hr.t bq40)]; exact (zfs_kl σ _ _ i _).trans (by rw [sl_u0, sl_u1, sl_u2, hA, hB, hC]; rfl)) (ih7 _ (by omega) (i + 1) _ rfl (by omega)))
          · skip
            rw [nI_eq (by omega) (by omega)] at bq52
            refine J_iconst (pc := 55) hc dX2_search_55 (v := 1) (by decide) ?_
            refine J_goto (pc := 56) hc 60 dX2_search_56 (by decide) ?_
            refine kX2_44 (pc := 60) hc hR dX2_search_60 (c_X2_searchPiece (la := decide (i + 1 = n)) (f := (zbl (zcoI σ k) (zcoI σ (7 + k)) (zcoI σ (14 + k)) n i).length) (zfb_t (hbn i (by omega)).1 (hbn i (by omega)).2.1 (hbn i (by omega)).2.2 hA hB hC) (by show 0 ≤ CC.toInt; rw [hC]; exact zsgc) rfl (by have := zbl_len (zcoI σ k) (zcoI σ (7 + k)) (zcoI σ (14 + k)) n i; omega) rfl (by omega) (by first | (rw [decide_eq_true (show i + 1 = n by omega)]; rfl) | (rw [decide_eq_false (show ¬ i + 1 = n by omega)]; rfl))) (by decide) (Nat.le_of_ble_eq_true rfl) rfl (fun u hu => ?_)
            refine J_eq hu ?_
            refine J_iinc_2 (pc := 63) hc dX2_search_63 (by first | exact nI_1 _ | exact rfl) rfl ?_
            refine J_goto (pc := 66) hc 7 dX2_search_66 (by decide) ?_
            first | exact J_weak (by repeat (first | exact zle_nil | apply zle_s | apply zle_n)) (J_eq (σ' := zfs σ (zbl (zcoI σ k) (zcoI σ (7 + k)) (zcoI σ (14 + k)) n (i + 1)) _) (by rw [zbl_skip (hA ▸ hB ▸ hC ▸ hr.f bq40)]; rfl) (ih7 _ (by omega) (i + 1) _ rfl (by omega))) | exact J_weak (by repeat (first | exact zle_nil | apply zle_s | apply zle_n)) (J_eq (σ' := zfs σ (zbl (zcoI σ k) (zcoI σ (7 + k)) (zcoI σ (14 + k)) n (i + 1)) _) (by rw [zbl_keep (hA ▸ hB ▸ hC ▸ hr.t bq40)]; exact (zfs_kl σ _ _ i _).trans (by rw [sl_u0, sl_u1, sl_u2, hA, hB, hC]; rfl)) (ih7 _ (by omega) (i + 1) _ rfl (by omega)))
  exact J_weak (by repeat (first | exact zle_nil | apply zle_s | apply zle_n)) (J_eq (zfs_0 σ) (hL7 _ 0 _ rfl (by omega)))
end
section
section ZSW
variable {cx : zX} {gg : zG} {Q : State → Prop} {σ : zS} {pc : Nat} {lv : List (Option Value)} {st : List Value} {cc : ByteArray} {own : String} {nL : Nat}
theorem J_tsw3 (hc : zOK cx gg cc own nL) {x : Int32} {df o0 o1 o2 : Int} {len : Nat} (t0 t1 t2 td : Nat) (hd : decode cc pc = .ok (.tableswitch df 0 2 #[o0, o1, o2], len)) (e0 : (pc : Int) + o0 = t0) (e1 : (pc : Int) + o1 = t1) (e2 : (pc : Int) + o2 = t2) (ed : (pc : Int) + df = td)
    (k0 : x = 0 → J cx gg Q σ t0 lv st) (k1 : x = 1 → J cx gg Q σ t1 lv st) (k2 : x = 2 → J cx gg Q σ t2 lv st) (kd : ¬ (0 ≤ x.toInt ∧ x.toInt ≤ 2) → J cx gg Q σ td lv st) : J cx gg Q σ pc lv (.int x :: st) := by
  intro H locs ls hP hS hl
  by_cases h : 0 ≤ x.toInt ∧ x.toInt ≤ 2
  · rcases (show x.toInt = 0 ∨ x.toInt = 1 ∨ x.toInt = 2 by omega) with q | q | q
    · exact lv_tableIn hc.1 hc.2.1 hd (by omega) (by omega) (by rw [q]; rfl) e0 (k0 (zi_eq.mpr q) H locs ls hP hS hl)
    · exact lv_tableIn hc.1 hc.2.1 hd (by omega) (by omega) (by rw [q]; rfl) e1 (k1 (zi_eq.mpr q) H locs ls hP hS hl)
    · exact lv_tableIn hc.1 hc.2.1 hd (by omega) (by omega) (by rw [q]; rfl) e2 (k2 (zi_eq.mpr q) H locs ls hP hS hl)
  · exact lv_tableOut hc.1 hc.2.1 hd (by omega) ed (kd h H locs ls hP hS hl)
theorem J_lsw2 (hc : zOK cx gg cc own nL) {x : Int32} {df o0 o1 : Int} {len : Nat} (t0 t1 td : Nat) (hd : decode cc pc = .ok (.lookupswitch df #[(0, o0), (1, o1)], len)) (e0 : (pc : Int) + o0 = t0) (e1 : (pc : Int) + o1 = t1) (ed : (pc : Int) + df = td)
    (k0 : x = 0 → J cx gg Q σ t0 lv st) (k1 : x = 1 → J cx gg Q σ t1 lv st) (kd : ¬ x = 0 → ¬ x = 1 → J cx gg Q σ td lv st) : J cx gg Q σ pc lv (.int x :: st) := by
  intro H locs ls hP hS hl
  by_cases h : x = 0
  · exact lv_lookup hc.1 hc.2.1 hd rfl (by rw [h]; rfl) e0 (k0 h H locs ls hP hS hl)
  · by_cases h2 : x = 1
    · exact lv_lookup hc.1 hc.2.1 hd rfl (by rw [h2]; rfl) e1 (k1 h2 H locs ls hP hS hl)
    · exact lv_lookup hc.1 hc.2.1 hd rfl (by show Op.lookupswitch.offset [(0, o0), (1, o1)] df x.toInt = df; rw [lv_osw (a := 0) h rfl, lv_osw (a := 1) h2 rfl]; rfl) ed (kd h h2 H locs ls hP hS hl)
end ZSW
/-- the class's curves: sizes N, numbers in their bounds -/
def zCv (σ : zS) (N : Nat → Nat) : Prop := ∀ p, p < 6 → 1 ≤ N p ∧ N p ≤ 16 ∧ si σ p = nI (N p) ∧ ∀ i, i < N p → zbdP σ p i
/-- a piece -/
def zpcs (N : Nat → Nat) (x y : Int32) : Prop := ∃ k i, k < 6 ∧ x = nI k ∧ i < N k ∧ y = nI i
theorem zfill_zfill {α : Type} (n : Nat) (f g h : Nat → α) : zfill n f (zfill n g h) = zfill n f h := by
  funext i; unfold zfill; split <;> rfl
/-- the spline: its slopes -/
def zsq (σ : zS) (s : Int32) : Nat → Int32
  | 0 => s
  | i + 1 => 2 * (sa σ 21 (i + 1) - sa σ 21 i) - zsq σ s i
def zspl (σ : zS) (s : Int32) (n : Nat) : zS := zc3 (ui σ 6 (nI n)) 6 (zfill n (sa σ 21) (sa σ 6)) (zfill n (zsq σ s) (sa σ (7 + 6))) (zfill n (fun i => sa σ 21 (i + 1) - sa σ 21 i - zsq σ s i) (sa σ (14 + 6)))
/-- how the slopes are bounded -/
def zreq (p : Int32 × Int32) (x t : Int32) : Int32 × Int32 := if 0 < t then (if p.1 < -x then -x else p.1, p.2) else (p.1, if x < p.2 then x else p.2)
def ztrn (s : Int32) (i : Nat) : Int32 := if i % 2 = 0 then s else -s
def zrgs (σ : zS) (x s : Int32) : Nat → Int32 × Int32
  | 0 => (-1000, 1000)
  | i + 1 => if x = 3 ∨ x = 4 then zreq (zrgs σ x s i) (s * sa σ (14 + 6) i) (-ztrn s i) else zreq (zreq (zrgs σ x s i) (s * sa σ (7 + 6) i) (ztrn s i)) (s * zsl σ 6 i) (-ztrn s i)
theorem ztrn_s (s : Int32) (i : Nat) : -ztrn s i = ztrn s (i + 1) := by
  unfold ztrn
  by_cases h : i % 2 = 0
  · rw [if_pos h, if_neg (by omega)]
  · rw [if_neg h, if_pos (by omega)]; exact Int32.neg_neg
def zrg (σ : zS) (p : Int32 × Int32) : zS := ui (ui σ 9 p.1) 10 p.2
theorem zrg_req (σ : zS) (p : Int32 × Int32) (x t : Int32) : (if 0 < t then ui (zrg σ p) 9 (if si (zrg σ p) 9 < -x then -x else si (zrg σ p) 9) else ui (zrg σ p) 10 (if x < si (zrg σ p) 10 then x else si (zrg σ p) 10)) = zrg σ (zreq p x t) := by
  unfold zreq
  by_cases h : 0 < t
  · rw [if_pos h, if_pos h]
    apply zS_ext <;> intro k <;> try rfl
    show si (ui (ui (ui σ 9 p.1) 10 p.2) 9 (if p.1 < -x then -x else p.1)) k = si (ui (ui σ 9 (if p.1 < -x then -x else p.1)) 10 p.2) k
    simp only [si_ui]
    by_cases h1 : k = 9
    · subst h1; simp
    · by_cases h2 : k = 10
      · subst h2; simp
      · simp [h1, h2]
  · rw [if_neg h, if_neg h]
    apply zS_ext <;> intro k <;> try rfl
    show si (ui (ui (ui σ 9 p.1) 10 p.2) 10 (if x < p.2 then x else p.2)) k = si (ui (ui σ 9 p.1) 10 (if x < p.2 then x else p.2)) k
    simp only [si_ui]
    by_cases h2 : k = 10
    · subst h2; simp
    · simp [h2]
/-- the sum of the turned bends -/
def zsum (σ : zS) : Nat → Int32
  | 0 => 0
  | i + 1 => zsum σ i + ztrn 1 i * sa σ (14 + 6) i
def zfdI (x y : Int32) : Int32 := if 0 ≤ x ^^^ y then x / y else if x / y * y = x then x / y else x / y - 1
set_option maxRecDepth 100000 in
set_option maxHeartbeats 4000000 in
theorem c_X3_isNoPiece {l : Launch} {gg : zG} {σ : zS} {x y : Int32} {N : Nat → Nat} (hz : zCv σ N) : zMi l gg yX3_isNoPiece cX3_isNoPiece .boolean 3 1 20 [.ref (zo gg), .int x, .int y] σ (fun r u => zb r (¬ zpcs N x y) ∧ u = σ) := by
  refine zM_i (own := RX3) (lv := [some (.ref (zo gg)), some (.int x), some (.int y)]) (by decide +kernel) rfl (Nat.le_of_ble_eq_true rfl) rfl (fun cx hc hR hI => ?_)
  refine J_iloadn_1 (pc := 0) hc dX3_isNoPiece_0 ?_
  refine kX3_42 (pc := 1) hc hR dX3_isNoPiece_1 (c_X3_isNoPlace) (by decide) (Nat.le_of_ble_eq_true rfl) rfl (fun r u hu => ?_)
  have hr := hu.1
  refine J_eq hu.2 ?_
  refine J_if_ne (pc := 4) hc 24 dX3_isNoPiece_4 (by decide) (fun bq4 => ?_) (fun bq4 => ?_)
  · skip
    have hnp := hr.t bq4
    refine J_iconst (pc := 24) hc dX3_isNoPiece_24 (v := 1) (by decide) ?_
    refine J_goto (pc := 25) hc 29 dX3_isNoPiece_25 (by decide) ?_
    exact J_zret (pc := 29) hc hI dX3_isNoPiece_29 (by first | exact znb0 | exact znb1 | exact zb.n (by assumption)) ⟨by first | exact zb_1 (fun ⟨k, i, h1, h2, _, _⟩ => hnp (by rw [h2]; exact zpl_k h1)) | exact zb_1 (fun ⟨k2, i, h1, h2, h3, h4⟩ => by rw [h4, zi_lt, nI_toInt (by have := (hz k2 h1).2.1; omega), z0I] at bq8; omega) | (refine zb_1 (fun ⟨k2, i, h1, h2, h3, h4⟩ => ?_); have e : k = k2 := (nI_eq (by omega) (by omega)).mp (hxk.symm.trans h2); subst e; rw [h4, hzk.2.2.1, nI_ltI (by omega) (by omega)] at bq21; exact bq21 h3) | (refine zb_0 (Classical.not_not.mpr ?_); rw [hzk.2.2.1] at bq21; have q1 : 0 ≤ y.toInt := (by rw [zi_lt, z0I] at bq8; omega); have q2 := zi_lt.mp bq21; rw [nI_toInt (by omega)] at q2; obtain ⟨i, h1, h2⟩ := zof_nat q1 q2 (by omega); exact ⟨k, i, hk, hxk, h1, h2⟩), rfl⟩
  · skip
    obtain ⟨k, hk, hxk⟩ := zpl_nI (Classical.not_not.mp (hr.f bq4))
    have hzk := hz k hk
    refine J_iloadn_2 (pc := 7) hc dX3_isNoPiece_7 ?_
    refine J_if_lt (pc := 8) hc 24 dX3_isNoPiece_8 (by decide) (fun bq8 => ?_) (fun bq8 => ?_)
    · skip
      refine J_iconst (pc := 24) hc dX3_isNoPiece_24 (v := 1) (by decide) ?_
      refine J_goto (pc := 25) hc 29 dX3_isNoPiece_25 (by decide) ?_
      exact J_zret (pc := 29) hc hI dX3_isNoPiece_29 (by first | exact znb0 | exact znb1 | exact zb.n (by assumption)) ⟨by first | exact zb_1 (fun ⟨k, i, h1, h2, _, _⟩ => hnp (by rw [h2]; exact zpl_k h1)) | exact zb_1 (fun ⟨k2, i, h1, h2, h3, h4⟩ => by rw [h4, zi_lt, nI_toInt (by have := (hz k2 h1).2.1; omega), z0I] at bq8; omega) | (refine zb_1 (fun ⟨k2, i, h1, h2, h3, h4⟩ => ?_); have e : k = k2 := (nI_eq (by omega) (by omega)).mp (hxk.symm.trans h2); subst e; rw [h4, hzk.2.2.1, nI_ltI (by omega) (by omega)] at bq21; exact bq21 h3) | (refine zb_0 (Classical.not_not.mpr ?_); rw [hzk.2.2.1] at bq21; have q1 : 0 ≤ y.toInt := (by rw [zi_lt, z0I] at bq8; omega); have q2 := zi_lt.mp bq21; rw [nI_toInt (by omega)] at q2; obtain ⟨i, h1, h2⟩ := zof_nat q1 q2 (by omega); exact ⟨k, i, hk, hxk, h1, h2⟩), rfl⟩
    · skip
      refine J_iloadn_2 (pc := 11) hc dX3_isNoPiece_11 ?_
      refine J_aloadn_0 (pc := 12) hc dX3_isNoPiece_12 ?_
      refine gX3_11 (pc := 13) hc dX3_isNoPiece_13 ?_
      refine J_iloadn_1 (pc := 16) hc dX3_isNoPiece_16 ?_
      refine J_aald (pc := 17) hc dX3_isNoPiece_17 hxk (by omega) ?_
      refine gX3_77 (pc := 18) hc (by omega) dX3_isNoPiece_18 ?_
      refine J_icmp_lt (pc := 21) hc 28 dX3_isNoPiece_21 (by decide) (fun bq21 => ?_) (fun bq21 => ?_)
      · skip
        refine J_iconst (pc := 28) hc dX3_isNoPiece_28 (v := 0) (by decide) ?_
        exact J_zret (pc := 29) hc hI dX3_isNoPiece_29 (by first | exact znb0 | exact znb1 | exact zb.n (by assumption)) ⟨by first | exact zb_1 (fun ⟨k, i, h1, h2, _, _⟩ => hnp (by rw [h2]; exact zpl_k h1)) | exact zb_1 (fun ⟨k2, i, h1, h2, h3, h4⟩ => by rw [h4, zi_lt, nI_toInt (by have := (hz k2 h1).2.1; omega), z0I] at bq8; omega) | (refine zb_1 (fun ⟨k2, i, h1, h2, h3, h4⟩ => ?_); have e : k = k2 := (nI_eq (by omega) (by omega)).mp (hxk.symm.trans h2); subst e; rw [h4, hzk.2.2.1, nI_ltI (by omega) (by omega)] at bq21; exact bq21 h3) | (refine zb_0 (Classical.not_not.mpr ?_); rw [hzk.2.2.1] at bq21; have q1 : 0 ≤ y.toInt := (by rw [zi_lt, z0I] at bq8; omega); have q2 := zi_lt.mp bq21; rw [nI_toInt (by omega)] at q2; obtain ⟨i, h1, h2⟩ := zof_nat q1 q2 (by omega); exact ⟨k, i, hk, hxk, h1, h2⟩), rfl⟩
      · skip
        refine J_iconst (pc := 24) hc dX3_isNoPiece_24 (v := 1) (by decide) ?_
        refine J_goto (pc := 25) hc 29 dX3_isNoPiece_25 (by decide) ?_
        exact J_zret (pc := 29) hc hI dX3_isNoPiece_29 (by first | exact znb0 | exact znb1 | exact zb.n (by assumption)) ⟨by first | exact zb_1 (fun ⟨k, i, h1, h2, _, _⟩ => hnp (by rw [h2]; exact zpl_k h1)) | exact zb_1 (fun ⟨k2, i, h1, h2, h3, h4⟩ => by rw [h4, zi_lt, nI_toInt (by have := (hz k2 h1).2.1; omega), z0I] at bq8; omega) | (refine zb_1 (fun ⟨k2, i, h1, h2, h3, h4⟩ => ?_); have e : k = k2 := (nI_eq (by omega) (by omega)).mp (hxk.symm.trans h2); subst e; rw [h4, hzk.2.2.1, nI_ltI (by omega) (by omega)] at bq21; exact bq21 h3) | (refine zb_0 (Classical.not_not.mpr ?_); rw [hzk.2.2.1] at bq21; have q1 : 0 ≤ y.toInt := (by rw [zi_lt, z0I] at bq8; omega); have q2 := zi_lt.mp bq21; rw [nI_toInt (by omega)] at q2; obtain ⟨i, h1, h2⟩ := zof_nat q1 q2 (by omega); exact ⟨k, i, hk, hxk, h1, h2⟩), rfl⟩
set_option maxRecDepth 100000 in
set_option maxHeartbeats 4000000 in
theorem c_X3_keepDraft {l : Launch} {gg : zG} {σ : zS} {k n : Nat} (hk : k < 6) (hs : si σ 6 = nI n) (hn : n ≤ 16) : zMi l gg yX3_keepDraft cX3_keepDraft .int 2 2 46 [.ref (zo gg), .ref (zc gg k)] σ (fun r u => (¬ (∀ i, i < n → zbdP σ 6 i) ∧ r = -5 ∧ u = σ) ∨ ((∀ i, i < n → zbdP σ 6 i) ∧ r = 1 ∧ u = zc3 (ui σ k (nI n)) k (zfill n (sa σ 6) (sa σ k)) (zfill n (sa σ (7 + 6)) (sa σ (7 + k))) (zfill n (sa σ (14 + 6)) (sa σ (14 + k))))) := by
  refine zM_i (own := RX3) (lv := [some (.ref (zo gg)), some (.ref (zc gg k))]) (by decide +kernel) rfl (Nat.le_of_ble_eq_true rfl) rfl (fun cx hc hR hI => ?_)
  refine J_aloadn_0 (pc := 0) hc dX3_keepDraft_0 ?_
  refine gX3_16 (pc := 1) hc dX3_keepDraft_1 ?_
  refine kX3_180 (pc := 4) hc hR (by omega) dX3_keepDraft_4 (c_X0_isInBounds (by omega) (by first | rfl | assumption) (by omega)) (by decide) (Nat.le_of_ble_eq_true rfl) rfl (fun r u hu => ?_)
  have hr := hu.1
  refine J_eq hu.2 ?_
  refine J_if_ne (pc := 7) hc 13 dX3_keepDraft_7 (by decide) (fun bq7 => ?_) (fun bq7 => ?_)
  · skip
    refine J_aloadn_1 (pc := 13) hc dX3_keepDraft_13 ?_
    refine J_aloadn_0 (pc := 14) hc dX3_keepDraft_14 ?_
    refine gX3_16 (pc := 15) hc dX3_keepDraft_15 ?_
    refine kX3_183 (pc := 18) hc hR (by omega) dX3_keepDraft_18 (c_X0_becomeCopy (by omega) (by omega) (by omega) (by first | rfl | assumption) (by omega)) (by decide) (Nat.le_of_ble_eq_true rfl) rfl (fun u hu => ?_)
    refine J_eq hu ?_
    refine J_iconst (pc := 21) hc dX3_keepDraft_21 (v := 1) (by decide) ?_
    exact J_iret (pc := 22) hc hI dX3_keepDraft_22 (Or.inr ⟨hr.t bq7, rfl, rfl⟩)
  · skip
    refine J_bipush (pc := 10) hc dX3_keepDraft_10 (v := -5) (by decide) ?_
    exact J_iret (pc := 12) hc hI dX3_keepDraft_12 (Or.inl ⟨hr.f bq7, rfl, rfl⟩)
set_option maxRecDepth 100000 in
set_option maxHeartbeats 4000000 in
theorem c_X3_countZeros {l : Launch} {gg : zG} {σ : zS} {k n : Nat} (hk : k < 7) (hs : si σ k = nI n) (hn : n ≤ 16) (hbn : ∀ i, i < n → zbd (sa σ k i).toInt 200000 ∧ zbd (sa σ (7 + k) i).toInt 200000 ∧ zbd (sa σ (14 + k) i).toInt 200000) : zMi l gg yX3_countZeros cX3_countZeros .int 2 5 119 [.ref (zo gg), .ref (zc gg k)] σ (fun r u => ((∃ i, i < n ∧ zzP σ k i) ∧ r = -4 ∧ u = σ) ∨ ((¬ ∃ i, i < n ∧ zzP σ k i) ∧ r = nI (zbl (zcoI σ k) (zcoI σ (7 + k)) (zcoI σ (14 + k)) n n).length ∧ ∃ w, u = zfs σ (zbl (zcoI σ k) (zcoI σ (7 + k)) (zcoI σ (14 + k)) n n) w)) := by
  refine zM_i (own := RX3) (lv := [some (.ref (zo gg)), some (.ref (zc gg k))]) (by decide +kernel) rfl (Nat.le_of_ble_eq_true rfl) rfl (fun cx hc hR hI => ?_)
  refine J_aloadn_1 (pc := 0) hc dX3_countZeros_0 ?_
  refine kX3_186 (pc := 1) hc hR (by omega) dX3_countZeros_1 (c_X0_hasZeroPiece (by omega) (by first | rfl | assumption) (by omega)) (by decide) (Nat.le_of_ble_eq_true rfl) rfl (fun r u hu => ?_)
  have hr := hu.1
  refine J_eq hu.2 ?_
  refine J_if_eq (pc := 4) hc 10 dX3_countZeros_4 (by decide) (fun bq4 => ?_) (fun bq4 => ?_)
  · skip
    refine J_aloadn_0 (pc := 10) hc dX3_countZeros_10 ?_
    refine gX3_23 (pc := 11) hc dX3_countZeros_11 ?_
    refine J_aloadn_1 (pc := 14) hc dX3_countZeros_14 ?_
    refine kX3_189 (pc := 15) hc hR dX3_countZeros_15 (c_X2_search (by omega) (by first | rfl | assumption) (by omega) (by assumption)) (by decide) (Nat.le_of_ble_eq_true rfl) rfl (fun u hu => ?_)
    obtain ⟨w, hu⟩ := hu
    refine J_eq hu ?_
    refine J_aloadn_0 (pc := 18) hc dX3_countZeros_18 ?_
    refine gX3_23 (pc := 19) hc dX3_countZeros_19 ?_
    refine gX3_192 (pc := 22) hc dX3_countZeros_22 ?_
    exact J_iret (pc := 25) hc hI dX3_countZeros_25 (Or.inr ⟨hr.f bq4, rfl, w, rfl⟩)
  · skip
    refine J_bipush (pc := 7) hc dX3_countZeros_7 (v := -4) (by decide) ?_
    exact J_iret (pc := 9) hc hI dX3_countZeros_9 (Or.inl ⟨hr.t bq4, rfl, rfl⟩)
set_option maxRecDepth 100000 in
set_option maxHeartbeats 4000000 in
theorem c_X3_draftSpline {l : Launch} {gg : zG} {σ : zS} {s : Int32} {m : Nat} (hm : si σ 7 = nI m) (h2 : 2 ≤ m) (hm2 : m ≤ 17) : zMv l gg yX3_draftSpline cX3_draftSpline 5 2 46 [.ref (zo gg), .int s] σ (fun u => u = zspl σ s (m - 1)) := by
  refine zM_v (own := RX3) (lv := [some (.ref (zo gg)), some (.int s), none, none, none]) (by decide +kernel) rfl (Nat.le_of_ble_eq_true rfl) rfl (fun cx hc hR hI => ?_)
  refine J_iloadn_1 (pc := 0) hc dX3_draftSpline_0 ?_
  refine J_istoren_2 (pc := 1) hc dX3_draftSpline_1 rfl ?_
  refine J_aloadn_0 (pc := 2) hc dX3_draftSpline_2 ?_
  refine gX3_16 (pc := 3) hc dX3_draftSpline_3 ?_
  refine J_aloadn_0 (pc := 6) hc dX3_draftSpline_6 ?_
  refine gX3_38 (pc := 7) hc dX3_draftSpline_7 ?_
  refine J_iconst (pc := 10) hc dX3_draftSpline_10 (v := 1) (by decide) ?_
  refine J_isub (pc := 11) hc dX3_draftSpline_11 ?_
  refine J_topi (y := nI (m - 1)) (by rw [hm]; exact zm1 (by omega)) ?_
  refine kX3_46 (pc := 12) hc hR (by omega) dX3_draftSpline_12 (c_X0_becomeZero (by omega) (by first | rfl | assumption) (by omega)) (by decide) (Nat.le_of_ble_eq_true rfl) rfl (fun u hu => ?_)
  refine J_eq hu ?_
  refine J_iconst (pc := 15) hc dX3_draftSpline_15 (v := 0) (by decide) ?_
  refine J_istoren_3 (pc := 16) hc dX3_draftSpline_16 rfl ?_
  have hL17 : ∀ (μ : Nat) (i : Nat), (m - 1) - i = μ → i ≤ m - 1 → J cx gg (zQv cx gg (fun u => u = zspl σ s (m - 1))) (zc3 (ui σ 6 (nI (m - 1))) 6 (zfill i (sa σ 21) (zfill (m - 1) (fun _ => 0) (sa σ 6))) (zfill i (zsq σ s) (zfill (m - 1) (fun _ => 0) (sa σ (7 + 6)))) (zfill i (fun i => sa σ 21 (i + 1) - sa σ 21 i - zsq σ s i) (zfill (m - 1) (fun _ => 0) (sa σ (14 + 6))))) 17 [some (.ref (zo gg)), some (.int s), some (.int (zsq σ s i)), some (.int (nI i)), none] [] := by
    intro μ
    induction μ using Nat.strongRecOn with
    | ind μ ih17 =>
      intro i hμ hi
      refine J_iloadn_3 (pc := 17) hc dX3_draftSpline_17 ?_
      refine J_aloadn_0 (pc := 18) hc dX3_draftSpline_18 ?_
      refine gX3_16 (pc := 19) hc dX3_draftSpline_19 ?_
      refine gX3_77 (pc := 22) hc (by omega) dX3_draftSpline_22 ?_
      refine J_icmp_ge (pc := 25) hc 77 dX3_draftSpline_25 (by decide) (fun bq25 => ?_) (fun bq25 => ?_)
      · skip
        have bq25 := (zge rfl (by rw [si_zc3, si_ui_s]) (by omega) (by omega)).mp bq25
        exact J_vret (pc := 77) hc hI dX3_draftSpline_77 (by rw [show i = m - 1 by omega, zfill_zfill, zfill_zfill, zfill_zfill]; rfl)
      · skip
        have bq25 := mt (zge rfl (by rw [si_zc3, si_ui_s]) (by omega) (by omega)).mpr bq25
        refine J_aloadn_0 (pc := 28) hc dX3_draftSpline_28 ?_
        refine gX3_34 (pc := 29) hc dX3_draftSpline_29 ?_
        refine J_iloadn_3 (pc := 32) hc dX3_draftSpline_32 ?_
        refine J_iconst (pc := 33) hc dX3_draftSpline_33 (v := 1) (by decide) ?_
        refine J_iadd (pc := 34) hc dX3_draftSpline_34 ?_
        refine J_iald (pc := 35) hc 17 (by omega) rfl dX3_draftSpline_35 (by first | with_reducible exact rfl | with_reducible exact nI_1 _ | with_reducible exact z16 _ _ | with_reducible exact zm1 (by omega) | assumption | exact rfl) (by omega) ?_
        refine J_aloadn_0 (pc := 36) hc dX3_draftSpline_36 ?_
        refine gX3_34 (pc := 37) hc dX3_draftSpline_37 ?_
        refine J_iloadn_3 (pc := 40) hc dX3_draftSpline_40 ?_
        refine J_iald (pc := 41) hc 17 (by omega) rfl dX3_draftSpline_41 (by first | with_reducible exact rfl | with_reducible exact nI_1 _ | with_reducible exact z16 _ _ | with_reducible exact zm1 (by omega) | assumption | exact rfl) (by omega) ?_
        refine J_isub (pc := 42) hc dX3_draftSpline_42 ?_
        refine J_istore_4 (pc := 43) hc dX3_draftSpline_43 rfl ?_
        refine J_aloadn_0 (pc := 45) hc dX3_draftSpline_45 ?_
        refine gX3_16 (pc := 46) hc dX3_draftSpline_46 ?_
        refine J_iloadn_3 (pc := 49) hc dX3_draftSpline_49 ?_
        refine J_aloadn_0 (pc := 50) hc dX3_draftSpline_50 ?_
        refine gX3_34 (pc := 51) hc dX3_draftSpline_51 ?_
        refine J_iloadn_3 (pc := 54) hc dX3_draftSpline_54 ?_
        refine J_iald (pc := 55) hc 17 (by omega) rfl dX3_draftSpline_55 (by first | with_reducible exact rfl | with_reducible exact nI_1 _ | with_reducible exact z16 _ _ | with_reducible exact zm1 (by omega) | assumption | exact rfl) (by omega) ?_
        refine J_iloadn_2 (pc := 56) hc dX3_draftSpline_56 ?_
        refine J_iload_4 (pc := 57) hc dX3_draftSpline_57 ?_
        refine J_iloadn_2 (pc := 59) hc dX3_draftSpline_59 ?_
        refine J_isub (pc := 60) hc dX3_draftSpline_60 ?_
        refine kX3_58 (pc := 61) hc hR (by omega) dX3_draftSpline_61 (c_X0_put (by omega) rfl (by omega)) (by decide) (Nat.le_of_ble_eq_true rfl) rfl (fun u hu => ?_)
        refine J_eq hu ?_
        refine J_iconst (pc := 64) hc dX3_draftSpline_64 (v := 2) (by decide) ?_
        refine J_iload_4 (pc := 65) hc dX3_draftSpline_65 ?_
        refine J_imul (pc := 67) hc dX3_draftSpline_67 ?_
        refine J_iloadn_2 (pc := 68) hc dX3_draftSpline_68 ?_
        refine J_isub (pc := 69) hc dX3_draftSpline_69 ?_
        refine J_istoren_2 (pc := 70) hc dX3_draftSpline_70 rfl ?_
        refine J_iinc_3 (pc := 71) hc dX3_draftSpline_71 (by first | exact nI_1 _ | exact rfl) rfl ?_
        refine J_goto (pc := 74) hc 17 dX3_draftSpline_74 (by decide) ?_
        exact J_weak (by repeat (first | exact zle_nil | apply zle_s | apply zle_n)) (J_eq (by rw [sa_zc3_a, sa_zc3_b, sa_zc3_c, zc3_zc3]; exact zc3_eq (zfill_s rfl) (zfill_s rfl) (zfill_s rfl)) (ih17 _ (by omega) (i + 1) rfl (by omega)))
  exact J_weak (by repeat (first | exact zle_nil | apply zle_s | apply zle_n)) (J_eq (by rw [zfill_0, zfill_0, zfill_0]) (hL17 _ 0 rfl (by omega)))
set_option maxRecDepth 100000 in
set_option maxHeartbeats 4000000 in
theorem c_X3_findSlopes {l : Launch} {gg : zG} {σ : zS} {x : Int32} {m : Nat} (hm : si σ 7 = nI m) (h2 : 2 ≤ m) (hm2 : m ≤ 17) : zMv l gg yX3_findSlopes cX3_findSlopes 5 3 70 [.ref (zo gg), .int x] σ (fun u => u = (if x = 0 then zrg (zspl σ 0 (m - 1)) (-1000, 1000) else zrg (zspl σ 0 (m - 1)) (zrgs (zspl σ 0 (m - 1)) x (if x = 2 ∨ x = 4 then -1 else 1) (m - 1)))) := by
  refine zM_v (own := RX3) (lv := [some (.ref (zo gg)), some (.int x), none, none, none]) (by decide +kernel) rfl (Nat.le_of_ble_eq_true rfl) rfl (fun cx hc hR hI => ?_)
  refine J_aloadn_0 (pc := 0) hc dX3_findSlopes_0 ?_
  refine J_iconst (pc := 1) hc dX3_findSlopes_1 (v := 0) (by decide) ?_
  refine kX3_174 (pc := 2) hc hR dX3_findSlopes_2 (c_X3_draftSpline (m := m) hm h2 hm2) (by decide) (Nat.le_of_ble_eq_true rfl) rfl (fun u hu => ?_)
  refine J_eq hu ?_
  refine J_aloadn_0 (pc := 5) hc dX3_findSlopes_5 ?_
  refine gX3_30 (pc := 6) hc dX3_findSlopes_6 ?_
  refine J_sipush (pc := 9) hc dX3_findSlopes_9 (v := 1000) (by decide) ?_
  refine kX3_205 (pc := 12) hc hR dX3_findSlopes_12 (c_X1_becomeAll) (by decide) (Nat.le_of_ble_eq_true rfl) rfl (fun u hu => ?_)
  refine J_eq hu ?_
  refine J_iloadn_1 (pc := 15) hc dX3_findSlopes_15 ?_
  refine J_if_ne (pc := 16) hc 20 dX3_findSlopes_16 (by decide) (fun bq16 => ?_) (fun bq16 => ?_)
  · skip
    refine J_iloadn_1 (pc := 20) hc dX3_findSlopes_20 ?_
    refine kX3_94 (pc := 21) hc hR dX3_findSlopes_21 (c_X3_signOfShape) (by decide) (Nat.le_of_ble_eq_true rfl) rfl (fun r u hu => ?_)
    refine J_eq hu.2 (J_topi hu.1 ?_)
    refine J_istoren_2 (pc := 24) hc dX3_findSlopes_24 rfl ?_
    refine J_iloadn_2 (pc := 25) hc dX3_findSlopes_25 ?_
    refine J_istoren_3 (pc := 26) hc dX3_findSlopes_26 rfl ?_
    refine J_iconst (pc := 27) hc dX3_findSlopes_27 (v := 0) (by decide) ?_
    refine J_istore_4 (pc := 28) hc dX3_findSlopes_28 rfl ?_
    have hL30 : ∀ (μ : Nat) (i : Nat), (m - 1) - i = μ → i ≤ m - 1 → J cx gg (zQv cx gg (fun u => u = (if x = 0 then zrg (zspl σ 0 (m - 1)) (-1000, 1000) else zrg (zspl σ 0 (m - 1)) (zrgs (zspl σ 0 (m - 1)) x (if x = 2 ∨ x = 4 then -1 else 1) (m - 1))))) (zrg (zspl σ 0 (m - 1)) (zrgs (zspl σ 0 (m - 1)) x (if x = 2 ∨ x = 4 then -1 else 1) i)) 30 [some (.ref (zo gg)), some (.int x), some (.int (if x = 2 ∨ x = 4 then -1 else 1)), some (.int (ztrn (if x = 2 ∨ x = 4 then -1 else 1) i)), some (.int (nI i))] [] := by
      intro μ
      induction μ using Nat.strongRecOn with
      | ind μ ih30 =>
        intro i hμ hi
        refine J_iload_4 (pc := 30) hc dX3_findSlopes_30 ?_
        refine J_aloadn_0 (pc := 32) hc dX3_findSlopes_32 ?_
        refine gX3_16 (pc := 33) hc dX3_findSlopes_33 ?_
        refine gX3_77 (pc := 36) hc (by omega) dX3_findSlopes_36 ?_
        refine J_icmp_ge (pc := 39) hc 122 dX3_findSlopes_39 (by decide) (fun bq39 => ?_) (fun bq39 => ?_)
        · skip
          have bq39 := (zge rfl rfl (by omega) (by omega)).mp bq39
          exact J_vret (pc := 122) hc hI dX3_findSlopes_122 (by rw [show i = m - 1 by omega, if_neg bq16])
        · skip
          have bq39 := mt (zge rfl rfl (by omega) (by omega)).mpr bq39
          refine J_iloadn_1 (pc := 42) hc dX3_findSlopes_42 ?_
          refine kX3_97 (pc := 43) hc hR dX3_findSlopes_43 (c_X3_isBent) (by decide) (Nat.le_of_ble_eq_true rfl) rfl (fun r u hu => ?_)
          have hr := hu.1
          refine J_eq hu.2 ?_
          refine J_if_eq (pc := 46) hc 73 dX3_findSlopes_46 (by decide) (fun bq46 => ?_) (fun bq46 => ?_)
          · skip
            refine J_aloadn_0 (pc := 73) hc dX3_findSlopes_73 ?_
            refine gX3_30 (pc := 74) hc dX3_findSlopes_74 ?_
            refine J_iloadn_2 (pc := 77) hc dX3_findSlopes_77 ?_
            refine J_aloadn_0 (pc := 78) hc dX3_findSlopes_78 ?_
            refine gX3_16 (pc := 79) hc dX3_findSlopes_79 ?_
            refine gX3_66 (pc := 82) hc (by omega) dX3_findSlopes_82 ?_
            refine J_iload_4 (pc := 85) hc dX3_findSlopes_85 ?_
            refine J_iald (pc := 87) hc 16 (by omega) (zlen_c (by omega)) dX3_findSlopes_87 (by first | with_reducible exact rfl | with_reducible exact nI_1 _ | with_reducible exact z16 _ _ | with_reducible exact zm1 (by omega) | assumption | exact rfl) (by omega) ?_
            refine J_imul (pc := 88) hc dX3_findSlopes_88 ?_
            refine J_iloadn_3 (pc := 89) hc dX3_findSlopes_89 ?_
            refine kX3_208 (pc := 90) hc hR dX3_findSlopes_90 (c_X1_require) (by decide) (Nat.le_of_ble_eq_true rfl) rfl (fun u hu => ?_)
            refine J_eq (hu.trans (zrg_req _ _ _ _)) ?_
            refine J_aloadn_0 (pc := 93) hc dX3_findSlopes_93 ?_
            refine gX3_30 (pc := 94) hc dX3_findSlopes_94 ?_
            refine J_iloadn_2 (pc := 97) hc dX3_findSlopes_97 ?_
            refine J_aloadn_0 (pc := 98) hc dX3_findSlopes_98 ?_
            refine gX3_16 (pc := 99) hc dX3_findSlopes_99 ?_
            refine J_iload_4 (pc := 102) hc dX3_findSlopes_102 ?_
            refine kX3_212 (pc := 104) hc hR (by omega) dX3_findSlopes_104 (c_X0_slopeAtEnd (by omega) (by first | rfl | assumption) (by omega)) (by decide) (Nat.le_of_ble_eq_true rfl) rfl (fun r u hu => ?_)
            refine J_eq hu.2 (J_topi hu.1 ?_)
            refine J_imul (pc := 107) hc dX3_findSlopes_107 ?_
            refine J_iloadn_3 (pc := 108) hc dX3_findSlopes_108 ?_
            refine J_ineg (pc := 109) hc dX3_findSlopes_109 ?_
            refine kX3_208 (pc := 110) hc hR dX3_findSlopes_110 (c_X1_require) (by decide) (Nat.le_of_ble_eq_true rfl) rfl (fun u hu => ?_)
            refine J_eq (hu.trans (zrg_req _ _ _ _)) ?_
            refine J_iloadn_3 (pc := 113) hc dX3_findSlopes_113 ?_
            refine J_ineg (pc := 114) hc dX3_findSlopes_114 ?_
            refine J_istoren_3 (pc := 115) hc dX3_findSlopes_115 rfl ?_
            refine J_iinc_4 (pc := 116) hc dX3_findSlopes_116 (by first | exact nI_1 _ | exact rfl) rfl ?_
            refine J_goto (pc := 119) hc 30 dX3_findSlopes_119 (by decide) ?_
            rw [ztrn_s]
            first | exact J_weak (by repeat (first | exact zle_nil | apply zle_s | apply zle_n)) (J_eq (by rw [zrgs, if_pos (hr.t bq46), ztrn_s]; rfl) (ih30 _ (by omega) (i + 1) rfl (by omega))) | exact J_weak (by repeat (first | exact zle_nil | apply zle_s | apply zle_n)) (J_eq (by rw [zrgs, if_neg (hr.f bq46), ztrn_s]; rfl) (ih30 _ (by omega) (i + 1) rfl (by omega)))
          · skip
            refine J_aloadn_0 (pc := 49) hc dX3_findSlopes_49 ?_
            refine gX3_30 (pc := 50) hc dX3_findSlopes_50 ?_
            refine J_iloadn_2 (pc := 53) hc dX3_findSlopes_53 ?_
            refine J_aloadn_0 (pc := 54) hc dX3_findSlopes_54 ?_
            refine gX3_16 (pc := 55) hc dX3_findSlopes_55 ?_
            refine gX3_69 (pc := 58) hc (by omega) dX3_findSlopes_58 ?_
            refine J_iload_4 (pc := 61) hc dX3_findSlopes_61 ?_
            refine J_iald (pc := 63) hc 16 (by omega) (zlen_c (by omega)) dX3_findSlopes_63 (by first | with_reducible exact rfl | with_reducible exact nI_1 _ | with_reducible exact z16 _ _ | with_reducible exact zm1 (by omega) | assumption | exact rfl) (by omega) ?_
            refine J_imul (pc := 64) hc dX3_findSlopes_64 ?_
            refine J_iloadn_3 (pc := 65) hc dX3_findSlopes_65 ?_
            refine J_ineg (pc := 66) hc dX3_findSlopes_66 ?_
            refine kX3_208 (pc := 67) hc hR dX3_findSlopes_67 (c_X1_require) (by decide) (Nat.le_of_ble_eq_true rfl) rfl (fun u hu => ?_)
            refine J_eq (hu.trans (zrg_req _ _ _ _)) ?_
            refine J_goto (pc := 70) hc 113 dX3_findSlopes_70 (by decide) ?_
            refine J_iloadn_3 (pc := 113) hc dX3_findSlopes_113 ?_
            refine J_ineg (pc := 114) hc dX3_findSlopes_114 ?_
            refine J_istoren_3 (pc := 115) hc dX3_findSlopes_115 rfl ?_
            refine J_iinc_4 (pc := 116) hc dX3_findSlopes_116 (by first | exact nI_1 _ | exact rfl) rfl ?_
            refine J_goto (pc := 119) hc 30 dX3_findSlopes_119 (by decide) ?_
            rw [ztrn_s]
            first | exact J_weak (by repeat (first | exact zle_nil | apply zle_s | apply zle_n)) (J_eq (by rw [zrgs, if_pos (hr.t bq46), ztrn_s]; rfl) (ih30 _ (by omega) (i + 1) rfl (by omega))) | exact J_weak (by repeat (first | exact zle_nil | apply zle_s | apply zle_n)) (J_eq (by rw [zrgs, if_neg (hr.f bq46), ztrn_s]; rfl) (ih30 _ (by omega) (i + 1) rfl (by omega)))
    exact J_weak (by repeat (first | exact zle_nil | apply zle_s | apply zle_n)) (hL30 _ 0 rfl (by omega))
  · skip
    exact J_vret (pc := 19) hc hI dX3_findSlopes_19 (if_pos bq16).symm
set_option maxRecDepth 100000 in
set_option maxHeartbeats 4000000 in
theorem c_X3_leastBentOfAll {l : Launch} {gg : zG} {σ : zS} {n : Nat} (hs : si σ 6 = nI n) (h1 : 1 ≤ n) (hn : n ≤ 16) : zMi l gg yX3_leastBentOfAll cX3_leastBentOfAll .int 4 1 22 [.ref (zo gg)] σ (fun r u => r = -zfdI (nI n - 2 * zsum σ n) (2 * nI n) ∧ u = σ) := by
  refine zM_i (own := RX3) (lv := [some (.ref (zo gg)), none, none, none]) (by decide +kernel) rfl (Nat.le_of_ble_eq_true rfl) rfl (fun cx hc hR hI => ?_)
  refine J_iconst (pc := 0) hc dX3_leastBentOfAll_0 (v := 0) (by decide) ?_
  refine J_istoren_1 (pc := 1) hc dX3_leastBentOfAll_1 rfl ?_
  refine J_iconst (pc := 2) hc dX3_leastBentOfAll_2 (v := 1) (by decide) ?_
  refine J_istoren_2 (pc := 3) hc dX3_leastBentOfAll_3 rfl ?_
  refine J_iconst (pc := 4) hc dX3_leastBentOfAll_4 (v := 0) (by decide) ?_
  refine J_istoren_3 (pc := 5) hc dX3_leastBentOfAll_5 rfl ?_
  have hL6 : ∀ (μ : Nat) (i : Nat), n - i = μ → i ≤ n → J cx gg (zQi cx gg (fun r u => r = -zfdI (nI n - 2 * zsum σ n) (2 * nI n) ∧ u = σ)) σ 6 [some (.ref (zo gg)), some (.int (zsum σ i)), some (.int (ztrn 1 i)), some (.int (nI i))] [] := by
    intro μ
    induction μ using Nat.strongRecOn with
    | ind μ ih6 =>
      intro i hμ hi
      refine J_iloadn_3 (pc := 6) hc dX3_leastBentOfAll_6 ?_
      refine J_aloadn_0 (pc := 7) hc dX3_leastBentOfAll_7 ?_
      refine gX3_16 (pc := 8) hc dX3_leastBentOfAll_8 ?_
      refine gX3_77 (pc := 11) hc (by omega) dX3_leastBentOfAll_11 ?_
      refine J_icmp_ge (pc := 14) hc 40 dX3_leastBentOfAll_14 (by decide) (fun bq14 => ?_) (fun bq14 => ?_)
      · skip
        have bq14 := (zge rfl hs (by omega) (by omega)).mp bq14
        refine J_iconst (pc := 40) hc dX3_leastBentOfAll_40 (v := 1) (by decide) ?_
        refine J_aloadn_0 (pc := 41) hc dX3_leastBentOfAll_41 ?_
        refine gX3_16 (pc := 42) hc dX3_leastBentOfAll_42 ?_
        refine gX3_77 (pc := 45) hc (by omega) dX3_leastBentOfAll_45 ?_
        refine kX3_167 (pc := 48) hc hR dX3_leastBentOfAll_48 (c_J9_max_7cf53) (by decide) (Nat.le_of_ble_eq_true rfl) rfl (fun r u hu => ?_)
        refine J_eq hu.2 (J_topi hu.1 ?_)
        refine J_topi (y := nI n) (by rw [hs]; split; rfl; rename_i h; rw [zi_lt, nI_toInt (by omega)] at h; rw [show n = 1 by (have : (1 : Int32).toInt = 1 := by decide); omega]; rfl) ?_
        refine J_istoren_3 (pc := 51) hc dX3_leastBentOfAll_51 rfl ?_
        refine J_iloadn_3 (pc := 52) hc dX3_leastBentOfAll_52 ?_
        refine J_iconst (pc := 53) hc dX3_leastBentOfAll_53 (v := 2) (by decide) ?_
        refine J_iloadn_1 (pc := 54) hc dX3_leastBentOfAll_54 ?_
        refine J_imul (pc := 55) hc dX3_leastBentOfAll_55 ?_
        refine J_isub (pc := 56) hc dX3_leastBentOfAll_56 ?_
        refine J_iconst (pc := 57) hc dX3_leastBentOfAll_57 (v := 2) (by decide) ?_
        refine J_iloadn_3 (pc := 58) hc dX3_leastBentOfAll_58 ?_
        refine J_imul (pc := 59) hc dX3_leastBentOfAll_59 ?_
        refine kX3_215 (pc := 60) hc hR dX3_leastBentOfAll_60 (c_J9_floorDiv_7cf53 (by rw [z2, zi_eq, nI_toInt (by omega)]; simp; omega)) (by decide) (Nat.le_of_ble_eq_true rfl) rfl (fun r u hu => ?_)
        refine J_eq hu.2 (J_topi hu.1 ?_)
        refine J_ineg (pc := 63) hc dX3_leastBentOfAll_63 ?_
        exact J_iret (pc := 64) hc hI dX3_leastBentOfAll_64 ⟨by rw [show i = n by omega]; rfl, rfl⟩
      · skip
        have bq14 := mt (zge rfl hs (by omega) (by omega)).mpr bq14
        refine J_iloadn_1 (pc := 17) hc dX3_leastBentOfAll_17 ?_
        refine J_iloadn_2 (pc := 18) hc dX3_leastBentOfAll_18 ?_
        refine J_aloadn_0 (pc := 19) hc dX3_leastBentOfAll_19 ?_
        refine gX3_16 (pc := 20) hc dX3_leastBentOfAll_20 ?_
        refine gX3_69 (pc := 23) hc (by omega) dX3_leastBentOfAll_23 ?_
        refine J_iloadn_3 (pc := 26) hc dX3_leastBentOfAll_26 ?_
        refine J_iald (pc := 27) hc 16 (by omega) (zlen_c (by omega)) dX3_leastBentOfAll_27 (by first | with_reducible exact rfl | with_reducible exact nI_1 _ | with_reducible exact z16 _ _ | with_reducible exact zm1 (by omega) | assumption | exact rfl) (by omega) ?_
        refine J_imul (pc := 28) hc dX3_leastBentOfAll_28 ?_
        refine J_iadd (pc := 29) hc dX3_leastBentOfAll_29 ?_
        refine J_istoren_1 (pc := 30) hc dX3_leastBentOfAll_30 rfl ?_
        refine J_iloadn_2 (pc := 31) hc dX3_leastBentOfAll_31 ?_
        refine J_ineg (pc := 32) hc dX3_leastBentOfAll_32 ?_
        refine J_istoren_2 (pc := 33) hc dX3_leastBentOfAll_33 rfl ?_
        rw [ztrn_s]
        refine J_iinc_3 (pc := 34) hc dX3_leastBentOfAll_34 (by first | exact nI_1 _ | exact rfl) rfl ?_
        refine J_goto (pc := 37) hc 6 dX3_leastBentOfAll_37 (by decide) ?_
        exact J_weak (by repeat (first | exact zle_nil | apply zle_s | apply zle_n)) (ih6 _ (by omega) (i + 1) rfl (by omega))
  exact J_weak (by repeat (first | exact zle_nil | apply zle_s | apply zle_n)) (hL6 _ 0 rfl (by omega))
end
