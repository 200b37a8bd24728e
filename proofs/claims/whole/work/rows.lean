section
/-- a private method of a class that the tables say can be made, by its rows of tables_1 -/
def lw_okq (q : MethodName × Nat) : Prop := (q.1.cls ≠ "java/lang/invoke/MethodHandle" ∧ q.1.cls ≠ "java/lang/invoke/VarHandle") ∧ Cond.instantiable q.1.cls q.2 ∈ tables_1 ∧ Cond.privateMethod q.1 ∈ tables_1 ∧ Cond.instanceMethod q.1 ∈ tables_1
theorem lw_p0 : lw_okq (⟨"UnlikeDrawn", "isHead", "(I)Z"⟩, 17) := ⟨⟨by decide +kernel, by decide +kernel⟩, List.mem_of_getElem? (i := 14) (by decide +kernel), List.mem_of_getElem? (i := 204) (by decide +kernel), List.mem_of_getElem? (i := 205) (by decide +kernel)⟩
theorem lw_p1 : lw_okq (⟨"UnlikeDrawn", "found", "(I)I"⟩, 17) := ⟨⟨by decide +kernel, by decide +kernel⟩, List.mem_of_getElem? (i := 14) (by decide +kernel), List.mem_of_getElem? (i := 225) (by decide +kernel), List.mem_of_getElem? (i := 226) (by decide +kernel)⟩
theorem lw_p2 : lw_okq (⟨"UnlikeDrawn", "isSet", "(I)Z"⟩, 17) := ⟨⟨by decide +kernel, by decide +kernel⟩, List.mem_of_getElem? (i := 14) (by decide +kernel), List.mem_of_getElem? (i := 236) (by decide +kernel), List.mem_of_getElem? (i := 237) (by decide +kernel)⟩
theorem lw_p3 : lw_okq (⟨"UnlikeDrawn", "meanOf", "(II)I"⟩, 17) := ⟨⟨by decide +kernel, by decide +kernel⟩, List.mem_of_getElem? (i := 14) (by decide +kernel), List.mem_of_getElem? (i := 240) (by decide +kernel), List.mem_of_getElem? (i := 241) (by decide +kernel)⟩
theorem lw_p4 : lw_okq (⟨"UnlikeDrawn$Hand", "understand", "()V"⟩, 4) := ⟨⟨by decide +kernel, by decide +kernel⟩, List.mem_of_getElem? (i := 89) (by decide +kernel), List.mem_of_getElem? (i := 255) (by decide +kernel), List.mem_of_getElem? (i := 256) (by decide +kernel)⟩
theorem lw_p5 : lw_okq (⟨"UnlikeDrawn$Hand", "behindPiece", "(I)I"⟩, 4) := ⟨⟨by decide +kernel, by decide +kernel⟩, List.mem_of_getElem? (i := 89) (by decide +kernel), List.mem_of_getElem? (i := 259) (by decide +kernel), List.mem_of_getElem? (i := 260) (by decide +kernel)⟩
theorem lw_p6 : lw_okq (⟨"UnlikeDrawn$Hand", "byteAt", "(I)I"⟩, 4) := ⟨⟨by decide +kernel, by decide +kernel⟩, List.mem_of_getElem? (i := 89) (by decide +kernel), List.mem_of_getElem? (i := 263) (by decide +kernel), List.mem_of_getElem? (i := 264) (by decide +kernel)⟩
theorem lw_p7 : lw_okq (⟨"UnlikeDrawn$Hand", "stopAt", "(I)I"⟩, 4) := ⟨⟨by decide +kernel, by decide +kernel⟩, List.mem_of_getElem? (i := 89) (by decide +kernel), List.mem_of_getElem? (i := 267) (by decide +kernel), List.mem_of_getElem? (i := 268) (by decide +kernel)⟩
theorem lw_p8 : lw_okq (⟨"UnlikeDrawn$Hand", "mark", "(II)V"⟩, 4) := ⟨⟨by decide +kernel, by decide +kernel⟩, List.mem_of_getElem? (i := 89) (by decide +kernel), List.mem_of_getElem? (i := 271) (by decide +kernel), List.mem_of_getElem? (i := 272) (by decide +kernel)⟩
theorem lw_p9 : lw_okq (⟨"UnlikeDrawn", "isNextYear", "(I)Z"⟩, 17) := ⟨⟨by decide +kernel, by decide +kernel⟩, List.mem_of_getElem? (i := 14) (by decide +kernel), List.mem_of_getElem? (i := 313) (by decide +kernel), List.mem_of_getElem? (i := 314) (by decide +kernel)⟩
theorem lw_p10 : lw_okq (⟨"UnlikeDrawn", "fillMean", "(I[I)V"⟩, 17) := ⟨⟨by decide +kernel, by decide +kernel⟩, List.mem_of_getElem? (i := 14) (by decide +kernel), List.mem_of_getElem? (i := 317) (by decide +kernel), List.mem_of_getElem? (i := 318) (by decide +kernel)⟩
theorem lw_p11 : lw_okq (⟨"UnlikeDrawn", "isDrawing", "(I)Z"⟩, 17) := ⟨⟨by decide +kernel, by decide +kernel⟩, List.mem_of_getElem? (i := 14) (by decide +kernel), List.mem_of_getElem? (i := 335) (by decide +kernel), List.mem_of_getElem? (i := 336) (by decide +kernel)⟩
theorem lw_p12 : lw_okq (⟨"UnlikeDrawn", "fromOf", "(I)I"⟩, 17) := ⟨⟨by decide +kernel, by decide +kernel⟩, List.mem_of_getElem? (i := 14) (by decide +kernel), List.mem_of_getElem? (i := 358) (by decide +kernel), List.mem_of_getElem? (i := 359) (by decide +kernel)⟩
theorem lw_p13 : lw_okq (⟨"UnlikeDrawn", "agesOf", "(I)I"⟩, 17) := ⟨⟨by decide +kernel, by decide +kernel⟩, List.mem_of_getElem? (i := 14) (by decide +kernel), List.mem_of_getElem? (i := 366) (by decide +kernel), List.mem_of_getElem? (i := 367) (by decide +kernel)⟩
theorem lw_p14 : lw_okq (⟨"UnlikeDrawn", "whoseIs", "(LUnlikeDrawn$Sketch;)I"⟩, 17) := ⟨⟨by decide +kernel, by decide +kernel⟩, List.mem_of_getElem? (i := 14) (by decide +kernel), List.mem_of_getElem? (i := 370) (by decide +kernel), List.mem_of_getElem? (i := 371) (by decide +kernel)⟩
theorem lw_p15 : lw_okq (⟨"UnlikeDrawn", "isKnower", "(I)Z"⟩, 17) := ⟨⟨by decide +kernel, by decide +kernel⟩, List.mem_of_getElem? (i := 14) (by decide +kernel), List.mem_of_getElem? (i := 386) (by decide +kernel), List.mem_of_getElem? (i := 387) (by decide +kernel)⟩
def lw_privs_1 : List (MethodName × Nat) := [(⟨"UnlikeDrawn", "isHead", "(I)Z"⟩, 17), (⟨"UnlikeDrawn", "found", "(I)I"⟩, 17), (⟨"UnlikeDrawn", "isSet", "(I)Z"⟩, 17), (⟨"UnlikeDrawn", "meanOf", "(II)I"⟩, 17), (⟨"UnlikeDrawn$Hand", "understand", "()V"⟩, 4), (⟨"UnlikeDrawn$Hand", "behindPiece", "(I)I"⟩, 4), (⟨"UnlikeDrawn$Hand", "byteAt", "(I)I"⟩, 4), (⟨"UnlikeDrawn$Hand", "stopAt", "(I)I"⟩, 4), (⟨"UnlikeDrawn$Hand", "mark", "(II)V"⟩, 4), (⟨"UnlikeDrawn", "isNextYear", "(I)Z"⟩, 17), (⟨"UnlikeDrawn", "fillMean", "(I[I)V"⟩, 17), (⟨"UnlikeDrawn", "isDrawing", "(I)Z"⟩, 17), (⟨"UnlikeDrawn", "fromOf", "(I)I"⟩, 17), (⟨"UnlikeDrawn", "agesOf", "(I)I"⟩, 17), (⟨"UnlikeDrawn", "whoseIs", "(LUnlikeDrawn$Sketch;)I"⟩, 17), (⟨"UnlikeDrawn", "isKnower", "(I)Z"⟩, 17)]
theorem lw_r1 : ∀ q ∈ lw_privs_1, lw_okq q := List.forall_mem_cons.mpr ⟨lw_p0, List.forall_mem_cons.mpr ⟨lw_p1, List.forall_mem_cons.mpr ⟨lw_p2, List.forall_mem_cons.mpr ⟨lw_p3, List.forall_mem_cons.mpr ⟨lw_p4, List.forall_mem_cons.mpr ⟨lw_p5, List.forall_mem_cons.mpr ⟨lw_p6, List.forall_mem_cons.mpr ⟨lw_p7, List.forall_mem_cons.mpr ⟨lw_p8, List.forall_mem_cons.mpr ⟨lw_p9, List.forall_mem_cons.mpr ⟨lw_p10, List.forall_mem_cons.mpr ⟨lw_p11, List.forall_mem_cons.mpr ⟨lw_p12, List.forall_mem_cons.mpr ⟨lw_p13, List.forall_mem_cons.mpr ⟨lw_p14, List.forall_mem_cons.mpr ⟨lw_p15, fun _ h => absurd h List.not_mem_nil⟩⟩⟩⟩⟩⟩⟩⟩⟩⟩⟩⟩⟩⟩⟩⟩
theorem lw_p16 : lw_okq (⟨"UnlikeDrawn", "nameFor", "(LUnlikeDrawn$Knower;LUnlikeDrawn$Sketch;)I"⟩, 17) := ⟨⟨by decide +kernel, by decide +kernel⟩, List.mem_of_getElem? (i := 14) (by decide +kernel), List.mem_of_getElem? (i := 428) (by decide +kernel), List.mem_of_getElem? (i := 429) (by decide +kernel)⟩
theorem lw_p17 : lw_okq (⟨"UnlikeDrawn", "marginOf", "(LUnlikeDrawn$Knower;LUnlikeDrawn$Sketch;I)I"⟩, 17) := ⟨⟨by decide +kernel, by decide +kernel⟩, List.mem_of_getElem? (i := 14) (by decide +kernel), List.mem_of_getElem? (i := 441) (by decide +kernel), List.mem_of_getElem? (i := 442) (by decide +kernel)⟩
theorem lw_p18 : lw_okq (⟨"UnlikeDrawn", "leastMonster", "(I)I"⟩, 17) := ⟨⟨by decide +kernel, by decide +kernel⟩, List.mem_of_getElem? (i := 14) (by decide +kernel), List.mem_of_getElem? (i := 453) (by decide +kernel), List.mem_of_getElem? (i := 454) (by decide +kernel)⟩
theorem lw_p19 : lw_okq (⟨"UnlikeDrawn", "tryParts", "(III)V"⟩, 17) := ⟨⟨by decide +kernel, by decide +kernel⟩, List.mem_of_getElem? (i := 14) (by decide +kernel), List.mem_of_getElem? (i := 457) (by decide +kernel), List.mem_of_getElem? (i := 458) (by decide +kernel)⟩
theorem lw_p20 : lw_okq (⟨"UnlikeDrawn", "leastNamed", "(LUnlikeDrawn$Knower;I)I"⟩, 17) := ⟨⟨by decide +kernel, by decide +kernel⟩, List.mem_of_getElem? (i := 14) (by decide +kernel), List.mem_of_getElem? (i := 461) (by decide +kernel), List.mem_of_getElem? (i := 462) (by decide +kernel)⟩
theorem lw_p21 : lw_okq (⟨"UnlikeDrawn", "isNamedBy", "(LUnlikeDrawn$Knower;III)Z"⟩, 17) := ⟨⟨by decide +kernel, by decide +kernel⟩, List.mem_of_getElem? (i := 14) (by decide +kernel), List.mem_of_getElem? (i := 465) (by decide +kernel), List.mem_of_getElem? (i := 466) (by decide +kernel)⟩
theorem lw_p22 : lw_okq (⟨"UnlikeDrawn", "bestNamed", "(LUnlikeDrawn$Knower;I)I"⟩, 17) := ⟨⟨by decide +kernel, by decide +kernel⟩, List.mem_of_getElem? (i := 14) (by decide +kernel), List.mem_of_getElem? (i := 469) (by decide +kernel), List.mem_of_getElem? (i := 470) (by decide +kernel)⟩
theorem lw_p23 : lw_okq (⟨"UnlikeDrawn", "refusalOfParts", "(IIII)I"⟩, 17) := ⟨⟨by decide +kernel, by decide +kernel⟩, List.mem_of_getElem? (i := 14) (by decide +kernel), List.mem_of_getElem? (i := 477) (by decide +kernel), List.mem_of_getElem? (i := 478) (by decide +kernel)⟩
theorem lw_p24 : lw_okq (⟨"UnlikeDrawn", "putBack", "(III)I"⟩, 17) := ⟨⟨by decide +kernel, by decide +kernel⟩, List.mem_of_getElem? (i := 14) (by decide +kernel), List.mem_of_getElem? (i := 499) (by decide +kernel), List.mem_of_getElem? (i := 500) (by decide +kernel)⟩
theorem lw_p25 : lw_okq (⟨"UnlikeDrawn", "furthestOff", "()I"⟩, 17) := ⟨⟨by decide +kernel, by decide +kernel⟩, List.mem_of_getElem? (i := 14) (by decide +kernel), List.mem_of_getElem? (i := 512) (by decide +kernel), List.mem_of_getElem? (i := 513) (by decide +kernel)⟩
theorem lw_p26 : lw_okq (⟨"UnlikeDrawn", "monsters", "()I"⟩, 17) := ⟨⟨by decide +kernel, by decide +kernel⟩, List.mem_of_getElem? (i := 14) (by decide +kernel), List.mem_of_getElem? (i := 573) (by decide +kernel), List.mem_of_getElem? (i := 574) (by decide +kernel)⟩
theorem lw_p27 : lw_okq (⟨"UnlikeDrawn", "digestOfDrawing", "(JI)J"⟩, 17) := ⟨⟨by decide +kernel, by decide +kernel⟩, List.mem_of_getElem? (i := 14) (by decide +kernel), List.mem_of_getElem? (i := 588) (by decide +kernel), List.mem_of_getElem? (i := 589) (by decide +kernel)⟩
theorem lw_p28 : lw_okq (⟨"UnlikeDrawn", "digestOfKnower", "(JI)J"⟩, 17) := ⟨⟨by decide +kernel, by decide +kernel⟩, List.mem_of_getElem? (i := 14) (by decide +kernel), List.mem_of_getElem? (i := 594) (by decide +kernel), List.mem_of_getElem? (i := 595) (by decide +kernel)⟩
theorem lw_p29 : lw_okq (⟨"UnlikeDrawnModel", "met", "(I)I"⟩, 27) := ⟨⟨by decide +kernel, by decide +kernel⟩, List.mem_of_getElem? (i := 600) (by decide +kernel), List.mem_of_getElem? (i := 700) (by decide +kernel), List.mem_of_getElem? (i := 701) (by decide +kernel)⟩
theorem lw_p30 : lw_okq (⟨"UnlikeDrawnModel", "lacks", "(III)I"⟩, 27) := ⟨⟨by decide +kernel, by decide +kernel⟩, List.mem_of_getElem? (i := 600) (by decide +kernel), List.mem_of_getElem? (i := 712) (by decide +kernel), List.mem_of_getElem? (i := 713) (by decide +kernel)⟩
theorem lw_p31 : lw_okq (⟨"UnlikeDrawnModel", "isHead", "(I)Z"⟩, 27) := ⟨⟨by decide +kernel, by decide +kernel⟩, List.mem_of_getElem? (i := 600) (by decide +kernel), List.mem_of_getElem? (i := 736) (by decide +kernel), List.mem_of_getElem? (i := 737) (by decide +kernel)⟩
def lw_privs_2 : List (MethodName × Nat) := [(⟨"UnlikeDrawn", "nameFor", "(LUnlikeDrawn$Knower;LUnlikeDrawn$Sketch;)I"⟩, 17), (⟨"UnlikeDrawn", "marginOf", "(LUnlikeDrawn$Knower;LUnlikeDrawn$Sketch;I)I"⟩, 17), (⟨"UnlikeDrawn", "leastMonster", "(I)I"⟩, 17), (⟨"UnlikeDrawn", "tryParts", "(III)V"⟩, 17), (⟨"UnlikeDrawn", "leastNamed", "(LUnlikeDrawn$Knower;I)I"⟩, 17), (⟨"UnlikeDrawn", "isNamedBy", "(LUnlikeDrawn$Knower;III)Z"⟩, 17), (⟨"UnlikeDrawn", "bestNamed", "(LUnlikeDrawn$Knower;I)I"⟩, 17), (⟨"UnlikeDrawn", "refusalOfParts", "(IIII)I"⟩, 17), (⟨"UnlikeDrawn", "putBack", "(III)I"⟩, 17), (⟨"UnlikeDrawn", "furthestOff", "()I"⟩, 17), (⟨"UnlikeDrawn", "monsters", "()I"⟩, 17), (⟨"UnlikeDrawn", "digestOfDrawing", "(JI)J"⟩, 17), (⟨"UnlikeDrawn", "digestOfKnower", "(JI)J"⟩, 17), (⟨"UnlikeDrawnModel", "met", "(I)I"⟩, 27), (⟨"UnlikeDrawnModel", "lacks", "(III)I"⟩, 27), (⟨"UnlikeDrawnModel", "isHead", "(I)Z"⟩, 27)]
theorem lw_r2 : ∀ q ∈ lw_privs_2, lw_okq q := List.forall_mem_cons.mpr ⟨lw_p16, List.forall_mem_cons.mpr ⟨lw_p17, List.forall_mem_cons.mpr ⟨lw_p18, List.forall_mem_cons.mpr ⟨lw_p19, List.forall_mem_cons.mpr ⟨lw_p20, List.forall_mem_cons.mpr ⟨lw_p21, List.forall_mem_cons.mpr ⟨lw_p22, List.forall_mem_cons.mpr ⟨lw_p23, List.forall_mem_cons.mpr ⟨lw_p24, List.forall_mem_cons.mpr ⟨lw_p25, List.forall_mem_cons.mpr ⟨lw_p26, List.forall_mem_cons.mpr ⟨lw_p27, List.forall_mem_cons.mpr ⟨lw_p28, List.forall_mem_cons.mpr ⟨lw_p29, List.forall_mem_cons.mpr ⟨lw_p30, List.forall_mem_cons.mpr ⟨lw_p31, fun _ h => absurd h List.not_mem_nil⟩⟩⟩⟩⟩⟩⟩⟩⟩⟩⟩⟩⟩⟩⟩⟩
theorem lw_p32 : lw_okq (⟨"UnlikeDrawnModel", "isSet", "(I)Z"⟩, 27) := ⟨⟨by decide +kernel, by decide +kernel⟩, List.mem_of_getElem? (i := 600) (by decide +kernel), List.mem_of_getElem? (i := 754) (by decide +kernel), List.mem_of_getElem? (i := 755) (by decide +kernel)⟩
theorem lw_p33 : lw_okq (⟨"UnlikeDrawnModel", "meanOf", "(II)I"⟩, 27) := ⟨⟨by decide +kernel, by decide +kernel⟩, List.mem_of_getElem? (i := 600) (by decide +kernel), List.mem_of_getElem? (i := 758) (by decide +kernel), List.mem_of_getElem? (i := 759) (by decide +kernel)⟩
theorem lw_p34 : lw_okq (⟨"UnlikeDrawnModel", "reads", "(I)I"⟩, 27) := ⟨⟨by decide +kernel, by decide +kernel⟩, List.mem_of_getElem? (i := 600) (by decide +kernel), List.mem_of_getElem? (i := 778) (by decide +kernel), List.mem_of_getElem? (i := 779) (by decide +kernel)⟩
theorem lw_p35 : lw_okq (⟨"UnlikeDrawnModel", "clears", "()V"⟩, 27) := ⟨⟨by decide +kernel, by decide +kernel⟩, List.mem_of_getElem? (i := 600) (by decide +kernel), List.mem_of_getElem? (i := 782) (by decide +kernel), List.mem_of_getElem? (i := 783) (by decide +kernel)⟩
theorem lw_p36 : lw_okq (⟨"UnlikeDrawnModel", "readsPiece", "(I)Z"⟩, 27) := ⟨⟨by decide +kernel, by decide +kernel⟩, List.mem_of_getElem? (i := 600) (by decide +kernel), List.mem_of_getElem? (i := 786) (by decide +kernel), List.mem_of_getElem? (i := 787) (by decide +kernel)⟩
theorem lw_p37 : lw_okq (⟨"UnlikeDrawnModel", "here", "(I)I"⟩, 27) := ⟨⟨by decide +kernel, by decide +kernel⟩, List.mem_of_getElem? (i := 600) (by decide +kernel), List.mem_of_getElem? (i := 790) (by decide +kernel), List.mem_of_getElem? (i := 791) (by decide +kernel)⟩
theorem lw_p38 : lw_okq (⟨"UnlikeDrawnModel", "number", "(I)I"⟩, 27) := ⟨⟨by decide +kernel, by decide +kernel⟩, List.mem_of_getElem? (i := 600) (by decide +kernel), List.mem_of_getElem? (i := 795) (by decide +kernel), List.mem_of_getElem? (i := 796) (by decide +kernel)⟩
theorem lw_p39 : lw_okq (⟨"UnlikeDrawnModel", "isLate", "(I)Z"⟩, 27) := ⟨⟨by decide +kernel, by decide +kernel⟩, List.mem_of_getElem? (i := 600) (by decide +kernel), List.mem_of_getElem? (i := 824) (by decide +kernel), List.mem_of_getElem? (i := 825) (by decide +kernel)⟩
theorem lw_p40 : lw_okq (⟨"UnlikeDrawnModel", "isDrawing", "(I)Z"⟩, 27) := ⟨⟨by decide +kernel, by decide +kernel⟩, List.mem_of_getElem? (i := 600) (by decide +kernel), List.mem_of_getElem? (i := 832) (by decide +kernel), List.mem_of_getElem? (i := 833) (by decide +kernel)⟩
theorem lw_p41 : lw_okq (⟨"UnlikeDrawnModel", "unlikeOf", "(II)I"⟩, 27) := ⟨⟨by decide +kernel, by decide +kernel⟩, List.mem_of_getElem? (i := 600) (by decide +kernel), List.mem_of_getElem? (i := 844) (by decide +kernel), List.mem_of_getElem? (i := 845) (by decide +kernel)⟩
theorem lw_p42 : lw_okq (⟨"UnlikeDrawnModel", "unlikeBy", "(II)I"⟩, 27) := ⟨⟨by decide +kernel, by decide +kernel⟩, List.mem_of_getElem? (i := 600) (by decide +kernel), List.mem_of_getElem? (i := 848) (by decide +kernel), List.mem_of_getElem? (i := 849) (by decide +kernel)⟩
theorem lw_p43 : lw_okq (⟨"UnlikeDrawnModel", "aboutOf", "(II)I"⟩, 27) := ⟨⟨by decide +kernel, by decide +kernel⟩, List.mem_of_getElem? (i := 600) (by decide +kernel), List.mem_of_getElem? (i := 859) (by decide +kernel), List.mem_of_getElem? (i := 860) (by decide +kernel)⟩
theorem lw_p44 : lw_okq (⟨"UnlikeDrawnModel", "isMonster", "(I)Z"⟩, 27) := ⟨⟨by decide +kernel, by decide +kernel⟩, List.mem_of_getElem? (i := 600) (by decide +kernel), List.mem_of_getElem? (i := 863) (by decide +kernel), List.mem_of_getElem? (i := 864) (by decide +kernel)⟩
theorem lw_p45 : lw_okq (⟨"UnlikeDrawnModel", "fromOf", "(I)I"⟩, 27) := ⟨⟨by decide +kernel, by decide +kernel⟩, List.mem_of_getElem? (i := 600) (by decide +kernel), List.mem_of_getElem? (i := 867) (by decide +kernel), List.mem_of_getElem? (i := 868) (by decide +kernel)⟩
theorem lw_p46 : lw_okq (⟨"UnlikeDrawnModel", "agesOf", "(I)I"⟩, 27) := ⟨⟨by decide +kernel, by decide +kernel⟩, List.mem_of_getElem? (i := 600) (by decide +kernel), List.mem_of_getElem? (i := 871) (by decide +kernel), List.mem_of_getElem? (i := 872) (by decide +kernel)⟩
theorem lw_p47 : lw_okq (⟨"UnlikeDrawnModel", "whoseOf", "(I)I"⟩, 27) := ⟨⟨by decide +kernel, by decide +kernel⟩, List.mem_of_getElem? (i := 600) (by decide +kernel), List.mem_of_getElem? (i := 875) (by decide +kernel), List.mem_of_getElem? (i := 876) (by decide +kernel)⟩
def lw_privs_3 : List (MethodName × Nat) := [(⟨"UnlikeDrawnModel", "isSet", "(I)Z"⟩, 27), (⟨"UnlikeDrawnModel", "meanOf", "(II)I"⟩, 27), (⟨"UnlikeDrawnModel", "reads", "(I)I"⟩, 27), (⟨"UnlikeDrawnModel", "clears", "()V"⟩, 27), (⟨"UnlikeDrawnModel", "readsPiece", "(I)Z"⟩, 27), (⟨"UnlikeDrawnModel", "here", "(I)I"⟩, 27), (⟨"UnlikeDrawnModel", "number", "(I)I"⟩, 27), (⟨"UnlikeDrawnModel", "isLate", "(I)Z"⟩, 27), (⟨"UnlikeDrawnModel", "isDrawing", "(I)Z"⟩, 27), (⟨"UnlikeDrawnModel", "unlikeOf", "(II)I"⟩, 27), (⟨"UnlikeDrawnModel", "unlikeBy", "(II)I"⟩, 27), (⟨"UnlikeDrawnModel", "aboutOf", "(II)I"⟩, 27), (⟨"UnlikeDrawnModel", "isMonster", "(I)Z"⟩, 27), (⟨"UnlikeDrawnModel", "fromOf", "(I)I"⟩, 27), (⟨"UnlikeDrawnModel", "agesOf", "(I)I"⟩, 27), (⟨"UnlikeDrawnModel", "whoseOf", "(I)I"⟩, 27)]
theorem lw_r3 : ∀ q ∈ lw_privs_3, lw_okq q := List.forall_mem_cons.mpr ⟨lw_p32, List.forall_mem_cons.mpr ⟨lw_p33, List.forall_mem_cons.mpr ⟨lw_p34, List.forall_mem_cons.mpr ⟨lw_p35, List.forall_mem_cons.mpr ⟨lw_p36, List.forall_mem_cons.mpr ⟨lw_p37, List.forall_mem_cons.mpr ⟨lw_p38, List.forall_mem_cons.mpr ⟨lw_p39, List.forall_mem_cons.mpr ⟨lw_p40, List.forall_mem_cons.mpr ⟨lw_p41, List.forall_mem_cons.mpr ⟨lw_p42, List.forall_mem_cons.mpr ⟨lw_p43, List.forall_mem_cons.mpr ⟨lw_p44, List.forall_mem_cons.mpr ⟨lw_p45, List.forall_mem_cons.mpr ⟨lw_p46, List.forall_mem_cons.mpr ⟨lw_p47, fun _ h => absurd h List.not_mem_nil⟩⟩⟩⟩⟩⟩⟩⟩⟩⟩⟩⟩⟩⟩⟩⟩
theorem lw_p48 : lw_okq (⟨"UnlikeDrawnModel", "isKnower", "(I)Z"⟩, 27) := ⟨⟨by decide +kernel, by decide +kernel⟩, List.mem_of_getElem? (i := 600) (by decide +kernel), List.mem_of_getElem? (i := 887) (by decide +kernel), List.mem_of_getElem? (i := 888) (by decide +kernel)⟩
theorem lw_p49 : lw_okq (⟨"UnlikeDrawnModel", "doesKnow", "(II)Z"⟩, 27) := ⟨⟨by decide +kernel, by decide +kernel⟩, List.mem_of_getElem? (i := 600) (by decide +kernel), List.mem_of_getElem? (i := 906) (by decide +kernel), List.mem_of_getElem? (i := 907) (by decide +kernel)⟩
theorem lw_p50 : lw_okq (⟨"UnlikeDrawnModel", "sees", "(I)V"⟩, 27) := ⟨⟨by decide +kernel, by decide +kernel⟩, List.mem_of_getElem? (i := 600) (by decide +kernel), List.mem_of_getElem? (i := 910) (by decide +kernel), List.mem_of_getElem? (i := 911) (by decide +kernel)⟩
theorem lw_p51 : lw_okq (⟨"UnlikeDrawnModel", "findScore", "(II)V"⟩, 27) := ⟨⟨by decide +kernel, by decide +kernel⟩, List.mem_of_getElem? (i := 600) (by decide +kernel), List.mem_of_getElem? (i := 914) (by decide +kernel), List.mem_of_getElem? (i := 915) (by decide +kernel)⟩
theorem lw_p52 : lw_okq (⟨"UnlikeDrawnModel", "namedOf", "(III)I"⟩, 27) := ⟨⟨by decide +kernel, by decide +kernel⟩, List.mem_of_getElem? (i := 600) (by decide +kernel), List.mem_of_getElem? (i := 928) (by decide +kernel), List.mem_of_getElem? (i := 929) (by decide +kernel)⟩
theorem lw_p53 : lw_okq (⟨"UnlikeDrawnModel", "namedBy", "(I)I"⟩, 27) := ⟨⟨by decide +kernel, by decide +kernel⟩, List.mem_of_getElem? (i := 600) (by decide +kernel), List.mem_of_getElem? (i := 932) (by decide +kernel), List.mem_of_getElem? (i := 933) (by decide +kernel)⟩
theorem lw_p54 : lw_okq (⟨"UnlikeDrawnModel", "marginOf", "(II)I"⟩, 27) := ⟨⟨by decide +kernel, by decide +kernel⟩, List.mem_of_getElem? (i := 600) (by decide +kernel), List.mem_of_getElem? (i := 939) (by decide +kernel), List.mem_of_getElem? (i := 940) (by decide +kernel)⟩
theorem lw_p55 : lw_okq (⟨"UnlikeDrawnModel", "sees", "(IIII)V"⟩, 27) := ⟨⟨by decide +kernel, by decide +kernel⟩, List.mem_of_getElem? (i := 600) (by decide +kernel), List.mem_of_getElem? (i := 947) (by decide +kernel), List.mem_of_getElem? (i := 948) (by decide +kernel)⟩
theorem lw_p56 : lw_okq (⟨"UnlikeDrawnModel", "isAsked", "(IIII)Z"⟩, 27) := ⟨⟨by decide +kernel, by decide +kernel⟩, List.mem_of_getElem? (i := 600) (by decide +kernel), List.mem_of_getElem? (i := 955) (by decide +kernel), List.mem_of_getElem? (i := 956) (by decide +kernel)⟩
theorem lw_p57 : lw_okq (⟨"UnlikeDrawnModel", "isEnough", "(IIIII)Z"⟩, 27) := ⟨⟨by decide +kernel, by decide +kernel⟩, List.mem_of_getElem? (i := 600) (by decide +kernel), List.mem_of_getElem? (i := 962) (by decide +kernel), List.mem_of_getElem? (i := 963) (by decide +kernel)⟩
theorem lw_p58 : lw_okq (⟨"UnlikeDrawnModel", "backOf", "(II)I"⟩, 27) := ⟨⟨by decide +kernel, by decide +kernel⟩, List.mem_of_getElem? (i := 600) (by decide +kernel), List.mem_of_getElem? (i := 978) (by decide +kernel), List.mem_of_getElem? (i := 979) (by decide +kernel)⟩
theorem lw_p59 : lw_okq (⟨"UnlikeDrawnModel", "nearOf", "(II)I"⟩, 27) := ⟨⟨by decide +kernel, by decide +kernel⟩, List.mem_of_getElem? (i := 600) (by decide +kernel), List.mem_of_getElem? (i := 986) (by decide +kernel), List.mem_of_getElem? (i := 987) (by decide +kernel)⟩
theorem lw_p60 : lw_okq (⟨"UnlikeDrawnModel", "witnessOf", "(III)I"⟩, 27) := ⟨⟨by decide +kernel, by decide +kernel⟩, List.mem_of_getElem? (i := 600) (by decide +kernel), List.mem_of_getElem? (i := 994) (by decide +kernel), List.mem_of_getElem? (i := 995) (by decide +kernel)⟩
def lw_privs_4 : List (MethodName × Nat) := [(⟨"UnlikeDrawnModel", "isKnower", "(I)Z"⟩, 27), (⟨"UnlikeDrawnModel", "doesKnow", "(II)Z"⟩, 27), (⟨"UnlikeDrawnModel", "sees", "(I)V"⟩, 27), (⟨"UnlikeDrawnModel", "findScore", "(II)V"⟩, 27), (⟨"UnlikeDrawnModel", "namedOf", "(III)I"⟩, 27), (⟨"UnlikeDrawnModel", "namedBy", "(I)I"⟩, 27), (⟨"UnlikeDrawnModel", "marginOf", "(II)I"⟩, 27), (⟨"UnlikeDrawnModel", "sees", "(IIII)V"⟩, 27), (⟨"UnlikeDrawnModel", "isAsked", "(IIII)Z"⟩, 27), (⟨"UnlikeDrawnModel", "isEnough", "(IIIII)Z"⟩, 27), (⟨"UnlikeDrawnModel", "backOf", "(II)I"⟩, 27), (⟨"UnlikeDrawnModel", "nearOf", "(II)I"⟩, 27), (⟨"UnlikeDrawnModel", "witnessOf", "(III)I"⟩, 27)]
theorem lw_r4 : ∀ q ∈ lw_privs_4, lw_okq q := List.forall_mem_cons.mpr ⟨lw_p48, List.forall_mem_cons.mpr ⟨lw_p49, List.forall_mem_cons.mpr ⟨lw_p50, List.forall_mem_cons.mpr ⟨lw_p51, List.forall_mem_cons.mpr ⟨lw_p52, List.forall_mem_cons.mpr ⟨lw_p53, List.forall_mem_cons.mpr ⟨lw_p54, List.forall_mem_cons.mpr ⟨lw_p55, List.forall_mem_cons.mpr ⟨lw_p56, List.forall_mem_cons.mpr ⟨lw_p57, List.forall_mem_cons.mpr ⟨lw_p58, List.forall_mem_cons.mpr ⟨lw_p59, List.forall_mem_cons.mpr ⟨lw_p60, fun _ h => absurd h List.not_mem_nil⟩⟩⟩⟩⟩⟩⟩⟩⟩⟩⟩⟩⟩
def lw_privs : List (MethodName × Nat) := lw_privs_1 ++ (lw_privs_2 ++ (lw_privs_3 ++ (lw_privs_4)))
def lw_tbl : List Cond := k2_sels lw_privs ++ tables_1
theorem lw_privs_ok : ∀ q ∈ lw_privs, lw_okq q := by
  show ∀ q ∈ lw_privs_1 ++ (lw_privs_2 ++ (lw_privs_3 ++ (lw_privs_4))), lw_okq q
  exact List.forall_mem_append.mpr ⟨lw_r1, List.forall_mem_append.mpr ⟨lw_r2, List.forall_mem_append.mpr ⟨lw_r3, lw_r4⟩⟩⟩
def uR0 : String := "UnlikeDrawn$Fraction"
def uT0 : u_T := fun k => match k with
  | 0 => ("UnlikeDrawn$Fraction", "above", "J", false)
  | _ => ("UnlikeDrawn$Fraction", "below", "J", false)
def uY0 : Nat → FieldType := fun k => match k with
  | 0 => .long
  | _ => .long
def uR1 : String := "UnlikeDrawn$Hand"
def uT1 : u_T := fun k => match k with
  | 0 => ("UnlikeDrawn$Hand", "text", "[I", true)
  | 1 => ("UnlikeDrawn$Hand", "tenths", "[I", true)
  | 2 => ("UnlikeDrawn$Hand", "length", "I", false)
  | _ => ("UnlikeDrawn$Hand", "fault", "I", false)
def uY1 : Nat → FieldType := fun k => match k with
  | 0 => .array .int
  | 1 => .array .int
  | 2 => .int
  | _ => .int
def uR2 : String := "UnlikeDrawn$Head"
def uT2 : u_T := fun k => match k with
  | _ => ("UnlikeDrawn$Head", "places", "[I", true)
def uY2 : Nat → FieldType := fun k => match k with
  | _ => .array .int
def uR3 : String := "UnlikeDrawn$Knower"
def uT3 : u_T := fun k => match k with
  | 0 => ("UnlikeDrawn$Knower", "mean", "[I", true)
  | _ => ("UnlikeDrawn$Knower", "known", "I", false)
def uY3 : Nat → FieldType := fun k => match k with
  | 0 => .array .int
  | _ => .int
def uR4 : String := "UnlikeDrawn$Sheet"
def uT4 : u_T := fun k => match k with
  | 0 => ("UnlikeDrawn$Sheet", "items", "[I", true)
  | 1 => ("UnlikeDrawn$Sheet", "form", "I", false)
  | _ => ("UnlikeDrawn$Sheet", "size", "I", false)
def uY4 : Nat → FieldType := fun k => match k with
  | 0 => .array .int
  | 1 => .int
  | _ => .int
def uR5 : String := "UnlikeDrawn$Sketch"
def uT5 : u_T := fun k => match k with
  | 0 => ("UnlikeDrawn$Sketch", "base", "[I", true)
  | 1 => ("UnlikeDrawn$Sketch", "lines", "[I", true)
  | 2 => ("UnlikeDrawn$Sketch", "of", "I", false)
  | 3 => ("UnlikeDrawn$Sketch", "year", "I", false)
  | 4 => ("UnlikeDrawn$Sketch", "kind", "I", false)
  | _ => ("UnlikeDrawn$Sketch", "source", "I", false)
def uY5 : Nat → FieldType := fun k => match k with
  | 0 => .array .int
  | 1 => .array .int
  | 2 => .int
  | 3 => .int
  | 4 => .int
  | _ => .int
def uR6 : String := "UnlikeDrawn"
def uT6 : u_T := fun k => match k with
  | 0 => ("UnlikeDrawn", "heads", "[LUnlikeDrawn$Head;", true)
  | 1 => ("UnlikeDrawn", "hands", "[LUnlikeDrawn$Hand;", true)
  | 2 => ("UnlikeDrawn", "drawings", "[LUnlikeDrawn$Sketch;", true)
  | 3 => ("UnlikeDrawn", "knowers", "[LUnlikeDrawn$Knower;", true)
  | 4 => ("UnlikeDrawn", "sheets", "[LUnlikeDrawn$Sheet;", true)
  | 5 => ("UnlikeDrawn", "headCount", "I", false)
  | 6 => ("UnlikeDrawn", "drawingCount", "I", false)
  | 7 => ("UnlikeDrawn", "knowerCount", "I", false)
  | 8 => ("UnlikeDrawn", "ruin", "I", false)
  | 9 => ("UnlikeDrawn", "lag", "I", false)
  | 10 => ("UnlikeDrawn", "odd", "I", false)
  | 11 => ("UnlikeDrawn", "latestFinding", "I", false)
  | 12 => ("UnlikeDrawn", "trial", "LUnlikeDrawn$Sketch;", true)
  | 13 => ("UnlikeDrawn", "meanRow", "[I", true)
  | 14 => ("UnlikeDrawn", "offRow", "[I", true)
  | 15 => ("UnlikeDrawn", "fraction", "LUnlikeDrawn$Fraction;", true)
  | _ => ("UnlikeDrawn", "greatest", "LUnlikeDrawn$Fraction;", true)
def uY6 : Nat → FieldType := fun k => match k with
  | 0 => .array (.object "UnlikeDrawn$Head")
  | 1 => .array (.object "UnlikeDrawn$Hand")
  | 2 => .array (.object "UnlikeDrawn$Sketch")
  | 3 => .array (.object "UnlikeDrawn$Knower")
  | 4 => .array (.object "UnlikeDrawn$Sheet")
  | 5 => .int
  | 6 => .int
  | 7 => .int
  | 8 => .int
  | 9 => .int
  | 10 => .int
  | 11 => .int
  | 12 => .object "UnlikeDrawn$Sketch"
  | 13 => .array .int
  | 14 => .array .int
  | 15 => .object "UnlikeDrawn$Fraction"
  | _ => .object "UnlikeDrawn$Fraction"
def uR7 : String := "UnlikeDrawnModel"
def uT7 : u_T := fun k => match k with
  | 0 => ("UnlikeDrawnModel", "forms", "[I", true)
  | 1 => ("UnlikeDrawnModel", "sizes", "[I", true)
  | 2 => ("UnlikeDrawnModel", "items", "[I", true)
  | 3 => ("UnlikeDrawnModel", "moved", "[I", true)
  | 4 => ("UnlikeDrawnModel", "latest", "I", false)
  | 5 => ("UnlikeDrawnModel", "heads", "I", false)
  | 6 => ("UnlikeDrawnModel", "places", "[I", true)
  | 7 => ("UnlikeDrawnModel", "text", "[I", true)
  | 8 => ("UnlikeDrawnModel", "typed", "[I", true)
  | 9 => ("UnlikeDrawnModel", "at", "I", false)
  | 10 => ("UnlikeDrawnModel", "tenthsOf", "[I", true)
  | 11 => ("UnlikeDrawnModel", "settings", "[I", true)
  | 12 => ("UnlikeDrawnModel", "drawings", "I", false)
  | 13 => ("UnlikeDrawnModel", "drawnHead", "[I", true)
  | 14 => ("UnlikeDrawnModel", "drawnYear", "[I", true)
  | 15 => ("UnlikeDrawnModel", "drawnKind", "[I", true)
  | 16 => ("UnlikeDrawnModel", "copiedFrom", "[I", true)
  | 17 => ("UnlikeDrawnModel", "lines", "[I", true)
  | 18 => ("UnlikeDrawnModel", "means", "[I", true)
  | 19 => ("UnlikeDrawnModel", "knowers", "I", false)
  | 20 => ("UnlikeDrawnModel", "knows", "[I", true)
  | 21 => ("UnlikeDrawnModel", "own", "[I", true)
  | 22 => ("UnlikeDrawnModel", "seen", "[I", true)
  | 23 => ("UnlikeDrawnModel", "seenMonster", "Z", false)
  | 24 => ("UnlikeDrawnModel", "scoreAbove", "J", false)
  | 25 => ("UnlikeDrawnModel", "scoreBelow", "J", false)
  | _ => ("UnlikeDrawnModel", "off", "[I", true)
def uY7 : Nat → FieldType := fun k => match k with
  | 0 => .array .int
  | 1 => .array .int
  | 2 => .array .int
  | 3 => .array .int
  | 4 => .int
  | 5 => .int
  | 6 => .array .int
  | 7 => .array .int
  | 8 => .array .int
  | 9 => .int
  | 10 => .array .int
  | 11 => .array .int
  | 12 => .int
  | 13 => .array .int
  | 14 => .array .int
  | 15 => .array .int
  | 16 => .array .int
  | 17 => .array .int
  | 18 => .array .int
  | 19 => .int
  | 20 => .array .int
  | 21 => .array .int
  | 22 => .array .int
  | 23 => .boolean
  | 24 => .long
  | 25 => .long
  | _ => .array .int
def uCls : List vw_C := [(uR0, uT0, 2), (uR1, uT1, 4), (uR2, uT2, 1), (uR3, uT3, 2), (uR4, uT4, 3), (uR5, uT5, 6), (uR6, uT6, 17), (uR7, uT7, 27)]
def uNest : Cond := .methodLinkNest "UnlikeDrawn$Hand" 52 ⟨"UnlikeDrawn", "isPart", "(I)Z"⟩ "UnlikeDrawn"
end
section
/-! ===== THE CLEAN LAYER: one world of fixed cells (the class's object and the reference's), memory as two tables of numbers; CW: a walk over it; CS: a contract over it ===== -/
def gt : List Cond := lw_tbl.filter goodWord
theorem gt_at {w : Cond} (i : Nat) (h : tables_1[i]? = some w) (g : goodWord w = true) : w ∈ gt :=
  List.mem_filter.mpr ⟨List.mem_append_right _ (List.mem_of_getElem? h), g⟩
theorem gt_sel {q : MethodName × Nat} (i : Nat) (h : lw_privs[i]? = some q) : Cond.selects q.1.cls q.1 q.1 ∈ gt :=
  List.mem_filter.mpr ⟨List.mem_append_left _ (List.mem_map.mpr ⟨q, List.mem_of_getElem? h, rfl⟩), rfl⟩
theorem gt_good {w : Cond} (h : w ∈ gt) : goodWord w = true := (List.mem_filter.mp h).2

abbrev Mem : Type := (Nat → Nat → Int32) × (Nat → Nat → Int64)
abbrev Fk : Type := Nat ⊕ Bool
abbrev Shp : Type := Nat ⊕ (Nat × Nat × (Nat → Nat)) ⊕ (Nat × List Fk)
abbrev MI : Type := MethodName × ByteArray × Nat × Option FieldType × Nat × Nat
def cv (ad : Nat → Nat) : Value → Value
  | .ref a => .ref (ad a)
  | .int x => .int x
  | .long x => .long x
  | .float x => .float x
  | .double x => .double x
  | .null => .null
  | .retAddr x => .retAddr x
theorem cv_cat (ad : Nat → Nat) (v : Value) : (cv ad v).category = v.category := by cases v <;> rfl

def fI : Fk := .inr false
def fJ : Fk := .inr true
def shObj (k : Nat) : Nat × List Fk := match k with
  | 0 => (6, [.inl 1, .inl 2, .inl 3, .inl 4, .inl 5, fI, fI, fI, fI, fI, fI, fI, .inl 130, .inl 6, .inl 7, .inl 8, .inl 9])
  | _ => (7, [.inl 1001, .inl 1002, .inl 1003, .inl 1004, fI, fI, .inl 1007, .inl 1008, .inl 1009, fI, .inl 1011, .inl 1012, fI, .inl 1014, .inl 1015, .inl 1016, .inl 1017, .inl 1018, .inl 1019, fI, .inl 1021, .inl 1022, .inl 1023, fI, fJ, fJ, .inl 1027])
def shM (k : Nat) : Shp := match k with
  | 1000 => .inr (.inr (shObj 1))
  | 1001 => .inl 4
  | 1002 => .inl 4
  | 1003 => .inl 240
  | 1004 => .inl 60
  | 1007 => .inl 64
  | 1008 => .inl 160
  | 1009 => .inl 4
  | 1011 => .inl 8
  | 1012 => .inl 3
  | 1014 => .inl 30
  | 1015 => .inl 30
  | 1016 => .inl 30
  | 1017 => .inl 30
  | 1018 => .inl 240
  | 1019 => .inl 240
  | 1021 => .inl 4
  | 1022 => .inl 32
  | 1023 => .inl 8
  | _ => .inl 8
def shC (k : Nat) : Shp := match k with
  | 0 => .inr (.inr (shObj 0))
  | 1 => .inr (.inl (1, 8, fun i => 10 + i))
  | 2 => .inr (.inl (2, 4, fun i => 30 + i))
  | 3 => .inr (.inl (3, 30, fun i => 100 + i))
  | 4 => .inr (.inl (4, 4, fun i => 60 + i))
  | 5 => .inr (.inl (5, 4, fun i => 80 + i))
  | 6 => .inl 8
  | 7 => .inl 8
  | _ => .inr (.inr (0, [fJ, fJ]))
def uSh (k : Nat) : Shp :=
  if k < 10 then shC k
  else if k < 20 then .inr (.inr (2, [.inl (k + 10)]))
  else if k < 30 then .inl 8
  else if k < 40 then .inr (.inr (1, [.inl (k + 10), .inl (k + 20), fI, fI]))
  else if k < 50 then .inl 40
  else if k < 60 then .inl 8
  else if k < 70 then .inr (.inr (3, [.inl (k + 10), fI]))
  else if k < 80 then .inl 8
  else if k < 90 then .inr (.inr (4, [.inl (k + 10), fI, fI]))
  else if k < 100 then .inl 60
  else if k < 200 then .inr (.inr (5, [.inl (k + 100), .inl (k + 200), fI, fI, fI, fI]))
  else if k < 400 then .inl 8
  else shM k
def uIds : List Nat := List.range 10 ++ (List.range 8).map (10 + ·) ++ (List.range 8).map (20 + ·) ++ (List.range 4).map (30 + ·) ++ (List.range 4).map (40 + ·) ++ (List.range 4).map (50 + ·) ++ (List.range 4).map (60 + ·) ++ (List.range 4).map (70 + ·) ++ (List.range 4).map (80 + ·) ++ (List.range 4).map (90 + ·) ++ (List.range 31).map (100 + ·) ++ (List.range 31).map (200 + ·) ++ (List.range 31).map (300 + ·) ++ [1000, 1001, 1002, 1003, 1004, 1007, 1008, 1009, 1011, 1012, 1014, 1015, 1016, 1017, 1018, 1019, 1021, 1022, 1023, 1027]
set_option maxRecDepth 20000 in
theorem uIds_nd : uIds.Nodup := by decide +kernel
theorem uIds_inj {i j k : Nat} (hi : uIds[i]? = some k) (hj : uIds[j]? = some k) : i = j := by
  exact (List.getElem?_inj (List.getElem?_eq_some_iff.mp hi).1 uIds_nd).mp (hi.trans hj.symm)

def ucfv (ad : Nat → Nat) (M : Mem) (k j : Nat) : Fk → Value
  | .inl r => .ref (ad r)
  | .inr false => .int (M.1 k j)
  | .inr true => .long (M.2 k j)
def ucfs (ad : Nat → Nat) (M : Mem) (k : Nat) (j : Nat) : List Fk → List Value
  | [] => []
  | f :: fs => ucfv ad M k j f :: ucfs ad M k (j + 1) fs
theorem ucfs_get {ad : Nat → Nat} {M : Mem} {k : Nat} : ∀ {fs : List Fk} {j i : Nat} {f : Fk}, fs[i]? = some f → (ucfs ad M k j fs)[i]? = some (ucfv ad M k (j + i) f)
  | [], j, i, f, h => by simp at h
  | g :: fs, j, 0, f, h => by
    simp at h
    subst h
    simp [ucfs]
  | g :: fs, j, i + 1, f, h => by
    have h' : fs[i]? = some f := by simpa using h
    have := ucfs_get (ad := ad) (M := M) (k := k) (j := j + 1) h'
    simp only [ucfs, List.getElem?_cons_succ, this]
    congr 2
    omega
theorem ucfs_len {ad : Nat → Nat} {M : Mem} {k : Nat} : ∀ {fs : List Fk} {j : Nat}, (ucfs ad M k j fs).length = fs.length
  | [], _ => rfl
  | _ :: fs, j => by simp [ucfs, ucfs_len (fs := fs)]
def uCell (dA : Nat → ClassId) (ad : Nat → Nat) (M : Mem) (k : Nat) : va_E := match uSh k with
  | .inl n => .inl (dA 0, n, .inl (M.1 k))
  | .inr (.inl (t, n, g)) => .inl (dA t, n, .inr (.inr (.inr (.inr (fun i => some (ad (g i)))))))
  | .inr (.inr (ci, fs)) => .inr (ci, ucfs ad M k 0 fs)
def uCells (dA : Nat → ClassId) (ad : Nat → Nat) (M : Mem) : va_W := uIds.map (fun k => (ad k, uCell dA ad M k))
theorem uCells_at {dA : Nat → ClassId} {ad : Nat → Nat} {M : Mem} {k : Nat} (hk : k ∈ uIds) : ∃ q : Nat, (uCells dA ad M)[q]? = some (ad k, uCell dA ad M k) ∧ uIds[q]? = some k := by
  obtain ⟨q, hq⟩ := List.getElem?_of_mem hk
  exact ⟨q, by simp [uCells, List.getElem?_map, hq], hq⟩
theorem uCells_set {dA : Nat → ClassId} {ad : Nat → Nat} {M M' : Mem} {k q : Nat} (hq : uIds[q]? = some k) (h : ∀ j, j ≠ k → uCell dA ad M' j = uCell dA ad M j) : (uCells dA ad M).set q (ad k, uCell dA ad M' k) = uCells dA ad M' := by
  apply List.ext_getElem?
  intro i
  rw [List.getElem?_set]
  by_cases hi : q = i
  · subst hi
    have hlt : q < (uCells dA ad M).length := by
      have := (List.getElem?_eq_some_iff.mp hq).1
      simpa [uCells] using this
    rw [if_pos rfl, if_pos hlt]
    simp [uCells, List.getElem?_map, hq]
  · rw [if_neg hi]
    simp only [uCells, List.getElem?_map]
    cases hk : uIds[i]? with
    | none => rfl
    | some k' =>
      have hne : k' ≠ k := by
        intro e
        subst e
        exact hi (uIds_inj hq hk)
      simp [h k' hne]
def uInj (ad : Nat → Nat) : Prop := ∀ i ∈ uIds, ∀ j ∈ uIds, ad i = ad j → i = j
def uA (ad : Nat → Nat) : Nat → Prop := fun q => ∃ k ∈ uIds, q = ad k
theorem uD {dA : Nat → ClassId} {ad : Nat → Nat} {M : Mem} (h : uInj ad) : va_D (uA ad) (uCells dA ad M) := by
  refine ⟨?_, ?_⟩
  · intro i j p q hi hj e
    simp only [uCells, List.getElem?_map, Option.map_eq_some_iff] at hi hj
    obtain ⟨k1, h1, rfl⟩ := hi
    obtain ⟨k2, h2, rfl⟩ := hj
    have := h k1 (List.mem_of_getElem? h1) k2 (List.mem_of_getElem? h2) e
    subst this
    exact uIds_inj h1 h2
  · intro i q hi
    simp only [uCells, List.getElem?_map, Option.map_eq_some_iff] at hi
    obtain ⟨k1, h1, rfl⟩ := hi
    exact ⟨k1, List.mem_of_getElem? h1, rfl⟩
def uTys (dA : Nat → ClassId) : List (ClassId × FieldType) := [(dA 0, .int), (dA 1, .object "UnlikeDrawn$Head"), (dA 2, .object "UnlikeDrawn$Hand"), (dA 3, .object "UnlikeDrawn$Sketch"), (dA 4, .object "UnlikeDrawn$Knower"), (dA 5, .object "UnlikeDrawn$Sheet")]
def uTyN (t : Nat) : String := match t with
  | 1 => "UnlikeDrawn$Head"
  | 2 => "UnlikeDrawn$Hand"
  | 3 => "UnlikeDrawn$Sketch"
  | 4 => "UnlikeDrawn$Knower"
  | _ => "UnlikeDrawn$Sheet"
def uKn (D : va_G) (dA : Nat → ClassId) (U : State) : Prop := va_K D uCls (uTys dA) U ∧ va_Nw uNest U
theorem uKn.moved {D : va_G} {dA : Nat → ClassId} {u U : State} (hW : u.WarmedH U.vm) (h : uKn D dA u) : uKn D dA U := ⟨va_K.moved hW.alike h.1, va_Nw.warmM hW h.2⟩
def uLn (u : MI) : List Cond := .code u.1 u.2.1 u.2.2.1 u.2.2.2.1 :: gt
def uRm (u : MI) : Room := { frames := u.2.2.2.2.1, cells := 0, slots := 0, locals := u.2.2.2.2.2 }
def uPc (D : va_G) (dA : Nat → ClassId) (ad : Nat → Nat) (args : List Value) (M : Mem) : Array Value → State → Prop := va_Pc (args.map (cv ad)) (fun U => va_P D uCls (uCells dA ad M) U.heap ∧ uKn D dA U ∧ uInj ad)
def uQc (D : va_G) (dA : Nat → ClassId) (ad : Nat → Nat) (post : Option Value → Mem → Prop) : Array Value → State → Outcome → State → Prop := fun _ st oc t => (∃ (v : Option Value) (M' : Mem), oc = .returned (v.map (cv ad)) ∧ post v M' ∧ va_P D uCls (uCells dA ad M') t.heap) ∧ va_F (uA ad) st t
def CS (u : MI) (args : List Value) (M : Mem) (post : Option Value → Mem → Prop) : Prop := ∀ (l : Launch) (D : va_G) (dA : Nat → ClassId) (ad : Nat → Nat), Met l u.1 (uLn u) (uRm u) (uPc D dA ad args M) (uQc D dA ad post) 0 0 (uA ad)
/-- locals, place by place -/
def al (ad : Nat → Nat) : Nat → List (Option Value) → List (Nat × Value)
  | _, [] => []
  | i, none :: L => al ad (i + 1) L
  | i, some v :: L => (i, cv ad v) :: al ad (i + 1) L
def lget : List (Option Value) → Nat → Option Value
  | [], _ => none
  | o :: _, 0 => o
  | _ :: L, n + 1 => lget L n
theorem al_mem {ad : Nat → Nat} : ∀ {L : List (Option Value)} {k j : Nat} {w : Value}, (j, w) ∈ al ad k L ↔ ∃ i v, lget L i = some v ∧ j = k + i ∧ w = cv ad v
  | [], k, j, w => by simp [al, lget]
  | none :: L, k, j, w => by
    rw [al, al_mem (L := L)]
    constructor
    · rintro ⟨i, v, h1, h2, h3⟩
      exact ⟨i + 1, v, h1, by omega, h3⟩
    · rintro ⟨i, v, h1, h2, h3⟩
      cases i with
      | zero => simp [lget] at h1
      | succ i => exact ⟨i, v, h1, by omega, h3⟩
  | some x :: L, k, j, w => by
    rw [al, List.mem_cons, al_mem (L := L)]
    constructor
    · rintro (h | ⟨i, v, h1, h2, h3⟩)
      · cases h
        exact ⟨0, x, rfl, rfl, rfl⟩
      · exact ⟨i + 1, v, h1, by omega, h3⟩
    · rintro ⟨i, v, h1, h2, h3⟩
      cases i with
      | zero =>
        left
        simp [lget] at h1
        subst h1
        simp [h2, h3]
      | succ i => exact Or.inr ⟨i, v, h1, by omega, h3⟩
def kl : Option Value → Option Value
  | some (.long _) => none
  | some (.double _) => none
  | some (.int x) => some (.int x)
  | some (.ref x) => some (.ref x)
  | some .null => some .null
  | some (.float x) => some (.float x)
  | some (.retAddr x) => some (.retAddr x)
  | none => none
def lset1 : List (Option Value) → Nat → Value → List (Option Value)
  | [], _, _ => []
  | _ :: L, 0, x => some x :: L
  | o :: L, 1, x => kl o :: lset1 L 0 x
  | o :: L, n + 2, x => o :: lset1 L (n + 1) x
def lset2 : List (Option Value) → Nat → Value → List (Option Value)
  | [], _, _ => []
  | [_], 0, x => [some x]
  | _ :: _ :: L, 0, x => some x :: none :: L
  | o :: L, 1, x => kl o :: lset2 L 0 x
  | o :: L, n + 2, x => o :: lset2 L (n + 1) x
theorem kl_some {o : Option Value} {v : Value} (h : kl o = some v) : o = some v ∧ ¬ v.category = 2 := by
  cases o with
  | none => simp [kl] at h
  | some w => cases w <;> simp [kl] at h <;> subst h <;> simp [Value.category]
theorem lset1_get : ∀ {L : List (Option Value)} {i j : Nat} {x v : Value}, lget (lset1 L i x) j = some v → (j = i ∧ v = x) ∨ (j ≠ i ∧ lget L j = some v ∧ ¬ (j + 1 = i ∧ v.category = 2))
  | [], i, j, x, v, h => by simp [lset1, lget] at h
  | o :: L, 0, 0, x, v, h => by
    simp [lset1, lget] at h
    exact Or.inl ⟨rfl, h.symm⟩
  | o :: L, 0, j + 1, x, v, h => by
    simp [lset1, lget] at h
    exact Or.inr ⟨by omega, h, by omega⟩
  | o :: L, 1, 0, x, v, h => by
    simp only [lset1, lget] at h
    obtain ⟨h1, h2⟩ := kl_some h
    exact Or.inr ⟨by omega, h1, fun q => h2 q.2⟩
  | o :: L, 1, j + 1, x, v, h => by
    simp only [lset1, lget] at h
    rcases lset1_get h with ⟨h1, h2⟩ | ⟨h1, h2, h3⟩
    · exact Or.inl ⟨by omega, h2⟩
    · exact Or.inr ⟨by omega, h2, fun q => by omega⟩
  | o :: L, i + 2, 0, x, v, h => by
    simp only [lset1, lget] at h
    exact Or.inr ⟨by omega, h, by omega⟩
  | o :: L, i + 2, j + 1, x, v, h => by
    simp only [lset1, lget] at h
    rcases lset1_get h with ⟨h1, h2⟩ | ⟨h1, h2, h3⟩
    · exact Or.inl ⟨by omega, h2⟩
    · exact Or.inr ⟨by omega, h2, fun q => h3 ⟨by omega, q.2⟩⟩
theorem lset2_get : ∀ {L : List (Option Value)} {i j : Nat} {x v : Value}, lget (lset2 L i x) j = some v → (j = i ∧ v = x) ∨ (j ≠ i ∧ j ≠ i + 1 ∧ lget L j = some v ∧ ¬ (j + 1 = i ∧ v.category = 2))
  | [], i, j, x, v, h => by simp [lset2, lget] at h
  | [o], 0, 0, x, v, h => by
    simp [lset2, lget] at h
    exact Or.inl ⟨rfl, h.symm⟩
  | [o], 0, j + 1, x, v, h => by simp [lset2, lget] at h
  | o :: o2 :: L, 0, 0, x, v, h => by
    simp [lset2, lget] at h
    exact Or.inl ⟨rfl, h.symm⟩
  | o :: o2 :: L, 0, 1, x, v, h => by simp [lset2, lget] at h
  | o :: o2 :: L, 0, j + 2, x, v, h => by
    simp [lset2, lget] at h
    exact Or.inr ⟨by omega, by omega, h, by omega⟩
  | o :: L, 1, 0, x, v, h => by
    cases L <;> simp only [lset2, lget] at h <;> obtain ⟨h1, h2⟩ := kl_some h <;> exact Or.inr ⟨by omega, by omega, h1, fun q => h2 q.2⟩
  | o :: L, 1, j + 1, x, v, h => by
    have h' : lget (lset2 L 0 x) j = some v := by cases L <;> simpa only [lset2, lget] using h
    rcases lset2_get h' with ⟨h1, h2⟩ | ⟨h1, h2, h3, h4⟩
    · exact Or.inl ⟨by omega, h2⟩
    · exact Or.inr ⟨by omega, by omega, h3, fun q => by omega⟩
  | o :: L, i + 2, 0, x, v, h => by
    have h' : o = some v := by cases L <;> simpa only [lset2, lget] using h
    exact Or.inr ⟨by omega, by omega, h', by omega⟩
  | o :: L, i + 2, j + 1, x, v, h => by
    have h' : lget (lset2 L (i + 1) x) j = some v := by cases L <;> simpa only [lset2, lget] using h
    rcases lset2_get h' with ⟨h1, h2⟩ | ⟨h1, h2, h3, h4⟩
    · exact Or.inl ⟨by omega, h2⟩
    · exact Or.inr ⟨by omega, by omega, h3, fun q => h4 ⟨by omega, q.2⟩⟩
theorem lv_has.mono {ls : Array Slot} {n : Nat} {l l' : List (Nat × Value)} (h : lv_has ls n l) (hs : ∀ q ∈ l', q ∈ l) : lv_has ls n l' := ⟨h.1, h.2.1, fun q hq => h.2.2 q (hs q hq)⟩
theorem al_set1 {ad : Nat → Nat} {ls : Array Slot} {n i : Nat} {L : List (Option Value)} {x : Value} (h : lv_has ls n ((i, cv ad x) :: (al ad 0 L).filter (fun q => !(q.1 == i) && !(q.1 + 1 == i && q.2.category == 2)))) : lv_has ls n (al ad 0 (lset1 L i x)) := by
  refine h.mono ?_
  rintro ⟨j, w⟩ hq
  obtain ⟨i', v, h1, h2, h3⟩ := al_mem.mp hq
  have h2 : j = i' := by omega
  subst h2; subst h3
  rcases lset1_get h1 with ⟨h4, h5⟩ | ⟨h4, h5, h6⟩
  · subst h4; subst h5
    exact List.mem_cons_self
  · refine List.mem_cons_of_mem _ (List.mem_filter.mpr ⟨al_mem.mpr ⟨j, v, h5, by omega, rfl⟩, ?_⟩)
    simp only [cv_cat]
    by_cases e : j + 1 = i
    · have : ¬ v.category = 2 := fun q => h6 ⟨e, q⟩
      simp [h4, this]
    · simp [h4, e]
theorem al_set2 {ad : Nat → Nat} {ls : Array Slot} {n i : Nat} {L : List (Option Value)} {x : Value} (h : lv_has ls n ((i, cv ad x) :: (al ad 0 L).filter (fun q => !(q.1 == i) && (!(q.1 == i + 1) && !(q.1 + 1 == i && q.2.category == 2))))) : lv_has ls n (al ad 0 (lset2 L i x)) := by
  refine h.mono ?_
  rintro ⟨j, w⟩ hq
  obtain ⟨i', v, h1, h2, h3⟩ := al_mem.mp hq
  have h2 : j = i' := by omega
  subst h2; subst h3
  rcases lset2_get h1 with ⟨h4, h5⟩ | ⟨h4, h4', h5, h6⟩
  · subst h4; subst h5
    exact List.mem_cons_self
  · refine List.mem_cons_of_mem _ (List.mem_filter.mpr ⟨al_mem.mpr ⟨j, v, h5, by omega, rfl⟩, ?_⟩)
    simp only [cv_cat]
    by_cases e : j + 1 = i
    · have : ¬ v.category = 2 := fun q => h6 ⟨e, q⟩
      simp [h4, h4', this]
    · simp [h4, h4', e]
theorem al_get {ad : Nat → Nat} {ls : Array Slot} {n i : Nat} {L : List (Option Value)} {v : Value} (h : lv_has ls n (al ad 0 L)) (hl : lget L i = some v) : ls[i]? = some (.val (cv ad v)) := h.2.2 (i, cv ad v) (al_mem.mpr ⟨i, v, hl, by omega, rfl⟩)
/-- what is fixed while a method's body runs -/
def Cx (u : MI) (p : Program) (s : State) (m : MethodId) (args : Array Value) (meth : Method) (c : Code) (D : va_G) (dA : Nat → ClassId) (ad : Nat → Nat) : Prop :=
  p.tables.exec = Jvm.exec ∧ c.code = u.2.1 ∧ c.maxLocals = u.2.2.1 ∧ s.vm.findClass u.1.cls = some m.cls ∧ (∀ w ∈ gt, w.before args s = true) ∧ meth.sig.returnType = u.2.2.2.1 ∧ meth.locks = false ∧ uKn D dA s ∧ uInj ad
def CW (u : MI) (post : Option Value → Mem → Prop) (pc : Nat) (L : List (Option Value)) (st : List Value) (M : Mem) : Prop :=
  ∀ (p : Program) (l : Launch) (e : Env) (s : State) (m : MethodId) (args : Array Value) (below : List Frame) (meth : Method) (c : Code) (D : va_G) (dA : Nat → ClassId) (ad : Nat → Nat) (H : Heap) (locs : List Loc) (ls : Array Slot),
    Cx u p s m args meth c D dA ad → va_P D uCls (uCells dA ad M) H → va_S (uA ad) s.heap H locs → lv_has ls u.2.2.1 (al ad 0 L) →
    W p l e (uRm u) s m args below meth c H locs 0 0 (MQ below (uQc D dA ad post) args s 0 0 (uA ad)) (F0 m pc ls (st.map (cv ad)))
def retI (Q : Int32 → Mem → Prop) : Option Value → Mem → Prop := fun v M => ∃ r : Int32, v = some (.int r) ∧ Q r M
def retJ (Q : Int64 → Mem → Prop) : Option Value → Mem → Prop := fun v M => ∃ r : Int64, v = some (.long r) ∧ Q r M
def retV (Q : Mem → Prop) : Option Value → Mem → Prop := fun v M => v = none ∧ Q M
def mG (M : Mem) (k j : Nat) : Int32 := M.1 k j
def jG (M : Mem) (k j : Nat) : Int64 := M.2 k j
def mS (M : Mem) (k j : Nat) (x : Int32) : Mem := (fun a b => if a = k ∧ b = j then x else M.1 a b, M.2)
def jS (M : Mem) (k j : Nat) (x : Int64) : Mem := (M.1, fun a b => if a = k ∧ b = j then x else M.2 a b)
def SO (a ci : Nat) (fs : List Fk) : Prop := uSh a = .inr (.inr (ci, fs)) ∧ a ∈ uIds
def SA (a n : Nat) : Prop := uSh a = .inl n ∧ a ∈ uIds
def SR (a t n : Nat) (g : Nat → Nat) : Prop := uSh a = .inr (.inl (t, n, g)) ∧ a ∈ uIds ∧ 1 ≤ t ∧ t ≤ 5
/-- the field k of class ci is what the entry idx of own's pool names -/
def FL (own : String) (idx ci k : Nat) : Prop := ∃ (C : String) (T : u_T) (N : Nat), uCls[ci]? = some (C, T, N) ∧ k < N ∧ Cond.fieldLink own idx (T k).1 (T k).2.1 (T k).2.2.1 ∈ gt
def FP (own : String) (idx ci k : Nat) (ty : FieldType) : Prop := ∃ (C : String) (T : u_T) (N : Nat), uCls[ci]? = some (C, T, N) ∧ k < N ∧ Cond.fieldLink own idx (T k).1 (T k).2.1 (T k).2.2.1 ∈ gt ∧ (T k).2.2.2 = false ∧ parseFieldDescriptor (T k).2.2.1 = some ty
theorem uIn0 : (u_ws uR0 uT0 2).all (fun w => decide (w ∈ tables_1) && goodWord w) = true := by decide +kernel
theorem uTyOk0 : ∀ k, k < 2 → parseFieldDescriptor (uT0 k).2.2.1 = some (uY0 k) := by decide +kernel
theorem uNm0 : ∀ a, a < 2 → ∀ b, b < 2 → a ≠ b → (uT0 a).2.1 ≠ (uT0 b).2.1 := by decide +kernel
theorem uIn1 : (u_ws uR1 uT1 4).all (fun w => decide (w ∈ tables_1) && goodWord w) = true := by decide +kernel
theorem uTyOk1 : ∀ k, k < 4 → parseFieldDescriptor (uT1 k).2.2.1 = some (uY1 k) := by decide +kernel
theorem uNm1 : ∀ a, a < 4 → ∀ b, b < 4 → a ≠ b → (uT1 a).2.1 ≠ (uT1 b).2.1 := by decide +kernel
theorem uIn2 : (u_ws uR2 uT2 1).all (fun w => decide (w ∈ tables_1) && goodWord w) = true := by decide +kernel
theorem uTyOk2 : ∀ k, k < 1 → parseFieldDescriptor (uT2 k).2.2.1 = some (uY2 k) := by decide +kernel
theorem uNm2 : ∀ a, a < 1 → ∀ b, b < 1 → a ≠ b → (uT2 a).2.1 ≠ (uT2 b).2.1 := by decide +kernel
theorem uIn3 : (u_ws uR3 uT3 2).all (fun w => decide (w ∈ tables_1) && goodWord w) = true := by decide +kernel
theorem uTyOk3 : ∀ k, k < 2 → parseFieldDescriptor (uT3 k).2.2.1 = some (uY3 k) := by decide +kernel
theorem uNm3 : ∀ a, a < 2 → ∀ b, b < 2 → a ≠ b → (uT3 a).2.1 ≠ (uT3 b).2.1 := by decide +kernel
theorem uIn4 : (u_ws uR4 uT4 3).all (fun w => decide (w ∈ tables_1) && goodWord w) = true := by decide +kernel
theorem uTyOk4 : ∀ k, k < 3 → parseFieldDescriptor (uT4 k).2.2.1 = some (uY4 k) := by decide +kernel
theorem uNm4 : ∀ a, a < 3 → ∀ b, b < 3 → a ≠ b → (uT4 a).2.1 ≠ (uT4 b).2.1 := by decide +kernel
theorem uIn5 : (u_ws uR5 uT5 6).all (fun w => decide (w ∈ tables_1) && goodWord w) = true := by decide +kernel
theorem uTyOk5 : ∀ k, k < 6 → parseFieldDescriptor (uT5 k).2.2.1 = some (uY5 k) := by decide +kernel
theorem uNm5 : ∀ a, a < 6 → ∀ b, b < 6 → a ≠ b → (uT5 a).2.1 ≠ (uT5 b).2.1 := by decide +kernel
theorem uIn6 : (u_ws uR6 uT6 17).all (fun w => decide (w ∈ tables_1) && goodWord w) = true := by decide +kernel
theorem uTyOk6 : ∀ k, k < 17 → parseFieldDescriptor (uT6 k).2.2.1 = some (uY6 k) := by decide +kernel
theorem uNm6 : ∀ a, a < 17 → ∀ b, b < 17 → a ≠ b → (uT6 a).2.1 ≠ (uT6 b).2.1 := by decide +kernel
theorem uIn7 : (u_ws uR7 uT7 27).all (fun w => decide (w ∈ tables_1) && goodWord w) = true := by decide +kernel
theorem uTyOk7 : ∀ k, k < 27 → parseFieldDescriptor (uT7 k).2.2.1 = some (uY7 k) := by decide +kernel
theorem uNm7 : ∀ a, a < 27 → ∀ b, b < 27 → a ≠ b → (uT7 a).2.1 ≠ (uT7 b).2.1 := by decide +kernel
theorem uAllIn {ws : List Cond} (h : ws.all (fun w => decide (w ∈ tables_1) && goodWord w) = true) : ∀ w ∈ ws, w ∈ gt := by
  intro w hw
  have h1 := List.all_eq_true.mp h w hw
  simp only [Bool.and_eq_true, decide_eq_true_eq] at h1
  exact List.mem_filter.mpr ⟨List.mem_append_right _ h1.1, h1.2⟩
theorem uCls_ok {ci : Nat} {C : String} {T : u_T} {N : Nat} (h : uCls[ci]? = some (C, T, N)) : (∀ w ∈ u_ws C T N, w ∈ gt) ∧ ∃ ty : Nat → FieldType, (∀ k, k < N → parseFieldDescriptor (T k).2.2.1 = some (ty k)) ∧ (∀ a, a < N → ∀ b, b < N → a ≠ b → (T a).2.1 ≠ (T b).2.1) := by
  match ci, h with
  | 0, h => cases h; exact ⟨uAllIn uIn0, uY0, uTyOk0, uNm0⟩
  | 1, h => cases h; exact ⟨uAllIn uIn1, uY1, uTyOk1, uNm1⟩
  | 2, h => cases h; exact ⟨uAllIn uIn2, uY2, uTyOk2, uNm2⟩
  | 3, h => cases h; exact ⟨uAllIn uIn3, uY3, uTyOk3, uNm3⟩
  | 4, h => cases h; exact ⟨uAllIn uIn4, uY4, uTyOk4, uNm4⟩
  | 5, h => cases h; exact ⟨uAllIn uIn5, uY5, uTyOk5, uNm5⟩
  | 6, h => cases h; exact ⟨uAllIn uIn6, uY6, uTyOk6, uNm6⟩
  | 7, h => cases h; exact ⟨uAllIn uIn7, uY7, uTyOk7, uNm7⟩
  | k + 8, h => simp [uCls] at h
theorem uNat : Cond.native arraycopyName ∈ gt := gt_at 340 (by decide +kernel) rfl
theorem uNatS : Cond.static arraycopyName ∈ gt := gt_at 339 (by decide +kernel) rfl
theorem uNatI : Cond.initialized "java/lang/System" ∈ gt := gt_at 11 (by decide +kernel) rfl
end
section
/-! ===== a row an instruction, over the clean layer ===== -/
theorem cw_iconst {u : MI} {post : Option Value → Mem → Prop} {pc : Nat} {L : List (Option Value)} {st : List Value} {M : Mem} {n : Int} {v : Int32} (hd : decode u.2.1 pc = .ok (.iconst n, 1)) (hv : Int32.ofInt n = v) (k : CW u post (pc + 1) L (.int v :: st) M) : CW u post pc L (st) M := by
  intro p l e s m args below meth c D dA ad H locs ls cx hP hS hL
  exact lv_iconst cx.1 cx.2.1 hd hv (k p l e s m args below meth c D dA ad H locs ls cx hP hS hL)
theorem cw_bipush {u : MI} {post : Option Value → Mem → Prop} {pc : Nat} {L : List (Option Value)} {st : List Value} {M : Mem} {n : Int} {v : Int32} (hd : decode u.2.1 pc = .ok (.bipush n, 2)) (hv : (Int8.ofInt n).toInt32 = v) (k : CW u post (pc + 2) L (.int v :: st) M) : CW u post pc L (st) M := by
  intro p l e s m args below meth c D dA ad H locs ls cx hP hS hL
  exact lv_bipush cx.1 cx.2.1 hd hv (k p l e s m args below meth c D dA ad H locs ls cx hP hS hL)
theorem cw_sipush {u : MI} {post : Option Value → Mem → Prop} {pc : Nat} {L : List (Option Value)} {st : List Value} {M : Mem} {n : Int} {v : Int32} (hd : decode u.2.1 pc = .ok (.sipush n, 3)) (hv : (Int16.ofInt n).toInt32 = v) (k : CW u post (pc + 3) L (.int v :: st) M) : CW u post pc L (st) M := by
  intro p l e s m args below meth c D dA ad H locs ls cx hP hS hL
  exact lv_sipush cx.1 cx.2.1 hd hv (k p l e s m args below meth c D dA ad H locs ls cx hP hS hL)
theorem cw_lconst {u : MI} {post : Option Value → Mem → Prop} {pc : Nat} {L : List (Option Value)} {st : List Value} {M : Mem} {n : Fin 2} {v : Int64} (hd : decode u.2.1 pc = .ok (.lconst n, 1)) (hv : Int64.ofNat (n : Nat) = v) (k : CW u post (pc + 1) L (.long v :: st) M) : CW u post pc L (st) M := by
  intro p l e s m args below meth c D dA ad H locs ls cx hP hS hL
  exact lv_lconst cx.1 cx.2.1 hd hv (k p l e s m args below meth c D dA ad H locs ls cx hP hS hL)
theorem cw_iload_n {u : MI} {post : Option Value → Mem → Prop} {pc : Nat} {L : List (Option Value)} {st : List Value} {M : Mem} {n : Fin 4} {x : Int32} (hd : decode u.2.1 pc = .ok (.iload_n n, 1)) (hl : lget L (n : Nat) = some (.int x)) (k : CW u post (pc + 1) L (.int x :: st) M) : CW u post pc L (st) M := by
  intro p l e s m args below meth c D dA ad H locs ls cx hP hS hL
  exact lv_iload_n cx.1 cx.2.1 hd rfl (al_get hL hl) (k p l e s m args below meth c D dA ad H locs ls cx hP hS hL)
theorem cw_iload {u : MI} {post : Option Value → Mem → Prop} {pc : Nat} {L : List (Option Value)} {st : List Value} {M : Mem} {i : Nat} {x : Int32} (hd : decode u.2.1 pc = .ok (.iload i, 2)) (hl : lget L i = some (.int x)) (k : CW u post (pc + 2) L (.int x :: st) M) : CW u post pc L (st) M := by
  intro p l e s m args below meth c D dA ad H locs ls cx hP hS hL
  exact lv_iload cx.1 cx.2.1 hd (al_get hL hl) (k p l e s m args below meth c D dA ad H locs ls cx hP hS hL)
theorem cw_istore_n {u : MI} {post : Option Value → Mem → Prop} {pc : Nat} {L : List (Option Value)} {st : List Value} {M : Mem} {i : Fin 4} {x : Int32} (hd : decode u.2.1 pc = .ok (.istore_n i, 1)) (hn : Nat.ble ((i : Nat) + 1) u.2.2.1 = true) (k : CW u post (pc + 1) (lset1 L (i : Nat) (.int x)) st M) : CW u post pc L (.int x :: st) M := by
  intro p l e s m args below meth c D dA ad H locs ls cx hP hS hL
  exact lv_istore_n cx.1 cx.2.1 hd rfl hL (Nat.le_of_ble_eq_true hn) rfl (fun ls' hL' => k p l e s m args below meth c D dA ad H locs ls' cx hP hS (al_set1 (x := .int x) hL'))
theorem cw_istore {u : MI} {post : Option Value → Mem → Prop} {pc : Nat} {L : List (Option Value)} {st : List Value} {M : Mem} {i : Nat} {x : Int32} (hd : decode u.2.1 pc = .ok (.istore i, 2)) (hn : Nat.ble (i + 1) u.2.2.1 = true) (k : CW u post (pc + 2) (lset1 L i (.int x)) st M) : CW u post pc L (.int x :: st) M := by
  intro p l e s m args below meth c D dA ad H locs ls cx hP hS hL
  exact lv_istore cx.1 cx.2.1 hd hL (Nat.le_of_ble_eq_true hn) rfl (fun ls' hL' => k p l e s m args below meth c D dA ad H locs ls' cx hP hS (al_set1 (x := .int x) hL'))
theorem cw_lload_n {u : MI} {post : Option Value → Mem → Prop} {pc : Nat} {L : List (Option Value)} {st : List Value} {M : Mem} {n : Fin 4} {x : Int64} (hd : decode u.2.1 pc = .ok (.lload_n n, 1)) (hl : lget L (n : Nat) = some (.long x)) (k : CW u post (pc + 1) L (.long x :: st) M) : CW u post pc L (st) M := by
  intro p l e s m args below meth c D dA ad H locs ls cx hP hS hL
  exact lv_lload_n cx.1 cx.2.1 hd rfl (al_get hL hl) (k p l e s m args below meth c D dA ad H locs ls cx hP hS hL)
theorem cw_lload {u : MI} {post : Option Value → Mem → Prop} {pc : Nat} {L : List (Option Value)} {st : List Value} {M : Mem} {i : Nat} {x : Int64} (hd : decode u.2.1 pc = .ok (.lload i, 2)) (hl : lget L i = some (.long x)) (k : CW u post (pc + 2) L (.long x :: st) M) : CW u post pc L (st) M := by
  intro p l e s m args below meth c D dA ad H locs ls cx hP hS hL
  exact lv_lload cx.1 cx.2.1 hd (al_get hL hl) (k p l e s m args below meth c D dA ad H locs ls cx hP hS hL)
theorem cw_lstore_n {u : MI} {post : Option Value → Mem → Prop} {pc : Nat} {L : List (Option Value)} {st : List Value} {M : Mem} {i : Fin 4} {x : Int64} (hd : decode u.2.1 pc = .ok (.lstore_n i, 1)) (hn : Nat.ble ((i : Nat) + 1 + 1) u.2.2.1 = true) (k : CW u post (pc + 1) (lset2 L (i : Nat) (.long x)) st M) : CW u post pc L (.long x :: st) M := by
  intro p l e s m args below meth c D dA ad H locs ls cx hP hS hL
  exact lv_lstore_n cx.1 cx.2.1 hd rfl hL (Nat.le_of_ble_eq_true hn) rfl (fun ls' hL' => k p l e s m args below meth c D dA ad H locs ls' cx hP hS (al_set2 (x := .long x) hL'))
theorem cw_lstore {u : MI} {post : Option Value → Mem → Prop} {pc : Nat} {L : List (Option Value)} {st : List Value} {M : Mem} {i : Nat} {x : Int64} (hd : decode u.2.1 pc = .ok (.lstore i, 2)) (hn : Nat.ble (i + 1 + 1) u.2.2.1 = true) (k : CW u post (pc + 2) (lset2 L i (.long x)) st M) : CW u post pc L (.long x :: st) M := by
  intro p l e s m args below meth c D dA ad H locs ls cx hP hS hL
  exact lv_lstore cx.1 cx.2.1 hd hL (Nat.le_of_ble_eq_true hn) rfl (fun ls' hL' => k p l e s m args below meth c D dA ad H locs ls' cx hP hS (al_set2 (x := .long x) hL'))
theorem cw_aload_n {u : MI} {post : Option Value → Mem → Prop} {pc : Nat} {L : List (Option Value)} {st : List Value} {M : Mem} {n : Fin 4} {x : Nat} (hd : decode u.2.1 pc = .ok (.aload_n n, 1)) (hl : lget L (n : Nat) = some (.ref x)) (k : CW u post (pc + 1) L (.ref x :: st) M) : CW u post pc L (st) M := by
  intro p l e s m args below meth c D dA ad H locs ls cx hP hS hL
  exact lv_aload_n cx.1 cx.2.1 hd rfl (al_get hL hl) (k p l e s m args below meth c D dA ad H locs ls cx hP hS hL)
theorem cw_aload {u : MI} {post : Option Value → Mem → Prop} {pc : Nat} {L : List (Option Value)} {st : List Value} {M : Mem} {i : Nat} {x : Nat} (hd : decode u.2.1 pc = .ok (.aload i, 2)) (hl : lget L i = some (.ref x)) (k : CW u post (pc + 2) L (.ref x :: st) M) : CW u post pc L (st) M := by
  intro p l e s m args below meth c D dA ad H locs ls cx hP hS hL
  exact lv_aload cx.1 cx.2.1 hd (al_get hL hl) (k p l e s m args below meth c D dA ad H locs ls cx hP hS hL)
theorem cw_astore_n {u : MI} {post : Option Value → Mem → Prop} {pc : Nat} {L : List (Option Value)} {st : List Value} {M : Mem} {i : Fin 4} {x : Nat} (hd : decode u.2.1 pc = .ok (.astore_n i, 1)) (hn : Nat.ble ((i : Nat) + 1) u.2.2.1 = true) (k : CW u post (pc + 1) (lset1 L (i : Nat) (.ref x)) st M) : CW u post pc L (.ref x :: st) M := by
  intro p l e s m args below meth c D dA ad H locs ls cx hP hS hL
  exact lv_astore_n cx.1 cx.2.1 hd rfl hL (Nat.le_of_ble_eq_true hn) rfl (fun ls' hL' => k p l e s m args below meth c D dA ad H locs ls' cx hP hS (al_set1 (x := .ref x) hL'))
theorem cw_astore {u : MI} {post : Option Value → Mem → Prop} {pc : Nat} {L : List (Option Value)} {st : List Value} {M : Mem} {i : Nat} {x : Nat} (hd : decode u.2.1 pc = .ok (.astore i, 2)) (hn : Nat.ble (i + 1) u.2.2.1 = true) (k : CW u post (pc + 2) (lset1 L i (.ref x)) st M) : CW u post pc L (.ref x :: st) M := by
  intro p l e s m args below meth c D dA ad H locs ls cx hP hS hL
  exact lv_astore cx.1 cx.2.1 hd hL (Nat.le_of_ble_eq_true hn) rfl (fun ls' hL' => k p l e s m args below meth c D dA ad H locs ls' cx hP hS (al_set1 (x := .ref x) hL'))
theorem cw_iinc {u : MI} {post : Option Value → Mem → Prop} {pc : Nat} {L : List (Option Value)} {st : List Value} {M : Mem} {i : Nat} {n : Int} {x : Int32} (hd : decode u.2.1 pc = .ok (.iinc i n, 3)) (hl : lget L i = some (.int x)) (hn : Nat.ble (i + 1) u.2.2.1 = true) (k : CW u post (pc + 3) (lset1 L i (.int (x + Int32.ofInt n))) st M) : CW u post pc L st M := by
  intro p l e s m args below meth c D dA ad H locs ls cx hP hS hL
  obtain ⟨kk, hk⟩ := List.getElem?_of_mem (al_mem (ad := ad) (k := 0) |>.mpr ⟨i, _, hl, (Nat.zero_add i).symm, rfl⟩)
  exact lv_iinc cx.1 cx.2.1 hd hL hk rfl (Nat.le_of_ble_eq_true hn) rfl (fun ls' hL' => k p l e s m args below meth c D dA ad H locs ls' cx hP hS (al_set1 (x := .int (x + Int32.ofInt n)) hL'))
theorem cw_iadd {u : MI} {post : Option Value → Mem → Prop} {pc : Nat} {L : List (Option Value)} {st : List Value} {M : Mem} {x y : Int32} (hd : decode u.2.1 pc = .ok (.iadd, 1)) (k : CW u post (pc + 1) L (.int (x + y) :: st) M) : CW u post pc L (.int y :: .int x :: st) M := by
  intro p l e s m args below meth c D dA ad H locs ls cx hP hS hL
  exact lv_iadd cx.1 cx.2.1 hd  (k p l e s m args below meth c D dA ad H locs ls cx hP hS hL)
theorem cw_isub {u : MI} {post : Option Value → Mem → Prop} {pc : Nat} {L : List (Option Value)} {st : List Value} {M : Mem} {x y : Int32} (hd : decode u.2.1 pc = .ok (.isub, 1)) (k : CW u post (pc + 1) L (.int (x - y) :: st) M) : CW u post pc L (.int y :: .int x :: st) M := by
  intro p l e s m args below meth c D dA ad H locs ls cx hP hS hL
  exact lv_isub cx.1 cx.2.1 hd  (k p l e s m args below meth c D dA ad H locs ls cx hP hS hL)
theorem cw_imul {u : MI} {post : Option Value → Mem → Prop} {pc : Nat} {L : List (Option Value)} {st : List Value} {M : Mem} {x y : Int32} (hd : decode u.2.1 pc = .ok (.imul, 1)) (k : CW u post (pc + 1) L (.int (x * y) :: st) M) : CW u post pc L (.int y :: .int x :: st) M := by
  intro p l e s m args below meth c D dA ad H locs ls cx hP hS hL
  exact lv_imul cx.1 cx.2.1 hd  (k p l e s m args below meth c D dA ad H locs ls cx hP hS hL)
theorem cw_iand {u : MI} {post : Option Value → Mem → Prop} {pc : Nat} {L : List (Option Value)} {st : List Value} {M : Mem} {x y : Int32} (hd : decode u.2.1 pc = .ok (.iand, 1)) (k : CW u post (pc + 1) L (.int (x &&& y) :: st) M) : CW u post pc L (.int y :: .int x :: st) M := by
  intro p l e s m args below meth c D dA ad H locs ls cx hP hS hL
  exact lv_iand cx.1 cx.2.1 hd  (k p l e s m args below meth c D dA ad H locs ls cx hP hS hL)
theorem cw_ior {u : MI} {post : Option Value → Mem → Prop} {pc : Nat} {L : List (Option Value)} {st : List Value} {M : Mem} {x y : Int32} (hd : decode u.2.1 pc = .ok (.ior, 1)) (k : CW u post (pc + 1) L (.int (x ||| y) :: st) M) : CW u post pc L (.int y :: .int x :: st) M := by
  intro p l e s m args below meth c D dA ad H locs ls cx hP hS hL
  exact lv_ior cx.1 cx.2.1 hd  (k p l e s m args below meth c D dA ad H locs ls cx hP hS hL)
theorem cw_ixor {u : MI} {post : Option Value → Mem → Prop} {pc : Nat} {L : List (Option Value)} {st : List Value} {M : Mem} {x y : Int32} (hd : decode u.2.1 pc = .ok (.ixor, 1)) (k : CW u post (pc + 1) L (.int (x ^^^ y) :: st) M) : CW u post pc L (.int y :: .int x :: st) M := by
  intro p l e s m args below meth c D dA ad H locs ls cx hP hS hL
  exact lv_ixor cx.1 cx.2.1 hd  (k p l e s m args below meth c D dA ad H locs ls cx hP hS hL)
theorem cw_ishl {u : MI} {post : Option Value → Mem → Prop} {pc : Nat} {L : List (Option Value)} {st : List Value} {M : Mem} {x y : Int32} (hd : decode u.2.1 pc = .ok (.ishl, 1)) (k : CW u post (pc + 1) L (.int (x <<< (y &&& 31)) :: st) M) : CW u post pc L (.int y :: .int x :: st) M := by
  intro p l e s m args below meth c D dA ad H locs ls cx hP hS hL
  exact lv_ishl cx.1 cx.2.1 hd  (k p l e s m args below meth c D dA ad H locs ls cx hP hS hL)
theorem cw_ishr {u : MI} {post : Option Value → Mem → Prop} {pc : Nat} {L : List (Option Value)} {st : List Value} {M : Mem} {x y : Int32} (hd : decode u.2.1 pc = .ok (.ishr, 1)) (k : CW u post (pc + 1) L (.int (x >>> (y &&& 31)) :: st) M) : CW u post pc L (.int y :: .int x :: st) M := by
  intro p l e s m args below meth c D dA ad H locs ls cx hP hS hL
  exact lv_ishr cx.1 cx.2.1 hd  (k p l e s m args below meth c D dA ad H locs ls cx hP hS hL)
theorem cw_idiv {u : MI} {post : Option Value → Mem → Prop} {pc : Nat} {L : List (Option Value)} {st : List Value} {M : Mem} {x y : Int32} (hd : decode u.2.1 pc = .ok (.idiv, 1)) (hne : ¬ y = 0) (k : CW u post (pc + 1) L (.int (x / y) :: st) M) : CW u post pc L (.int y :: .int x :: st) M := by
  intro p l e s m args below meth c D dA ad H locs ls cx hP hS hL
  exact lv_idiv cx.1 cx.2.1 hd hne (k p l e s m args below meth c D dA ad H locs ls cx hP hS hL)
theorem cw_ineg {u : MI} {post : Option Value → Mem → Prop} {pc : Nat} {L : List (Option Value)} {st : List Value} {M : Mem} {x : Int32} (hd : decode u.2.1 pc = .ok (.ineg, 1)) (k : CW u post (pc + 1) L (.int (-x) :: st) M) : CW u post pc L (.int x :: st) M := by
  intro p l e s m args below meth c D dA ad H locs ls cx hP hS hL
  exact lv_ineg cx.1 cx.2.1 hd  (k p l e s m args below meth c D dA ad H locs ls cx hP hS hL)
theorem cw_iushr {u : MI} {post : Option Value → Mem → Prop} {pc : Nat} {L : List (Option Value)} {st : List Value} {M : Mem} {x y : Int32} (hd : decode u.2.1 pc = .ok (.iushr, 1)) (k : CW u post (pc + 1) L (.int ((x.toUInt32 >>> (y.toUInt32 &&& Int32.toUInt32 31)).toInt32) :: st) M) : CW u post pc L (.int y :: .int x :: st) M := by
  intro p l e s m args below meth c D dA ad H locs ls cx hP hS hL
  exact lv_iushr cx.1 cx.2.1 hd rfl (k p l e s m args below meth c D dA ad H locs ls cx hP hS hL)
theorem cw_ladd {u : MI} {post : Option Value → Mem → Prop} {pc : Nat} {L : List (Option Value)} {st : List Value} {M : Mem} {x y : Int64} (hd : decode u.2.1 pc = .ok (.ladd, 1)) (k : CW u post (pc + 1) L (.long (x + y) :: st) M) : CW u post pc L (.long y :: .long x :: st) M := by
  intro p l e s m args below meth c D dA ad H locs ls cx hP hS hL
  exact lv_ladd cx.1 cx.2.1 hd  (k p l e s m args below meth c D dA ad H locs ls cx hP hS hL)
theorem cw_lsub {u : MI} {post : Option Value → Mem → Prop} {pc : Nat} {L : List (Option Value)} {st : List Value} {M : Mem} {x y : Int64} (hd : decode u.2.1 pc = .ok (.lsub, 1)) (k : CW u post (pc + 1) L (.long (x - y) :: st) M) : CW u post pc L (.long y :: .long x :: st) M := by
  intro p l e s m args below meth c D dA ad H locs ls cx hP hS hL
  exact lv_lsub cx.1 cx.2.1 hd  (k p l e s m args below meth c D dA ad H locs ls cx hP hS hL)
theorem cw_lmul {u : MI} {post : Option Value → Mem → Prop} {pc : Nat} {L : List (Option Value)} {st : List Value} {M : Mem} {x y : Int64} (hd : decode u.2.1 pc = .ok (.lmul, 1)) (k : CW u post (pc + 1) L (.long (x * y) :: st) M) : CW u post pc L (.long y :: .long x :: st) M := by
  intro p l e s m args below meth c D dA ad H locs ls cx hP hS hL
  exact lv_lmul cx.1 cx.2.1 hd  (k p l e s m args below meth c D dA ad H locs ls cx hP hS hL)
theorem cw_ldiv {u : MI} {post : Option Value → Mem → Prop} {pc : Nat} {L : List (Option Value)} {st : List Value} {M : Mem} {x y : Int64} (hd : decode u.2.1 pc = .ok (.ldiv, 1)) (hne : ¬ y = 0) (k : CW u post (pc + 1) L (.long (x / y) :: st) M) : CW u post pc L (.long y :: .long x :: st) M := by
  intro p l e s m args below meth c D dA ad H locs ls cx hP hS hL
  exact lv_ldiv cx.1 cx.2.1 hd hne (k p l e s m args below meth c D dA ad H locs ls cx hP hS hL)
theorem cw_lrem {u : MI} {post : Option Value → Mem → Prop} {pc : Nat} {L : List (Option Value)} {st : List Value} {M : Mem} {x y : Int64} (hd : decode u.2.1 pc = .ok (.lrem, 1)) (hne : ¬ y = 0) (k : CW u post (pc + 1) L (.long (x - x / y * y) :: st) M) : CW u post pc L (.long y :: .long x :: st) M := by
  intro p l e s m args below meth c D dA ad H locs ls cx hP hS hL
  exact lv_lrem cx.1 cx.2.1 hd hne (k p l e s m args below meth c D dA ad H locs ls cx hP hS hL)
theorem cw_lneg {u : MI} {post : Option Value → Mem → Prop} {pc : Nat} {L : List (Option Value)} {st : List Value} {M : Mem} {x : Int64} (hd : decode u.2.1 pc = .ok (.lneg, 1)) (k : CW u post (pc + 1) L (.long (-x) :: st) M) : CW u post pc L (.long x :: st) M := by
  intro p l e s m args below meth c D dA ad H locs ls cx hP hS hL
  exact lv_lneg cx.1 cx.2.1 hd  (k p l e s m args below meth c D dA ad H locs ls cx hP hS hL)
theorem cw_i2l {u : MI} {post : Option Value → Mem → Prop} {pc : Nat} {L : List (Option Value)} {st : List Value} {M : Mem} {x : Int32} (hd : decode u.2.1 pc = .ok (.i2l, 1)) (k : CW u post (pc + 1) L (.long x.toInt64 :: st) M) : CW u post pc L (.int x :: st) M := by
  intro p l e s m args below meth c D dA ad H locs ls cx hP hS hL
  exact lv_i2l cx.1 cx.2.1 hd rfl (k p l e s m args below meth c D dA ad H locs ls cx hP hS hL)
theorem cw_l2i {u : MI} {post : Option Value → Mem → Prop} {pc : Nat} {L : List (Option Value)} {st : List Value} {M : Mem} {x : Int64} (hd : decode u.2.1 pc = .ok (.l2i, 1)) (k : CW u post (pc + 1) L (.int x.toInt32 :: st) M) : CW u post pc L (.long x :: st) M := by
  intro p l e s m args below meth c D dA ad H locs ls cx hP hS hL
  exact lv_l2i cx.1 cx.2.1 hd rfl (k p l e s m args below meth c D dA ad H locs ls cx hP hS hL)
theorem cw_i2b {u : MI} {post : Option Value → Mem → Prop} {pc : Nat} {L : List (Option Value)} {st : List Value} {M : Mem} {x : Int32} (hd : decode u.2.1 pc = .ok (.i2b, 1)) (k : CW u post (pc + 1) L (.int x.toInt8.toInt32 :: st) M) : CW u post pc L (.int x :: st) M := by
  intro p l e s m args below meth c D dA ad H locs ls cx hP hS hL
  exact lv_i2b cx.1 cx.2.1 hd rfl (k p l e s m args below meth c D dA ad H locs ls cx hP hS hL)
theorem cw_i2s {u : MI} {post : Option Value → Mem → Prop} {pc : Nat} {L : List (Option Value)} {st : List Value} {M : Mem} {x : Int32} (hd : decode u.2.1 pc = .ok (.i2s, 1)) (k : CW u post (pc + 1) L (.int x.toInt16.toInt32 :: st) M) : CW u post pc L (.int x :: st) M := by
  intro p l e s m args below meth c D dA ad H locs ls cx hP hS hL
  exact lv_i2s cx.1 cx.2.1 hd rfl (k p l e s m args below meth c D dA ad H locs ls cx hP hS hL)
theorem cw_lcmp {u : MI} {post : Option Value → Mem → Prop} {pc : Nat} {L : List (Option Value)} {st : List Value} {M : Mem} {x y : Int64} (hd : decode u.2.1 pc = .ok (.lcmp, 1)) (k : CW u post (pc + 1) L (.int (lg_cmp x y) :: st) M) : CW u post pc L (.long y :: .long x :: st) M := by
  intro p l e s m args below meth c D dA ad H locs ls cx hP hS hL
  exact W.lcmp cx.1 cx.2.1 hd  (k p l e s m args below meth c D dA ad H locs ls cx hP hS hL)
theorem cw_dup_int {u : MI} {post : Option Value → Mem → Prop} {pc : Nat} {L : List (Option Value)} {st : List Value} {M : Mem} {x : Int32} (hd : decode u.2.1 pc = .ok (.dup, 1)) (k : CW u post (pc + 1) L (.int x :: .int x :: st) M) : CW u post pc L (.int x :: st) M := by
  intro p l e s m args below meth c D dA ad H locs ls cx hP hS hL
  exact lv_dup cx.1 cx.2.1 hd rfl (k p l e s m args below meth c D dA ad H locs ls cx hP hS hL)
theorem cw_pop_int {u : MI} {post : Option Value → Mem → Prop} {pc : Nat} {L : List (Option Value)} {st : List Value} {M : Mem} {x : Int32} (hd : decode u.2.1 pc = .ok (.pop, 1)) (k : CW u post (pc + 1) L (st) M) : CW u post pc L (.int x :: st) M := by
  intro p l e s m args below meth c D dA ad H locs ls cx hP hS hL
  exact lv_pop cx.1 cx.2.1 hd rfl (k p l e s m args below meth c D dA ad H locs ls cx hP hS hL)
theorem cw_dup_ref {u : MI} {post : Option Value → Mem → Prop} {pc : Nat} {L : List (Option Value)} {st : List Value} {M : Mem} {x : Nat} (hd : decode u.2.1 pc = .ok (.dup, 1)) (k : CW u post (pc + 1) L (.ref x :: .ref x :: st) M) : CW u post pc L (.ref x :: st) M := by
  intro p l e s m args below meth c D dA ad H locs ls cx hP hS hL
  exact lv_dup cx.1 cx.2.1 hd rfl (k p l e s m args below meth c D dA ad H locs ls cx hP hS hL)
theorem cw_pop_ref {u : MI} {post : Option Value → Mem → Prop} {pc : Nat} {L : List (Option Value)} {st : List Value} {M : Mem} {x : Nat} (hd : decode u.2.1 pc = .ok (.pop, 1)) (k : CW u post (pc + 1) L (st) M) : CW u post pc L (.ref x :: st) M := by
  intro p l e s m args below meth c D dA ad H locs ls cx hP hS hL
  exact lv_pop cx.1 cx.2.1 hd rfl (k p l e s m args below meth c D dA ad H locs ls cx hP hS hL)
theorem cw_dup2 {u : MI} {post : Option Value → Mem → Prop} {pc : Nat} {L : List (Option Value)} {st : List Value} {M : Mem} {x : Int32} {y : Nat} (hd : decode u.2.1 pc = .ok (.dup2, 1)) (k : CW u post (pc + 1) L (.int x :: .ref y :: .int x :: .ref y :: st) M) : CW u post pc L (.int x :: .ref y :: st) M := by
  intro p l e s m args below meth c D dA ad H locs ls cx hP hS hL
  exact lv_dup2_11 cx.1 cx.2.1 hd rfl rfl (k p l e s m args below meth c D dA ad H locs ls cx hP hS hL)
theorem cw_if_eq {u : MI} {post : Option Value → Mem → Prop} {pc : Nat} {L : List (Option Value)} {st : List Value} {M : Mem} {x : Int32} {off : Int} (tgt : Nat) (hd : decode u.2.1 pc = .ok (.ifCond .eq off, 3)) (ht : (pc : Int) + off = (tgt : Int)) (kt : x = 0 → CW u post tgt L st M) (kf : ¬ x = 0 → CW u post (pc + 3) L st M) : CW u post pc L (.int x :: st) M := by
  intro p l e s m args below meth c D dA ad H locs ls cx hP hS hL
  exact lv_if_eq cx.1 cx.2.1 hd ht (fun h => kt h p l e s m args below meth c D dA ad H locs ls cx hP hS hL) (fun h => kf h p l e s m args below meth c D dA ad H locs ls cx hP hS hL)
theorem cw_icmp_eq {u : MI} {post : Option Value → Mem → Prop} {pc : Nat} {L : List (Option Value)} {st : List Value} {M : Mem} {x y : Int32} {off : Int} (tgt : Nat) (hd : decode u.2.1 pc = .ok (.if_icmp .eq off, 3)) (ht : (pc : Int) + off = (tgt : Int)) (kt : x = y → CW u post tgt L st M) (kf : ¬ x = y → CW u post (pc + 3) L st M) : CW u post pc L (.int y :: .int x :: st) M := by
  intro p l e s m args below meth c D dA ad H locs ls cx hP hS hL
  exact lv_icmp_eq cx.1 cx.2.1 hd ht (fun h => kt h p l e s m args below meth c D dA ad H locs ls cx hP hS hL) (fun h => kf h p l e s m args below meth c D dA ad H locs ls cx hP hS hL)
theorem cw_if_ne {u : MI} {post : Option Value → Mem → Prop} {pc : Nat} {L : List (Option Value)} {st : List Value} {M : Mem} {x : Int32} {off : Int} (tgt : Nat) (hd : decode u.2.1 pc = .ok (.ifCond .ne off, 3)) (ht : (pc : Int) + off = (tgt : Int)) (kt : ¬ x = 0 → CW u post tgt L st M) (kf : x = 0 → CW u post (pc + 3) L st M) : CW u post pc L (.int x :: st) M := by
  intro p l e s m args below meth c D dA ad H locs ls cx hP hS hL
  exact lv_if_ne cx.1 cx.2.1 hd ht (fun h => kt h p l e s m args below meth c D dA ad H locs ls cx hP hS hL) (fun h => kf h p l e s m args below meth c D dA ad H locs ls cx hP hS hL)
theorem cw_icmp_ne {u : MI} {post : Option Value → Mem → Prop} {pc : Nat} {L : List (Option Value)} {st : List Value} {M : Mem} {x y : Int32} {off : Int} (tgt : Nat) (hd : decode u.2.1 pc = .ok (.if_icmp .ne off, 3)) (ht : (pc : Int) + off = (tgt : Int)) (kt : ¬ x = y → CW u post tgt L st M) (kf : x = y → CW u post (pc + 3) L st M) : CW u post pc L (.int y :: .int x :: st) M := by
  intro p l e s m args below meth c D dA ad H locs ls cx hP hS hL
  exact lv_icmp_ne cx.1 cx.2.1 hd ht (fun h => kt h p l e s m args below meth c D dA ad H locs ls cx hP hS hL) (fun h => kf h p l e s m args below meth c D dA ad H locs ls cx hP hS hL)
theorem cw_if_lt {u : MI} {post : Option Value → Mem → Prop} {pc : Nat} {L : List (Option Value)} {st : List Value} {M : Mem} {x : Int32} {off : Int} (tgt : Nat) (hd : decode u.2.1 pc = .ok (.ifCond .lt off, 3)) (ht : (pc : Int) + off = (tgt : Int)) (kt : x < 0 → CW u post tgt L st M) (kf : ¬ x < 0 → CW u post (pc + 3) L st M) : CW u post pc L (.int x :: st) M := by
  intro p l e s m args below meth c D dA ad H locs ls cx hP hS hL
  exact lv_if_lt cx.1 cx.2.1 hd ht (fun h => kt h p l e s m args below meth c D dA ad H locs ls cx hP hS hL) (fun h => kf h p l e s m args below meth c D dA ad H locs ls cx hP hS hL)
theorem cw_icmp_lt {u : MI} {post : Option Value → Mem → Prop} {pc : Nat} {L : List (Option Value)} {st : List Value} {M : Mem} {x y : Int32} {off : Int} (tgt : Nat) (hd : decode u.2.1 pc = .ok (.if_icmp .lt off, 3)) (ht : (pc : Int) + off = (tgt : Int)) (kt : x < y → CW u post tgt L st M) (kf : ¬ x < y → CW u post (pc + 3) L st M) : CW u post pc L (.int y :: .int x :: st) M := by
  intro p l e s m args below meth c D dA ad H locs ls cx hP hS hL
  exact lv_icmp_lt cx.1 cx.2.1 hd ht (fun h => kt h p l e s m args below meth c D dA ad H locs ls cx hP hS hL) (fun h => kf h p l e s m args below meth c D dA ad H locs ls cx hP hS hL)
theorem cw_if_ge {u : MI} {post : Option Value → Mem → Prop} {pc : Nat} {L : List (Option Value)} {st : List Value} {M : Mem} {x : Int32} {off : Int} (tgt : Nat) (hd : decode u.2.1 pc = .ok (.ifCond .ge off, 3)) (ht : (pc : Int) + off = (tgt : Int)) (kt : 0 ≤ x → CW u post tgt L st M) (kf : ¬ 0 ≤ x → CW u post (pc + 3) L st M) : CW u post pc L (.int x :: st) M := by
  intro p l e s m args below meth c D dA ad H locs ls cx hP hS hL
  exact lv_if_ge cx.1 cx.2.1 hd ht (fun h => kt h p l e s m args below meth c D dA ad H locs ls cx hP hS hL) (fun h => kf h p l e s m args below meth c D dA ad H locs ls cx hP hS hL)
theorem cw_icmp_ge {u : MI} {post : Option Value → Mem → Prop} {pc : Nat} {L : List (Option Value)} {st : List Value} {M : Mem} {x y : Int32} {off : Int} (tgt : Nat) (hd : decode u.2.1 pc = .ok (.if_icmp .ge off, 3)) (ht : (pc : Int) + off = (tgt : Int)) (kt : y ≤ x → CW u post tgt L st M) (kf : ¬ y ≤ x → CW u post (pc + 3) L st M) : CW u post pc L (.int y :: .int x :: st) M := by
  intro p l e s m args below meth c D dA ad H locs ls cx hP hS hL
  exact lv_icmp_ge cx.1 cx.2.1 hd ht (fun h => kt h p l e s m args below meth c D dA ad H locs ls cx hP hS hL) (fun h => kf h p l e s m args below meth c D dA ad H locs ls cx hP hS hL)
theorem cw_if_gt {u : MI} {post : Option Value → Mem → Prop} {pc : Nat} {L : List (Option Value)} {st : List Value} {M : Mem} {x : Int32} {off : Int} (tgt : Nat) (hd : decode u.2.1 pc = .ok (.ifCond .gt off, 3)) (ht : (pc : Int) + off = (tgt : Int)) (kt : 0 < x → CW u post tgt L st M) (kf : ¬ 0 < x → CW u post (pc + 3) L st M) : CW u post pc L (.int x :: st) M := by
  intro p l e s m args below meth c D dA ad H locs ls cx hP hS hL
  exact lv_if_gt cx.1 cx.2.1 hd ht (fun h => kt h p l e s m args below meth c D dA ad H locs ls cx hP hS hL) (fun h => kf h p l e s m args below meth c D dA ad H locs ls cx hP hS hL)
theorem cw_icmp_gt {u : MI} {post : Option Value → Mem → Prop} {pc : Nat} {L : List (Option Value)} {st : List Value} {M : Mem} {x y : Int32} {off : Int} (tgt : Nat) (hd : decode u.2.1 pc = .ok (.if_icmp .gt off, 3)) (ht : (pc : Int) + off = (tgt : Int)) (kt : y < x → CW u post tgt L st M) (kf : ¬ y < x → CW u post (pc + 3) L st M) : CW u post pc L (.int y :: .int x :: st) M := by
  intro p l e s m args below meth c D dA ad H locs ls cx hP hS hL
  exact lv_icmp_gt cx.1 cx.2.1 hd ht (fun h => kt h p l e s m args below meth c D dA ad H locs ls cx hP hS hL) (fun h => kf h p l e s m args below meth c D dA ad H locs ls cx hP hS hL)
theorem cw_if_le {u : MI} {post : Option Value → Mem → Prop} {pc : Nat} {L : List (Option Value)} {st : List Value} {M : Mem} {x : Int32} {off : Int} (tgt : Nat) (hd : decode u.2.1 pc = .ok (.ifCond .le off, 3)) (ht : (pc : Int) + off = (tgt : Int)) (kt : x ≤ 0 → CW u post tgt L st M) (kf : ¬ x ≤ 0 → CW u post (pc + 3) L st M) : CW u post pc L (.int x :: st) M := by
  intro p l e s m args below meth c D dA ad H locs ls cx hP hS hL
  exact lv_if_le cx.1 cx.2.1 hd ht (fun h => kt h p l e s m args below meth c D dA ad H locs ls cx hP hS hL) (fun h => kf h p l e s m args below meth c D dA ad H locs ls cx hP hS hL)
theorem cw_icmp_le {u : MI} {post : Option Value → Mem → Prop} {pc : Nat} {L : List (Option Value)} {st : List Value} {M : Mem} {x y : Int32} {off : Int} (tgt : Nat) (hd : decode u.2.1 pc = .ok (.if_icmp .le off, 3)) (ht : (pc : Int) + off = (tgt : Int)) (kt : x ≤ y → CW u post tgt L st M) (kf : ¬ x ≤ y → CW u post (pc + 3) L st M) : CW u post pc L (.int y :: .int x :: st) M := by
  intro p l e s m args below meth c D dA ad H locs ls cx hP hS hL
  exact lv_icmp_le cx.1 cx.2.1 hd ht (fun h => kt h p l e s m args below meth c D dA ad H locs ls cx hP hS hL) (fun h => kf h p l e s m args below meth c D dA ad H locs ls cx hP hS hL)
theorem cw_goto {u : MI} {post : Option Value → Mem → Prop} {pc : Nat} {L : List (Option Value)} {st : List Value} {M : Mem} {off : Int} (tgt : Nat) (hd : decode u.2.1 pc = .ok (.goto off, 3)) (ht : (pc : Int) + off = (tgt : Int)) (k : CW u post tgt L st M) : CW u post pc L st M := by
  intro p l e s m args below meth c D dA ad H locs ls cx hP hS hL
  exact lv_goto cx.1 cx.2.1 hd ht (k p l e s m args below meth c D dA ad H locs ls cx hP hS hL)
theorem cw_swOut {u : MI} {post : Option Value → Mem → Prop} {pc : Nat} {L : List (Option Value)} {st : List Value} {M : Mem} {dflt lo hi : Int} {offs : Array Int} {len : Nat} {x : Int32} (tgt : Nat) (hd : decode u.2.1 pc = .ok (.tableswitch dflt lo hi offs, len)) (h : x.toInt < lo ∨ hi < x.toInt) (ht : (pc : Int) + dflt = (tgt : Int)) (k : CW u post tgt L st M) : CW u post pc L (.int x :: st) M := by
  intro p l e s m args below meth c D dA ad H locs ls cx hP hS hL
  exact lv_tableOut cx.1 cx.2.1 hd h ht (k p l e s m args below meth c D dA ad H locs ls cx hP hS hL)
theorem cw_swIn {u : MI} {post : Option Value → Mem → Prop} {pc : Nat} {L : List (Option Value)} {st : List Value} {M : Mem} {dflt lo hi : Int} {offs : Array Int} {len : Nat} {x : Int32} {off : Int} (tgt : Nat) (hd : decode u.2.1 pc = .ok (.tableswitch dflt lo hi offs, len)) (h1 : ¬ x.toInt < lo) (h2 : ¬ hi < x.toInt) (ho : offs[(x.toInt - lo).toNat]? = some off) (ht : (pc : Int) + off = (tgt : Int)) (k : CW u post tgt L st M) : CW u post pc L (.int x :: st) M := by
  intro p l e s m args below meth c D dA ad H locs ls cx hP hS hL
  exact lv_tableIn cx.1 cx.2.1 hd h1 h2 ho ht (k p l e s m args below meth c D dA ad H locs ls cx hP hS hL)
theorem cw_ldc {u : MI} {post : Option Value → Mem → Prop} {pc : Nat} {L : List (Option Value)} {st : List Value} {M : Mem} {i : Nat} {v : Int32} (hc : Cond.constant u.1.cls i v ∈ gt) (hd : decode u.2.1 pc = .ok (.ldc i, 2)) (k : CW u post (pc + 2) L (.int v :: st) M) : CW u post pc L st M := by
  intro p l e s m args below meth c D dA ad H locs ls cx hP hS hL
  exact lv_ldc cx.1 cx.2.1 cx.2.2.2.1 (cx.2.2.2.2.1 _ hc) hd (k p l e s m args below meth c D dA ad H locs ls cx hP hS hL)
theorem cw_ldc_w {u : MI} {post : Option Value → Mem → Prop} {pc : Nat} {L : List (Option Value)} {st : List Value} {M : Mem} {i : Nat} {v : Int32} (hc : Cond.constant u.1.cls i v ∈ gt) (hd : decode u.2.1 pc = .ok (.ldc_w i, 3)) (k : CW u post (pc + 3) L (.int v :: st) M) : CW u post pc L st M := by
  intro p l e s m args below meth c D dA ad H locs ls cx hP hS hL
  exact lv_ldcw cx.1 cx.2.1 cx.2.2.2.1 (cx.2.2.2.2.1 _ hc) hd (k p l e s m args below meth c D dA ad H locs ls cx hP hS hL)
theorem cw_ldc2_w {u : MI} {post : Option Value → Mem → Prop} {pc : Nat} {L : List (Option Value)} {st : List Value} {M : Mem} {i : Nat} {v : Int64} (hc : Cond.constantLong u.1.cls i v ∈ gt) (hd : decode u.2.1 pc = .ok (.ldc2_w i, 3)) (k : CW u post (pc + 3) L (.long v :: st) M) : CW u post pc L st M := by
  intro p l e s m args below meth c D dA ad H locs ls cx hP hS hL
  exact lv_ldc2 cx.1 cx.2.1 cx.2.2.2.1 (cx.2.2.2.2.1 _ hc) hd (k p l e s m args below meth c D dA ad H locs ls cx hP hS hL)
theorem cw_iret {u : MI} {pc : Nat} {L : List (Option Value)} {M : Mem} {Q : Int32 → Mem → Prop} {r : Int32} (hr : u.2.2.2.1 = some .int) (hd : decode u.2.1 pc = .ok (.ireturn, 1)) (h : Q r M) : CW u (retI Q) pc L [.int r] M := by
  intro p l e s m args below meth c D dA ad H locs ls cx hP hS hL
  exact W.iret (v := r) cx.1 cx.2.1 (cx.2.2.2.2.2.1.trans hr) (fun t ht hW => ⟨⟨some (.int r), M, rfl, ⟨r, rfl, h⟩, by rw [ht]; exact hP⟩, hS.F ht⟩) hS.2.2 hd cx.2.2.2.2.2.2.1
theorem cw_lret {u : MI} {pc : Nat} {L : List (Option Value)} {M : Mem} {Q : Int64 → Mem → Prop} {r : Int64} (hr : u.2.2.2.1 = some .long) (hd : decode u.2.1 pc = .ok (.lreturn, 1)) (h : Q r M) : CW u (retJ Q) pc L [.long r] M := by
  intro p l e s m args below meth c D dA ad H locs ls cx hP hS hL
  exact W.lret (v := r) cx.1 cx.2.1 (cx.2.2.2.2.2.1.trans hr) (fun t ht hW => ⟨⟨some (.long r), M, rfl, ⟨r, rfl, h⟩, by rw [ht]; exact hP⟩, hS.F ht⟩) hS.2.2 hd cx.2.2.2.2.2.2.1
theorem cw_zret {u : MI} {pc : Nat} {L : List (Option Value)} {M : Mem} {Q : Int32 → Mem → Prop} {r : Int32} (hr : u.2.2.2.1 = some .boolean) (hd : decode u.2.1 pc = .ok (.ireturn, 1)) (hz : r = 0 ∨ r = 1) (h : Q r M) : CW u (retI Q) pc L [.int r] M := by
  intro p l e s m args below meth c D dA ad H locs ls cx hP hS hL
  exact W.zret (v := r) (ty := .boolean) cx.1 cx.2.1 (cx.2.2.2.2.2.1.trans hr) (by rcases hz with rfl | rfl <;> rfl) (fun t ht hW => ⟨⟨some (.int r), M, rfl, ⟨r, rfl, h⟩, by rw [ht]; exact hP⟩, hS.F ht⟩) hS.2.2 hd cx.2.2.2.2.2.2.1
theorem cw_vret {u : MI} {pc : Nat} {L : List (Option Value)} {M : Mem} {Q : Mem → Prop} (hr : u.2.2.2.1 = none) (hd : decode u.2.1 pc = .ok (.return_, 1)) (h : Q M) : CW u (retV Q) pc L [] M := by
  intro p l e s m args below meth c D dA ad H locs ls cx hP hS hL
  exact W.vret cx.1 cx.2.1 (cx.2.2.2.2.2.1.trans hr) (fun t ht hW => ⟨⟨none, M, rfl, ⟨rfl, h⟩, by rw [ht]; exact hP⟩, hS.F ht⟩) hS.2.2 hd cx.2.2.2.2.2.2.1
theorem uCell_O {dA : Nat → ClassId} {ad : Nat → Nat} {M : Mem} {a ci : Nat} {fs : List Fk} (h : SO a ci fs) : uCell dA ad M a = .inr (ci, ucfs ad M a 0 fs) := by
  unfold uCell
  rw [h.1]
theorem uCell_A {dA : Nat → ClassId} {ad : Nat → Nat} {M : Mem} {a n : Nat} (h : SA a n) : uCell dA ad M a = .inl (dA 0, n, .inl (M.1 a)) := by
  unfold uCell
  rw [h.1]
theorem uCell_R {dA : Nat → ClassId} {ad : Nat → Nat} {M : Mem} {a t n : Nat} {g : Nat → Nat} (h : SR a t n g) : uCell dA ad M a = .inl (dA t, n, .inr (.inr (.inr (.inr (fun i => some (ad (g i))))))) := by
  unfold uCell
  rw [h.1]
theorem cw_getI {u : MI} {post : Option Value → Mem → Prop} {pc : Nat} {L : List (Option Value)} {st : List Value} {M : Mem} {a ci j i : Nat} {fs : List Fk} (hf : FL u.1.cls i ci j) (hs : SO a ci fs) (hk : fs[j]? = some (.inr false)) (hd : decode u.2.1 pc = .ok (.getfield i, 3)) (k : CW u post (pc + 3) L (.int (mG M a j) :: st) M) : CW u post pc L (.ref a :: st) M := by
  intro p l e s m args below meth c D dA ad H locs ls cx hP hS hL
  obtain ⟨C, T, N, h1, h2, h3⟩ := hf
  obtain ⟨q, hq, -⟩ := uCells_at (dA := dA) (ad := ad) (M := M) hs.2
  rw [uCell_O hs] at hq
  have hv : (ucfs ad M a 0 fs)[j]? = some (.int (mG M a j)) := by
    have := ucfs_get (ad := ad) (M := M) (k := a) (j := 0) hk
    rw [Nat.zero_add] at this
    exact this
  exact va_get (ref := (T j).1) cx.1 cx.2.1 cx.2.2.2.2.1 (uCls_ok h1).1 cx.2.2.2.1 cx.2.2.2.2.2.2.2.1.1 hP q hq h1 j h2 (cx.2.2.2.2.1 _ h3) (fun _ h => h) hv hd (k p l e s m args below meth c D dA ad H locs ls cx hP hS hL)
theorem cw_getJ {u : MI} {post : Option Value → Mem → Prop} {pc : Nat} {L : List (Option Value)} {st : List Value} {M : Mem} {a ci j i : Nat} {fs : List Fk} (hf : FL u.1.cls i ci j) (hs : SO a ci fs) (hk : fs[j]? = some (.inr true)) (hd : decode u.2.1 pc = .ok (.getfield i, 3)) (k : CW u post (pc + 3) L (.long (jG M a j) :: st) M) : CW u post pc L (.ref a :: st) M := by
  intro p l e s m args below meth c D dA ad H locs ls cx hP hS hL
  obtain ⟨C, T, N, h1, h2, h3⟩ := hf
  obtain ⟨q, hq, -⟩ := uCells_at (dA := dA) (ad := ad) (M := M) hs.2
  rw [uCell_O hs] at hq
  have hv : (ucfs ad M a 0 fs)[j]? = some (.long (jG M a j)) := by
    have := ucfs_get (ad := ad) (M := M) (k := a) (j := 0) hk
    rw [Nat.zero_add] at this
    exact this
  exact va_get (ref := (T j).1) cx.1 cx.2.1 cx.2.2.2.2.1 (uCls_ok h1).1 cx.2.2.2.1 cx.2.2.2.2.2.2.2.1.1 hP q hq h1 j h2 (cx.2.2.2.2.1 _ h3) (fun _ h => h) hv hd (k p l e s m args below meth c D dA ad H locs ls cx hP hS hL)
theorem cw_getR {u : MI} {post : Option Value → Mem → Prop} {pc : Nat} {L : List (Option Value)} {st : List Value} {M : Mem} {a ci j i : Nat} {fs : List Fk} {r : Nat} (hf : FL u.1.cls i ci j) (hs : SO a ci fs) (hk : fs[j]? = some (.inl r)) (hd : decode u.2.1 pc = .ok (.getfield i, 3)) (k : CW u post (pc + 3) L (.ref r :: st) M) : CW u post pc L (.ref a :: st) M := by
  intro p l e s m args below meth c D dA ad H locs ls cx hP hS hL
  obtain ⟨C, T, N, h1, h2, h3⟩ := hf
  obtain ⟨q, hq, -⟩ := uCells_at (dA := dA) (ad := ad) (M := M) hs.2
  rw [uCell_O hs] at hq
  have hv : (ucfs ad M a 0 fs)[j]? = some (.ref (ad r)) := by
    have := ucfs_get (ad := ad) (M := M) (k := a) (j := 0) hk
    rw [Nat.zero_add] at this
    exact this
  exact va_get (ref := (T j).1) cx.1 cx.2.1 cx.2.2.2.2.1 (uCls_ok h1).1 cx.2.2.2.1 cx.2.2.2.2.2.2.2.1.1 hP q hq h1 j h2 (cx.2.2.2.2.1 _ h3) (fun _ h => h) hv hd (k p l e s m args below meth c D dA ad H locs ls cx hP hS hL)
theorem ucfs_set {ad : Nat → Nat} {M M' : Mem} {k i : Nat} {v : Value} : ∀ {fs : List Fk} {j : Nat} {f : Fk}, fs[i]? = some f → ucfv ad M' k (j + i) f = v → (∀ b g, b ≠ j + i → ucfv ad M' k b g = ucfv ad M k b g) → (ucfs ad M k j fs).set i v = ucfs ad M' k j fs := by
  induction i with
  | zero =>
    intro fs j f h1 h2 h3
    cases fs with
    | nil => simp at h1
    | cons g fs =>
      simp at h1
      subst h1
      have h4 : ∀ (fs : List Fk) (b : Nat), j < b → ucfs ad M k b fs = ucfs ad M' k b fs := by
        intro fs
        induction fs with
        | nil => intro b _; rfl
        | cons g fs ih =>
          intro b hb
          simp only [ucfs]
          rw [ih (b + 1) (by omega), h3 b g (by omega)]
      simp only [ucfs, List.set_cons_zero]
      rw [h4 fs (j + 1) (by omega), ← h2]
      rfl
  | succ i ih =>
    intro fs j f h1 h2 h3
    cases fs with
    | nil => simp at h1
    | cons g fs =>
      have h1' : fs[i]? = some f := by simpa using h1
      simp only [ucfs, List.set_cons_succ]
      rw [ih (j := j + 1) h1' (by rw [← h2]; congr 1; omega) (fun b g hb => h3 b g (by omega)), h3 j g (by omega)]
theorem cw_putI {u : MI} {post : Option Value → Mem → Prop} {pc : Nat} {L : List (Option Value)} {st : List Value} {M : Mem} {a ci j i : Nat} {fs : List Fk} {x : Int32} (hf : FP u.1.cls i ci j .int) (hs : SO a ci fs) (hk : fs[j]? = some (.inr false)) (hd : decode u.2.1 pc = .ok (.putfield i, 3)) (k : CW u post (pc + 3) L st (mS M a j x)) : CW u post pc L (.int x :: .ref a :: st) M := by
  intro p l e s m args below meth c D dA ad H locs ls cx hP hS hL
  obtain ⟨C, T, N, h1, h2, h3, h4, h5⟩ := hf
  obtain ⟨q, hq, hi⟩ := uCells_at (dA := dA) (ad := ad) (M := M) hs.2
  rw [uCell_O hs] at hq
  obtain ⟨hw, ty0, hty, hnm⟩ := uCls_ok h1
  have hset : (uCells dA ad M).set q (ad a, .inr (ci, (ucfs ad M a 0 fs).set j (.int x))) = uCells dA ad (mS M a j x) := by
    rw [← uCells_set (M := M) (M' := mS M a j x) hi ?_, uCell_O hs, ucfs_set (M' := mS M a j x) hk]
    · simp [ucfv, mS]
    · intro b g hb
      have hb : b ≠ j := by omega
      rcases g with g | g
      · rfl
      · cases g <;> simp [ucfv, mS, hb]
    · intro b hb
      unfold uCell
      have e1 : (mS M a j x).1 b = M.1 b := by funext z; simp [mS, hb]
      have e2 : (mS M a j x).2 b = M.2 b := by funext z; simp [mS, hb]
      have e3 : ∀ (fs : List Fk) (z : Nat), ucfs ad (mS M a j x) b z fs = ucfs ad M b z fs := by
        intro fs
        induction fs with
        | nil => intro z; rfl
        | cons g fs ih =>
          intro z
          simp only [ucfs]
          rw [ih]
          congr 1
          rcases g with g | g
          · rfl
          · cases g <;> simp [ucfv, e1, e2]
      rw [e1]
      split
      · rfl
      · rfl
      · rw [e3]
  exact va_put (ref := (T j).1) (v := .int x) (ty := .int) cx.1 cx.2.1 cx.2.2.2.2.1 hw ty0 hty hnm cx.2.2.2.1 cx.2.2.2.2.2.2.2.1.1 hP (uD cx.2.2.2.2.2.2.2.2) hS q hq h1 j h2 (cx.2.2.2.2.1 _ h3) (fun _ h => h) h4 h5 rfl rfl (by rw [ucfs_len]; exact (List.getElem?_eq_some_iff.mp hk).1) hd (fun H1 locs1 hP1 hD1 hS1 => k p l e s m args below meth c D dA ad H1 locs1 ls cx (hset ▸ hP1) hS1 hL)
theorem cw_putJ {u : MI} {post : Option Value → Mem → Prop} {pc : Nat} {L : List (Option Value)} {st : List Value} {M : Mem} {a ci j i : Nat} {fs : List Fk} {x : Int64} (hf : FP u.1.cls i ci j .long) (hs : SO a ci fs) (hk : fs[j]? = some (.inr true)) (hd : decode u.2.1 pc = .ok (.putfield i, 3)) (k : CW u post (pc + 3) L st (jS M a j x)) : CW u post pc L (.long x :: .ref a :: st) M := by
  intro p l e s m args below meth c D dA ad H locs ls cx hP hS hL
  obtain ⟨C, T, N, h1, h2, h3, h4, h5⟩ := hf
  obtain ⟨q, hq, hi⟩ := uCells_at (dA := dA) (ad := ad) (M := M) hs.2
  rw [uCell_O hs] at hq
  obtain ⟨hw, ty0, hty, hnm⟩ := uCls_ok h1
  have hset : (uCells dA ad M).set q (ad a, .inr (ci, (ucfs ad M a 0 fs).set j (.long x))) = uCells dA ad (jS M a j x) := by
    rw [← uCells_set (M := M) (M' := jS M a j x) hi ?_, uCell_O hs, ucfs_set (M' := jS M a j x) hk]
    · simp [ucfv, jS]
    · intro b g hb
      have hb : b ≠ j := by omega
      rcases g with g | g
      · rfl
      · cases g <;> simp [ucfv, jS, hb]
    · intro b hb
      unfold uCell
      have e1 : (jS M a j x).1 b = M.1 b := by funext z; simp [jS, hb]
      have e2 : (jS M a j x).2 b = M.2 b := by funext z; simp [jS, hb]
      have e3 : ∀ (fs : List Fk) (z : Nat), ucfs ad (jS M a j x) b z fs = ucfs ad M b z fs := by
        intro fs
        induction fs with
        | nil => intro z; rfl
        | cons g fs ih =>
          intro z
          simp only [ucfs]
          rw [ih]
          congr 1
          rcases g with g | g
          · rfl
          · cases g <;> simp [ucfv, e1, e2]
      rw [e1]
      split
      · rfl
      · rfl
      · rw [e3]
  exact va_put (ref := (T j).1) (v := .long x) (ty := .long) cx.1 cx.2.1 cx.2.2.2.2.1 hw ty0 hty hnm cx.2.2.2.1 cx.2.2.2.2.2.2.2.1.1 hP (uD cx.2.2.2.2.2.2.2.2) hS q hq h1 j h2 (cx.2.2.2.2.1 _ h3) (fun _ h => h) h4 h5 rfl rfl (by rw [ucfs_len]; exact (List.getElem?_eq_some_iff.mp hk).1) hd (fun H1 locs1 hP1 hD1 hS1 => k p l e s m args below meth c D dA ad H1 locs1 ls cx (hset ▸ hP1) hS1 hL)
theorem cw_putZ {u : MI} {post : Option Value → Mem → Prop} {pc : Nat} {L : List (Option Value)} {st : List Value} {M : Mem} {a ci j i : Nat} {fs : List Fk} {x : Int32} (hf : FP u.1.cls i ci j .boolean) (hs : SO a ci fs) (hk : fs[j]? = some (.inr false)) (hz : x = 0 ∨ x = 1) (hd : decode u.2.1 pc = .ok (.putfield i, 3)) (k : CW u post (pc + 3) L st (mS M a j x)) : CW u post pc L (.int x :: .ref a :: st) M := by
  intro p l e s m args below meth c D dA ad H locs ls cx hP hS hL
  obtain ⟨C, T, N, h1, h2, h3, h4, h5⟩ := hf
  obtain ⟨q, hq, hi⟩ := uCells_at (dA := dA) (ad := ad) (M := M) hs.2
  rw [uCell_O hs] at hq
  obtain ⟨hw, ty0, hty, hnm⟩ := uCls_ok h1
  have hset : (uCells dA ad M).set q (ad a, .inr (ci, (ucfs ad M a 0 fs).set j (.int x))) = uCells dA ad (mS M a j x) := by
    rw [← uCells_set (M := M) (M' := mS M a j x) hi ?_, uCell_O hs, ucfs_set (M' := mS M a j x) hk]
    · simp [ucfv, mS]
    · intro b g hb
      have hb : b ≠ j := by omega
      rcases g with g | g
      · rfl
      · cases g <;> simp [ucfv, mS, hb]
    · intro b hb
      unfold uCell
      have e1 : (mS M a j x).1 b = M.1 b := by funext z; simp [mS, hb]
      have e2 : (mS M a j x).2 b = M.2 b := by funext z; simp [mS, hb]
      have e3 : ∀ (fs : List Fk) (z : Nat), ucfs ad (mS M a j x) b z fs = ucfs ad M b z fs := by
        intro fs
        induction fs with
        | nil => intro z; rfl
        | cons g fs ih =>
          intro z
          simp only [ucfs]
          rw [ih]
          congr 1
          rcases g with g | g
          · rfl
          · cases g <;> simp [ucfv, e1, e2]
      rw [e1]
      split
      · rfl
      · rfl
      · rw [e3]
  exact va_put (ref := (T j).1) (v := .int x) (ty := .boolean) cx.1 cx.2.1 cx.2.2.2.2.1 hw ty0 hty hnm cx.2.2.2.1 cx.2.2.2.2.2.2.2.1.1 hP (uD cx.2.2.2.2.2.2.2.2) hS q hq h1 j h2 (cx.2.2.2.2.1 _ h3) (fun _ h => h) h4 h5 (by rcases hz with rfl | rfl <;> rfl) (by rcases hz with rfl | rfl <;> rfl) (by rw [ucfs_len]; exact (List.getElem?_eq_some_iff.mp hk).1) hd (fun H1 locs1 hP1 hD1 hS1 => k p l e s m args below meth c D dA ad H1 locs1 ls cx (hset ▸ hP1) hS1 hL)
theorem cw_iald {u : MI} {post : Option Value → Mem → Prop} {pc : Nat} {L : List (Option Value)} {st : List Value} {M : Mem} {a n : Nat} {x : Int32} (hs : SA a n) (hin : vp_in x n) (hd : decode u.2.1 pc = .ok (.iaload, 1)) (k : CW u post (pc + 1) L (.int (mG M a x.toNatClampNeg) :: st) M) : CW u post pc L (.int x :: .ref a :: st) M := by
  intro p l e s m args below meth c D dA ad H locs ls cx hP hS hL
  obtain ⟨q, hq, -⟩ := uCells_at (dA := dA) (ad := ad) (M := M) hs.2
  rw [uCell_A hs] at hq
  exact va_iald cx.1 cx.2.1 cx.2.2.2.2.2.2.2.1.1 hP q 0 hq rfl hin hd (k p l e s m args below meth c D dA ad H locs ls cx hP hS hL)
theorem cw_ialdN {u : MI} {post : Option Value → Mem → Prop} {pc : Nat} {L : List (Option Value)} {st : List Value} {M : Mem} {a n i : Nat} {x : Int32} (hs : SA a n) (hx : x = nI i) (hi : i < n) (hn : n < 1000) (hd : decode u.2.1 pc = .ok (.iaload, 1)) (k : CW u post (pc + 1) L (.int (mG M a i) :: st) M) : CW u post pc L (.int x :: .ref a :: st) M := by
  subst hx
  refine cw_iald hs (vp_in_nI hi (by omega)) hd ?_
  rw [nI_clamp (by omega)]
  exact k
theorem cw_alen {u : MI} {post : Option Value → Mem → Prop} {pc : Nat} {L : List (Option Value)} {st : List Value} {M : Mem} {a n : Nat} (hs : SA a n) (hd : decode u.2.1 pc = .ok (.arraylength, 1)) (k : CW u post (pc + 1) L (.int (nI n) :: st) M) : CW u post pc L (.ref a :: st) M := by
  intro p l e s m args below meth c D dA ad H locs ls cx hP hS hL
  obtain ⟨q, hq, -⟩ := uCells_at (dA := dA) (ad := ad) (M := M) hs.2
  rw [uCell_A hs] at hq
  exact va_alen cx.1 cx.2.1 cx.2.2.2.2.2.2.2.1.1 hP q 0 hq rfl rfl hd (k p l e s m args below meth c D dA ad H locs ls cx hP hS hL)
theorem cw_aaldN {u : MI} {post : Option Value → Mem → Prop} {pc : Nat} {L : List (Option Value)} {st : List Value} {M : Mem} {a t n i : Nat} {g : Nat → Nat} {x : Int32} (hs : SR a t n g) (hx : x = nI i) (hi : i < n) (hn : n < 1000) (hd : decode u.2.1 pc = .ok (.aaload, 1)) (k : CW u post (pc + 1) L (.ref (g i) :: st) M) : CW u post pc L (.int x :: .ref a :: st) M := by
  intro p l e s m args below meth c D dA ad H locs ls cx hP hS hL
  subst hx
  obtain ⟨q, hq, -⟩ := uCells_at (dA := dA) (ad := ad) (M := M) hs.2.1
  rw [uCell_R hs] at hq
  have ht : ∃ C, (uTys dA)[t]? = some (dA t, .object C) := by
    obtain ⟨h1, h2⟩ := hs.2.2
    rcases (show t = 1 ∨ t = 2 ∨ t = 3 ∨ t = 4 ∨ t = 5 by omega) with rfl | rfl | rfl | rfl | rfl <;> exact ⟨_, rfl⟩
  obtain ⟨C, ht⟩ := ht
  refine va_aldq cx.1 cx.2.1 cx.2.2.2.2.2.2.2.1.1 hP q t hq ht (vp_in_nI hi (by omega)) hd ?_
  rw [nI_clamp (by omega)]
  exact (k p l e s m args below meth c D dA ad H locs ls cx hP hS hL)
theorem uCells_arr {dA : Nat → ClassId} {ad : Nat → Nat} {M M' : Mem} {a n q : Nat} (hs : SA a n) (hi : uIds[q]? = some a) {f : Nat → Int32} (h1 : M'.1 a = f) (h2 : ∀ b, b ≠ a → M'.1 b = M.1 b) (h3 : M'.2 = M.2) : (uCells dA ad M).set q (ad a, .inl (dA 0, n, .inl f)) = uCells dA ad M' := by
  have e : uCell dA ad M' a = .inl (dA 0, n, .inl f) := by rw [uCell_A hs, h1]
  rw [← e]
  refine uCells_set hi ?_
  intro b hb
  unfold uCell
  have e3 : ∀ (fs : List Fk) (z : Nat), ucfs ad M' b z fs = ucfs ad M b z fs := by
    intro fs
    induction fs with
    | nil => intro z; rfl
    | cons g fs ih =>
      intro z
      simp only [ucfs]
      rw [ih]
      congr 1
      rcases g with g | g
      · rfl
      · cases g <;> simp [ucfv, h2 b hb, h3]
  rw [h2 b hb]
  split
  · rfl
  · rfl
  · rw [e3]
theorem cw_iast {u : MI} {post : Option Value → Mem → Prop} {pc : Nat} {L : List (Option Value)} {st : List Value} {M : Mem} {a n : Nat} {x y : Int32} (hs : SA a n) (hin : vp_in x n) (hd : decode u.2.1 pc = .ok (.iastore, 1)) (k : CW u post (pc + 1) L st (mS M a x.toNatClampNeg y)) : CW u post pc L (.int y :: .int x :: .ref a :: st) M := by
  intro p l e s m args below meth c D dA ad H locs ls cx hP hS hL
  obtain ⟨q, hq, hi⟩ := uCells_at (dA := dA) (ad := ad) (M := M) hs.2
  rw [uCell_A hs] at hq
  have hset : (uCells dA ad M).set q (ad a, .inl (dA 0, n, .inl (upd (M.1 a) x.toNatClampNeg y))) = uCells dA ad (mS M a x.toNatClampNeg y) := by
    refine uCells_arr hs hi ?_ ?_ rfl
    · funext z
      simp [mS, upd]
    · intro b hb
      funext z
      simp [mS, hb]
  exact va_iast cx.1 cx.2.1 cx.2.2.2.2.2.2.2.1.1 hP (uD cx.2.2.2.2.2.2.2.2) hS q 0 hq rfl hin hd (fun H1 locs1 hP1 hD1 hS1 => k p l e s m args below meth c D dA ad H1 locs1 ls cx (hset ▸ hP1) hS1 hL)
theorem cw_iastN {u : MI} {post : Option Value → Mem → Prop} {pc : Nat} {L : List (Option Value)} {st : List Value} {M : Mem} {a n i : Nat} {x y : Int32} (hs : SA a n) (hx : x = nI i) (hi : i < n) (hn : n < 1000) (hd : decode u.2.1 pc = .ok (.iastore, 1)) (k : CW u post (pc + 1) L st (mS M a i y)) : CW u post pc L (.int y :: .int x :: .ref a :: st) M := by
  subst hx
  refine cw_iast hs (vp_in_nI hi (by omega)) hd ?_
  rw [nI_clamp (by omega)]
  exact k
def mCpy (M : Mem) (a b sp dp n : Nat) : Mem := (fun k j => if k = b then va_cpy (M.1 a) (M.1 b) sp dp n j else M.1 k j, M.2)
theorem cw_copy {u : MI} {post : Option Value → Mem → Prop} {pc : Nat} {L : List (Option Value)} {st : List Value} {M : Mem} {a b n0 n1 sp dp n i : Nat} {x y z : Int32} (hl : Cond.methodLink u.1.cls i arraycopyName ∈ gt) (h0 : SA a n0) (h1 : SA b n1) (hx : x = nI sp) (hy : y = nI dp) (hz : z = nI n) (hb1 : sp + n ≤ n0) (hb2 : dp + n ≤ n1) (hm : n0 < 1000 ∧ n1 < 1000) (hf : Nat.ble 1 u.2.2.2.2.1 = true) (hlo : Nat.ble ((st.map fun v => v.category).sum + 18) u.2.2.2.2.2 = true) (hd : decode u.2.1 pc = .ok (.invokestatic i, 3)) (k : CW u post (pc + 3) L st (mCpy M a b sp dp n)) : CW u post pc L (.int z :: .int y :: .ref b :: .int x :: .ref a :: st) M := by
  intro p l e s m args below meth c D dA ad H locs ls cx hP hS hL
  subst hx; subst hy; subst hz
  obtain ⟨q0, hq0, -⟩ := uCells_at (dA := dA) (ad := ad) (M := M) h0.2
  rw [uCell_A h0] at hq0
  obtain ⟨q1, hq1, hi1⟩ := uCells_at (dA := dA) (ad := ad) (M := M) h1.2
  rw [uCell_A h1] at hq1
  have hset : (uCells dA ad M).set q1 (ad b, .inl (dA 0, n1, .inl (va_cpy (M.1 a) (M.1 b) sp dp n))) = uCells dA ad (mCpy M a b sp dp n) := by
    refine uCells_arr h1 hi1 ?_ ?_ rfl
    · funext w
      simp [mCpy]
    · intro c hc
      funext w
      simp [mCpy, hc]
  have hsum : ((st.map (cv ad)).map fun v => v.category).sum = (st.map fun v => v.category).sum := by
    rw [List.map_map]
    congr 2
    funext v
    exact cv_cat ad v
  have hlo2 := Nat.le_of_ble_eq_true hlo
  refine va_copyi (sp := nI sp) (dp := nI dp) (n := nI n) cx.1 cx.2.1 (by rw [cx.2.2.1, hL.1]) cx.2.2.2.1 (cx.2.2.2.2.1 _ hl) (cx.2.2.2.2.1 _ uNat) (cx.2.2.2.2.1 _ uNatS) (cx.2.2.2.2.1 _ uNatI) cx.2.2.2.2.2.2.2.1.1 hP (uD cx.2.2.2.2.2.2.2.2) hS q0 q1 0 0 hq0 hq1 rfl rfl rfl (nI_pos (by omega)) (nI_pos (by omega)) (nI_pos (by omega)) (by rw [nI_clamp (by omega), nI_clamp (by omega)]; exact hb1) (by rw [nI_clamp (by omega), nI_clamp (by omega)]; exact hb2) (fun _ _ => rfl) (Nat.le_of_ble_eq_true hf) (by rw [hsum]; exact hlo2) hd (fun H1 locs1 hP1 hD1 hS1 => ?_)
  rw [nI_clamp (by omega), nI_clamp (by omega), nI_clamp (by omega), hset] at hP1
  exact k p l e s m args below meth c D dA ad H1 locs1 ls cx hP1 hS1 hL
theorem uBlind {D : va_G} {dA : Nat → ClassId} {ad : Nat → Nat} {As : List Value} {M : Mem} : FrameBlind (uPc D dA ad As M) := by
  intro a U g mk q
  obtain ⟨q0, qP, qK, qI⟩ := q
  exact ⟨q0, qP, ⟨va_K.moved (u := U) (U := U.calling g mk a) (Vm.Alike.refl U.vm) qK.1, va_Nw.same rfl (u := U) (U := U.calling g mk a) rfl qK.2⟩, qI⟩
theorem cs_intro {u : MI} {As : List Value} {M : Mem} {post : Option Value → Mem → Prop} {L : List (Option Value)} (hy : plainName u.1.cls = true) (hE : ∀ ad, ∀ q ∈ al ad 0 L, q ∈ lv_args 0 (As.map (cv ad))) (hn : ∀ ad, (lg_sl (As.map (cv ad))).length ≤ u.2.2.1) (h : CW u post 0 L [] M) : CS u As M post := by
  intro l D dA ad
  refine Met.ofW (cc := u.2.1) (maxL := u.2.2.1) (ret := u.2.2.2.1) hy rfl ?_
  intro p e s m args below meth c s₁ B hml hv
  obtain ⟨rfl, hP, hK, hI⟩ := hv
  have hts := atoms_spec (ws := uLn u) B.pre
  have hl := lv_entry (As.map (cv ad)) (n := u.2.2.1) (hn ad)
  rw [lg_entry_eq]
  exact h p l e s m _ below meth c D dA ad s.heap [] _ ⟨B.exec, B.bytes, hml, findClass_of_methodNamed B.named, fun w hw => hts w (List.mem_cons_of_mem _ hw), B.returns, B.notSynchronized, hK, hI⟩ hP va_S.rf (hl.mono (hE ad))
theorem uGood {u u' : MI} (hc : Cond.code u'.1 u'.2.1 u'.2.2.1 u'.2.2.2.1 ∈ gt) : GoodIn gt (uLn u') := by
  intro w hw
  rcases List.mem_cons.mp hw with e | e
  · rw [e]
    exact ⟨hc, good_of_word (gt_good hc)⟩
  · exact ⟨e, good_of_word (gt_good e)⟩
/-- the entry idx of own's pool names the static method u' -/
def SL (own : String) (idx : Nat) (u' : MI) (n : Nat) : Prop := (Cond.methodLink own idx u'.1 ∈ gt ∧ Cond.static u'.1 ∈ gt ∧ Cond.initialized u'.1.cls ∈ gt ∧ Cond.code u'.1 u'.2.1 u'.2.2.1 u'.2.2.2.1 ∈ gt) ∧ (u'.1.cls ≠ "java/lang/invoke/MethodHandle" ∧ u'.1.cls ≠ "java/lang/invoke/VarHandle" ∧ (parseMethodDescriptor u'.1.desc).map (fun d => d.parameters.length) = some n)
def VL (own : String) (idx ci : Nat) (u' : MI) (n : Nat) : Prop := (Cond.methodLink own idx u'.1 ∈ gt ∧ Cond.instanceMethod u'.1 ∈ gt ∧ Cond.selects u'.1.cls u'.1 u'.1 ∈ gt ∧ Cond.initialized u'.1.cls ∈ gt ∧ Cond.code u'.1 u'.2.1 u'.2.2.1 u'.2.2.2.1 ∈ gt) ∧ (u'.1.cls ≠ "java/lang/invoke/MethodHandle" ∧ u'.1.cls ≠ "java/lang/invoke/VarHandle" ∧ (parseMethodDescriptor u'.1.desc).map (fun d => d.parameters.length) = some n) ∧ ∃ (T : u_T) (N : Nat), uCls[ci]? = some (u'.1.cls, T, N)
def uFit (u u' : MI) : Bool := Nat.ble (u'.2.2.2.2.1 + 1) u.2.2.2.2.1 && Nat.ble (8 + (u'.2.2.1 + 11) + u'.2.2.2.2.2) u.2.2.2.2.2
theorem uFit_1 {u u' : MI} (h : uFit u u' = true) : (uRm u').frames + 1 ≤ (uRm u).frames ∧ 8 + (u'.2.2.1 + 11) + (uRm u').locals ≤ (uRm u).locals := by
  unfold uFit at h
  rw [Bool.and_eq_true] at h
  exact ⟨Nat.le_of_ble_eq_true h.1, Nat.le_of_ble_eq_true h.2⟩
section CWCALL
variable {p : Program} {l : Launch} {e : Env} {R : Room} {s : State} {m : MethodId} {args : Array Value} {below : List Frame} {meth : Method} {c : Code} {H : Heap} {locs : List Loc} {Q : State → Prop}
theorem cw_run {D : va_G} {dA : Nat → ClassId} {ad : Nat → Nat} {post' : Option Value → Mem → Prop} {pc : Nat} {ls : Array Slot} {st0 rest : List Value} {a : Array Value} (hr : va_Run p l e R s m args below meth c H locs 0 0 0 0 (F0 m pc ls st0) rest (uQc D dA ad post' a) (uA ad)) (hS : va_S (uA ad) s.heap H locs)
    (kk : ∀ (v : Option Value) (M' : Mem) (H1 : Heap) (locs1 : List Loc), post' v M' → va_P D uCls (uCells dA ad M') H1 → va_S (uA ad) s.heap H1 locs1 → W p l e R s m args below meth c H1 locs1 0 0 Q (F0 m (pc + 3) ls ((v.map (cv ad)).toList ++ rest))) : W p l e R s m args below meth c H locs 0 0 Q (F0 m pc ls st0) := by
  intro T hT X
  obtain ⟨v, st₀, t, T', L, h0, X', hL, e1, e2, ⟨⟨v', M', hv, hp, hb⟩, hz, hk⟩, st⟩ := hr T hT X
  cases hv
  rw [h0] at hz hk
  obtain ⟨t2, a1, b1⟩ := kk v' M' T'.heap (locs ++ L) hp (by rw [e1]; exact hb)
    ⟨Nat.le_trans hS.1 (by rw [e1]; exact hz), fun q h1 h2 => by rw [e1, hk q (Nat.lt_of_lt_of_le h1 hS.1) h2]; exact hS.2.1 q h1 h2, fun q hq => by
      rcases List.mem_append.mp hq with h | h
      · exact hS.2.2 q h
      · exact hL q h⟩ T' rfl X'
  exact ⟨t2, st t2 a1, b1⟩
end CWCALL
theorem uSum {ad : Nat → Nat} {st : List Value} (h : Nat.ble ((st.map fun v => v.category).sum) 8 = true) : 2 * 0 + ((st.map (cv ad)).map fun v => v.category).sum ≤ 8 := by
  have hsum : ((st.map (cv ad)).map fun v => v.category).sum = (st.map fun v => v.category).sum := by
    rw [List.map_map]
    congr 2
    funext v
    exact cv_cat ad v
  rw [hsum]
  have := Nat.le_of_ble_eq_true h
  omega
theorem uStk {ad : Nat → Nat} {As st st0 : List Value} (h : st0 = As.reverse ++ st) : st0.map (cv ad) = (As.map (cv ad)).reverse ++ st.map (cv ad) := by
  rw [h, List.map_append, List.map_reverse]
theorem cw_static {u : MI} {post : Option Value → Mem → Prop} {pc : Nat} {L : List (Option Value)} {st : List Value} {M : Mem} {u' : MI} {i : Nat} {As st0 : List Value} {post' : Option Value → Mem → Prop} (hw : SL u.1.cls i u' As.length) (hcs : CS u' As M post') (hst : st0 = As.reverse ++ st) (hf : uFit u u' = true) (hsum : Nat.ble ((st.map fun v => v.category).sum) 8 = true) (hd : decode u.2.1 pc = .ok (.invokestatic i, 3)) (k : ∀ (v : Option Value) (M' : Mem), post' v M' → CW u post (pc + 3) L (v.toList ++ st) M') : CW u post pc L st0 M := by
  intro p l e s m args below meth c D dA ad H locs ls cx hP hS hL
  obtain ⟨⟨w1, w2, w3, w4⟩, w5⟩ := hw
  have hts := cx.2.2.2.2.1
  refine cw_run (va_runS (As := As.map (cv ad)) (rest := st.map (cv ad)) (Ts := gt) (own := u.1.cls) ⟨cx.1, cx.2.1, cx.2.2.1, cx.2.2.2.1, hts⟩ (hcs l D dA ad) ⟨callB_of As.length hts (uGood (u := u) w4) rfl rfl rfl (hts _ w3) (hts _ w1) w5 (uFit_1 hf), hts _ w2⟩ ⟨uBlind, fun U hU hW => ⟨rfl, by rw [hU]; exact hP, cx.2.2.2.2.2.2.2.1.moved hW, cx.2.2.2.2.2.2.2.2⟩⟩ rfl (by simp) hL.1 (uStk hst) (uSum hsum) hd ⟨Nat.zero_le _, Nat.zero_le _⟩) hS (fun v M' H1 locs1 hp hP1 hS1 => ?_)
  have h := k v M' hp p l e s m args below meth c D dA ad H1 locs1 ls cx hP1 hS1 hL
  rw [List.map_append] at h
  cases v <;> exact h
theorem cw_virt {u : MI} {post : Option Value → Mem → Prop} {pc : Nat} {L : List (Option Value)} {st : List Value} {M : Mem} {u' : MI} {i a ci : Nat} {fs : List Fk} {As st0 : List Value} {post' : Option Value → Mem → Prop} (hw : VL u.1.cls i ci u' As.length) (hcs : CS u' (.ref a :: As) M post') (hs : SO a ci fs) (hst : st0 = As.reverse ++ .ref a :: st) (hf : uFit u u' = true) (hsum : Nat.ble ((st.map fun v => v.category).sum) 8 = true) (hd : decode u.2.1 pc = .ok (.invokevirtual i, 3)) (k : ∀ (v : Option Value) (M' : Mem), post' v M' → CW u post (pc + 3) L (v.toList ++ st) M') : CW u post pc L st0 M := by
  intro p l e s m args below meth c D dA ad H locs ls cx hP hS hL
  obtain ⟨⟨w1, w2, w3, w4, w6⟩, w5, T, N, hc⟩ := hw
  have hts := cx.2.2.2.2.1
  obtain ⟨q, hq, -⟩ := uCells_at (dA := dA) (ad := ad) (M := M) hs.2
  rw [uCell_O hs] at hq
  refine cw_run (va_runV (As := As.map (cv ad)) (rest := st.map (cv ad)) (Ts := gt) (own := u.1.cls) (C := u'.1.cls) (b := ad a) ⟨cx.1, cx.2.1, cx.2.2.1, cx.2.2.2.1, hts⟩ (hcs l D dA ad) ⟨callB_of As.length hts (uGood (u := u) w6) rfl rfl rfl (hts _ w4) (hts _ w1) w5 (uFit_1 hf), hts _ w2, hts _ w3⟩ ⟨uBlind, va_recv cx.2.2.2.2.2.2.2.1.1 hP hc hq, fun U hU hW => ⟨rfl, by rw [hU]; exact hP, cx.2.2.2.2.2.2.2.1.moved hW, cx.2.2.2.2.2.2.2.2⟩⟩ rfl (by simp) hL.1 (by show st0.map (cv ad) = _; rw [hst, List.map_append, List.map_reverse]; rfl) (uSum hsum) hd ⟨Nat.zero_le _, Nat.zero_le _⟩) hS (fun v M' H1 locs1 hp hP1 hS1 => ?_)
  have h := k v M' hp p l e s m args below meth c D dA ad H1 locs1 ls cx hP1 hS1 hL
  rw [List.map_append] at h
  cases v <;> exact h
/-- the one call of a nest mate's private static method: Hand.mark, isPart -/
theorem cw_nest {u : MI} {post : Option Value → Mem → Prop} {pc : Nat} {L : List (Option Value)} {st : List Value} {M : Mem} {u' : MI} {As st0 : List Value} {post' : Option Value → Mem → Prop} (hw : u.1.cls = "UnlikeDrawn$Hand" ∧ u'.1 = ⟨"UnlikeDrawn", "isPart", "(I)Z"⟩ ∧ Cond.static u'.1 ∈ gt ∧ Cond.initialized u'.1.cls ∈ gt ∧ Cond.code u'.1 u'.2.1 u'.2.2.1 u'.2.2.2.1 ∈ gt) (hn : As.length = 1) (hcs : CS u' As M post') (hst : st0 = As.reverse ++ st) (hf : uFit u u' = true) (hsum : Nat.ble ((st.map fun v => v.category).sum) 8 = true) (hd : decode u.2.1 pc = .ok (.invokestatic 52, 3)) (k : ∀ (v : Option Value) (M' : Mem), post' v M' → CW u post (pc + 3) L (v.toList ++ st) M') : CW u post pc L st0 M := by
  intro p l e s m args below meth c D dA ad H locs ls cx hP hS hL
  obtain ⟨w0, w1, w2, w3, w4⟩ := hw
  have hts := cx.2.2.2.2.1
  have hnest : va_Nw (.methodLinkNest u.1.cls 52 u'.1 "UnlikeDrawn") s := by rw [w0, w1]; exact cx.2.2.2.2.2.2.2.1.2
  refine cw_run (va_runSN (As := As.map (cv ad)) (rest := st.map (cv ad)) (Ts := gt) (own := u.1.cls) (host := "UnlikeDrawn") ⟨cx.1, cx.2.1, cx.2.2.1, cx.2.2.2.1, hts⟩ (hcs l D dA ad) ⟨va_cnB 1 hts (uGood (u := u) w4) rfl rfl rfl hnest (hts _ w3) (by rw [w1]; decide +kernel) (uFit_1 hf), hts _ w2, trivial⟩ ⟨uBlind, fun U hU hW => ⟨rfl, by rw [hU]; exact hP, cx.2.2.2.2.2.2.2.1.moved hW, cx.2.2.2.2.2.2.2.2⟩⟩ rfl (by simp [hn]) hL.1 (uStk hst) (uSum hsum) hd ⟨Nat.zero_le _, Nat.zero_le _⟩) hS (fun v M' H1 locs1 hp hP1 hS1 => ?_)
  have h := k v M' hp p l e s m args below meth c D dA ad H1 locs1 ls cx hP1 hS1 hL
  rw [List.map_append] at h
  cases v <;> exact h
end
section
theorem i_vc : Claimed_1_1 ∧ Claimed_1_2 := sorry
end
