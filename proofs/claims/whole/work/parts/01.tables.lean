/-- a private method of a class that the tables say can be made, by its rows of tables_1 -/
def lw_okq (q : MethodName × Nat) : Prop := (q.1.cls ≠ "java/lang/invoke/MethodHandle" ∧ q.1.cls ≠ "java/lang/invoke/VarHandle") ∧ Cond.instantiable q.1.cls q.2 ∈ tables_1 ∧ Cond.privateMethod q.1 ∈ tables_1 ∧ Cond.instanceMethod q.1 ∈ tables_1
theorem lw_p0 : lw_okq (⟨"UnlikeDrawn", "isHead", "(I)Z"⟩, 17) := ⟨⟨by decide +kernel, by decide +kernel⟩, List.mem_of_getElem? (i := 14) (by decide +kernel), List.mem_of_getElem? (i := 204) (by decide +kernel), List.mem_of_getElem? (i := 205) (by decide +kernel)⟩
theorem lw_p1 : lw_okq (⟨"UnlikeDrawn", "found", "(I)I"⟩, 17) := ⟨⟨by decide +kernel, by decide +kernel⟩, List.mem_of_getElem? (i := 14) (by decide +kernel), List.mem_of_getElem? (i := 225) (by decide +kernel), List.mem_of_getElem? (i := 226) (by decide +kernel)⟩
theorem lw_p2 : lw_okq (⟨"UnlikeDrawn", "isSet", "(I)Z"⟩, 17) := ⟨⟨by decide +kernel, by decide +kernel⟩, List.mem_of_getElem? (i := 14) (by decide +kernel), List.mem_of_getElem? (i := 236) (by decide +kernel), List.mem_of_getElem? (i := 237) (by decide +kernel)⟩
theorem lw_p3 : lw_okq (⟨"UnlikeDrawn", "meanOf", "(II)I"⟩, 17) := ⟨⟨by decide +kernel, by decide +kernel⟩, List.mem_of_getElem? (i := 14) (by decide +kernel), List.mem_of_getElem? (i := 240) (by decide +kernel), List.mem_of_getElem? (i := 241) (by decide +kernel)⟩
theorem lw_p4 : lw_okq (⟨"UnlikeDrawn$Hand", "understand", "()V"⟩, 4) := ⟨⟨by decide +kernel, by decide +kernel⟩, List.mem_of_getElem? (i := 89) (by decide +kernel), List.mem_of_getElem? (i := 255) (by decide +kernel), List.mem_of_getElem? (i := 256) (by decide +kernel)⟩
theorem lw_p5 : lw_okq (⟨"UnlikeDrawn$Hand", "behindPiece", "(I)I"⟩, 4) := ⟨⟨by decide +kernel, by decide +kernel⟩, List.mem_of_getElem? (i := 89) (by decide +kernel), List.mem_of_getElem? (i := 259) (by decide +kernel), List.mem_of_getElem? (i := 260) (by decide +kernel)⟩
theorem lw_p6 : lw_okq (⟨"UnlikeDrawn$Hand", "byteAt", "(I)I"⟩, 4) := ⟨⟨by decide +kernel, by decide +kernel⟩, List.mem_of_getElem? (i := 89) (by decide +kernel), List.mem_of_getElem? (i := 263) (by decide +kernel), List.mem_of_getElem? (i := 264) (by decide +kernel)⟩
theorem lw_p7 : lw_okq (⟨"UnlikeDrawn$Hand", "stopAt", "(I)I"⟩, 4) := ⟨⟨by decide +kernel, by decide +kernel⟩, List.mem_of_getElem? (i := 89) (by decide +kernel), List.mem_of_getElem? (i := 267) (by decide +kernel), List.mem_of_getElem? (i := 268) (by decide +kernel)⟩
theorem lw_p8 : lw_okq (⟨"UnlikeDrawn$Hand", "mark", "(II)V"⟩, 4) := ⟨⟨by decide +kernel, by decide +kernel⟩, List.mem_of_getElem? (i := 89) (by decide +kernel), List.mem_of_getElem? (i := 271) (by decide +kernel), List.mem_of_getElem? (i := 272) (by decide +kernel)⟩
theorem lw_p9 : lw_okq (⟨"UnlikeDrawn", "isNextYear", "(I)Z"⟩, 17) := ⟨⟨by decide +kernel, by decide +kernel⟩, List.mem_of_getElem? (i := 14) (by decide +kernel), List.mem_of_getElem? (i := 313) (by decide +kernel), List.mem_of_getElem? (i := 314) (by decide +kernel)⟩
theorem lw_p10 : lw_okq (⟨"UnlikeDrawn", "fillMean", "(I[I)V"⟩, 17) := ⟨⟨by decide +kernel, by decide +kernel⟩, List.mem_of_getElem? (i := 14) (by decide +kernel), List.mem_of_getElem? (i := 317) (by decide +kernel), List.mem_of_getElem? (i := 318) (by decide +kernel)⟩
theorem lw_p11 : lw_okq (⟨"UnlikeDrawn", "isDrawing", "(I)Z"⟩, 17) := ⟨⟨by decide +kernel, by decide +kernel⟩, List.mem_of_getElem? (i := 14) (by decide +kernel), List.mem_of_getElem? (i := 335) (by decide +kernel), List.mem_of_getElem? (i := 336) (by decide +kernel)⟩
theorem lw_p12 : lw_okq (⟨"UnlikeDrawn", "fromOf", "(I)I"⟩, 17) := ⟨⟨by decide +kernel, by decide +kernel⟩, List.mem_of_getElem? (i := 14) (by decide +kernel), List.mem_of_getElem? (i := 358) (by decide +kernel), List.mem_of_getElem? (i := 359) (by decide +kernel)⟩
theorem lw_p13 : lw_okq (⟨"UnlikeDrawn", "agesOf", "(I)I"⟩, 17) := ⟨⟨by decide +kernel, by decide +kernel⟩, List.mem_of_getElem? (i := 14) (by decide +kernel), List.mem_of_getElem? (i := 366) (by decide +kernel), List.mem_of_getElem? (i := 367) (by decide +kernel)⟩
theorem lw_p14 : lw_okq (⟨"UnlikeDrawn", "whoseIs", "(LUnlikeDrawn$Sketch;)I"⟩, 17) := ⟨⟨by decide +kernel, by decide +kernel⟩, List.mem_of_getElem? (i := 14) (by decide +kernel), List.mem_of_getElem? (i := 370) (by decide +kernel), List.mem_of_getElem? (i := 371) (by decide +kernel)⟩
theorem lw_p15 : lw_okq (⟨"UnlikeDrawn", "isKnower", "(I)Z"⟩, 17) := ⟨⟨by decide +kernel, by decide +kernel⟩, List.mem_of_getElem? (i := 14) (by decide +kernel), List.mem_of_getElem? (i := 386) (by decide +kernel), List.mem_of_getElem? (i := 387) (by decide +kernel)⟩
def lw_privs_1 : List (MethodName × Nat) := [(⟨"UnlikeDrawn", "isHead", "(I)Z"⟩, 17), (⟨"UnlikeDrawn", "found", "(I)I"⟩, 17), (⟨"UnlikeDrawn", "isSet", "(I)Z"⟩, 17), (⟨"UnlikeDrawn", "meanOf", "(II)I"⟩, 17), (⟨"UnlikeDrawn$Hand", "understand", "()V"⟩, 4), (⟨"UnlikeDrawn$Hand", "behindPiece", "(I)I"⟩, 4), (⟨"UnlikeDrawn$Hand", "byteAt", "(I)I"⟩, 4), (⟨"UnlikeDrawn$Hand", "stopAt", "(I)I"⟩, 4), (⟨"UnlikeDrawn$Hand", "mark", "(II)V"⟩, 4), (⟨"UnlikeDrawn", "isNextYear", "(I)Z"⟩, 17), (⟨"UnlikeDrawn", "fillMean", "(I[I)V"⟩, 17), (⟨"UnlikeDrawn", "isDrawing", "(I)Z"⟩, 17), (⟨"UnlikeDrawn", "fromOf", "(I)I"⟩, 17), (⟨"UnlikeDrawn", "agesOf", "(I)I"⟩, 17), (⟨"UnlikeDrawn", "whoseIs", "(LUnlikeDrawn$Sketch;)I"⟩, 17), (⟨"UnlikeDrawn", "isKnower", "(I)Z"⟩, 17)]
theorem lw_r1 : ∀ q ∈ lw_privs_1, lw_okq q := List.forall_mem_cons.mpr ⟨lw_p0, List.forall_mem_cons.mpr ⟨lw_p1, List.forall_mem_cons.mpr ⟨lw_p2, List.forall_mem_cons.mpr ⟨lw_p3, List.forall_mem_cons.mpr ⟨lw_p4, List.forall_mem_cons.mpr ⟨lw_p5, List.forall_mem_cons.mpr ⟨lw_p6, List.forall_mem_cons.mpr ⟨lw_p7, List.forall_mem_cons.mpr ⟨lw_p8, List.forall_mem_cons.mpr ⟨lw_p9, List.forall_mem_cons.mpr ⟨lw_p10, List.forall_mem_cons.mpr ⟨lw_p11, List.forall_mem_cons.mpr ⟨lw_p12, List.forall_mem_cons.mpr ⟨lw_p13, List.forall_mem_cons.mpr ⟨lw_p14, List.forall_mem_cons.mpr ⟨lw_p15, fun _ h => absurd h List.not_mem_nil⟩⟩⟩⟩⟩⟩⟩⟩⟩⟩⟩⟩⟩⟩⟩⟩
theorem lw_p16 : lw_okq (⟨"UnlikeDrawn", "nameFor", "(LUnlikeDrawn$Knower;LUnlikeDrawn$Sketch;)I"⟩, 17) := ⟨⟨by decide +kernel, by decide +kernel⟩, List.mem_of_getElem? (i := 14) (by decide +kernel), List.mem_of_getElem? (i := 428) (by decide +kernel), List.mem_of_getElem? (i := 429) (by decide +kernel)⟩
theorem lw_p17 : lw_okq (⟨"UnlikeDrawn", "marginOf", "(LUnlikeDrawn$Knower;LUnlikeDrawn$Sketch;I)I"⟩, 17) := ⟨⟨by decide +kernel, by decide +kernel⟩, List.mem_of_getElem? (i := 14) (by decide +kernel), List.mem_of_getElem? (i := 441) (by decide +kernel), List.mem_of_getElem? (i := 442) (by decide +kernel)⟩
theorem lw_p18 : lw_okq (⟨"UnlikeDrawn", "leastMonster", "(I)I"⟩, 17) := ⟨⟨by decide +kernel, by decide +kernel⟩, List.mem_of_getElem? (i := 14) (by decide +kernel), List.mem_of_getElem? (i := 453) (by decide +kernel), List.mem_of_getElem? (i := 454) (by decide +kernel)⟩
theorem lw_p19 : lw_okq (⟨"UnlikeDrawn", "tryParts", "(III)V"⟩, 17) := ⟨⟨by decide +kernel, by decide +kernel⟩, List.mem_of_getElem? (i := 14) (by decide +kernel), List.mem_of_getElem? (i := 457) (by decide +kernel), List.mem_of_getElem? (i := 458) (by decide +kernel)⟩
theorem lw_p20 : lw_okq (⟨"UnlikeDrawn", "leastNamed", "(LUnlikeDrawn$Knower;I)I"⟩, 17) := ⟨⟨by decide +kernel, by decide +kernel⟩, List.mem_of_getElem? (i := 14) (by decide +kernel), List.mem_of_getElem? (i := 461) (by decide +kernel), List.mem_of_getElem? (i := 462) (by decide +kernel)⟩
theorem lw_p21 : lw_okq (⟨"UnlikeDrawn", "isNamedBy", "(LUnlikeDrawn$Knower;III)Z"⟩, 17) := ⟨⟨by decide +kernel, by decide +kernel⟩, List.mem_of_getElem? (i := 14) (by decide +kernel), List.mem_of_getElem? (i := 465) (by decide +kernel), List.mem_of_getElem? (i := 466) (by decide +kernel)⟩
theorem lw_p22 : lw_okq (⟨"UnlikeDrawn", "bestNamed", "(LUnlikeDrawn$Knower;I)I"⟩, 17) := ⟨⟨by decide +kernel, by decide +kernel⟩, List.mem_of_getElem? (i := 14) (by decide +kernel), List.mem_of_getElem? (i := 469) (by decide +kernel), List.mem_of_getElem? (i := 470) (by decide +kernel)⟩
theorem lw_p23 : lw_okq (⟨"UnlikeDrawn", "refusalOfParts", "(IIII)I"⟩, 17) := ⟨⟨by decide +kernel, by decide +kernel⟩, List.mem_of_getElem? (i := 14) (by decide +kernel), List.mem_of_getElem? (i := 477) (by decide +kernel), List.mem_of_getElem? (i := 478) (by decide +kernel)⟩
theorem lw_p24 : lw_okq (⟨"UnlikeDrawn", "putBack", "(III)I"⟩, 17) := ⟨⟨by decide +kernel, by decide +kernel⟩, List.mem_of_getElem? (i := 14) (by decide +kernel), List.mem_of_getElem? (i := 499) (by decide +kernel), List.mem_of_getElem? (i := 500) (by decide +kernel)⟩
theorem lw_p25 : lw_okq (⟨"UnlikeDrawn", "furthestOff", "()I"⟩, 17) := ⟨⟨by decide +kernel, by decide +kernel⟩, List.mem_of_getElem? (i := 14) (by decide +kernel), List.mem_of_getElem? (i := 512) (by decide +kernel), List.mem_of_getElem? (i := 513) (by decide +kernel)⟩
theorem lw_p26 : lw_okq (⟨"UnlikeDrawn", "monsters", "()I"⟩, 17) := ⟨⟨by decide +kernel, by decide +kernel⟩, List.mem_of_getElem? (i := 14) (by decide +kernel), List.mem_of_getElem? (i := 573) (by decide +kernel), List.mem_of_getElem? (i := 574) (by decide +kernel)⟩
theorem lw_p27 : lw_okq (⟨"UnlikeDrawn", "digestOfDrawing", "(JI)J"⟩, 17) := ⟨⟨by decide +kernel, by decide +kernel⟩, List.mem_of_getElem? (i := 14) (by decide +kernel), List.mem_of_getElem? (i := 588) (by decide +kernel), List.mem_of_getElem? (i := 589) (by decide +kernel)⟩
theorem lw_p28 : lw_okq (⟨"UnlikeDrawn", "digestOfKnower", "(JI)J"⟩, 17) := ⟨⟨by decide +kernel, by decide +kernel⟩, List.mem_of_getElem? (i := 14) (by decide +kernel), List.mem_of_getElem? (i := 594) (by decide +kernel), List.mem_of_getElem? (i := 595) (by decide +kernel)⟩
theorem lw_p29 : lw_okq (⟨"UnlikeDrawnModel", "met", "(I)I"⟩, 27) := ⟨⟨by decide +kernel, by decide +kernel⟩, List.mem_of_getElem? (i := 600) (by decide +kernel), List.mem_of_getElem? (i := 700) (by decide +kernel), List.mem_of_getElem? (i := 701) (by decide +kernel)⟩
theorem lw_p30 : lw_okq (⟨"UnlikeDrawnModel", "lacks", "(III)I"⟩, 27) := ⟨⟨by decide +kernel, by decide +kernel⟩, List.mem_of_getElem? (i := 600) (by decide +kernel), List.mem_of_getElem? (i := 712) (by decide +kernel), List.mem_of_getElem? (i := 713) (by decide +kernel)⟩
theorem lw_p31 : lw_okq (⟨"UnlikeDrawnModel", "isHead", "(I)Z"⟩, 27) := ⟨⟨by decide +kernel, by decide +kernel⟩, List.mem_of_getElem? (i := 600) (by decide +kernel), List.mem_of_getElem? (i := 736) (by decide +kernel), List.mem_of_getElem? (i := 737) (by decide +kernel)⟩
def lw_privs_2 : List (MethodName × Nat) := [(⟨"UnlikeDrawn", "nameFor", "(LUnlikeDrawn$Knower;LUnlikeDrawn$Sketch;)I"⟩, 17), (⟨"UnlikeDrawn", "marginOf", "(LUnlikeDrawn$Knower;LUnlikeDrawn$Sketch;I)I"⟩, 17), (⟨"UnlikeDrawn", "leastMonster", "(I)I"⟩, 17), (⟨"UnlikeDrawn", "tryParts", "(III)V"⟩, 17), (⟨"UnlikeDrawn", "leastNamed", "(LUnlikeDrawn$Knower;I)I"⟩, 17), (⟨"UnlikeDrawn", "isNamedBy", "(LUnlikeDrawn$Knower;III)Z"⟩, 17), (⟨"UnlikeDrawn", "bestNamed", "(LUnlikeDrawn$Knower;I)I"⟩, 17), (⟨"UnlikeDrawn", "refusalOfParts", "(IIII)I"⟩, 17), (⟨"UnlikeDrawn", "putBack", "(III)I"⟩, 17), (⟨"UnlikeDrawn", "furthestOff", "()I"⟩, 17), (⟨"UnlikeDrawn", "monsters", "()I"⟩, 17), (⟨"UnlikeDrawn", "digestOfDrawing", "(JI)J"⟩, 17), (⟨"UnlikeDrawn", "digestOfKnower", "(JI)J"⟩, 17), (⟨"UnlikeDrawnModel", "met", "(I)I"⟩, 27), (⟨"UnlikeDrawnModel", "lacks", "(III)I"⟩, 27), (⟨"UnlikeDrawnModel", "isHead", "(I)Z"⟩, 27)]
theorem lw_r2 : ∀ q ∈ lw_privs_2, lw_okq q := List.forall_mem_cons.mpr ⟨lw_p16, List.forall_mem_cons.mpr ⟨lw_p17, List.forall_mem_cons.mpr ⟨lw_p18, List.forall_mem_cons.mpr ⟨lw_p19, List.forall_mem_cons.mpr ⟨lw_p20, List.forall_mem_cons.mpr ⟨lw_p21, List.forall_mem_cons.mpr ⟨lw_p22, List.forall_mem_cons.mpr ⟨lw_p23, List.forall_mem_cons.mpr ⟨lw_p24, List.forall_mem_cons.mpr ⟨lw_p25, List.forall_mem_cons.mpr ⟨lw_p26, List.forall_mem_cons.mpr ⟨lw_p27, List.forall_mem_cons.mpr ⟨lw_p28, List.forall_mem_cons.mpr ⟨lw_p29, List.forall_mem_cons.mpr ⟨lw_p30, List.forall_mem_cons.mpr ⟨lw_p31, fun _ h => absurd h List.not_mem_nil⟩⟩⟩⟩⟩⟩⟩⟩⟩⟩⟩⟩⟩⟩⟩⟩
theorem lw_p32 : lw_okq (⟨"UnlikeDrawnModel", "isSet", "(I)Z"⟩, 27) := ⟨⟨by decide +kernel, by decide +kernel⟩, List.mem_of_getElem? (i := 600) (by decide +kernel), List.mem_of_getElem? (i := 754) (by decide +kernel), List.mem_of_getElem? (i := 755) (by decide +kernel)⟩
theorem lw_p33 : lw_okq (⟨"UnlikeDrawnModel", "meanOf", "(II)I"⟩, 27) := ⟨⟨by decide +kernel, by decide +kernel⟩, List.mem_of_getElem? (i := 600) (by decide +kernel), List.mem_of_getElem? (i := 758) (by decide +kernel), List.mem_of_getElem? (i := 759) (by decide +kernel)⟩
theorem lw_p34 : lw_okq (⟨"UnlikeDrawnModel", "reads", "(I)I"⟩, 27) := ⟨⟨by decide +kernel, by decide +kernel⟩, List.mem_of_getElem? (i := 600) (by decide +kernel), List.mem_of_getElem? (i := 778) (by decide +kernel), List.mem_of_getElem? (i := 779) (by decide +kernel)⟩
theorem lw_p35 : lw_okq (⟨"UnlikeDrawnModel", "clears", "()V"⟩, 27) := ⟨⟨by decide +kernel, by decide +kernel⟩, List.mem_of_getElem? (i := 600) (by decide +kernel), List.mem_of_getElem? (i := 782) (by decide +kernel), List.mem_of_getElem? (i := 783) (by decide +kernel)⟩
theorem lw_p36 : lw_okq (⟨"UnlikeDrawnModel", "readsPiece", "(I)Z"⟩, 27) := ⟨⟨by decide +kernel, by decide +kernel⟩, List.mem_of_getElem? (i := 600) (by decide +kernel), List.mem_of_getElem? (i := 786) (by decide +kernel), List.mem_of_getElem? (i := 787) (by decide +kernel)⟩
theorem lw_p37 : lw_okq (⟨"UnlikeDrawnModel", "here", "(I)I"⟩, 27) := ⟨⟨by decide +kernel, by decide +kernel⟩, List.mem_of_getElem? (i := 600) (by decide +kernel), List.mem_of_getElem? (i := 790) (by decide +kernel), List.mem_of_getElem? (i := 791) (by decide +kernel)⟩
theorem lw_p38 : lw_okq (⟨"UnlikeDrawnModel", "number", "(I)I"⟩, 27) := ⟨⟨by decide +kernel, by decide +kernel⟩, List.mem_of_getElem? (i := 600) (by decide +kernel), List.mem_of_getElem? (i := 795) (by decide +kernel), List.mem_of_getElem? (i := 796) (by decide +kernel)⟩
theorem lw_p39 : lw_okq (⟨"UnlikeDrawnModel", "isLate", "(I)Z"⟩, 27) := ⟨⟨by decide +kernel, by decide +kernel⟩, List.mem_of_getElem? (i := 600) (by decide +kernel), List.mem_of_getElem? (i := 824) (by decide +kernel), List.mem_of_getElem? (i := 825) (by decide +kernel)⟩
theorem lw_p40 : lw_okq (⟨"UnlikeDrawnModel", "isDrawing", "(I)Z"⟩, 27) := ⟨⟨by decide +kernel, by decide +kernel⟩, List.mem_of_getElem? (i := 600) (by decide +kernel), List.mem_of_getElem? (i := 832) (by decide +kernel), List.mem_of_getElem? (i := 833) (by decide +kernel)⟩
theorem lw_p41 : lw_okq (⟨"UnlikeDrawnModel", "unlikeOf", "(II)I"⟩, 27) := ⟨⟨by decide +kernel, by decide +kernel⟩, List.mem_of_getElem? (i := 600) (by decide +kernel), List.mem_of_getElem? (i := 844) (by decide +kernel), List.mem_of_getElem? (i := 845) (by decide +kernel)⟩
theorem lw_p42 : lw_okq (⟨"UnlikeDrawnModel", "unlikeBy", "(II)I"⟩, 27) := ⟨⟨by decide +kernel, by decide +kernel⟩, List.mem_of_getElem? (i := 600) (by decide +kernel), List.mem_of_getElem? (i := 848) (by decide +kernel), List.mem_of_getElem? (i := 849) (by decide +kernel)⟩
theorem lw_p43 : lw_okq (⟨"UnlikeDrawnModel", "aboutOf", "(II)I"⟩, 27) := ⟨⟨by decide +kernel, by decide +kernel⟩, List.mem_of_getElem? (i := 600) (by decide +kernel), List.mem_of_getElem? (i := 859) (by decide +kernel), List.mem_of_getElem? (i := 860) (by decide +kernel)⟩
theorem lw_p44 : lw_okq (⟨"UnlikeDrawnModel", "isMonster", "(I)Z"⟩, 27) := ⟨⟨by decide +kernel, by decide +kernel⟩, List.mem_of_getElem? (i := 600) (by decide +kernel), List.mem_of_getElem? (i := 863) (by decide +kernel), List.mem_of_getElem? (i := 864) (by decide +kernel)⟩
theorem lw_p45 : lw_okq (⟨"UnlikeDrawnModel", "fromOf", "(I)I"⟩, 27) := ⟨⟨by decide +kernel, by decide +kernel⟩, List.mem_of_getElem? (i := 600) (by decide +kernel), List.mem_of_getElem? (i := 867) (by decide +kernel), List.mem_of_getElem? (i := 868) (by decide +kernel)⟩
theorem lw_p46 : lw_okq (⟨"UnlikeDrawnModel", "agesOf", "(I)I"⟩, 27) := ⟨⟨by decide +kernel, by decide +kernel⟩, List.mem_of_getElem? (i := 600) (by decide +kernel), List.mem_of_getElem? (i := 871) (by decide +kernel), List.mem_of_getElem? (i := 872) (by decide +kernel)⟩
theorem lw_p47 : lw_okq (⟨"UnlikeDrawnModel", "whoseOf", "(I)I"⟩, 27) := ⟨⟨by decide +kernel, by decide +kernel⟩, List.mem_of_getElem? (i := 600) (by decide +kernel), List.mem_of_getElem? (i := 875) (by decide +kernel), List.mem_of_getElem? (i := 876) (by decide +kernel)⟩
def lw_privs_3 : List (MethodName × Nat) := [(⟨"UnlikeDrawnModel", "isSet", "(I)Z"⟩, 27), (⟨"UnlikeDrawnModel", "meanOf", "(II)I"⟩, 27), (⟨"UnlikeDrawnModel", "reads", "(I)I"⟩, 27), (⟨"UnlikeDrawnModel", "clears", "()V"⟩, 27), (⟨"UnlikeDrawnModel", "readsPiece", "(I)Z"⟩, 27), (⟨"UnlikeDrawnModel", "here", "(I)I"⟩, 27), (⟨"UnlikeDrawnModel", "number", "(I)I"⟩, 27), (⟨"UnlikeDrawnModel", "isLate", "(I)Z"⟩, 27), (⟨"UnlikeDrawnModel", "isDrawing", "(I)Z"⟩, 27), (⟨"UnlikeDrawnModel", "unlikeOf", "(II)I"⟩, 27), (⟨"UnlikeDrawnModel", "unlikeBy", "(II)I"⟩, 27), (⟨"UnlikeDrawnModel", "aboutOf", "(II)I"⟩, 27), (⟨"UnlikeDrawnModel", "isMonster", "(I)Z"⟩, 27), (⟨"UnlikeDrawnModel", "fromOf", "(I)I"⟩, 27), (⟨"UnlikeDrawnModel", "agesOf", "(I)I"⟩, 27), (⟨"UnlikeDrawnModel", "whoseOf", "(I)I"⟩, 27)]
theorem lw_r3 : ∀ q ∈ lw_privs_3, lw_okq q := List.forall_mem_cons.mpr ⟨lw_p32, List.forall_mem_cons.mpr ⟨lw_p33, List.forall_mem_cons.mpr ⟨lw_p34, List.forall_mem_cons.mpr ⟨lw_p35, List.forall_mem_cons.mpr ⟨lw_p36, List.forall_mem_cons.mpr ⟨lw_p37, List.forall_mem_cons.mpr ⟨lw_p38, List.forall_mem_cons.mpr ⟨lw_p39, List.forall_mem_cons.mpr ⟨lw_p40, List.forall_mem_cons.mpr ⟨lw_p41, List.forall_mem_cons.mpr ⟨lw_p42, List.forall_mem_cons.mpr ⟨lw_p43, List.forall_mem_cons.mpr ⟨lw_p44, List.forall_mem_cons.mpr ⟨lw_p45, List.forall_mem_cons.mpr ⟨lw_p46, List.forall_mem_cons.mpr ⟨lw_p47, fun _ h => absurd h List.not_mem_nil⟩⟩⟩⟩⟩⟩⟩⟩⟩⟩⟩⟩⟩⟩⟩⟩
theorem lw_p48 : lw_okq (⟨"UnlikeDrawnModel", "isKnower", "(I)Z"⟩, 27) := ⟨⟨by decide +kernel, by decide +kernel⟩, List.mem_of_getElem? (i := 600) (by decide +kernel), List.mem_of_getElem? (i := 887) (by decide +kernel), List.mem_of_getElem? (i := 888) (by decide +kernel)⟩
theorem lw_p49 : lw_okq (⟨"UnlikeDrawnModel", "doesKnow", "(II)Z"⟩, 27) := ⟨⟨by decide +kernel, by decide +kernel⟩, List.mem_of_getElem? (i := 600) (by decide +kernel), List.mem_of_getElem? (i := 906) (by decide +kernel), List.mem_of_getElem? (i := 907) (by decide +kernel)⟩
theorem lw_p50 : lw_okq (⟨"UnlikeDrawnModel", "sees", "(I)V"⟩, 27) := ⟨⟨by decide +kernel, by decide +kernel⟩, List.mem_of_getElem? (i := 600) (by decide +kernel), List.mem_of_getElem? (i := 910) (by decide +kernel), List.mem_of_getElem? (i := 911) (by decide +kernel)⟩
theorem lw_p51 : lw_okq (⟨"UnlikeDrawnModel", "findScore", "(II)V"⟩, 27) := ⟨⟨by decide +kernel, by decide +kernel⟩, List.mem_of_getElem? (i := 600) (by decide +kernel), List.mem_of_getElem? (i := 914) (by decide +kernel), List.mem_of_getElem? (i := 915) (by decide +kernel)⟩
theorem lw_p52 : lw_okq (⟨"UnlikeDrawnModel", "namedOf", "(III)I"⟩, 27) := ⟨⟨by decide +kernel, by decide +kernel⟩, List.mem_of_getElem? (i := 600) (by decide +kernel), List.mem_of_getElem? (i := 928) (by decide +kernel), List.mem_of_getElem? (i := 929) (by decide +kernel)⟩
theorem lw_p53 : lw_okq (⟨"UnlikeDrawnModel", "namedBy", "(I)I"⟩, 27) := ⟨⟨by decide +kernel, by decide +kernel⟩, List.mem_of_getElem? (i := 600) (by decide +kernel), List.mem_of_getElem? (i := 932) (by decide +kernel), List.mem_of_getElem? (i := 933) (by decide +kernel)⟩
theorem lw_p54 : lw_okq (⟨"UnlikeDrawnModel", "marginOf", "(II)I"⟩, 27) := ⟨⟨by decide +kernel, by decide +kernel⟩, List.mem_of_getElem? (i := 600) (by decide +kernel), List.mem_of_getElem? (i := 939) (by decide +kernel), List.mem_of_getElem? (i := 940) (by decide +kernel)⟩
theorem lw_p55 : lw_okq (⟨"UnlikeDrawnModel", "sees", "(IIII)V"⟩, 27) := ⟨⟨by decide +kernel, by decide +kernel⟩, List.mem_of_getElem? (i := 600) (by decide +kernel), List.mem_of_getElem? (i := 947) (by decide +kernel), List.mem_of_getElem? (i := 948) (by decide +kernel)⟩
theorem lw_p56 : lw_okq (⟨"UnlikeDrawnModel", "isAsked", "(IIII)Z"⟩, 27) := ⟨⟨by decide +kernel, by decide +kernel⟩, List.mem_of_getElem? (i := 600) (by decide +kernel), List.mem_of_getElem? (i := 955) (by decide +kernel), List.mem_of_getElem? (i := 956) (by decide +kernel)⟩
theorem lw_p57 : lw_okq (⟨"UnlikeDrawnModel", "isEnough", "(IIIII)Z"⟩, 27) := ⟨⟨by decide +kernel, by decide +kernel⟩, List.mem_of_getElem? (i := 600) (by decide +kernel), List.mem_of_getElem? (i := 962) (by decide +kernel), List.mem_of_getElem? (i := 963) (by decide +kernel)⟩
theorem lw_p58 : lw_okq (⟨"UnlikeDrawnModel", "backOf", "(II)I"⟩, 27) := ⟨⟨by decide +kernel, by decide +kernel⟩, List.mem_of_getElem? (i := 600) (by decide +kernel), List.mem_of_getElem? (i := 978) (by decide +kernel), List.mem_of_getElem? (i := 979) (by decide +kernel)⟩
theorem lw_p59 : lw_okq (⟨"UnlikeDrawnModel", "nearOf", "(II)I"⟩, 27) := ⟨⟨by decide +kernel, by decide +kernel⟩, List.mem_of_getElem? (i := 600) (by decide +kernel), List.mem_of_getElem? (i := 986) (by decide +kernel), List.mem_of_getElem? (i := 987) (by decide +kernel)⟩
theorem lw_p60 : lw_okq (⟨"UnlikeDrawnModel", "witnessOf", "(III)I"⟩, 27) := ⟨⟨by decide +kernel, by decide +kernel⟩, List.mem_of_getElem? (i := 600) (by decide +kernel), List.mem_of_getElem? (i := 994) (by decide +kernel), List.mem_of_getElem? (i := 995) (by decide +kernel)⟩
def lw_privs_4 : List (MethodName × Nat) := [(⟨"UnlikeDrawnModel", "isKnower", "(I)Z"⟩, 27), (⟨"UnlikeDrawnModel", "doesKnow", "(II)Z"⟩, 27), (⟨"UnlikeDrawnModel", "sees", "(I)V"⟩, 27), (⟨"UnlikeDrawnModel", "findScore", "(II)V"⟩, 27), (⟨"UnlikeDrawnModel", "namedOf", "(III)I"⟩, 27), (⟨"UnlikeDrawnModel", "namedBy", "(I)I"⟩, 27), (⟨"UnlikeDrawnModel", "marginOf", "(II)I"⟩, 27), (⟨"UnlikeDrawnModel", "sees", "(IIII)V"⟩, 27), (⟨"UnlikeDrawnModel", "isAsked", "(IIII)Z"⟩, 27), (⟨"UnlikeDrawnModel", "isEnough", "(IIIII)Z"⟩, 27), (⟨"UnlikeDrawnModel", "backOf", "(II)I"⟩, 27), (⟨"UnlikeDrawnModel", "nearOf", "(II)I"⟩, 27), (⟨"UnlikeDrawnModel", "witnessOf", "(III)I"⟩, 27)]
theorem lw_r4 : ∀ q ∈ lw_privs_4, lw_okq q := List.forall_mem_cons.mpr ⟨lw_p48, List.forall_mem_cons.mpr ⟨lw_p49, List.forall_mem_cons.mpr ⟨lw_p50, List.forall_mem_cons.mpr ⟨lw_p51, List.forall_mem_cons.mpr ⟨lw_p52, List.forall_mem_cons.mpr ⟨lw_p53, List.forall_mem_cons.mpr ⟨lw_p54, List.forall_mem_cons.mpr ⟨lw_p55, List.forall_mem_cons.mpr ⟨lw_p56, List.forall_mem_cons.mpr ⟨lw_p57, List.forall_mem_cons.mpr ⟨lw_p58, List.forall_mem_cons.mpr ⟨lw_p59, List.forall_mem_cons.mpr ⟨lw_p60, fun _ h => absurd h List.not_mem_nil⟩⟩⟩⟩⟩⟩⟩⟩⟩⟩⟩⟩⟩
def lw_privs : List (MethodName × Nat) := lw_privs_1 ++ (lw_privs_2 ++ (lw_privs_3 ++ (lw_privs_4)))
def lw_tbl : List Cond := k2_sels lw_privs ++ tables_1
theorem lw_privs_ok : ∀ q ∈ lw_privs, lw_okq q := by
  show ∀ q ∈ lw_privs_1 ++ (lw_privs_2 ++ (lw_privs_3 ++ (lw_privs_4))), lw_okq q
  exact List.forall_mem_append.mpr ⟨lw_r1, List.forall_mem_append.mpr ⟨lw_r2, List.forall_mem_append.mpr ⟨lw_r3, lw_r4⟩⟩⟩
def uR0 : String := "UnlikeDrawn$Fraction"
def uT0 : u_T := fun k => match k with
  | 0 => ("UnlikeDrawn$Fraction", "above", "J", false)
  | _ => ("UnlikeDrawn$Fraction", "below", "J", false)
def uY0 : Nat → FieldType := fun k => match k with
  | 0 => .long
  | _ => .long
def uR1 : String := "UnlikeDrawn$Hand"
def uT1 : u_T := fun k => match k with
  | 0 => ("UnlikeDrawn$Hand", "text", "[I", true)
  | 1 => ("UnlikeDrawn$Hand", "tenths", "[I", true)
  | 2 => ("UnlikeDrawn$Hand", "length", "I", false)
  | _ => ("UnlikeDrawn$Hand", "fault", "I", false)
def uY1 : Nat → FieldType := fun k => match k with
  | 0 => .array .int
  | 1 => .array .int
  | 2 => .int
  | _ => .int
def uR2 : String := "UnlikeDrawn$Head"
def uT2 : u_T := fun k => match k with
  | _ => ("UnlikeDrawn$Head", "places", "[I", true)
def uY2 : Nat → FieldType := fun k => match k with
  | _ => .array .int
def uR3 : String := "UnlikeDrawn$Knower"
def uT3 : u_T := fun k => match k with
  | 0 => ("UnlikeDrawn$Knower", "mean", "[I", true)
  | _ => ("UnlikeDrawn$Knower", "known", "I", false)
def uY3 : Nat → FieldType := fun k => match k with
  | 0 => .array .int
  | _ => .int
def uR4 : String := "UnlikeDrawn$Sheet"
def uT4 : u_T := fun k => match k with
  | 0 => ("UnlikeDrawn$Sheet", "items", "[I", true)
  | 1 => ("UnlikeDrawn$Sheet", "form", "I", false)
  | _ => ("UnlikeDrawn$Sheet", "size", "I", false)
def uY4 : Nat → FieldType := fun k => match k with
  | 0 => .array .int
  | 1 => .int
  | _ => .int
def uR5 : String := "UnlikeDrawn$Sketch"
def uT5 : u_T := fun k => match k with
  | 0 => ("UnlikeDrawn$Sketch", "base", "[I", true)
  | 1 => ("UnlikeDrawn$Sketch", "lines", "[I", true)
  | 2 => ("UnlikeDrawn$Sketch", "of", "I", false)
  | 3 => ("UnlikeDrawn$Sketch", "year", "I", false)
  | 4 => ("UnlikeDrawn$Sketch", "kind", "I", false)
  | _ => ("UnlikeDrawn$Sketch", "source", "I", false)
def uY5 : Nat → FieldType := fun k => match k with
  | 0 => .array .int
  | 1 => .array .int
  | 2 => .int
  | 3 => .int
  | 4 => .int
  | _ => .int
def uR6 : String := "UnlikeDrawn"
def uT6 : u_T := fun k => match k with
  | 0 => ("UnlikeDrawn", "heads", "[LUnlikeDrawn$Head;", true)
  | 1 => ("UnlikeDrawn", "hands", "[LUnlikeDrawn$Hand;", true)
  | 2 => ("UnlikeDrawn", "drawings", "[LUnlikeDrawn$Sketch;", true)
  | 3 => ("UnlikeDrawn", "knowers", "[LUnlikeDrawn$Knower;", true)
  | 4 => ("UnlikeDrawn", "sheets", "[LUnlikeDrawn$Sheet;", true)
  | 5 => ("UnlikeDrawn", "headCount", "I", false)
  | 6 => ("UnlikeDrawn", "drawingCount", "I", false)
  | 7 => ("UnlikeDrawn", "knowerCount", "I", false)
  | 8 => ("UnlikeDrawn", "ruin", "I", false)
  | 9 => ("UnlikeDrawn", "lag", "I", false)
  | 10 => ("UnlikeDrawn", "odd", "I", false)
  | 11 => ("UnlikeDrawn", "latestFinding", "I", false)
  | 12 => ("UnlikeDrawn", "trial", "LUnlikeDrawn$Sketch;", true)
  | 13 => ("UnlikeDrawn", "meanRow", "[I", true)
  | 14 => ("UnlikeDrawn", "offRow", "[I", true)
  | 15 => ("UnlikeDrawn", "fraction", "LUnlikeDrawn$Fraction;", true)
  | _ => ("UnlikeDrawn", "greatest", "LUnlikeDrawn$Fraction;", true)
def uY6 : Nat → FieldType := fun k => match k with
  | 0 => .array (.object "UnlikeDrawn$Head")
  | 1 => .array (.object "UnlikeDrawn$Hand")
  | 2 => .array (.object "UnlikeDrawn$Sketch")
  | 3 => .array (.object "UnlikeDrawn$Knower")
  | 4 => .array (.object "UnlikeDrawn$Sheet")
  | 5 => .int
  | 6 => .int
  | 7 => .int
  | 8 => .int
  | 9 => .int
  | 10 => .int
  | 11 => .int
  | 12 => .object "UnlikeDrawn$Sketch"
  | 13 => .array .int
  | 14 => .array .int
  | 15 => .object "UnlikeDrawn$Fraction"
  | _ => .object "UnlikeDrawn$Fraction"
def uR7 : String := "UnlikeDrawnModel"
def uT7 : u_T := fun k => match k with
  | 0 => ("UnlikeDrawnModel", "forms", "[I", true)
  | 1 => ("UnlikeDrawnModel", "sizes", "[I", true)
  | 2 => ("UnlikeDrawnModel", "items", "[I", true)
  | 3 => ("UnlikeDrawnModel", "moved", "[I", true)
  | 4 => ("UnlikeDrawnModel", "latest", "I", false)
  | 5 => ("UnlikeDrawnModel", "heads", "I", false)
  | 6 => ("UnlikeDrawnModel", "places", "[I", true)
  | 7 => ("UnlikeDrawnModel", "text", "[I", true)
  | 8 => ("UnlikeDrawnModel", "typed", "[I", true)
  | 9 => ("UnlikeDrawnModel", "at", "I", false)
  | 10 => ("UnlikeDrawnModel", "tenthsOf", "[I", true)
  | 11 => ("UnlikeDrawnModel", "settings", "[I", true)
  | 12 => ("UnlikeDrawnModel", "drawings", "I", false)
  | 13 => ("UnlikeDrawnModel", "drawnHead", "[I", true)
  | 14 => ("UnlikeDrawnModel", "drawnYear", "[I", true)
  | 15 => ("UnlikeDrawnModel", "drawnKind", "[I", true)
  | 16 => ("UnlikeDrawnModel", "copiedFrom", "[I", true)
  | 17 => ("UnlikeDrawnModel", "lines", "[I", true)
  | 18 => ("UnlikeDrawnModel", "means", "[I", true)
  | 19 => ("UnlikeDrawnModel", "knowers", "I", false)
  | 20 => ("UnlikeDrawnModel", "knows", "[I", true)
  | 21 => ("UnlikeDrawnModel", "own", "[I", true)
  | 22 => ("UnlikeDrawnModel", "seen", "[I", true)
  | 23 => ("UnlikeDrawnModel", "seenMonster", "Z", false)
  | 24 => ("UnlikeDrawnModel", "scoreAbove", "J", false)
  | 25 => ("UnlikeDrawnModel", "scoreBelow", "J", false)
  | _ => ("UnlikeDrawnModel", "off", "[I", true)
def uY7 : Nat → FieldType := fun k => match k with
  | 0 => .array .int
  | 1 => .array .int
  | 2 => .array .int
  | 3 => .array .int
  | 4 => .int
  | 5 => .int
  | 6 => .array .int
  | 7 => .array .int
  | 8 => .array .int
  | 9 => .int
  | 10 => .array .int
  | 11 => .array .int
  | 12 => .int
  | 13 => .array .int
  | 14 => .array .int
  | 15 => .array .int
  | 16 => .array .int
  | 17 => .array .int
  | 18 => .array .int
  | 19 => .int
  | 20 => .array .int
  | 21 => .array .int
  | 22 => .array .int
  | 23 => .boolean
  | 24 => .long
  | 25 => .long
  | _ => .array .int
def uCls : List vw_C := [(uR0, uT0, 2), (uR1, uT1, 4), (uR2, uT2, 1), (uR3, uT3, 2), (uR4, uT4, 3), (uR5, uT5, 6), (uR6, uT6, 17), (uR7, uT7, 27)]
def uNest : Cond := .methodLinkNest "UnlikeDrawn$Hand" 52 ⟨"UnlikeDrawn", "isPart", "(I)Z"⟩ "UnlikeDrawn"
