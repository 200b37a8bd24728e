section
/-- a private method of a class that the tables say can be made, by its rows of tables_1 -/
def lw_okq (q : MethodName × Nat) : Prop := (q.1.cls ≠ "java/lang/invoke/MethodHandle" ∧ q.1.cls ≠ "java/lang/invoke/VarHandle") ∧ Cond.instantiable q.1.cls q.2 ∈ tables_1 ∧ Cond.privateMethod q.1 ∈ tables_1 ∧ Cond.instanceMethod q.1 ∈ tables_1
theorem lw_p0 : lw_okq (⟨"UnlikeDrawn", "isHead", "(I)Z"⟩, 17) := ⟨⟨by decide +kernel, by decide +kernel⟩, List.mem_of_getElem? (i := 14) (by decide +kernel), List.mem_of_getElem? (i := 204) (by decide +kernel), List.mem_of_getElem? (i := 205) (by decide +kernel)⟩
theorem lw_p1 : lw_okq (⟨"UnlikeDrawn", "found", "(I)I"⟩, 17) := ⟨⟨by decide +kernel, by decide +kernel⟩, List.mem_of_getElem? (i := 14) (by decide +kernel), List.mem_of_getElem? (i := 225) (by decide +kernel), List.mem_of_getElem? (i := 226) (by decide +kernel)⟩
theorem lw_p2 : lw_okq (⟨"UnlikeDrawn", "isSet", "(I)Z"⟩, 17) := ⟨⟨by decide +kernel, by decide +kernel⟩, List.mem_of_getElem? (i := 14) (by decide +kernel), List.mem_of_getElem? (i := 236) (by decide +kernel), List.mem_of_getElem? (i := 237) (by decide +kernel)⟩
theorem lw_p3 : lw_okq (⟨"UnlikeDrawn", "meanOf", "(II)I"⟩, 17) := ⟨⟨by decide +kernel, by decide +kernel⟩, List.mem_of_getElem? (i := 14) (by decide +kernel), List.mem_of_getElem? (i := 240) (by decide +kernel), List.mem_of_getElem? (i := 241) (by decide +kernel)⟩
theorem lw_p4 : lw_okq (⟨"UnlikeDrawn$Hand", "understand", "()V"⟩, 4) := ⟨⟨by decide +kernel, by decide +kernel⟩, List.mem_of_getElem? (i := 89) (by decide +kernel), List.mem_of_getElem? (i := 255) (by decide +kernel), List.mem_of_getElem? (i := 256) (by decide +kernel)⟩
theorem lw_p5 : lw_okq (⟨"UnlikeDrawn$Hand", "behindPiece", "(I)I"⟩, 4) := ⟨⟨by decide +kernel, by decide +kernel⟩, List.mem_of_getElem? (i := 89) (by decide +kernel), List.mem_of_getElem? (i := 259) (by decide +kernel), List.mem_of_getElem? (i := 260) (by decide +kernel)⟩
theorem lw_p6 : lw_okq (⟨"UnlikeDrawn$Hand", "byteAt", "(I)I"⟩, 4) := ⟨⟨by decide +kernel, by decide +kernel⟩, List.mem_of_getElem? (i := 89) (by decide +kernel), List.mem_of_getElem? (i := 263) (by decide +kernel), List.mem_of_getElem? (i := 264) (by decide +kernel)⟩
theorem lw_p7 : lw_okq (⟨"UnlikeDrawn$Hand", "stopAt", "(I)I"⟩, 4) := ⟨⟨by decide +kernel, by decide +kernel⟩, List.mem_of_getElem? (i := 89) (by decide +kernel), List.mem_of_getElem? (i := 267) (by decide +kernel), List.mem_of_getElem? (i := 268) (by decide +kernel)⟩
theorem lw_p8 : lw_okq (⟨"UnlikeDrawn$Hand", "mark", "(II)V"⟩, 4) := ⟨⟨by decide +kernel, by decide +kernel⟩, List.mem_of_getElem? (i := 89) (by decide +kernel), List.mem_of_getElem? (i := 271) (by decide +kernel), List.mem_of_getElem? (i := 272) (by decide +kernel)⟩
theorem lw_p9 : lw_okq (⟨"UnlikeDrawn", "isNextYear", "(I)Z"⟩, 17) := ⟨⟨by decide +kernel, by decide +kernel⟩, List.mem_of_getElem? (i := 14) (by decide +kernel), List.mem_of_getElem? (i := 313) (by decide +kernel), List.mem_of_getElem? (i := 314) (by decide +kernel)⟩
theorem lw_p10 : lw_okq (⟨"UnlikeDrawn", "fillMean", "(I[I)V"⟩, 17) := ⟨⟨by decide +kernel, by decide +kernel⟩, List.mem_of_getElem? (i := 14) (by decide +kernel), List.mem_of_getElem? (i := 317) (by decide +kernel), List.mem_of_getElem? (i := 318) (by decide +kernel)⟩
theorem lw_p11 : lw_okq (⟨"UnlikeDrawn", "isDrawing", "(I)Z"⟩, 17) := ⟨⟨by decide +kernel, by decide +kernel⟩, List.mem_of_getElem? (i := 14) (by decide +kernel), List.mem_of_getElem? (i := 335) (by decide +kernel), List.mem_of_getElem? (i := 336) (by decide +kernel)⟩
theorem lw_p12 : lw_okq (⟨"UnlikeDrawn", "fromOf", "(I)I"⟩, 17) := ⟨⟨by decide +kernel, by decide +kernel⟩, List.mem_of_getElem? (i := 14) (by decide +kernel), List.mem_of_getElem? (i := 358) (by decide +kernel), List.mem_of_getElem? (i := 359) (by decide +kernel)⟩
theorem lw_p13 : lw_okq (⟨"UnlikeDrawn", "agesOf", "(I)I"⟩, 17) := ⟨⟨by decide +kernel, by decide +kernel⟩, List.mem_of_getElem? (i := 14) (by decide +kernel), List.mem_of_getElem? (i := 366) (by decide +kernel), List.mem_of_getElem? (i := 367) (by decide +kernel)⟩
theorem lw_p14 : lw_okq (⟨"UnlikeDrawn", "whoseIs", "(LUnlikeDrawn$Sketch;)I"⟩, 17) := ⟨⟨by decide +kernel, by decide +kernel⟩, List.mem_of_getElem? (i := 14) (by decide +kernel), List.mem_of_getElem? (i := 370) (by decide +kernel), List.mem_of_getElem? (i := 371) (by decide +kernel)⟩
theorem lw_p15 : lw_okq (⟨"UnlikeDrawn", "isKnower", "(I)Z"⟩, 17) := ⟨⟨by decide +kernel, by decide +kernel⟩, List.mem_of_getElem? (i := 14) (by decide +kernel), List.mem_of_getElem? (i := 386) (by decide +kernel), List.mem_of_getElem? (i := 387) (by decide +kernel)⟩
def lw_privs_1 : List (MethodName × Nat) := [(⟨"UnlikeDrawn", "isHead", "(I)Z"⟩, 17), (⟨"UnlikeDrawn", "found", "(I)I"⟩, 17), (⟨"UnlikeDrawn", "isSet", "(I)Z"⟩, 17), (⟨"UnlikeDrawn", "meanOf", "(II)I"⟩, 17), (⟨"UnlikeDrawn$Hand", "understand", "()V"⟩, 4), (⟨"UnlikeDrawn$Hand", "behindPiece", "(I)I"⟩, 4), (⟨"UnlikeDrawn$Hand", "byteAt", "(I)I"⟩, 4), (⟨"UnlikeDrawn$Hand", "stopAt", "(I)I"⟩, 4), (⟨"UnlikeDrawn$Hand", "mark", "(II)V"⟩, 4), (⟨"UnlikeDrawn", "isNextYear", "(I)Z"⟩, 17), (⟨"UnlikeDrawn", "fillMean", "(I[I)V"⟩, 17), (⟨"UnlikeDrawn", "isDrawing", "(I)Z"⟩, 17), (⟨"UnlikeDrawn", "fromOf", "(I)I"⟩, 17), (⟨"UnlikeDrawn", "agesOf", "(I)I"⟩, 17), (⟨"UnlikeDrawn", "whoseIs", "(LUnlikeDrawn$Sketch;)I"⟩, 17), (⟨"UnlikeDrawn", "isKnower", "(I)Z"⟩, 17)]
theorem lw_r1 : ∀ q ∈ lw_privs_1, lw_okq q := List.forall_mem_cons.mpr ⟨lw_p0, List.forall_mem_cons.mpr ⟨lw_p1, List.forall_mem_cons.mpr ⟨lw_p2, List.forall_mem_cons.mpr ⟨lw_p3, List.forall_mem_cons.mpr ⟨lw_p4, List.forall_mem_cons.mpr ⟨lw_p5, List.forall_mem_cons.mpr ⟨lw_p6, List.forall_mem_cons.mpr ⟨lw_p7, List.forall_mem_cons.mpr ⟨lw_p8, List.forall_mem_cons.mpr ⟨lw_p9, List.forall_mem_cons.mpr ⟨lw_p10, List.forall_mem_cons.mpr ⟨lw_p11, List.forall_mem_cons.mpr ⟨lw_p12, List.forall_mem_cons.mpr ⟨lw_p13, List.forall_mem_cons.mpr ⟨lw_p14, List.forall_mem_cons.mpr ⟨lw_p15, fun _ h => absurd h List.not_mem_nil⟩⟩⟩⟩⟩⟩⟩⟩⟩⟩⟩⟩⟩⟩⟩⟩
theorem lw_p16 : lw_okq (⟨"UnlikeDrawn", "nameFor", "(LUnlikeDrawn$Knower;LUnlikeDrawn$Sketch;)I"⟩, 17) := ⟨⟨by decide +kernel, by decide +kernel⟩, List.mem_of_getElem? (i := 14) (by decide +kernel), List.mem_of_getElem? (i := 428) (by decide +kernel), List.mem_of_getElem? (i := 429) (by decide +kernel)⟩
theorem lw_p17 : lw_okq (⟨"UnlikeDrawn", "marginOf", "(LUnlikeDrawn$Knower;LUnlikeDrawn$Sketch;I)I"⟩, 17) := ⟨⟨by decide +kernel, by decide +kernel⟩, List.mem_of_getElem? (i := 14) (by decide +kernel), List.mem_of_getElem? (i := 441) (by decide +kernel), List.mem_of_getElem? (i := 442) (by decide +kernel)⟩
theorem lw_p18 : lw_okq (⟨"UnlikeDrawn", "leastMonster", "(I)I"⟩, 17) := ⟨⟨by decide +kernel, by decide +kernel⟩, List.mem_of_getElem? (i := 14) (by decide +kernel), List.mem_of_getElem? (i := 453) (by decide +kernel), List.mem_of_getElem? (i := 454) (by decide +kernel)⟩
theorem lw_p19 : lw_okq (⟨"UnlikeDrawn", "tryParts", "(III)V"⟩, 17) := ⟨⟨by decide +kernel, by decide +kernel⟩, List.mem_of_getElem? (i := 14) (by decide +kernel), List.mem_of_getElem? (i := 457) (by decide +kernel), List.mem_of_getElem? (i := 458) (by decide +kernel)⟩
theorem lw_p20 : lw_okq (⟨"UnlikeDrawn", "leastNamed", "(LUnlikeDrawn$Knower;I)I"⟩, 17) := ⟨⟨by decide +kernel, by decide +kernel⟩, List.mem_of_getElem? (i := 14) (by decide +kernel), List.mem_of_getElem? (i := 461) (by decide +kernel), List.mem_of_getElem? (i := 462) (by decide +kernel)⟩
theorem lw_p21 : lw_okq (⟨"UnlikeDrawn", "isNamedBy", "(LUnlikeDrawn$Knower;III)Z"⟩, 17) := ⟨⟨by decide +kernel, by decide +kernel⟩, List.mem_of_getElem? (i := 14) (by decide +kernel), List.mem_of_getElem? (i := 465) (by decide +kernel), List.mem_of_getElem? (i := 466) (by decide +kernel)⟩
theorem lw_p22 : lw_okq (⟨"UnlikeDrawn", "bestNamed", "(LUnlikeDrawn$Knower;I)I"⟩, 17) := ⟨⟨by decide +kernel, by decide +kernel⟩, List.mem_of_getElem? (i := 14) (by decide +kernel), List.mem_of_getElem? (i := 469) (by decide +kernel), List.mem_of_getElem? (i := 470) (by decide +kernel)⟩
theorem lw_p23 : lw_okq (⟨"UnlikeDrawn", "refusalOfParts", "(IIII)I"⟩, 17) := ⟨⟨by decide +kernel, by decide +kernel⟩, List.mem_of_getElem? (i := 14) (by decide +kernel), List.mem_of_getElem? (i := 477) (by decide +kernel), List.mem_of_getElem? (i := 478) (by decide +kernel)⟩
theorem lw_p24 : lw_okq (⟨"UnlikeDrawn", "putBack", "(III)I"⟩, 17) := ⟨⟨by decide +kernel, by decide +kernel⟩, List.mem_of_getElem? (i := 14) (by decide +kernel), List.mem_of_getElem? (i := 499) (by decide +kernel), List.mem_of_getElem? (i := 500) (by decide +kernel)⟩
theorem lw_p25 : lw_okq (⟨"UnlikeDrawn", "furthestOff", "()I"⟩, 17) := ⟨⟨by decide +kernel, by decide +kernel⟩, List.mem_of_getElem? (i := 14) (by decide +kernel), List.mem_of_getElem? (i := 512) (by decide +kernel), List.mem_of_getElem? (i := 513) (by decide +kernel)⟩
theorem lw_p26 : lw_okq (⟨"UnlikeDrawn", "monsters", "()I"⟩, 17) := ⟨⟨by decide +kernel, by decide +kernel⟩, List.mem_of_getElem? (i := 14) (by decide +kernel), List.mem_of_getElem? (i := 573) (by decide +kernel), List.mem_of_getElem? (i := 574) (by decide +kernel)⟩
theorem lw_p27 : lw_okq (⟨"UnlikeDrawn", "digestOfDrawing", "(JI)J"⟩, 17) := ⟨⟨by decide +kernel, by decide +kernel⟩, List.mem_of_getElem? (i := 14) (by decide +kernel), List.mem_of_getElem? (i := 588) (by decide +kernel), List.mem_of_getElem? (i := 589) (by decide +kernel)⟩
theorem lw_p28 : lw_okq (⟨"UnlikeDrawn", "digestOfKnower", "(JI)J"⟩, 17) := ⟨⟨by decide +kernel, by decide +kernel⟩, List.mem_of_getElem? (i := 14) (by decide +kernel), List.mem_of_getElem? (i := 594) (by decide +kernel), List.mem_of_getElem? (i := 595) (by decide +kernel)⟩
theorem lw_p29 : lw_okq (⟨"UnlikeDrawnModel", "met", "(I)I"⟩, 27) := ⟨⟨by decide +kernel, by decide +kernel⟩, List.mem_of_getElem? (i := 600) (by decide +kernel), List.mem_of_getElem? (i := 700) (by decide +kernel), List.mem_of_getElem? (i := 701) (by decide +kernel)⟩
theorem lw_p30 : lw_okq (⟨"UnlikeDrawnModel", "lacks", "(III)I"⟩, 27) := ⟨⟨by decide +kernel, by decide +kernel⟩, List.mem_of_getElem? (i := 600) (by decide +kernel), List.mem_of_getElem? (i := 712) (by decide +kernel), List.mem_of_getElem? (i := 713) (by decide +kernel)⟩
theorem lw_p31 : lw_okq (⟨"UnlikeDrawnModel", "isHead", "(I)Z"⟩, 27) := ⟨⟨by decide +kernel, by decide +kernel⟩, List.mem_of_getElem? (i := 600) (by decide +kernel), List.mem_of_getElem? (i := 736) (by decide +kernel), List.mem_of_getElem? (i := 737) (by decide +kernel)⟩
def lw_privs_2 : List (MethodName × Nat) := [(⟨"UnlikeDrawn", "nameFor", "(LUnlikeDrawn$Knower;LUnlikeDrawn$Sketch;)I"⟩, 17), (⟨"UnlikeDrawn", "marginOf", "(LUnlikeDrawn$Knower;LUnlikeDrawn$Sketch;I)I"⟩, 17), (⟨"UnlikeDrawn", "leastMonster", "(I)I"⟩, 17), (⟨"UnlikeDrawn", "tryParts", "(III)V"⟩, 17), (⟨"UnlikeDrawn", "leastNamed", "(LUnlikeDrawn$Knower;I)I"⟩, 17), (⟨"UnlikeDrawn", "isNamedBy", "(LUnlikeDrawn$Knower;III)Z"⟩, 17), (⟨"UnlikeDrawn", "bestNamed", "(LUnlikeDrawn$Knower;I)I"⟩, 17), (⟨"UnlikeDrawn", "refusalOfParts", "(IIII)I"⟩, 17), (⟨"UnlikeDrawn", "putBack", "(III)I"⟩, 17), (⟨"UnlikeDrawn", "furthestOff", "()I"⟩, 17), (⟨"UnlikeDrawn", "monsters", "()I"⟩, 17), (⟨"UnlikeDrawn", "digestOfDrawing", "(JI)J"⟩, 17), (⟨"UnlikeDrawn", "digestOfKnower", "(JI)J"⟩, 17), (⟨"UnlikeDrawnModel", "met", "(I)I"⟩, 27), (⟨"UnlikeDrawnModel", "lacks", "(III)I"⟩, 27), (⟨"UnlikeDrawnModel", "isHead", "(I)Z"⟩, 27)]
theorem lw_r2 : ∀ q ∈ lw_privs_2, lw_okq q := List.forall_mem_cons.mpr ⟨lw_p16, List.forall_mem_cons.mpr ⟨lw_p17, List.forall_mem_cons.mpr ⟨lw_p18, List.forall_mem_cons.mpr ⟨lw_p19, List.forall_mem_cons.mpr ⟨lw_p20, List.forall_mem_cons.mpr ⟨lw_p21, List.forall_mem_cons.mpr ⟨lw_p22, List.forall_mem_cons.mpr ⟨lw_p23, List.forall_mem_cons.mpr ⟨lw_p24, List.forall_mem_cons.mpr ⟨lw_p25, List.forall_mem_cons.mpr ⟨lw_p26, List.forall_mem_cons.mpr ⟨lw_p27, List.forall_mem_cons.mpr ⟨lw_p28, List.forall_mem_cons.mpr ⟨lw_p29, List.forall_mem_cons.mpr ⟨lw_p30, List.forall_mem_cons.mpr ⟨lw_p31, fun _ h => absurd h List.not_mem_nil⟩⟩⟩⟩⟩⟩⟩⟩⟩⟩⟩⟩⟩⟩⟩⟩
theorem lw_p32 : lw_okq (⟨"UnlikeDrawnModel", "isSet", "(I)Z"⟩, 27) := ⟨⟨by decide +kernel, by decide +kernel⟩, List.mem_of_getElem? (i := 600) (by decide +kernel), List.mem_of_getElem? (i := 754) (by decide +kernel), List.mem_of_getElem? (i := 755) (by decide +kernel)⟩
theorem lw_p33 : lw_okq (⟨"UnlikeDrawnModel", "meanOf", "(II)I"⟩, 27) := ⟨⟨by decide +kernel, by decide +kernel⟩, List.mem_of_getElem? (i := 600) (by decide +kernel), List.mem_of_getElem? (i := 758) (by decide +kernel), List.mem_of_getElem? (i := 759) (by decide +kernel)⟩
theorem lw_p34 : lw_okq (⟨"UnlikeDrawnModel", "reads", "(I)I"⟩, 27) := ⟨⟨by decide +kernel, by decide +kernel⟩, List.mem_of_getElem? (i := 600) (by decide +kernel), List.mem_of_getElem? (i := 778) (by decide +kernel), List.mem_of_getElem? (i := 779) (by decide +kernel)⟩
theorem lw_p35 : lw_okq (⟨"UnlikeDrawnModel", "clears", "()V"⟩, 27) := ⟨⟨by decide +kernel, by decide +kernel⟩, List.mem_of_getElem? (i := 600) (by decide +kernel), List.mem_of_getElem? (i := 782) (by decide +kernel), List.mem_of_getElem? (i := 783) (by decide +kernel)⟩
theorem lw_p36 : lw_okq (⟨"UnlikeDrawnModel", "readsPiece", "(I)Z"⟩, 27) := ⟨⟨by decide +kernel, by decide +kernel⟩, List.mem_of_getElem? (i := 600) (by decide +kernel), List.mem_of_getElem? (i := 786) (by decide +kernel), List.mem_of_getElem? (i := 787) (by decide +kernel)⟩
theorem lw_p37 : lw_okq (⟨"UnlikeDrawnModel", "here", "(I)I"⟩, 27) := ⟨⟨by decide +kernel, by decide +kernel⟩, List.mem_of_getElem? (i := 600) (by decide +kernel), List.mem_of_getElem? (i := 790) (by decide +kernel), List.mem_of_getElem? (i := 791) (by decide +kernel)⟩
theorem lw_p38 : lw_okq (⟨"UnlikeDrawnModel", "number", "(I)I"⟩, 27) := ⟨⟨by decide +kernel, by decide +kernel⟩, List.mem_of_getElem? (i := 600) (by decide +kernel), List.mem_of_getElem? (i := 795) (by decide +kernel), List.mem_of_getElem? (i := 796) (by decide +kernel)⟩
theorem lw_p39 : lw_okq (⟨"UnlikeDrawnModel", "isLate", "(I)Z"⟩, 27) := ⟨⟨by decide +kernel, by decide +kernel⟩, List.mem_of_getElem? (i := 600) (by decide +kernel), List.mem_of_getElem? (i := 824) (by decide +kernel), List.mem_of_getElem? (i := 825) (by decide +kernel)⟩
theorem lw_p40 : lw_okq (⟨"UnlikeDrawnModel", "isDrawing", "(I)Z"⟩, 27) := ⟨⟨by decide +kernel, by decide +kernel⟩, List.mem_of_getElem? (i := 600) (by decide +kernel), List.mem_of_getElem? (i := 832) (by decide +kernel), List.mem_of_getElem? (i := 833) (by decide +kernel)⟩
theorem lw_p41 : lw_okq (⟨"UnlikeDrawnModel", "unlikeOf", "(II)I"⟩, 27) := ⟨⟨by decide +kernel, by decide +kernel⟩, List.mem_of_getElem? (i := 600) (by decide +kernel), List.mem_of_getElem? (i := 844) (by decide +kernel), List.mem_of_getElem? (i := 845) (by decide +kernel)⟩
theorem lw_p42 : lw_okq (⟨"UnlikeDrawnModel", "unlikeBy", "(II)I"⟩, 27) := ⟨⟨by decide +kernel, by decide +kernel⟩, List.mem_of_getElem? (i := 600) (by decide +kernel), List.mem_of_getElem? (i := 848) (by decide +kernel), List.mem_of_getElem? (i := 849) (by decide +kernel)⟩
theorem lw_p43 : lw_okq (⟨"UnlikeDrawnModel", "aboutOf", "(II)I"⟩, 27) := ⟨⟨by decide +kernel, by decide +kernel⟩, List.mem_of_getElem? (i := 600) (by decide +kernel), List.mem_of_getElem? (i := 859) (by decide +kernel), List.mem_of_getElem? (i := 860) (by decide +kernel)⟩
theorem lw_p44 : lw_okq (⟨"UnlikeDrawnModel", "isMonster", "(I)Z"⟩, 27) := ⟨⟨by decide +kernel, by decide +kernel⟩, List.mem_of_getElem? (i := 600) (by decide +kernel), List.mem_of_getElem? (i := 863) (by decide +kernel), List.mem_of_getElem? (i := 864) (by decide +kernel)⟩
theorem lw_p45 : lw_okq (⟨"UnlikeDrawnModel", "fromOf", "(I)I"⟩, 27) := ⟨⟨by decide +kernel, by decide +kernel⟩, List.mem_of_getElem? (i := 600) (by decide +kernel), List.mem_of_getElem? (i := 867) (by decide +kernel), List.mem_of_getElem? (i := 868) (by decide +kernel)⟩
theorem lw_p46 : lw_okq (⟨"UnlikeDrawnModel", "agesOf", "(I)I"⟩, 27) := ⟨⟨by decide +kernel, by decide +kernel⟩, List.mem_of_getElem? (i := 600) (by decide +kernel), List.mem_of_getElem? (i := 871) (by decide +kernel), List.mem_of_getElem? (i := 872) (by decide +kernel)⟩
theorem lw_p47 : lw_okq (⟨"UnlikeDrawnModel", "whoseOf", "(I)I"⟩, 27) := ⟨⟨by decide +kernel, by decide +kernel⟩, List.mem_of_getElem? (i := 600) (by decide +kernel), List.mem_of_getElem? (i := 875) (by decide +kernel), List.mem_of_getElem? (i := 876) (by decide +kernel)⟩
def lw_privs_3 : List (MethodName × Nat) := [(⟨"UnlikeDrawnModel", "isSet", "(I)Z"⟩, 27), (⟨"UnlikeDrawnModel", "meanOf", "(II)I"⟩, 27), (⟨"UnlikeDrawnModel", "reads", "(I)I"⟩, 27), (⟨"UnlikeDrawnModel", "clears", "()V"⟩, 27), (⟨"UnlikeDrawnModel", "readsPiece", "(I)Z"⟩, 27), (⟨"UnlikeDrawnModel", "here", "(I)I"⟩, 27), (⟨"UnlikeDrawnModel", "number", "(I)I"⟩, 27), (⟨"UnlikeDrawnModel", "isLate", "(I)Z"⟩, 27), (⟨"UnlikeDrawnModel", "isDrawing", "(I)Z"⟩, 27), (⟨"UnlikeDrawnModel", "unlikeOf", "(II)I"⟩, 27), (⟨"UnlikeDrawnModel", "unlikeBy", "(II)I"⟩, 27), (⟨"UnlikeDrawnModel", "aboutOf", "(II)I"⟩, 27), (⟨"UnlikeDrawnModel", "isMonster", "(I)Z"⟩, 27), (⟨"UnlikeDrawnModel", "fromOf", "(I)I"⟩, 27), (⟨"UnlikeDrawnModel", "agesOf", "(I)I"⟩, 27), (⟨"UnlikeDrawnModel", "whoseOf", "(I)I"⟩, 27)]
theorem lw_r3 : ∀ q ∈ lw_privs_3, lw_okq q := List.forall_mem_cons.mpr ⟨lw_p32, List.forall_mem_cons.mpr ⟨lw_p33, List.forall_mem_cons.mpr ⟨lw_p34, List.forall_mem_cons.mpr ⟨lw_p35, List.forall_mem_cons.mpr ⟨lw_p36, List.forall_mem_cons.mpr ⟨lw_p37, List.forall_mem_cons.mpr ⟨lw_p38, List.forall_mem_cons.mpr ⟨lw_p39, List.forall_mem_cons.mpr ⟨lw_p40, List.forall_mem_cons.mpr ⟨lw_p41, List.forall_mem_cons.mpr ⟨lw_p42, List.forall_mem_cons.mpr ⟨lw_p43, List.forall_mem_cons.mpr ⟨lw_p44, List.forall_mem_cons.mpr ⟨lw_p45, List.forall_mem_cons.mpr ⟨lw_p46, List.forall_mem_cons.mpr ⟨lw_p47, fun _ h => absurd h List.not_mem_nil⟩⟩⟩⟩⟩⟩⟩⟩⟩⟩⟩⟩⟩⟩⟩⟩
theorem lw_p48 : lw_okq (⟨"UnlikeDrawnModel", "isKnower", "(I)Z"⟩, 27) := ⟨⟨by decide +kernel, by decide +kernel⟩, List.mem_of_getElem? (i := 600) (by decide +kernel), List.mem_of_getElem? (i := 887) (by decide +kernel), List.mem_of_getElem? (i := 888) (by decide +kernel)⟩
theorem lw_p49 : lw_okq (⟨"UnlikeDrawnModel", "doesKnow", "(II)Z"⟩, 27) := ⟨⟨by decide +kernel, by decide +kernel⟩, List.mem_of_getElem? (i := 600) (by decide +kernel), List.mem_of_getElem? (i := 906) (by decide +kernel), List.mem_of_getElem? (i := 907) (by decide +kernel)⟩
theorem lw_p50 : lw_okq (⟨"UnlikeDrawnModel", "sees", "(I)V"⟩, 27) := ⟨⟨by decide +kernel, by decide +kernel⟩, List.mem_of_getElem? (i := 600) (by decide +kernel), List.mem_of_getElem? (i := 910) (by decide +kernel), List.mem_of_getElem? (i := 911) (by decide +kernel)⟩
theorem lw_p51 : lw_okq (⟨"UnlikeDrawnModel", "findScore", "(II)V"⟩, 27) := ⟨⟨by decide +kernel, by decide +kernel⟩, List.mem_of_getElem? (i := 600) (by decide +kernel), List.mem_of_getElem? (i := 914) (by decide +kernel), List.mem_of_getElem? (i := 915) (by decide +kernel)⟩
theorem lw_p52 : lw_okq (⟨"UnlikeDrawnModel", "namedOf", "(III)I"⟩, 27) := ⟨⟨by decide +kernel, by decide +kernel⟩, List.mem_of_getElem? (i := 600) (by decide +kernel), List.mem_of_getElem? (i := 928) (by decide +kernel), List.mem_of_getElem? (i := 929) (by decide +kernel)⟩
theorem lw_p53 : lw_okq (⟨"UnlikeDrawnModel", "namedBy", "(I)I"⟩, 27) := ⟨⟨by decide +kernel, by decide +kernel⟩, List.mem_of_getElem? (i := 600) (by decide +kernel), List.mem_of_getElem? (i := 932) (by decide +kernel), List.mem_of_getElem? (i := 933) (by decide +kernel)⟩
theorem lw_p54 : lw_okq (⟨"UnlikeDrawnModel", "marginOf", "(II)I"⟩, 27) := ⟨⟨by decide +kernel, by decide +kernel⟩, List.mem_of_getElem? (i := 600) (by decide +kernel), List.mem_of_getElem? (i := 939) (by decide +kernel), List.mem_of_getElem? (i := 940) (by decide +kernel)⟩
theorem lw_p55 : lw_okq (⟨"UnlikeDrawnModel", "sees", "(IIII)V"⟩, 27) := ⟨⟨by decide +kernel, by decide +kernel⟩, List.mem_of_getElem? (i := 600) (by decide +kernel), List.mem_of_getElem? (i := 947) (by decide +kernel), List.mem_of_getElem? (i := 948) (by decide +kernel)⟩
theorem lw_p56 : lw_okq (⟨"UnlikeDrawnModel", "isAsked", "(IIII)Z"⟩, 27) := ⟨⟨by decide +kernel, by decide +kernel⟩, List.mem_of_getElem? (i := 600) (by decide +kernel), List.mem_of_getElem? (i := 955) (by decide +kernel), List.mem_of_getElem? (i := 956) (by decide +kernel)⟩
theorem lw_p57 : lw_okq (⟨"UnlikeDrawnModel", "isEnough", "(IIIII)Z"⟩, 27) := ⟨⟨by decide +kernel, by decide +kernel⟩, List.mem_of_getElem? (i := 600) (by decide +kernel), List.mem_of_getElem? (i := 962) (by decide +kernel), List.mem_of_getElem? (i := 963) (by decide +kernel)⟩
theorem lw_p58 : lw_okq (⟨"UnlikeDrawnModel", "backOf", "(II)I"⟩, 27) := ⟨⟨by decide +kernel, by decide +kernel⟩, List.mem_of_getElem? (i := 600) (by decide +kernel), List.mem_of_getElem? (i := 978) (by decide +kernel), List.mem_of_getElem? (i := 979) (by decide +kernel)⟩
theorem lw_p59 : lw_okq (⟨"UnlikeDrawnModel", "nearOf", "(II)I"⟩, 27) := ⟨⟨by decide +kernel, by decide +kernel⟩, List.mem_of_getElem? (i := 600) (by decide +kernel), List.mem_of_getElem? (i := 986) (by decide +kernel), List.mem_of_getElem? (i := 987) (by decide +kernel)⟩
theorem lw_p60 : lw_okq (⟨"UnlikeDrawnModel", "witnessOf", "(III)I"⟩, 27) := ⟨⟨by decide +kernel, by decide +kernel⟩, List.mem_of_getElem? (i := 600) (by decide +kernel), List.mem_of_getElem? (i := 994) (by decide +kernel), List.mem_of_getElem? (i := 995) (by decide +kernel)⟩
def lw_privs_4 : List (MethodName × Nat) := [(⟨"UnlikeDrawnModel", "isKnower", "(I)Z"⟩, 27), (⟨"UnlikeDrawnModel", "doesKnow", "(II)Z"⟩, 27), (⟨"UnlikeDrawnModel", "sees", "(I)V"⟩, 27), (⟨"UnlikeDrawnModel", "findScore", "(II)V"⟩, 27), (⟨"UnlikeDrawnModel", "namedOf", "(III)I"⟩, 27), (⟨"UnlikeDrawnModel", "namedBy", "(I)I"⟩, 27), (⟨"UnlikeDrawnModel", "marginOf", "(II)I"⟩, 27), (⟨"UnlikeDrawnModel", "sees", "(IIII)V"⟩, 27), (⟨"UnlikeDrawnModel", "isAsked", "(IIII)Z"⟩, 27), (⟨"UnlikeDrawnModel", "isEnough", "(IIIII)Z"⟩, 27), (⟨"UnlikeDrawnModel", "backOf", "(II)I"⟩, 27), (⟨"UnlikeDrawnModel", "nearOf", "(II)I"⟩, 27), (⟨"UnlikeDrawnModel", "witnessOf", "(III)I"⟩, 27)]
theorem lw_r4 : ∀ q ∈ lw_privs_4, lw_okq q := List.forall_mem_cons.mpr ⟨lw_p48, List.forall_mem_cons.mpr ⟨lw_p49, List.forall_mem_cons.mpr ⟨lw_p50, List.forall_mem_cons.mpr ⟨lw_p51, List.forall_mem_cons.mpr ⟨lw_p52, List.forall_mem_cons.mpr ⟨lw_p53, List.forall_mem_cons.mpr ⟨lw_p54, List.forall_mem_cons.mpr ⟨lw_p55, List.forall_mem_cons.mpr ⟨lw_p56, List.forall_mem_cons.mpr ⟨lw_p57, List.forall_mem_cons.mpr ⟨lw_p58, List.forall_mem_cons.mpr ⟨lw_p59, List.forall_mem_cons.mpr ⟨lw_p60, fun _ h => absurd h List.not_mem_nil⟩⟩⟩⟩⟩⟩⟩⟩⟩⟩⟩⟩⟩
def lw_privs : List (MethodName × Nat) := lw_privs_1 ++ (lw_privs_2 ++ (lw_privs_3 ++ (lw_privs_4)))
def lw_tbl : List Cond := k2_sels lw_privs ++ tables_1
theorem lw_privs_ok : ∀ q ∈ lw_privs, lw_okq q := by
  show ∀ q ∈ lw_privs_1 ++ (lw_privs_2 ++ (lw_privs_3 ++ (lw_privs_4))), lw_okq q
  exact List.forall_mem_append.mpr ⟨lw_r1, List.forall_mem_append.mpr ⟨lw_r2, List.forall_mem_append.mpr ⟨lw_r3, lw_r4⟩⟩⟩
def uR0 : String := "UnlikeDrawn$Fraction"
def uT0 : u_T := fun k => match k with
  | 0 => ("UnlikeDrawn$Fraction", "above", "J", false)
  | _ => ("UnlikeDrawn$Fraction", "below", "J", false)
def uY0 : Nat → FieldType := fun k => match k with
  | 0 => .long
  | _ => .long
def uR1 : String := "UnlikeDrawn$Hand"
def uT1 : u_T := fun k => match k with
  | 0 => ("UnlikeDrawn$Hand", "text", "[I", true)
  | 1 => ("UnlikeDrawn$Hand", "tenths", "[I", true)
  | 2 => ("UnlikeDrawn$Hand", "length", "I", false)
  | _ => ("UnlikeDrawn$Hand", "fault", "I", false)
def uY1 : Nat → FieldType := fun k => match k with
  | 0 => .array .int
  | 1 => .array .int
  | 2 => .int
  | _ => .int
def uR2 : String := "UnlikeDrawn$Head"
def uT2 : u_T := fun k => match k with
  | _ => ("UnlikeDrawn$Head", "places", "[I", true)
def uY2 : Nat → FieldType := fun k => match k with
  | _ => .array .int
def uR3 : String := "UnlikeDrawn$Knower"
def uT3 : u_T := fun k => match k with
  | 0 => ("UnlikeDrawn$Knower", "mean", "[I", true)
  | _ => ("UnlikeDrawn$Knower", "known", "I", false)
def uY3 : Nat → FieldType := fun k => match k with
  | 0 => .array .int
  | _ => .int
def uR4 : String := "UnlikeDrawn$Sheet"
def uT4 : u_T := fun k => match k with
  | 0 => ("UnlikeDrawn$Sheet", "items", "[I", true)
  | 1 => ("UnlikeDrawn$Sheet", "form", "I", false)
  | _ => ("UnlikeDrawn$Sheet", "size", "I", false)
def uY4 : Nat → FieldType := fun k => match k with
  | 0 => .array .int
  | 1 => .int
  | _ => .int
def uR5 : String := "UnlikeDrawn$Sketch"
def uT5 : u_T := fun k => match k with
  | 0 => ("UnlikeDrawn$Sketch", "base", "[I", true)
  | 1 => ("UnlikeDrawn$Sketch", "lines", "[I", true)
  | 2 => ("UnlikeDrawn$Sketch", "of", "I", false)
  | 3 => ("UnlikeDrawn$Sketch", "year", "I", false)
  | 4 => ("UnlikeDrawn$Sketch", "kind", "I", false)
  | _ => ("UnlikeDrawn$Sketch", "source", "I", false)
def uY5 : Nat → FieldType := fun k => match k with
  | 0 => .array .int
  | 1 => .array .int
  | 2 => .int
  | 3 => .int
  | 4 => .int
  | _ => .int
def uR6 : String := "UnlikeDrawn"
def uT6 : u_T := fun k => match k with
  | 0 => ("UnlikeDrawn", "heads", "[LUnlikeDrawn$Head;", true)
  | 1 => ("UnlikeDrawn", "hands", "[LUnlikeDrawn$Hand;", true)
  | 2 => ("UnlikeDrawn", "drawings", "[LUnlikeDrawn$Sketch;", true)
  | 3 => ("UnlikeDrawn", "knowers", "[LUnlikeDrawn$Knower;", true)
  | 4 => ("UnlikeDrawn", "sheets", "[LUnlikeDrawn$Sheet;", true)
  | 5 => ("UnlikeDrawn", "headCount", "I", false)
  | 6 => ("UnlikeDrawn", "drawingCount", "I", false)
  | 7 => ("UnlikeDrawn", "knowerCount", "I", false)
  | 8 => ("UnlikeDrawn", "ruin", "I", false)
  | 9 => ("UnlikeDrawn", "lag", "I", false)
  | 10 => ("UnlikeDrawn", "odd", "I", false)
  | 11 => ("UnlikeDrawn", "latestFinding", "I", false)
  | 12 => ("UnlikeDrawn", "trial", "LUnlikeDrawn$Sketch;", true)
  | 13 => ("UnlikeDrawn", "meanRow", "[I", true)
  | 14 => ("UnlikeDrawn", "offRow", "[I", true)
  | 15 => ("UnlikeDrawn", "fraction", "LUnlikeDrawn$Fraction;", true)
  | _ => ("UnlikeDrawn", "greatest", "LUnlikeDrawn$Fraction;", true)
def uY6 : Nat → FieldType := fun k => match k with
  | 0 => .array (.object "UnlikeDrawn$Head")
  | 1 => .array (.object "UnlikeDrawn$Hand")
  | 2 => .array (.object "UnlikeDrawn$Sketch")
  | 3 => .array (.object "UnlikeDrawn$Knower")
  | 4 => .array (.object "UnlikeDrawn$Sheet")
  | 5 => .int
  | 6 => .int
  | 7 => .int
  | 8 => .int
  | 9 => .int
  | 10 => .int
  | 11 => .int
  | 12 => .object "UnlikeDrawn$Sketch"
  | 13 => .array .int
  | 14 => .array .int
  | 15 => .object "UnlikeDrawn$Fraction"
  | _ => .object "UnlikeDrawn$Fraction"
def uR7 : String := "UnlikeDrawnModel"
def uT7 : u_T := fun k => match k with
  | 0 => ("UnlikeDrawnModel", "forms", "[I", true)
  | 1 => ("UnlikeDrawnModel", "sizes", "[I", true)
  | 2 => ("UnlikeDrawnModel", "items", "[I", true)
  | 3 => ("UnlikeDrawnModel", "moved", "[I", true)
  | 4 => ("UnlikeDrawnModel", "latest", "I", false)
  | 5 => ("UnlikeDrawnModel", "heads", "I", false)
  | 6 => ("UnlikeDrawnModel", "places", "[I", true)
  | 7 => ("UnlikeDrawnModel", "text", "[I", true)
  | 8 => ("UnlikeDrawnModel", "typed", "[I", true)
  | 9 => ("UnlikeDrawnModel", "at", "I", false)
  | 10 => ("UnlikeDrawnModel", "tenthsOf", "[I", true)
  | 11 => ("UnlikeDrawnModel", "settings", "[I", true)
  | 12 => ("UnlikeDrawnModel", "drawings", "I", false)
  | 13 => ("UnlikeDrawnModel", "drawnHead", "[I", true)
  | 14 => ("UnlikeDrawnModel", "drawnYear", "[I", true)
  | 15 => ("UnlikeDrawnModel", "drawnKind", "[I", true)
  | 16 => ("UnlikeDrawnModel", "copiedFrom", "[I", true)
  | 17 => ("UnlikeDrawnModel", "lines", "[I", true)
  | 18 => ("UnlikeDrawnModel", "means", "[I", true)
  | 19 => ("UnlikeDrawnModel", "knowers", "I", false)
  | 20 => ("UnlikeDrawnModel", "knows", "[I", true)
  | 21 => ("UnlikeDrawnModel", "own", "[I", true)
  | 22 => ("UnlikeDrawnModel", "seen", "[I", true)
  | 23 => ("UnlikeDrawnModel", "seenMonster", "Z", false)
  | 24 => ("UnlikeDrawnModel", "scoreAbove", "J", false)
  | 25 => ("UnlikeDrawnModel", "scoreBelow", "J", false)
  | _ => ("UnlikeDrawnModel", "off", "[I", true)
def uY7 : Nat → FieldType := fun k => match k with
  | 0 => .array .int
  | 1 => .array .int
  | 2 => .array .int
  | 3 => .array .int
  | 4 => .int
  | 5 => .int
  | 6 => .array .int
  | 7 => .array .int
  | 8 => .array .int
  | 9 => .int
  | 10 => .array .int
  | 11 => .array .int
  | 12 => .int
  | 13 => .array .int
  | 14 => .array .int
  | 15 => .array .int
  | 16 => .array .int
  | 17 => .array .int
  | 18 => .array .int
  | 19 => .int
  | 20 => .array .int
  | 21 => .array .int
  | 22 => .array .int
  | 23 => .boolean
  | 24 => .long
  | 25 => .long
  | _ => .array .int
def uCls : List vw_C := [(uR0, uT0, 2), (uR1, uT1, 4), (uR2, uT2, 1), (uR3, uT3, 2), (uR4, uT4, 3), (uR5, uT5, 6), (uR6, uT6, 17), (uR7, uT7, 27)]
def uNest : Cond := .methodLinkNest "UnlikeDrawn$Hand" 52 ⟨"UnlikeDrawn", "isPart", "(I)Z"⟩ "UnlikeDrawn"
end
section
/-! ===== THE CLEAN LAYER: one world of fixed cells (the class's object and the reference's), memory as two tables of numbers; CW: a walk over it; CS: a contract over it ===== -/
def gt : List Cond := lw_tbl.filter goodWord
theorem gt_at {w : Cond} (i : Nat) (h : tables_1[i]? = some w) (g : goodWord w = true) : w ∈ gt :=
  List.mem_filter.mpr ⟨List.mem_append_right _ (List.mem_of_getElem? h), g⟩
theorem gt_sel {q : MethodName × Nat} (i : Nat) (h : lw_privs[i]? = some q) : Cond.selects q.1.cls q.1 q.1 ∈ gt :=
  List.mem_filter.mpr ⟨List.mem_append_left _ (List.mem_map.mpr ⟨q, List.mem_of_getElem? h, rfl⟩), rfl⟩
theorem gt_good {w : Cond} (h : w ∈ gt) : goodWord w = true := (List.mem_filter.mp h).2

abbrev Mem : Type := (Nat → Nat → Int32) × (Nat → Nat → Int64)
abbrev Fk : Type := Nat ⊕ Bool
abbrev Shp : Type := Nat ⊕ (Nat × Nat × (Nat → Nat)) ⊕ (Nat × List Fk)
abbrev MI : Type := MethodName × ByteArray × Nat × Option FieldType × Nat × Nat
def cv (ad : Nat → Nat) : Value → Value
  | .ref a => .ref (ad a)
  | .int x => .int x
  | .long x => .long x
  | .float x => .float x
  | .double x => .double x
  | .null => .null
  | .retAddr x => .retAddr x
theorem cv_cat (ad : Nat → Nat) (v : Value) : (cv ad v).category = v.category := by cases v <;> rfl

def fI : Fk := .inr false
def fJ : Fk := .inr true
def shObj (k : Nat) : Nat × List Fk := match k with
  | 0 => (6, [.inl 1, .inl 2, .inl 3, .inl 4, .inl 5, fI, fI, fI, fI, fI, fI, fI, .inl 130, .inl 6, .inl 7, .inl 8, .inl 9])
  | _ => (7, [.inl 1001, .inl 1002, .inl 1003, .inl 1004, fI, fI, .inl 1007, .inl 1008, .inl 1009, fI, .inl 1011, .inl 1012, fI, .inl 1014, .inl 1015, .inl 1016, .inl 1017, .inl 1018, .inl 1019, fI, .inl 1021, .inl 1022, .inl 1023, fI, fJ, fJ, .inl 1027])
def shM (k : Nat) : Shp := match k with
  | 1000 => .inr (.inr (shObj 1))
  | 1001 => .inl 4
  | 1002 => .inl 4
  | 1003 => .inl 240
  | 1004 => .inl 60
  | 1007 => .inl 64
  | 1008 => .inl 160
  | 1009 => .inl 4
  | 1011 => .inl 8
  | 1012 => .inl 3
  | 1014 => .inl 30
  | 1015 => .inl 30
  | 1016 => .inl 30
  | 1017 => .inl 30
  | 1018 => .inl 240
  | 1019 => .inl 240
  | 1021 => .inl 4
  | 1022 => .inl 32
  | 1023 => .inl 8
  | _ => .inl 8
def shC (k : Nat) : Shp := match k with
  | 0 => .inr (.inr (shObj 0))
  | 1 => .inr (.inl (1, 8, fun i => 10 + i))
  | 2 => .inr (.inl (2, 4, fun i => 30 + i))
  | 3 => .inr (.inl (3, 30, fun i => 100 + i))
  | 4 => .inr (.inl (4, 4, fun i => 60 + i))
  | 5 => .inr (.inl (5, 4, fun i => 80 + i))
  | 6 => .inl 8
  | 7 => .inl 8
  | _ => .inr (.inr (0, [fJ, fJ]))
def uSh (k : Nat) : Shp :=
  if k < 10 then shC k
  else if k < 20 then .inr (.inr (2, [.inl (k + 10)]))
  else if k < 30 then .inl 8
  else if k < 40 then .inr (.inr (1, [.inl (k + 10), .inl (k + 20), fI, fI]))
  else if k < 50 then .inl 40
  else if k < 60 then .inl 8
  else if k < 70 then .inr (.inr (3, [.inl (k + 10), fI]))
  else if k < 80 then .inl 8
  else if k < 90 then .inr (.inr (4, [.inl (k + 10), fI, fI]))
  else if k < 100 then .inl 60
  else if k < 200 then .inr (.inr (5, [.inl (k + 100), .inl (k + 200), fI, fI, fI, fI]))
  else if k < 400 then .inl 8
  else shM k
def uIds : List Nat := List.range 10 ++ (List.range 8).map (10 + ·) ++ (List.range 8).map (20 + ·) ++ (List.range 4).map (30 + ·) ++ (List.range 4).map (40 + ·) ++ (List.range 4).map (50 + ·) ++ (List.range 4).map (60 + ·) ++ (List.range 4).map (70 + ·) ++ (List.range 4).map (80 + ·) ++ (List.range 4).map (90 + ·) ++ (List.range 31).map (100 + ·) ++ (List.range 31).map (200 + ·) ++ (List.range 31).map (300 + ·) ++ [1000, 1001, 1002, 1003, 1004, 1007, 1008, 1009, 1011, 1012, 1014, 1015, 1016, 1017, 1018, 1019, 1021, 1022, 1023, 1027]
set_option maxRecDepth 20000 in
theorem uIds_nd : uIds.Nodup := by decide +kernel
theorem uIds_inj {i j k : Nat} (hi : uIds[i]? = some k) (hj : uIds[j]? = some k) : i = j := by
  exact (List.getElem?_inj (List.getElem?_eq_some_iff.mp hi).1 uIds_nd).mp (hi.trans hj.symm)

def ucfv (ad : Nat → Nat) (M : Mem) (k j : Nat) : Fk → Value
  | .inl r => .ref (ad r)
  | .inr false => .int (M.1 k j)
  | .inr true => .long (M.2 k j)
def ucfs (ad : Nat → Nat) (M : Mem) (k : Nat) (j : Nat) : List Fk → List Value
  | [] => []
  | f :: fs => ucfv ad M k j f :: ucfs ad M k (j + 1) fs
theorem ucfs_get {ad : Nat → Nat} {M : Mem} {k : Nat} : ∀ {fs : List Fk} {j i : Nat} {f : Fk}, fs[i]? = some f → (ucfs ad M k j fs)[i]? = some (ucfv ad M k (j + i) f)
  | [], j, i, f, h => by simp at h
  | g :: fs, j, 0, f, h => by
    simp at h
    subst h
    simp [ucfs]
  | g :: fs, j, i + 1, f, h => by
    have h' : fs[i]? = some f := by simpa using h
    have := ucfs_get (ad := ad) (M := M) (k := k) (j := j + 1) h'
    simp only [ucfs, List.getElem?_cons_succ, this]
    congr 2
    omega
theorem ucfs_len {ad : Nat → Nat} {M : Mem} {k : Nat} : ∀ {fs : List Fk} {j : Nat}, (ucfs ad M k j fs).length = fs.length
  | [], _ => rfl
  | _ :: fs, j => by simp [ucfs, ucfs_len (fs := fs)]
def uCell (dA : Nat → ClassId) (ad : Nat → Nat) (M : Mem) (k : Nat) : va_E := match uSh k with
  | .inl n => .inl (dA 0, n, .inl (M.1 k))
  | .inr (.inl (t, n, g)) => .inl (dA t, n, .inr (.inr (.inr (.inr (fun i => some (ad (g i)))))))
  | .inr (.inr (ci, fs)) => .inr (ci, ucfs ad M k 0 fs)
def uCells (dA : Nat → ClassId) (ad : Nat → Nat) (M : Mem) : va_W := uIds.map (fun k => (ad k, uCell dA ad M k))
theorem uCells_at {dA : Nat → ClassId} {ad : Nat → Nat} {M : Mem} {k : Nat} (hk : k ∈ uIds) : ∃ q : Nat, (uCells dA ad M)[q]? = some (ad k, uCell dA ad M k) ∧ uIds[q]? = some k := by
  obtain ⟨q, hq⟩ := List.getElem?_of_mem hk
  exact ⟨q, by simp [uCells, List.getElem?_map, hq], hq⟩
theorem uCells_set {dA : Nat → ClassId} {ad : Nat → Nat} {M M' : Mem} {k q : Nat} (hq : uIds[q]? = some k) (h : ∀ j, j ≠ k → uCell dA ad M' j = uCell dA ad M j) : (uCells dA ad M).set q (ad k, uCell dA ad M' k) = uCells dA ad M' := by
  apply List.ext_getElem?
  intro i
  rw [List.getElem?_set]
  by_cases hi : q = i
  · subst hi
    have hlt : q < (uCells dA ad M).length := by
      have := (List.getElem?_eq_some_iff.mp hq).1
      simpa [uCells] using this
    rw [if_pos rfl, if_pos hlt]
    simp [uCells, List.getElem?_map, hq]
  · rw [if_neg hi]
    simp only [uCells, List.getElem?_map]
    cases hk : uIds[i]? with
    | none => rfl
    | some k' =>
      have hne : k' ≠ k := by
        intro e
        subst e
        exact hi (uIds_inj hq hk)
      simp [h k' hne]
def uInj (ad : Nat → Nat) : Prop := ∀ i ∈ uIds, ∀ j ∈ uIds, ad i = ad j → i = j
def uA (ad : Nat → Nat) : Nat → Prop := fun q => ∃ k ∈ uIds, q = ad k
theorem uD {dA : Nat → ClassId} {ad : Nat → Nat} {M : Mem} (h : uInj ad) : va_D (uA ad) (uCells dA ad M) := by
  refine ⟨?_, ?_⟩
  · intro i j p q hi hj e
    simp only [uCells, List.getElem?_map, Option.map_eq_some_iff] at hi hj
    obtain ⟨k1, h1, rfl⟩ := hi
    obtain ⟨k2, h2, rfl⟩ := hj
    have := h k1 (List.mem_of_getElem? h1) k2 (List.mem_of_getElem? h2) e
    subst this
    exact uIds_inj h1 h2
  · intro i q hi
    simp only [uCells, List.getElem?_map, Option.map_eq_some_iff] at hi
    obtain ⟨k1, h1, rfl⟩ := hi
    exact ⟨k1, List.mem_of_getElem? h1, rfl⟩
def uTys (dA : Nat → ClassId) : List (ClassId × FieldType) := [(dA 0, .int), (dA 1, .object "UnlikeDrawn$Head"), (dA 2, .object "UnlikeDrawn$Hand"), (dA 3, .object "UnlikeDrawn$Sketch"), (dA 4, .object "UnlikeDrawn$Knower"), (dA 5, .object "UnlikeDrawn$Sheet")]
def uTyN (t : Nat) : String := match t with
  | 1 => "UnlikeDrawn$Head"
  | 2 => "UnlikeDrawn$Hand"
  | 3 => "UnlikeDrawn$Sketch"
  | 4 => "UnlikeDrawn$Knower"
  | _ => "UnlikeDrawn$Sheet"
def uKn (D : va_G) (dA : Nat → ClassId) (U : State) : Prop := va_K D uCls (uTys dA) U ∧ va_Nw uNest U
theorem uKn.moved {D : va_G} {dA : Nat → ClassId} {u U : State} (hW : u.WarmedH U.vm) (h : uKn D dA u) : uKn D dA U := ⟨va_K.moved hW.alike h.1, va_Nw.warmM hW h.2⟩
def uLn (u : MI) : List Cond := .code u.1 u.2.1 u.2.2.1 u.2.2.2.1 :: gt
def uRm (u : MI) : Room := { frames := u.2.2.2.2.1, cells := 0, slots := 0, locals := u.2.2.2.2.2 }
def uPc (D : va_G) (dA : Nat → ClassId) (ad : Nat → Nat) (args : List Value) (M : Mem) : Array Value → State → Prop := va_Pc (args.map (cv ad)) (fun U => va_P D uCls (uCells dA ad M) U.heap ∧ uKn D dA U ∧ uInj ad)
def uQc (D : va_G) (dA : Nat → ClassId) (ad : Nat → Nat) (post : Option Value → Mem → Prop) : Array Value → State → Outcome → State → Prop := fun _ st oc t => (∃ (v : Option Value) (M' : Mem), oc = .returned (v.map (cv ad)) ∧ post v M' ∧ va_P D uCls (uCells dA ad M') t.heap) ∧ va_F (uA ad) st t
def CS (u : MI) (args : List Value) (M : Mem) (post : Option Value → Mem → Prop) : Prop := ∀ (l : Launch) (D : va_G) (dA : Nat → ClassId) (ad : Nat → Nat), Met l u.1 (uLn u) (uRm u) (uPc D dA ad args M) (uQc D dA ad post) 0 0 (uA ad)
/-- locals, place by place -/
def al (ad : Nat → Nat) : Nat → List (Option Value) → List (Nat × Value)
  | _, [] => []
  | i, none :: L => al ad (i + 1) L
  | i, some v :: L => (i, cv ad v) :: al ad (i + 1) L
def lget : List (Option Value) → Nat → Option Value
  | [], _ => none
  | o :: _, 0 => o
  | _ :: L, n + 1 => lget L n
theorem al_mem {ad : Nat → Nat} : ∀ {L : List (Option Value)} {k j : Nat} {w : Value}, (j, w) ∈ al ad k L ↔ ∃ i v, lget L i = some v ∧ j = k + i ∧ w = cv ad v
  | [], k, j, w => by simp [al, lget]
  | none :: L, k, j, w => by
    rw [al, al_mem (L := L)]
    constructor
    · rintro ⟨i, v, h1, h2, h3⟩
      exact ⟨i + 1, v, h1, by omega, h3⟩
    · rintro ⟨i, v, h1, h2, h3⟩
      cases i with
      | zero => simp [lget] at h1
      | succ i => exact ⟨i, v, h1, by omega, h3⟩
  | some x :: L, k, j, w => by
    rw [al, List.mem_cons, al_mem (L := L)]
    constructor
    · rintro (h | ⟨i, v, h1, h2, h3⟩)
      · cases h
        exact ⟨0, x, rfl, rfl, rfl⟩
      · exact ⟨i + 1, v, h1, by omega, h3⟩
    · rintro ⟨i, v, h1, h2, h3⟩
      cases i with
      | zero =>
        left
        simp [lget] at h1
        subst h1
        simp [h2, h3]
      | succ i => exact Or.inr ⟨i, v, h1, by omega, h3⟩
def kl : Option Value → Option Value
  | some (.long _) => none
  | some (.double _) => none
  | some (.int x) => some (.int x)
  | some (.ref x) => some (.ref x)
  | some .null => some .null
  | some (.float x) => some (.float x)
  | some (.retAddr x) => some (.retAddr x)
  | none => none
def lset1 : List (Option Value) → Nat → Value → List (Option Value)
  | [], _, _ => []
  | _ :: L, 0, x => some x :: L
  | o :: L, 1, x => kl o :: lset1 L 0 x
  | o :: L, n + 2, x => o :: lset1 L (n + 1) x
def lset2 : List (Option Value) → Nat → Value → List (Option Value)
  | [], _, _ => []
  | [_], 0, x => [some x]
  | _ :: _ :: L, 0, x => some x :: none :: L
  | o :: L, 1, x => kl o :: lset2 L 0 x
  | o :: L, n + 2, x => o :: lset2 L (n + 1) x
theorem kl_some {o : Option Value} {v : Value} (h : kl o = some v) : o = some v ∧ ¬ v.category = 2 := by
  cases o with
  | none => simp [kl] at h
  | some w => cases w <;> simp [kl] at h <;> subst h <;> simp [Value.category]
theorem lset1_get : ∀ {L : List (Option Value)} {i j : Nat} {x v : Value}, lget (lset1 L i x) j = some v → (j = i ∧ v = x) ∨ (j ≠ i ∧ lget L j = some v ∧ ¬ (j + 1 = i ∧ v.category = 2))
  | [], i, j, x, v, h => by simp [lset1, lget] at h
  | o :: L, 0, 0, x, v, h => by
    simp [lset1, lget] at h
    exact Or.inl ⟨rfl, h.symm⟩
  | o :: L, 0, j + 1, x, v, h => by
    simp [lset1, lget] at h
    exact Or.inr ⟨by omega, h, by omega⟩
  | o :: L, 1, 0, x, v, h => by
    simp only [lset1, lget] at h
    obtain ⟨h1, h2⟩ := kl_some h
    exact Or.inr ⟨by omega, h1, fun q => h2 q.2⟩
  | o :: L, 1, j + 1, x, v, h => by
    simp only [lset1, lget] at h
    rcases lset1_get h with ⟨h1, h2⟩ | ⟨h1, h2, h3⟩
    · exact Or.inl ⟨by omega, h2⟩
    · exact Or.inr ⟨by omega, h2, fun q => by omega⟩
  | o :: L, i + 2, 0, x, v, h => by
    simp only [lset1, lget] at h
    exact Or.inr ⟨by omega, h, by omega⟩
  | o :: L, i + 2, j + 1, x, v, h => by
    simp only [lset1, lget] at h
    rcases lset1_get h with ⟨h1, h2⟩ | ⟨h1, h2, h3⟩
    · exact Or.inl ⟨by omega, h2⟩
    · exact Or.inr ⟨by omega, h2, fun q => h3 ⟨by omega, q.2⟩⟩
theorem lset2_get : ∀ {L : List (Option Value)} {i j : Nat} {x v : Value}, lget (lset2 L i x) j = some v → (j = i ∧ v = x) ∨ (j ≠ i ∧ j ≠ i + 1 ∧ lget L j = some v ∧ ¬ (j + 1 = i ∧ v.category = 2))
  | [], i, j, x, v, h => by simp [lset2, lget] at h
  | [o], 0, 0, x, v, h => by
    simp [lset2, lget] at h
    exact Or.inl ⟨rfl, h.symm⟩
  | [o], 0, j + 1, x, v, h => by simp [lset2, lget] at h
  | o :: o2 :: L, 0, 0, x, v, h => by
    simp [lset2, lget] at h
    exact Or.inl ⟨rfl, h.symm⟩
  | o :: o2 :: L, 0, 1, x, v, h => by simp [lset2, lget] at h
  | o :: o2 :: L, 0, j + 2, x, v, h => by
    simp [lset2, lget] at h
    exact Or.inr ⟨by omega, by omega, h, by omega⟩
  | o :: L, 1, 0, x, v, h => by
    cases L <;> simp only [lset2, lget] at h <;> obtain ⟨h1, h2⟩ := kl_some h <;> exact Or.inr ⟨by omega, by omega, h1, fun q => h2 q.2⟩
  | o :: L, 1, j + 1, x, v, h => by
    have h' : lget (lset2 L 0 x) j = some v := by cases L <;> simpa only [lset2, lget] using h
    rcases lset2_get h' with ⟨h1, h2⟩ | ⟨h1, h2, h3, h4⟩
    · exact Or.inl ⟨by omega, h2⟩
    · exact Or.inr ⟨by omega, by omega, h3, fun q => by omega⟩
  | o :: L, i + 2, 0, x, v, h => by
    have h' : o = some v := by cases L <;> simpa only [lset2, lget] using h
    exact Or.inr ⟨by omega, by omega, h', by omega⟩
  | o :: L, i + 2, j + 1, x, v, h => by
    have h' : lget (lset2 L (i + 1) x) j = some v := by cases L <;> simpa only [lset2, lget] using h
    rcases lset2_get h' with ⟨h1, h2⟩ | ⟨h1, h2, h3, h4⟩
    · exact Or.inl ⟨by omega, h2⟩
    · exact Or.inr ⟨by omega, by omega, h3, fun q => h4 ⟨by omega, q.2⟩⟩
theorem lv_has.mono {ls : Array Slot} {n : Nat} {l l' : List (Nat × Value)} (h : lv_has ls n l) (hs : ∀ q ∈ l', q ∈ l) : lv_has ls n l' := ⟨h.1, h.2.1, fun q hq => h.2.2 q (hs q hq)⟩
theorem al_set1 {ad : Nat → Nat} {ls : Array Slot} {n i : Nat} {L : List (Option Value)} {x : Value} (h : lv_has ls n ((i, cv ad x) :: (al ad 0 L).filter (fun q => !(q.1 == i) && !(q.1 + 1 == i && q.2.category == 2)))) : lv_has ls n (al ad 0 (lset1 L i x)) := by
  refine h.mono ?_
  rintro ⟨j, w⟩ hq
  obtain ⟨i', v, h1, h2, h3⟩ := al_mem.mp hq
  have h2 : j = i' := by omega
  subst h2; subst h3
  rcases lset1_get h1 with ⟨h4, h5⟩ | ⟨h4, h5, h6⟩
  · subst h4; subst h5
    exact List.mem_cons_self
  · refine List.mem_cons_of_mem _ (List.mem_filter.mpr ⟨al_mem.mpr ⟨j, v, h5, by omega, rfl⟩, ?_⟩)
    simp only [cv_cat]
    by_cases e : j + 1 = i
    · have : ¬ v.category = 2 := fun q => h6 ⟨e, q⟩
      simp [h4, this]
    · simp [h4, e]
theorem al_set2 {ad : Nat → Nat} {ls : Array Slot} {n i : Nat} {L : List (Option Value)} {x : Value} (h : lv_has ls n ((i, cv ad x) :: (al ad 0 L).filter (fun q => !(q.1 == i) && (!(q.1 == i + 1) && !(q.1 + 1 == i && q.2.category == 2))))) : lv_has ls n (al ad 0 (lset2 L i x)) := by
  refine h.mono ?_
  rintro ⟨j, w⟩ hq
  obtain ⟨i', v, h1, h2, h3⟩ := al_mem.mp hq
  have h2 : j = i' := by omega
  subst h2; subst h3
  rcases lset2_get h1 with ⟨h4, h5⟩ | ⟨h4, h4', h5, h6⟩
  · subst h4; subst h5
    exact List.mem_cons_self
  · refine List.mem_cons_of_mem _ (List.mem_filter.mpr ⟨al_mem.mpr ⟨j, v, h5, by omega, rfl⟩, ?_⟩)
    simp only [cv_cat]
    by_cases e : j + 1 = i
    · have : ¬ v.category = 2 := fun q => h6 ⟨e, q⟩
      simp [h4, h4', this]
    · simp [h4, h4', e]
theorem al_get {ad : Nat → Nat} {ls : Array Slot} {n i : Nat} {L : List (Option Value)} {v : Value} (h : lv_has ls n (al ad 0 L)) (hl : lget L i = some v) : ls[i]? = some (.val (cv ad v)) := h.2.2 (i, cv ad v) (al_mem.mpr ⟨i, v, hl, by omega, rfl⟩)
/-- what is fixed while a method's body runs -/
def Cx (u : MI) (p : Program) (s : State) (m : MethodId) (args : Array Value) (meth : Method) (c : Code) (D : va_G) (dA : Nat → ClassId) (ad : Nat → Nat) : Prop :=
  p.tables.exec = Jvm.exec ∧ c.code = u.2.1 ∧ c.maxLocals = u.2.2.1 ∧ s.vm.findClass u.1.cls = some m.cls ∧ (∀ w ∈ gt, w.before args s = true) ∧ meth.sig.returnType = u.2.2.2.1 ∧ meth.locks = false ∧ uKn D dA s ∧ uInj ad
def CW (u : MI) (post : Option Value → Mem → Prop) (pc : Nat) (L : List (Option Value)) (st : List Value) (M : Mem) : Prop :=
  ∀ (p : Program) (l : Launch) (e : Env) (s : State) (m : MethodId) (args : Array Value) (below : List Frame) (meth : Method) (c : Code) (D : va_G) (dA : Nat → ClassId) (ad : Nat → Nat) (H : Heap) (locs : List Loc) (ls : Array Slot),
    Cx u p s m args meth c D dA ad → va_P D uCls (uCells dA ad M) H → va_S (uA ad) s.heap H locs → lv_has ls u.2.2.1 (al ad 0 L) →
    W p l e (uRm u) s m args below meth c H locs 0 0 (MQ below (uQc D dA ad post) args s 0 0 (uA ad)) (F0 m pc ls (st.map (cv ad)))
def retI (Q : Int32 → Mem → Prop) : Option Value → Mem → Prop := fun v M => ∃ r : Int32, v = some (.int r) ∧ Q r M
def retJ (Q : Int64 → Mem → Prop) : Option Value → Mem → Prop := fun v M => ∃ r : Int64, v = some (.long r) ∧ Q r M
def retV (Q : Mem → Prop) : Option Value → Mem → Prop := fun v M => v = none ∧ Q M
def mG (M : Mem) (k j : Nat) : Int32 := M.1 k j
def jG (M : Mem) (k j : Nat) : Int64 := M.2 k j
def mS (M : Mem) (k j : Nat) (x : Int32) : Mem := (fun a b => if a = k ∧ b = j then x else M.1 a b, M.2)
def jS (M : Mem) (k j : Nat) (x : Int64) : Mem := (M.1, fun a b => if a = k ∧ b = j then x else M.2 a b)
def SO (a ci : Nat) (fs : List Fk) : Prop := uSh a = .inr (.inr (ci, fs)) ∧ a ∈ uIds
def SA (a n : Nat) : Prop := uSh a = .inl n ∧ a ∈ uIds
def SR (a t n : Nat) (g : Nat → Nat) : Prop := uSh a = .inr (.inl (t, n, g)) ∧ a ∈ uIds ∧ 1 ≤ t ∧ t ≤ 5
/-- the field k of class ci is what the entry idx of own's pool names -/
def FL (own : String) (idx ci k : Nat) : Prop := ∃ (C : String) (T : u_T) (N : Nat), uCls[ci]? = some (C, T, N) ∧ k < N ∧ Cond.fieldLink own idx (T k).1 (T k).2.1 (T k).2.2.1 ∈ gt
def FP (own : String) (idx ci k : Nat) (ty : FieldType) : Prop := ∃ (C : String) (T : u_T) (N : Nat), uCls[ci]? = some (C, T, N) ∧ k < N ∧ Cond.fieldLink own idx (T k).1 (T k).2.1 (T k).2.2.1 ∈ gt ∧ (T k).2.2.2 = false ∧ parseFieldDescriptor (T k).2.2.1 = some ty
theorem uIn0 : (u_ws uR0 uT0 2).all (fun w => decide (w ∈ tables_1) && goodWord w) = true := by decide +kernel
theorem uTyOk0 : ∀ k, k < 2 → parseFieldDescriptor (uT0 k).2.2.1 = some (uY0 k) := by decide +kernel
theorem uNm0 : ∀ a, a < 2 → ∀ b, b < 2 → a ≠ b → (uT0 a).2.1 ≠ (uT0 b).2.1 := by decide +kernel
theorem uIn1 : (u_ws uR1 uT1 4).all (fun w => decide (w ∈ tables_1) && goodWord w) = true := by decide +kernel
theorem uTyOk1 : ∀ k, k < 4 → parseFieldDescriptor (uT1 k).2.2.1 = some (uY1 k) := by decide +kernel
theorem uNm1 : ∀ a, a < 4 → ∀ b, b < 4 → a ≠ b → (uT1 a).2.1 ≠ (uT1 b).2.1 := by decide +kernel
theorem uIn2 : (u_ws uR2 uT2 1).all (fun w => decide (w ∈ tables_1) && goodWord w) = true := by decide +kernel
theorem uTyOk2 : ∀ k, k < 1 → parseFieldDescriptor (uT2 k).2.2.1 = some (uY2 k) := by decide +kernel
theorem uNm2 : ∀ a, a < 1 → ∀ b, b < 1 → a ≠ b → (uT2 a).2.1 ≠ (uT2 b).2.1 := by decide +kernel
theorem uIn3 : (u_ws uR3 uT3 2).all (fun w => decide (w ∈ tables_1) && goodWord w) = true := by decide +kernel
theorem uTyOk3 : ∀ k, k < 2 → parseFieldDescriptor (uT3 k).2.2.1 = some (uY3 k) := by decide +kernel
theorem uNm3 : ∀ a, a < 2 → ∀ b, b < 2 → a ≠ b → (uT3 a).2.1 ≠ (uT3 b).2.1 := by decide +kernel
theorem uIn4 : (u_ws uR4 uT4 3).all (fun w => decide (w ∈ tables_1) && goodWord w) = true := by decide +kernel
theorem uTyOk4 : ∀ k, k < 3 → parseFieldDescriptor (uT4 k).2.2.1 = some (uY4 k) := by decide +kernel
theorem uNm4 : ∀ a, a < 3 → ∀ b, b < 3 → a ≠ b → (uT4 a).2.1 ≠ (uT4 b).2.1 := by decide +kernel
theorem uIn5 : (u_ws uR5 uT5 6).all (fun w => decide (w ∈ tables_1) && goodWord w) = true := by decide +kernel
theorem uTyOk5 : ∀ k, k < 6 → parseFieldDescriptor (uT5 k).2.2.1 = some (uY5 k) := by decide +kernel
theorem uNm5 : ∀ a, a < 6 → ∀ b, b < 6 → a ≠ b → (uT5 a).2.1 ≠ (uT5 b).2.1 := by decide +kernel
theorem uIn6 : (u_ws uR6 uT6 17).all (fun w => decide (w ∈ tables_1) && goodWord w) = true := by decide +kernel
theorem uTyOk6 : ∀ k, k < 17 → parseFieldDescriptor (uT6 k).2.2.1 = some (uY6 k) := by decide +kernel
theorem uNm6 : ∀ a, a < 17 → ∀ b, b < 17 → a ≠ b → (uT6 a).2.1 ≠ (uT6 b).2.1 := by decide +kernel
theorem uIn7 : (u_ws uR7 uT7 27).all (fun w => decide (w ∈ tables_1) && goodWord w) = true := by decide +kernel
theorem uTyOk7 : ∀ k, k < 27 → parseFieldDescriptor (uT7 k).2.2.1 = some (uY7 k) := by decide +kernel
theorem uNm7 : ∀ a, a < 27 → ∀ b, b < 27 → a ≠ b → (uT7 a).2.1 ≠ (uT7 b).2.1 := by decide +kernel
theorem uAllIn {ws : List Cond} (h : ws.all (fun w => decide (w ∈ tables_1) && goodWord w) = true) : ∀ w ∈ ws, w ∈ gt := by
  intro w hw
  have h1 := List.all_eq_true.mp h w hw
  simp only [Bool.and_eq_true, decide_eq_true_eq] at h1
  exact List.mem_filter.mpr ⟨List.mem_append_right _ h1.1, h1.2⟩
theorem uCls_ok {ci : Nat} {C : String} {T : u_T} {N : Nat} (h : uCls[ci]? = some (C, T, N)) : (∀ w ∈ u_ws C T N, w ∈ gt) ∧ ∃ ty : Nat → FieldType, (∀ k, k < N → parseFieldDescriptor (T k).2.2.1 = some (ty k)) ∧ (∀ a, a < N → ∀ b, b < N → a ≠ b → (T a).2.1 ≠ (T b).2.1) := by
  match ci, h with
  | 0, h => cases h; exact ⟨uAllIn uIn0, uY0, uTyOk0, uNm0⟩
  | 1, h => cases h; exact ⟨uAllIn uIn1, uY1, uTyOk1, uNm1⟩
  | 2, h => cases h; exact ⟨uAllIn uIn2, uY2, uTyOk2, uNm2⟩
  | 3, h => cases h; exact ⟨uAllIn uIn3, uY3, uTyOk3, uNm3⟩
  | 4, h => cases h; exact ⟨uAllIn uIn4, uY4, uTyOk4, uNm4⟩
  | 5, h => cases h; exact ⟨uAllIn uIn5, uY5, uTyOk5, uNm5⟩
  | 6, h => cases h; exact ⟨uAllIn uIn6, uY6, uTyOk6, uNm6⟩
  | 7, h => cases h; exact ⟨uAllIn uIn7, uY7, uTyOk7, uNm7⟩
  | k + 8, h => simp [uCls] at h
theorem uNat : Cond.native arraycopyName ∈ gt := gt_at 340 (by decide +kernel) rfl
theorem uNatS : Cond.static arraycopyName ∈ gt := gt_at 339 (by decide +kernel) rfl
theorem uNatI : Cond.initialized "java/lang/System" ∈ gt := gt_at 11 (by decide +kernel) rfl
end
section
/-! ===== a row an instruction, over the clean layer ===== -/
theorem cw_iconst {u : MI} {post : Option Value → Mem → Prop} {pc : Nat} {L : List (Option Value)} {st : List Value} {M : Mem} {n : Int} {v : Int32} (hd : decode u.2.1 pc = .ok (.iconst n, 1)) (hv : Int32.ofInt n = v) (k : CW u post (pc + 1) L (.int v :: st) M) : CW u post pc L (st) M := by
  intro p l e s m args below meth c D dA ad H locs ls cx hP hS hL
  exact lv_iconst cx.1 cx.2.1 hd hv (k p l e s m args below meth c D dA ad H locs ls cx hP hS hL)
theorem cw_bipush {u : MI} {post : Option Value → Mem → Prop} {pc : Nat} {L : List (Option Value)} {st : List Value} {M : Mem} {n : Int} {v : Int32} (hd : decode u.2.1 pc = .ok (.bipush n, 2)) (hv : (Int8.ofInt n).toInt32 = v) (k : CW u post (pc + 2) L (.int v :: st) M) : CW u post pc L (st) M := by
  intro p l e s m args below meth c D dA ad H locs ls cx hP hS hL
  exact lv_bipush cx.1 cx.2.1 hd hv (k p l e s m args below meth c D dA ad H locs ls cx hP hS hL)
theorem cw_sipush {u : MI} {post : Option Value → Mem → Prop} {pc : Nat} {L : List (Option Value)} {st : List Value} {M : Mem} {n : Int} {v : Int32} (hd : decode u.2.1 pc = .ok (.sipush n, 3)) (hv : (Int16.ofInt n).toInt32 = v) (k : CW u post (pc + 3) L (.int v :: st) M) : CW u post pc L (st) M := by
  intro p l e s m args below meth c D dA ad H locs ls cx hP hS hL
  exact lv_sipush cx.1 cx.2.1 hd hv (k p l e s m args below meth c D dA ad H locs ls cx hP hS hL)
theorem cw_lconst {u : MI} {post : Option Value → Mem → Prop} {pc : Nat} {L : List (Option Value)} {st : List Value} {M : Mem} {n : Fin 2} {v : Int64} (hd : decode u.2.1 pc = .ok (.lconst n, 1)) (hv : Int64.ofNat (n : Nat) = v) (k : CW u post (pc + 1) L (.long v :: st) M) : CW u post pc L (st) M := by
  intro p l e s m args below meth c D dA ad H locs ls cx hP hS hL
  exact lv_lconst cx.1 cx.2.1 hd hv (k p l e s m args below meth c D dA ad H locs ls cx hP hS hL)
theorem cw_iload_n {u : MI} {post : Option Value → Mem → Prop} {pc : Nat} {L : List (Option Value)} {st : List Value} {M : Mem} {n : Fin 4} {x : Int32} (hd : decode u.2.1 pc = .ok (.iload_n n, 1)) (hl : lget L (n : Nat) = some (.int x)) (k : CW u post (pc + 1) L (.int x :: st) M) : CW u post pc L (st) M := by
  intro p l e s m args below meth c D dA ad H locs ls cx hP hS hL
  exact lv_iload_n cx.1 cx.2.1 hd rfl (al_get hL hl) (k p l e s m args below meth c D dA ad H locs ls cx hP hS hL)
theorem cw_iload {u : MI} {post : Option Value → Mem → Prop} {pc : Nat} {L : List (Option Value)} {st : List Value} {M : Mem} {i : Nat} {x : Int32} (hd : decode u.2.1 pc = .ok (.iload i, 2)) (hl : lget L i = some (.int x)) (k : CW u post (pc + 2) L (.int x :: st) M) : CW u post pc L (st) M := by
  intro p l e s m args below meth c D dA ad H locs ls cx hP hS hL
  exact lv_iload cx.1 cx.2.1 hd (al_get hL hl) (k p l e s m args below meth c D dA ad H locs ls cx hP hS hL)
theorem cw_istore_n {u : MI} {post : Option Value → Mem → Prop} {pc : Nat} {L : List (Option Value)} {st : List Value} {M : Mem} {i : Fin 4} {x : Int32} (hd : decode u.2.1 pc = .ok (.istore_n i, 1)) (hn : Nat.ble ((i : Nat) + 1) u.2.2.1 = true) (k : CW u post (pc + 1) (lset1 L (i : Nat) (.int x)) st M) : CW u post pc L (.int x :: st) M := by
  intro p l e s m args below meth c D dA ad H locs ls cx hP hS hL
  exact lv_istore_n cx.1 cx.2.1 hd rfl hL (Nat.le_of_ble_eq_true hn) rfl (fun ls' hL' => k p l e s m args below meth c D dA ad H locs ls' cx hP hS (al_set1 (x := .int x) hL'))
theorem cw_istore {u : MI} {post : Option Value → Mem → Prop} {pc : Nat} {L : List (Option Value)} {st : List Value} {M : Mem} {i : Nat} {x : Int32} (hd : decode u.2.1 pc = .ok (.istore i, 2)) (hn : Nat.ble (i + 1) u.2.2.1 = true) (k : CW u post (pc + 2) (lset1 L i (.int x)) st M) : CW u post pc L (.int x :: st) M := by
  intro p l e s m args below meth c D dA ad H locs ls cx hP hS hL
  exact lv_istore cx.1 cx.2.1 hd hL (Nat.le_of_ble_eq_true hn) rfl (fun ls' hL' => k p l e s m args below meth c D dA ad H locs ls' cx hP hS (al_set1 (x := .int x) hL'))
theorem cw_lload_n {u : MI} {post : Option Value → Mem → Prop} {pc : Nat} {L : List (Option Value)} {st : List Value} {M : Mem} {n : Fin 4} {x : Int64} (hd : decode u.2.1 pc = .ok (.lload_n n, 1)) (hl : lget L (n : Nat) = some (.long x)) (k : CW u post (pc + 1) L (.long x :: st) M) : CW u post pc L (st) M := by
  intro p l e s m args below meth c D dA ad H locs ls cx hP hS hL
  exact lv_lload_n cx.1 cx.2.1 hd rfl (al_get hL hl) (k p l e s m args below meth c D dA ad H locs ls cx hP hS hL)
theorem cw_lload {u : MI} {post : Option Value → Mem → Prop} {pc : Nat} {L : List (Option Value)} {st : List Value} {M : Mem} {i : Nat} {x : Int64} (hd : decode u.2.1 pc = .ok (.lload i, 2)) (hl : lget L i = some (.long x)) (k : CW u post (pc + 2) L (.long x :: st) M) : CW u post pc L (st) M := by
  intro p l e s m args below meth c D dA ad H locs ls cx hP hS hL
  exact lv_lload cx.1 cx.2.1 hd (al_get hL hl) (k p l e s m args below meth c D dA ad H locs ls cx hP hS hL)
theorem cw_lstore_n {u : MI} {post : Option Value → Mem → Prop} {pc : Nat} {L : List (Option Value)} {st : List Value} {M : Mem} {i : Fin 4} {x : Int64} (hd : decode u.2.1 pc = .ok (.lstore_n i, 1)) (hn : Nat.ble ((i : Nat) + 1 + 1) u.2.2.1 = true) (k : CW u post (pc + 1) (lset2 L (i : Nat) (.long x)) st M) : CW u post pc L (.long x :: st) M := by
  intro p l e s m args below meth c D dA ad H locs ls cx hP hS hL
  exact lv_lstore_n cx.1 cx.2.1 hd rfl hL (Nat.le_of_ble_eq_true hn) rfl (fun ls' hL' => k p l e s m args below meth c D dA ad H locs ls' cx hP hS (al_set2 (x := .long x) hL'))
theorem cw_lstore {u : MI} {post : Option Value → Mem → Prop} {pc : Nat} {L : List (Option Value)} {st : List Value} {M : Mem} {i : Nat} {x : Int64} (hd : decode u.2.1 pc = .ok (.lstore i, 2)) (hn : Nat.ble (i + 1 + 1) u.2.2.1 = true) (k : CW u post (pc + 2) (lset2 L i (.long x)) st M) : CW u post pc L (.long x :: st) M := by
  intro p l e s m args below meth c D dA ad H locs ls cx hP hS hL
  exact lv_lstore cx.1 cx.2.1 hd hL (Nat.le_of_ble_eq_true hn) rfl (fun ls' hL' => k p l e s m args below meth c D dA ad H locs ls' cx hP hS (al_set2 (x := .long x) hL'))
theorem cw_aload_n {u : MI} {post : Option Value → Mem → Prop} {pc : Nat} {L : List (Option Value)} {st : List Value} {M : Mem} {n : Fin 4} {x : Nat} (hd : decode u.2.1 pc = .ok (.aload_n n, 1)) (hl : lget L (n : Nat) = some (.ref x)) (k : CW u post (pc + 1) L (.ref x :: st) M) : CW u post pc L (st) M := by
  intro p l e s m args below meth c D dA ad H locs ls cx hP hS hL
  exact lv_aload_n cx.1 cx.2.1 hd rfl (al_get hL hl) (k p l e s m args below meth c D dA ad H locs ls cx hP hS hL)
theorem cw_aload {u : MI} {post : Option Value → Mem → Prop} {pc : Nat} {L : List (Option Value)} {st : List Value} {M : Mem} {i : Nat} {x : Nat} (hd : decode u.2.1 pc = .ok (.aload i, 2)) (hl : lget L i = some (.ref x)) (k : CW u post (pc + 2) L (.ref x :: st) M) : CW u post pc L (st) M := by
  intro p l e s m args below meth c D dA ad H locs ls cx hP hS hL
  exact lv_aload cx.1 cx.2.1 hd (al_get hL hl) (k p l e s m args below meth c D dA ad H locs ls cx hP hS hL)
theorem cw_astore_n {u : MI} {post : Option Value → Mem → Prop} {pc : Nat} {L : List (Option Value)} {st : List Value} {M : Mem} {i : Fin 4} {x : Nat} (hd : decode u.2.1 pc = .ok (.astore_n i, 1)) (hn : Nat.ble ((i : Nat) + 1) u.2.2.1 = true) (k : CW u post (pc + 1) (lset1 L (i : Nat) (.ref x)) st M) : CW u post pc L (.ref x :: st) M := by
  intro p l e s m args below meth c D dA ad H locs ls cx hP hS hL
  exact lv_astore_n cx.1 cx.2.1 hd rfl hL (Nat.le_of_ble_eq_true hn) rfl (fun ls' hL' => k p l e s m args below meth c D dA ad H locs ls' cx hP hS (al_set1 (x := .ref x) hL'))
theorem cw_astore {u : MI} {post : Option Value → Mem → Prop} {pc : Nat} {L : List (Option Value)} {st : List Value} {M : Mem} {i : Nat} {x : Nat} (hd : decode u.2.1 pc = .ok (.astore i, 2)) (hn : Nat.ble (i + 1) u.2.2.1 = true) (k : CW u post (pc + 2) (lset1 L i (.ref x)) st M) : CW u post pc L (.ref x :: st) M := by
  intro p l e s m args below meth c D dA ad H locs ls cx hP hS hL
  exact lv_astore cx.1 cx.2.1 hd hL (Nat.le_of_ble_eq_true hn) rfl (fun ls' hL' => k p l e s m args below meth c D dA ad H locs ls' cx hP hS (al_set1 (x := .ref x) hL'))
theorem cw_iinc {u : MI} {post : Option Value → Mem → Prop} {pc : Nat} {L : List (Option Value)} {st : List Value} {M : Mem} {i : Nat} {n : Int} {x : Int32} (hd : decode u.2.1 pc = .ok (.iinc i n, 3)) (hl : lget L i = some (.int x)) (hn : Nat.ble (i + 1) u.2.2.1 = true) (k : CW u post (pc + 3) (lset1 L i (.int (x + Int32.ofInt n))) st M) : CW u post pc L st M := by
  intro p l e s m args below meth c D dA ad H locs ls cx hP hS hL
  obtain ⟨kk, hk⟩ := List.getElem?_of_mem (al_mem (ad := ad) (k := 0) |>.mpr ⟨i, _, hl, (Nat.zero_add i).symm, rfl⟩)
  exact lv_iinc cx.1 cx.2.1 hd hL hk rfl (Nat.le_of_ble_eq_true hn) rfl (fun ls' hL' => k p l e s m args below meth c D dA ad H locs ls' cx hP hS (al_set1 (x := .int (x + Int32.ofInt n)) hL'))
theorem cw_iadd {u : MI} {post : Option Value → Mem → Prop} {pc : Nat} {L : List (Option Value)} {st : List Value} {M : Mem} {x y : Int32} (hd : decode u.2.1 pc = .ok (.iadd, 1)) (k : CW u post (pc + 1) L (.int (x + y) :: st) M) : CW u post pc L (.int y :: .int x :: st) M := by
  intro p l e s m args below meth c D dA ad H locs ls cx hP hS hL
  exact lv_iadd cx.1 cx.2.1 hd  (k p l e s m args below meth c D dA ad H locs ls cx hP hS hL)
theorem cw_isub {u : MI} {post : Option Value → Mem → Prop} {pc : Nat} {L : List (Option Value)} {st : List Value} {M : Mem} {x y : Int32} (hd : decode u.2.1 pc = .ok (.isub, 1)) (k : CW u post (pc + 1) L (.int (x - y) :: st) M) : CW u post pc L (.int y :: .int x :: st) M := by
  intro p l e s m args below meth c D dA ad H locs ls cx hP hS hL
  exact lv_isub cx.1 cx.2.1 hd  (k p l e s m args below meth c D dA ad H locs ls cx hP hS hL)
theorem cw_imul {u : MI} {post : Option Value → Mem → Prop} {pc : Nat} {L : List (Option Value)} {st : List Value} {M : Mem} {x y : Int32} (hd : decode u.2.1 pc = .ok (.imul, 1)) (k : CW u post (pc + 1) L (.int (x * y) :: st) M) : CW u post pc L (.int y :: .int x :: st) M := by
  intro p l e s m args below meth c D dA ad H locs ls cx hP hS hL
  exact lv_imul cx.1 cx.2.1 hd  (k p l e s m args below meth c D dA ad H locs ls cx hP hS hL)
theorem cw_iand {u : MI} {post : Option Value → Mem → Prop} {pc : Nat} {L : List (Option Value)} {st : List Value} {M : Mem} {x y : Int32} (hd : decode u.2.1 pc = .ok (.iand, 1)) (k : CW u post (pc + 1) L (.int (x &&& y) :: st) M) : CW u post pc L (.int y :: .int x :: st) M := by
  intro p l e s m args below meth c D dA ad H locs ls cx hP hS hL
  exact lv_iand cx.1 cx.2.1 hd  (k p l e s m args below meth c D dA ad H locs ls cx hP hS hL)
theorem cw_ior {u : MI} {post : Option Value → Mem → Prop} {pc : Nat} {L : List (Option Value)} {st : List Value} {M : Mem} {x y : Int32} (hd : decode u.2.1 pc = .ok (.ior, 1)) (k : CW u post (pc + 1) L (.int (x ||| y) :: st) M) : CW u post pc L (.int y :: .int x :: st) M := by
  intro p l e s m args below meth c D dA ad H locs ls cx hP hS hL
  exact lv_ior cx.1 cx.2.1 hd  (k p l e s m args below meth c D dA ad H locs ls cx hP hS hL)
theorem cw_ixor {u : MI} {post : Option Value → Mem → Prop} {pc : Nat} {L : List (Option Value)} {st : List Value} {M : Mem} {x y : Int32} (hd : decode u.2.1 pc = .ok (.ixor, 1)) (k : CW u post (pc + 1) L (.int (x ^^^ y) :: st) M) : CW u post pc L (.int y :: .int x :: st) M := by
  intro p l e s m args below meth c D dA ad H locs ls cx hP hS hL
  exact lv_ixor cx.1 cx.2.1 hd  (k p l e s m args below meth c D dA ad H locs ls cx hP hS hL)
theorem cw_ishl {u : MI} {post : Option Value → Mem → Prop} {pc : Nat} {L : List (Option Value)} {st : List Value} {M : Mem} {x y : Int32} (hd : decode u.2.1 pc = .ok (.ishl, 1)) (k : CW u post (pc + 1) L (.int (x <<< (y &&& 31)) :: st) M) : CW u post pc L (.int y :: .int x :: st) M := by
  intro p l e s m args below meth c D dA ad H locs ls cx hP hS hL
  exact lv_ishl cx.1 cx.2.1 hd  (k p l e s m args below meth c D dA ad H locs ls cx hP hS hL)
theorem cw_ishr {u : MI} {post : Option Value → Mem → Prop} {pc : Nat} {L : List (Option Value)} {st : List Value} {M : Mem} {x y : Int32} (hd : decode u.2.1 pc = .ok (.ishr, 1)) (k : CW u post (pc + 1) L (.int (x >>> (y &&& 31)) :: st) M) : CW u post pc L (.int y :: .int x :: st) M := by
  intro p l e s m args below meth c D dA ad H locs ls cx hP hS hL
  exact lv_ishr cx.1 cx.2.1 hd  (k p l e s m args below meth c D dA ad H locs ls cx hP hS hL)
theorem cw_idiv {u : MI} {post : Option Value → Mem → Prop} {pc : Nat} {L : List (Option Value)} {st : List Value} {M : Mem} {x y : Int32} (hd : decode u.2.1 pc = .ok (.idiv, 1)) (hne : ¬ y = 0) (k : CW u post (pc + 1) L (.int (x / y) :: st) M) : CW u post pc L (.int y :: .int x :: st) M := by
  intro p l e s m args below meth c D dA ad H locs ls cx hP hS hL
  exact lv_idiv cx.1 cx.2.1 hd hne (k p l e s m args below meth c D dA ad H locs ls cx hP hS hL)
theorem cw_ineg {u : MI} {post : Option Value → Mem → Prop} {pc : Nat} {L : List (Option Value)} {st : List Value} {M : Mem} {x : Int32} (hd : decode u.2.1 pc = .ok (.ineg, 1)) (k : CW u post (pc + 1) L (.int (-x) :: st) M) : CW u post pc L (.int x :: st) M := by
  intro p l e s m args below meth c D dA ad H locs ls cx hP hS hL
  exact lv_ineg cx.1 cx.2.1 hd  (k p l e s m args below meth c D dA ad H locs ls cx hP hS hL)
theorem cw_iushr {u : MI} {post : Option Value → Mem → Prop} {pc : Nat} {L : List (Option Value)} {st : List Value} {M : Mem} {x y : Int32} (hd : decode u.2.1 pc = .ok (.iushr, 1)) (k : CW u post (pc + 1) L (.int ((x.toUInt32 >>> (y.toUInt32 &&& Int32.toUInt32 31)).toInt32) :: st) M) : CW u post pc L (.int y :: .int x :: st) M := by
  intro p l e s m args below meth c D dA ad H locs ls cx hP hS hL
  exact lv_iushr cx.1 cx.2.1 hd rfl (k p l e s m args below meth c D dA ad H locs ls cx hP hS hL)
theorem cw_ladd {u : MI} {post : Option Value → Mem → Prop} {pc : Nat} {L : List (Option Value)} {st : List Value} {M : Mem} {x y : Int64} (hd : decode u.2.1 pc = .ok (.ladd, 1)) (k : CW u post (pc + 1) L (.long (x + y) :: st) M) : CW u post pc L (.long y :: .long x :: st) M := by
  intro p l e s m args below meth c D dA ad H locs ls cx hP hS hL
  exact lv_ladd cx.1 cx.2.1 hd  (k p l e s m args below meth c D dA ad H locs ls cx hP hS hL)
theorem cw_lsub {u : MI} {post : Option Value → Mem → Prop} {pc : Nat} {L : List (Option Value)} {st : List Value} {M : Mem} {x y : Int64} (hd : decode u.2.1 pc = .ok (.lsub, 1)) (k : CW u post (pc + 1) L (.long (x - y) :: st) M) : CW u post pc L (.long y :: .long x :: st) M := by
  intro p l e s m args below meth c D dA ad H locs ls cx hP hS hL
  exact lv_lsub cx.1 cx.2.1 hd  (k p l e s m args below meth c D dA ad H locs ls cx hP hS hL)
theorem cw_lmul {u : MI} {post : Option Value → Mem → Prop} {pc : Nat} {L : List (Option Value)} {st : List Value} {M : Mem} {x y : Int64} (hd : decode u.2.1 pc = .ok (.lmul, 1)) (k : CW u post (pc + 1) L (.long (x * y) :: st) M) : CW u post pc L (.long y :: .long x :: st) M := by
  intro p l e s m args below meth c D dA ad H locs ls cx hP hS hL
  exact lv_lmul cx.1 cx.2.1 hd  (k p l e s m args below meth c D dA ad H locs ls cx hP hS hL)
theorem cw_ldiv {u : MI} {post : Option Value → Mem → Prop} {pc : Nat} {L : List (Option Value)} {st : List Value} {M : Mem} {x y : Int64} (hd : decode u.2.1 pc = .ok (.ldiv, 1)) (hne : ¬ y = 0) (k : CW u post (pc + 1) L (.long (x / y) :: st) M) : CW u post pc L (.long y :: .long x :: st) M := by
  intro p l e s m args below meth c D dA ad H locs ls cx hP hS hL
  exact lv_ldiv cx.1 cx.2.1 hd hne (k p l e s m args below meth c D dA ad H locs ls cx hP hS hL)
theorem cw_lrem {u : MI} {post : Option Value → Mem → Prop} {pc : Nat} {L : List (Option Value)} {st : List Value} {M : Mem} {x y : Int64} (hd : decode u.2.1 pc = .ok (.lrem, 1)) (hne : ¬ y = 0) (k : CW u post (pc + 1) L (.long (x - x / y * y) :: st) M) : CW u post pc L (.long y :: .long x :: st) M := by
  intro p l e s m args below meth c D dA ad H locs ls cx hP hS hL
  exact lv_lrem cx.1 cx.2.1 hd hne (k p l e s m args below meth c D dA ad H locs ls cx hP hS hL)
theorem cw_lneg {u : MI} {post : Option Value → Mem → Prop} {pc : Nat} {L : List (Option Value)} {st : List Value} {M : Mem} {x : Int64} (hd : decode u.2.1 pc = .ok (.lneg, 1)) (k : CW u post (pc + 1) L (.long (-x) :: st) M) : CW u post pc L (.long x :: st) M := by
  intro p l e s m args below meth c D dA ad H locs ls cx hP hS hL
  exact lv_lneg cx.1 cx.2.1 hd  (k p l e s m args below meth c D dA ad H locs ls cx hP hS hL)
theorem cw_i2l {u : MI} {post : Option Value → Mem → Prop} {pc : Nat} {L : List (Option Value)} {st : List Value} {M : Mem} {x : Int32} (hd : decode u.2.1 pc = .ok (.i2l, 1)) (k : CW u post (pc + 1) L (.long x.toInt64 :: st) M) : CW u post pc L (.int x :: st) M := by
  intro p l e s m args below meth c D dA ad H locs ls cx hP hS hL
  exact lv_i2l cx.1 cx.2.1 hd rfl (k p l e s m args below meth c D dA ad H locs ls cx hP hS hL)
theorem cw_l2i {u : MI} {post : Option Value → Mem → Prop} {pc : Nat} {L : List (Option Value)} {st : List Value} {M : Mem} {x : Int64} (hd : decode u.2.1 pc = .ok (.l2i, 1)) (k : CW u post (pc + 1) L (.int x.toInt32 :: st) M) : CW u post pc L (.long x :: st) M := by
  intro p l e s m args below meth c D dA ad H locs ls cx hP hS hL
  exact lv_l2i cx.1 cx.2.1 hd rfl (k p l e s m args below meth c D dA ad H locs ls cx hP hS hL)
theorem cw_i2b {u : MI} {post : Option Value → Mem → Prop} {pc : Nat} {L : List (Option Value)} {st : List Value} {M : Mem} {x : Int32} (hd : decode u.2.1 pc = .ok (.i2b, 1)) (k : CW u post (pc + 1) L (.int x.toInt8.toInt32 :: st) M) : CW u post pc L (.int x :: st) M := by
  intro p l e s m args below meth c D dA ad H locs ls cx hP hS hL
  exact lv_i2b cx.1 cx.2.1 hd rfl (k p l e s m args below meth c D dA ad H locs ls cx hP hS hL)
theorem cw_i2s {u : MI} {post : Option Value → Mem → Prop} {pc : Nat} {L : List (Option Value)} {st : List Value} {M : Mem} {x : Int32} (hd : decode u.2.1 pc = .ok (.i2s, 1)) (k : CW u post (pc + 1) L (.int x.toInt16.toInt32 :: st) M) : CW u post pc L (.int x :: st) M := by
  intro p l e s m args below meth c D dA ad H locs ls cx hP hS hL
  exact lv_i2s cx.1 cx.2.1 hd rfl (k p l e s m args below meth c D dA ad H locs ls cx hP hS hL)
theorem cw_lcmp {u : MI} {post : Option Value → Mem → Prop} {pc : Nat} {L : List (Option Value)} {st : List Value} {M : Mem} {x y : Int64} (hd : decode u.2.1 pc = .ok (.lcmp, 1)) (k : CW u post (pc + 1) L (.int (lg_cmp x y) :: st) M) : CW u post pc L (.long y :: .long x :: st) M := by
  intro p l e s m args below meth c D dA ad H locs ls cx hP hS hL
  exact W.lcmp cx.1 cx.2.1 hd  (k p l e s m args below meth c D dA ad H locs ls cx hP hS hL)
theorem cw_dup_int {u : MI} {post : Option Value → Mem → Prop} {pc : Nat} {L : List (Option Value)} {st : List Value} {M : Mem} {x : Int32} (hd : decode u.2.1 pc = .ok (.dup, 1)) (k : CW u post (pc + 1) L (.int x :: .int x :: st) M) : CW u post pc L (.int x :: st) M := by
  intro p l e s m args below meth c D dA ad H locs ls cx hP hS hL
  exact lv_dup cx.1 cx.2.1 hd rfl (k p l e s m args below meth c D dA ad H locs ls cx hP hS hL)
theorem cw_pop_int {u : MI} {post : Option Value → Mem → Prop} {pc : Nat} {L : List (Option Value)} {st : List Value} {M : Mem} {x : Int32} (hd : decode u.2.1 pc = .ok (.pop, 1)) (k : CW u post (pc + 1) L (st) M) : CW u post pc L (.int x :: st) M := by
  intro p l e s m args below meth c D dA ad H locs ls cx hP hS hL
  exact lv_pop cx.1 cx.2.1 hd rfl (k p l e s m args below meth c D dA ad H locs ls cx hP hS hL)
theorem cw_dup_ref {u : MI} {post : Option Value → Mem → Prop} {pc : Nat} {L : List (Option Value)} {st : List Value} {M : Mem} {x : Nat} (hd : decode u.2.1 pc = .ok (.dup, 1)) (k : CW u post (pc + 1) L (.ref x :: .ref x :: st) M) : CW u post pc L (.ref x :: st) M := by
  intro p l e s m args below meth c D dA ad H locs ls cx hP hS hL
  exact lv_dup cx.1 cx.2.1 hd rfl (k p l e s m args below meth c D dA ad H locs ls cx hP hS hL)
theorem cw_pop_ref {u : MI} {post : Option Value → Mem → Prop} {pc : Nat} {L : List (Option Value)} {st : List Value} {M : Mem} {x : Nat} (hd : decode u.2.1 pc = .ok (.pop, 1)) (k : CW u post (pc + 1) L (st) M) : CW u post pc L (.ref x :: st) M := by
  intro p l e s m args below meth c D dA ad H locs ls cx hP hS hL
  exact lv_pop cx.1 cx.2.1 hd rfl (k p l e s m args below meth c D dA ad H locs ls cx hP hS hL)
theorem cw_dup2 {u : MI} {post : Option Value → Mem → Prop} {pc : Nat} {L : List (Option Value)} {st : List Value} {M : Mem} {x : Int32} {y : Nat} (hd : decode u.2.1 pc = .ok (.dup2, 1)) (k : CW u post (pc + 1) L (.int x :: .ref y :: .int x :: .ref y :: st) M) : CW u post pc L (.int x :: .ref y :: st) M := by
  intro p l e s m args below meth c D dA ad H locs ls cx hP hS hL
  exact lv_dup2_11 cx.1 cx.2.1 hd rfl rfl (k p l e s m args below meth c D dA ad H locs ls cx hP hS hL)
theorem cw_if_eq {u : MI} {post : Option Value → Mem → Prop} {pc : Nat} {L : List (Option Value)} {st : List Value} {M : Mem} {x : Int32} {off : Int} (tgt : Nat) (hd : decode u.2.1 pc = .ok (.ifCond .eq off, 3)) (ht : (pc : Int) + off = (tgt : Int)) (kt : x = 0 → CW u post tgt L st M) (kf : ¬ x = 0 → CW u post (pc + 3) L st M) : CW u post pc L (.int x :: st) M := by
  intro p l e s m args below meth c D dA ad H locs ls cx hP hS hL
  exact lv_if_eq cx.1 cx.2.1 hd ht (fun h => kt h p l e s m args below meth c D dA ad H locs ls cx hP hS hL) (fun h => kf h p l e s m args below meth c D dA ad H locs ls cx hP hS hL)
theorem cw_icmp_eq {u : MI} {post : Option Value → Mem → Prop} {pc : Nat} {L : List (Option Value)} {st : List Value} {M : Mem} {x y : Int32} {off : Int} (tgt : Nat) (hd : decode u.2.1 pc = .ok (.if_icmp .eq off, 3)) (ht : (pc : Int) + off = (tgt : Int)) (kt : x = y → CW u post tgt L st M) (kf : ¬ x = y → CW u post (pc + 3) L st M) : CW u post pc L (.int y :: .int x :: st) M := by
  intro p l e s m args below meth c D dA ad H locs ls cx hP hS hL
  exact lv_icmp_eq cx.1 cx.2.1 hd ht (fun h => kt h p l e s m args below meth c D dA ad H locs ls cx hP hS hL) (fun h => kf h p l e s m args below meth c D dA ad H locs ls cx hP hS hL)
theorem cw_if_ne {u : MI} {post : Option Value → Mem → Prop} {pc : Nat} {L : List (Option Value)} {st : List Value} {M : Mem} {x : Int32} {off : Int} (tgt : Nat) (hd : decode u.2.1 pc = .ok (.ifCond .ne off, 3)) (ht : (pc : Int) + off = (tgt : Int)) (kt : ¬ x = 0 → CW u post tgt L st M) (kf : x = 0 → CW u post (pc + 3) L st M) : CW u post pc L (.int x :: st) M := by
  intro p l e s m args below meth c D dA ad H locs ls cx hP hS hL
  exact lv_if_ne cx.1 cx.2.1 hd ht (fun h => kt h p l e s m args below meth c D dA ad H locs ls cx hP hS hL) (fun h => kf h p l e s m args below meth c D dA ad H locs ls cx hP hS hL)
theorem cw_icmp_ne {u : MI} {post : Option Value → Mem → Prop} {pc : Nat} {L : List (Option Value)} {st : List Value} {M : Mem} {x y : Int32} {off : Int} (tgt : Nat) (hd : decode u.2.1 pc = .ok (.if_icmp .ne off, 3)) (ht : (pc : Int) + off = (tgt : Int)) (kt : ¬ x = y → CW u post tgt L st M) (kf : x = y → CW u post (pc + 3) L st M) : CW u post pc L (.int y :: .int x :: st) M := by
  intro p l e s m args below meth c D dA ad H locs ls cx hP hS hL
  exact lv_icmp_ne cx.1 cx.2.1 hd ht (fun h => kt h p l e s m args below meth c D dA ad H locs ls cx hP hS hL) (fun h => kf h p l e s m args below meth c D dA ad H locs ls cx hP hS hL)
theorem cw_if_lt {u : MI} {post : Option Value → Mem → Prop} {pc : Nat} {L : List (Option Value)} {st : List Value} {M : Mem} {x : Int32} {off : Int} (tgt : Nat) (hd : decode u.2.1 pc = .ok (.ifCond .lt off, 3)) (ht : (pc : Int) + off = (tgt : Int)) (kt : x < 0 → CW u post tgt L st M) (kf : ¬ x < 0 → CW u post (pc + 3) L st M) : CW u post pc L (.int x :: st) M := by
  intro p l e s m args below meth c D dA ad H locs ls cx hP hS hL
  exact lv_if_lt cx.1 cx.2.1 hd ht (fun h => kt h p l e s m args below meth c D dA ad H locs ls cx hP hS hL) (fun h => kf h p l e s m args below meth c D dA ad H locs ls cx hP hS hL)
theorem cw_icmp_lt {u : MI} {post : Option Value → Mem → Prop} {pc : Nat} {L : List (Option Value)} {st : List Value} {M : Mem} {x y : Int32} {off : Int} (tgt : Nat) (hd : decode u.2.1 pc = .ok (.if_icmp .lt off, 3)) (ht : (pc : Int) + off = (tgt : Int)) (kt : x < y → CW u post tgt L st M) (kf : ¬ x < y → CW u post (pc + 3) L st M) : CW u post pc L (.int y :: .int x :: st) M := by
  intro p l e s m args below meth c D dA ad H locs ls cx hP hS hL
  exact lv_icmp_lt cx.1 cx.2.1 hd ht (fun h => kt h p l e s m args below meth c D dA ad H locs ls cx hP hS hL) (fun h => kf h p l e s m args below meth c D dA ad H locs ls cx hP hS hL)
theorem cw_if_ge {u : MI} {post : Option Value → Mem → Prop} {pc : Nat} {L : List (Option Value)} {st : List Value} {M : Mem} {x : Int32} {off : Int} (tgt : Nat) (hd : decode u.2.1 pc = .ok (.ifCond .ge off, 3)) (ht : (pc : Int) + off = (tgt : Int)) (kt : 0 ≤ x → CW u post tgt L st M) (kf : ¬ 0 ≤ x → CW u post (pc + 3) L st M) : CW u post pc L (.int x :: st) M := by
  intro p l e s m args below meth c D dA ad H locs ls cx hP hS hL
  exact lv_if_ge cx.1 cx.2.1 hd ht (fun h => kt h p l e s m args below meth c D dA ad H locs ls cx hP hS hL) (fun h => kf h p l e s m args below meth c D dA ad H locs ls cx hP hS hL)
theorem cw_icmp_ge {u : MI} {post : Option Value → Mem → Prop} {pc : Nat} {L : List (Option Value)} {st : List Value} {M : Mem} {x y : Int32} {off : Int} (tgt : Nat) (hd : decode u.2.1 pc = .ok (.if_icmp .ge off, 3)) (ht : (pc : Int) + off = (tgt : Int)) (kt : y ≤ x → CW u post tgt L st M) (kf : ¬ y ≤ x → CW u post (pc + 3) L st M) : CW u post pc L (.int y :: .int x :: st) M := by
  intro p l e s m args below meth c D dA ad H locs ls cx hP hS hL
  exact lv_icmp_ge cx.1 cx.2.1 hd ht (fun h => kt h p l e s m args below meth c D dA ad H locs ls cx hP hS hL) (fun h => kf h p l e s m args below meth c D dA ad H locs ls cx hP hS hL)
theorem cw_if_gt {u : MI} {post : Option Value → Mem → Prop} {pc : Nat} {L : List (Option Value)} {st : List Value} {M : Mem} {x : Int32} {off : Int} (tgt : Nat) (hd : decode u.2.1 pc = .ok (.ifCond .gt off, 3)) (ht : (pc : Int) + off = (tgt : Int)) (kt : 0 < x → CW u post tgt L st M) (kf : ¬ 0 < x → CW u post (pc + 3) L st M) : CW u post pc L (.int x :: st) M := by
  intro p l e s m args below meth c D dA ad H locs ls cx hP hS hL
  exact lv_if_gt cx.1 cx.2.1 hd ht (fun h => kt h p l e s m args below meth c D dA ad H locs ls cx hP hS hL) (fun h => kf h p l e s m args below meth c D dA ad H locs ls cx hP hS hL)
theorem cw_icmp_gt {u : MI} {post : Option Value → Mem → Prop} {pc : Nat} {L : List (Option Value)} {st : List Value} {M : Mem} {x y : Int32} {off : Int} (tgt : Nat) (hd : decode u.2.1 pc = .ok (.if_icmp .gt off, 3)) (ht : (pc : Int) + off = (tgt : Int)) (kt : y < x → CW u post tgt L st M) (kf : ¬ y < x → CW u post (pc + 3) L st M) : CW u post pc L (.int y :: .int x :: st) M := by
  intro p l e s m args below meth c D dA ad H locs ls cx hP hS hL
  exact lv_icmp_gt cx.1 cx.2.1 hd ht (fun h => kt h p l e s m args below meth c D dA ad H locs ls cx hP hS hL) (fun h => kf h p l e s m args below meth c D dA ad H locs ls cx hP hS hL)
theorem cw_if_le {u : MI} {post : Option Value → Mem → Prop} {pc : Nat} {L : List (Option Value)} {st : List Value} {M : Mem} {x : Int32} {off : Int} (tgt : Nat) (hd : decode u.2.1 pc = .ok (.ifCond .le off, 3)) (ht : (pc : Int) + off = (tgt : Int)) (kt : x ≤ 0 → CW u post tgt L st M) (kf : ¬ x ≤ 0 → CW u post (pc + 3) L st M) : CW u post pc L (.int x :: st) M := by
  intro p l e s m args below meth c D dA ad H locs ls cx hP hS hL
  exact lv_if_le cx.1 cx.2.1 hd ht (fun h => kt h p l e s m args below meth c D dA ad H locs ls cx hP hS hL) (fun h => kf h p l e s m args below meth c D dA ad H locs ls cx hP hS hL)
theorem cw_icmp_le {u : MI} {post : Option Value → Mem → Prop} {pc : Nat} {L : List (Option Value)} {st : List Value} {M : Mem} {x y : Int32} {off : Int} (tgt : Nat) (hd : decode u.2.1 pc = .ok (.if_icmp .le off, 3)) (ht : (pc : Int) + off = (tgt : Int)) (kt : x ≤ y → CW u post tgt L st M) (kf : ¬ x ≤ y → CW u post (pc + 3) L st M) : CW u post pc L (.int y :: .int x :: st) M := by
  intro p l e s m args below meth c D dA ad H locs ls cx hP hS hL
  exact lv_icmp_le cx.1 cx.2.1 hd ht (fun h => kt h p l e s m args below meth c D dA ad H locs ls cx hP hS hL) (fun h => kf h p l e s m args below meth c D dA ad H locs ls cx hP hS hL)
theorem cw_goto {u : MI} {post : Option Value → Mem → Prop} {pc : Nat} {L : List (Option Value)} {st : List Value} {M : Mem} {off : Int} (tgt : Nat) (hd : decode u.2.1 pc = .ok (.goto off, 3)) (ht : (pc : Int) + off = (tgt : Int)) (k : CW u post tgt L st M) : CW u post pc L st M := by
  intro p l e s m args below meth c D dA ad H locs ls cx hP hS hL
  exact lv_goto cx.1 cx.2.1 hd ht (k p l e s m args below meth c D dA ad H locs ls cx hP hS hL)
theorem cw_swOut {u : MI} {post : Option Value → Mem → Prop} {pc : Nat} {L : List (Option Value)} {st : List Value} {M : Mem} {dflt lo hi : Int} {offs : Array Int} {len : Nat} {x : Int32} (tgt : Nat) (hd : decode u.2.1 pc = .ok (.tableswitch dflt lo hi offs, len)) (h : x.toInt < lo ∨ hi < x.toInt) (ht : (pc : Int) + dflt = (tgt : Int)) (k : CW u post tgt L st M) : CW u post pc L (.int x :: st) M := by
  intro p l e s m args below meth c D dA ad H locs ls cx hP hS hL
  exact lv_tableOut cx.1 cx.2.1 hd h ht (k p l e s m args below meth c D dA ad H locs ls cx hP hS hL)
theorem cw_swIn {u : MI} {post : Option Value → Mem → Prop} {pc : Nat} {L : List (Option Value)} {st : List Value} {M : Mem} {dflt lo hi : Int} {offs : Array Int} {len : Nat} {x : Int32} {off : Int} (tgt : Nat) (hd : decode u.2.1 pc = .ok (.tableswitch dflt lo hi offs, len)) (h1 : ¬ x.toInt < lo) (h2 : ¬ hi < x.toInt) (ho : offs[(x.toInt - lo).toNat]? = some off) (ht : (pc : Int) + off = (tgt : Int)) (k : CW u post tgt L st M) : CW u post pc L (.int x :: st) M := by
  intro p l e s m args below meth c D dA ad H locs ls cx hP hS hL
  exact lv_tableIn cx.1 cx.2.1 hd h1 h2 ho ht (k p l e s m args below meth c D dA ad H locs ls cx hP hS hL)
theorem cw_ldc {u : MI} {post : Option Value → Mem → Prop} {pc : Nat} {L : List (Option Value)} {st : List Value} {M : Mem} {i : Nat} {v : Int32} (hc : Cond.constant u.1.cls i v ∈ gt) (hd : decode u.2.1 pc = .ok (.ldc i, 2)) (k : CW u post (pc + 2) L (.int v :: st) M) : CW u post pc L st M := by
  intro p l e s m args below meth c D dA ad H locs ls cx hP hS hL
  exact lv_ldc cx.1 cx.2.1 cx.2.2.2.1 (cx.2.2.2.2.1 _ hc) hd (k p l e s m args below meth c D dA ad H locs ls cx hP hS hL)
theorem cw_ldc_w {u : MI} {post : Option Value → Mem → Prop} {pc : Nat} {L : List (Option Value)} {st : List Value} {M : Mem} {i : Nat} {v : Int32} (hc : Cond.constant u.1.cls i v ∈ gt) (hd : decode u.2.1 pc = .ok (.ldc_w i, 3)) (k : CW u post (pc + 3) L (.int v :: st) M) : CW u post pc L st M := by
  intro p l e s m args below meth c D dA ad H locs ls cx hP hS hL
  exact lv_ldcw cx.1 cx.2.1 cx.2.2.2.1 (cx.2.2.2.2.1 _ hc) hd (k p l e s m args below meth c D dA ad H locs ls cx hP hS hL)
theorem cw_ldc2_w {u : MI} {post : Option Value → Mem → Prop} {pc : Nat} {L : List (Option Value)} {st : List Value} {M : Mem} {i : Nat} {v : Int64} (hc : Cond.constantLong u.1.cls i v ∈ gt) (hd : decode u.2.1 pc = .ok (.ldc2_w i, 3)) (k : CW u post (pc + 3) L (.long v :: st) M) : CW u post pc L st M := by
  intro p l e s m args below meth c D dA ad H locs ls cx hP hS hL
  exact lv_ldc2 cx.1 cx.2.1 cx.2.2.2.1 (cx.2.2.2.2.1 _ hc) hd (k p l e s m args below meth c D dA ad H locs ls cx hP hS hL)
theorem cw_iret {u : MI} {pc : Nat} {L : List (Option Value)} {M : Mem} {Q : Int32 → Mem → Prop} {r : Int32} (hr : u.2.2.2.1 = some .int) (hd : decode u.2.1 pc = .ok (.ireturn, 1)) (h : Q r M) : CW u (retI Q) pc L [.int r] M := by
  intro p l e s m args below meth c D dA ad H locs ls cx hP hS hL
  exact W.iret (v := r) cx.1 cx.2.1 (cx.2.2.2.2.2.1.trans hr) (fun t ht hW => ⟨⟨some (.int r), M, rfl, ⟨r, rfl, h⟩, by rw [ht]; exact hP⟩, hS.F ht⟩) hS.2.2 hd cx.2.2.2.2.2.2.1
theorem cw_lret {u : MI} {pc : Nat} {L : List (Option Value)} {M : Mem} {Q : Int64 → Mem → Prop} {r : Int64} (hr : u.2.2.2.1 = some .long) (hd : decode u.2.1 pc = .ok (.lreturn, 1)) (h : Q r M) : CW u (retJ Q) pc L [.long r] M := by
  intro p l e s m args below meth c D dA ad H locs ls cx hP hS hL
  exact W.lret (v := r) cx.1 cx.2.1 (cx.2.2.2.2.2.1.trans hr) (fun t ht hW => ⟨⟨some (.long r), M, rfl, ⟨r, rfl, h⟩, by rw [ht]; exact hP⟩, hS.F ht⟩) hS.2.2 hd cx.2.2.2.2.2.2.1
theorem cw_zret {u : MI} {pc : Nat} {L : List (Option Value)} {M : Mem} {Q : Int32 → Mem → Prop} {r : Int32} (hr : u.2.2.2.1 = some .boolean) (hd : decode u.2.1 pc = .ok (.ireturn, 1)) (hz : r = 0 ∨ r = 1) (h : Q r M) : CW u (retI Q) pc L [.int r] M := by
  intro p l e s m args below meth c D dA ad H locs ls cx hP hS hL
  exact W.zret (v := r) (ty := .boolean) cx.1 cx.2.1 (cx.2.2.2.2.2.1.trans hr) (by rcases hz with rfl | rfl <;> rfl) (fun t ht hW => ⟨⟨some (.int r), M, rfl, ⟨r, rfl, h⟩, by rw [ht]; exact hP⟩, hS.F ht⟩) hS.2.2 hd cx.2.2.2.2.2.2.1
theorem cw_vret {u : MI} {pc : Nat} {L : List (Option Value)} {M : Mem} {Q : Mem → Prop} (hr : u.2.2.2.1 = none) (hd : decode u.2.1 pc = .ok (.return_, 1)) (h : Q M) : CW u (retV Q) pc L [] M := by
  intro p l e s m args below meth c D dA ad H locs ls cx hP hS hL
  exact W.vret cx.1 cx.2.1 (cx.2.2.2.2.2.1.trans hr) (fun t ht hW => ⟨⟨none, M, rfl, ⟨rfl, h⟩, by rw [ht]; exact hP⟩, hS.F ht⟩) hS.2.2 hd cx.2.2.2.2.2.2.1
theorem uCell_O {dA : Nat → ClassId} {ad : Nat → Nat} {M : Mem} {a ci : Nat} {fs : List Fk} (h : SO a ci fs) : uCell dA ad M a = .inr (ci, ucfs ad M a 0 fs) := by
  unfold uCell
  rw [h.1]
theorem uCell_A {dA : Nat → ClassId} {ad : Nat → Nat} {M : Mem} {a n : Nat} (h : SA a n) : uCell dA ad M a = .inl (dA 0, n, .inl (M.1 a)) := by
  unfold uCell
  rw [h.1]
theorem uCell_R {dA : Nat → ClassId} {ad : Nat → Nat} {M : Mem} {a t n : Nat} {g : Nat → Nat} (h : SR a t n g) : uCell dA ad M a = .inl (dA t, n, .inr (.inr (.inr (.inr (fun i => some (ad (g i))))))) := by
  unfold uCell
  rw [h.1]
theorem cw_getI {u : MI} {post : Option Value → Mem → Prop} {pc : Nat} {L : List (Option Value)} {st : List Value} {M : Mem} {a ci j i : Nat} {fs : List Fk} (hf : FL u.1.cls i ci j) (hs : SO a ci fs) (hk : fs[j]? = some (.inr false)) (hd : decode u.2.1 pc = .ok (.getfield i, 3)) (k : CW u post (pc + 3) L (.int (mG M a j) :: st) M) : CW u post pc L (.ref a :: st) M := by
  intro p l e s m args below meth c D dA ad H locs ls cx hP hS hL
  obtain ⟨C, T, N, h1, h2, h3⟩ := hf
  obtain ⟨q, hq, -⟩ := uCells_at (dA := dA) (ad := ad) (M := M) hs.2
  rw [uCell_O hs] at hq
  have hv : (ucfs ad M a 0 fs)[j]? = some (.int (mG M a j)) := by
    have := ucfs_get (ad := ad) (M := M) (k := a) (j := 0) hk
    rw [Nat.zero_add] at this
    exact this
  exact va_get (ref := (T j).1) cx.1 cx.2.1 cx.2.2.2.2.1 (uCls_ok h1).1 cx.2.2.2.1 cx.2.2.2.2.2.2.2.1.1 hP q hq h1 j h2 (cx.2.2.2.2.1 _ h3) (fun _ h => h) hv hd (k p l e s m args below meth c D dA ad H locs ls cx hP hS hL)
theorem cw_getJ {u : MI} {post : Option Value → Mem → Prop} {pc : Nat} {L : List (Option Value)} {st : List Value} {M : Mem} {a ci j i : Nat} {fs : List Fk} (hf : FL u.1.cls i ci j) (hs : SO a ci fs) (hk : fs[j]? = some (.inr true)) (hd : decode u.2.1 pc = .ok (.getfield i, 3)) (k : CW u post (pc + 3) L (.long (jG M a j) :: st) M) : CW u post pc L (.ref a :: st) M := by
  intro p l e s m args below meth c D dA ad H locs ls cx hP hS hL
  obtain ⟨C, T, N, h1, h2, h3⟩ := hf
  obtain ⟨q, hq, -⟩ := uCells_at (dA := dA) (ad := ad) (M := M) hs.2
  rw [uCell_O hs] at hq
  have hv : (ucfs ad M a 0 fs)[j]? = some (.long (jG M a j)) := by
    have := ucfs_get (ad := ad) (M := M) (k := a) (j := 0) hk
    rw [Nat.zero_add] at this
    exact this
  exact va_get (ref := (T j).1) cx.1 cx.2.1 cx.2.2.2.2.1 (uCls_ok h1).1 cx.2.2.2.1 cx.2.2.2.2.2.2.2.1.1 hP q hq h1 j h2 (cx.2.2.2.2.1 _ h3) (fun _ h => h) hv hd (k p l e s m args below meth c D dA ad H locs ls cx hP hS hL)
theorem cw_getR {u : MI} {post : Option Value → Mem → Prop} {pc : Nat} {L : List (Option Value)} {st : List Value} {M : Mem} {a ci j i : Nat} {fs : List Fk} {r : Nat} (hf : FL u.1.cls i ci j) (hs : SO a ci fs) (hk : fs[j]? = some (.inl r)) (hd : decode u.2.1 pc = .ok (.getfield i, 3)) (k : CW u post (pc + 3) L (.ref r :: st) M) : CW u post pc L (.ref a :: st) M := by
  intro p l e s m args below meth c D dA ad H locs ls cx hP hS hL
  obtain ⟨C, T, N, h1, h2, h3⟩ := hf
  obtain ⟨q, hq, -⟩ := uCells_at (dA := dA) (ad := ad) (M := M) hs.2
  rw [uCell_O hs] at hq
  have hv : (ucfs ad M a 0 fs)[j]? = some (.ref (ad r)) := by
    have := ucfs_get (ad := ad) (M := M) (k := a) (j := 0) hk
    rw [Nat.zero_add] at this
    exact this
  exact va_get (ref := (T j).1) cx.1 cx.2.1 cx.2.2.2.2.1 (uCls_ok h1).1 cx.2.2.2.1 cx.2.2.2.2.2.2.2.1.1 hP q hq h1 j h2 (cx.2.2.2.2.1 _ h3) (fun _ h => h) hv hd (k p l e s m args below meth c D dA ad H locs ls cx hP hS hL)
theorem ucfs_set {ad : Nat → Nat} {M M' : Mem} {k i : Nat} {v : Value} : ∀ {fs : List Fk} {j : Nat} {f : Fk}, fs[i]? = some f → ucfv ad M' k (j + i) f = v → (∀ b g, b ≠ j + i → ucfv ad M' k b g = ucfv ad M k b g) → (ucfs ad M k j fs).set i v = ucfs ad M' k j fs := by
  induction i with
  | zero =>
    intro fs j f h1 h2 h3
    cases fs with
    | nil => simp at h1
    | cons g fs =>
      simp at h1
      subst h1
      have h4 : ∀ (fs : List Fk) (b : Nat), j < b → ucfs ad M k b fs = ucfs ad M' k b fs := by
        intro fs
        induction fs with
        | nil => intro b _; rfl
        | cons g fs ih =>
          intro b hb
          simp only [ucfs]
          rw [ih (b + 1) (by omega), h3 b g (by omega)]
      simp only [ucfs, List.set_cons_zero]
      rw [h4 fs (j + 1) (by omega), ← h2]
      rfl
  | succ i ih =>
    intro fs j f h1 h2 h3
    cases fs with
    | nil => simp at h1
    | cons g fs =>
      have h1' : fs[i]? = some f := by simpa using h1
      simp only [ucfs, List.set_cons_succ]
      rw [ih (j := j + 1) h1' (by rw [← h2]; congr 1; omega) (fun b g hb => h3 b g (by omega)), h3 j g (by omega)]
theorem cw_putI {u : MI} {post : Option Value → Mem → Prop} {pc : Nat} {L : List (Option Value)} {st : List Value} {M : Mem} {a ci j i : Nat} {fs : List Fk} {x : Int32} (hf : FP u.1.cls i ci j .int) (hs : SO a ci fs) (hk : fs[j]? = some (.inr false)) (hd : decode u.2.1 pc = .ok (.putfield i, 3)) (k : CW u post (pc + 3) L st (mS M a j x)) : CW u post pc L (.int x :: .ref a :: st) M := by
  intro p l e s m args below meth c D dA ad H locs ls cx hP hS hL
  obtain ⟨C, T, N, h1, h2, h3, h4, h5⟩ := hf
  obtain ⟨q, hq, hi⟩ := uCells_at (dA := dA) (ad := ad) (M := M) hs.2
  rw [uCell_O hs] at hq
  obtain ⟨hw, ty0, hty, hnm⟩ := uCls_ok h1
  have hset : (uCells dA ad M).set q (ad a, .inr (ci, (ucfs ad M a 0 fs).set j (.int x))) = uCells dA ad (mS M a j x) := by
    rw [← uCells_set (M := M) (M' := mS M a j x) hi ?_, uCell_O hs, ucfs_set (M' := mS M a j x) hk]
    · simp [ucfv, mS]
    · intro b g hb
      have hb : b ≠ j := by omega
      rcases g with g | g
      · rfl
      · cases g <;> simp [ucfv, mS, hb]
    · intro b hb
      unfold uCell
      have e1 : (mS M a j x).1 b = M.1 b := by funext z; simp [mS, hb]
      have e2 : (mS M a j x).2 b = M.2 b := by funext z; simp [mS, hb]
      have e3 : ∀ (fs : List Fk) (z : Nat), ucfs ad (mS M a j x) b z fs = ucfs ad M b z fs := by
        intro fs
        induction fs with
        | nil => intro z; rfl
        | cons g fs ih =>
          intro z
          simp only [ucfs]
          rw [ih]
          congr 1
          rcases g with g | g
          · rfl
          · cases g <;> simp [ucfv, e1, e2]
      rw [e1]
      split
      · rfl
      · rfl
      · rw [e3]
  exact va_put (ref := (T j).1) (v := .int x) (ty := .int) cx.1 cx.2.1 cx.2.2.2.2.1 hw ty0 hty hnm cx.2.2.2.1 cx.2.2.2.2.2.2.2.1.1 hP (uD cx.2.2.2.2.2.2.2.2) hS q hq h1 j h2 (cx.2.2.2.2.1 _ h3) (fun _ h => h) h4 h5 rfl rfl (by rw [ucfs_len]; exact (List.getElem?_eq_some_iff.mp hk).1) hd (fun H1 locs1 hP1 hD1 hS1 => k p l e s m args below meth c D dA ad H1 locs1 ls cx (hset ▸ hP1) hS1 hL)
theorem cw_putJ {u : MI} {post : Option Value → Mem → Prop} {pc : Nat} {L : List (Option Value)} {st : List Value} {M : Mem} {a ci j i : Nat} {fs : List Fk} {x : Int64} (hf : FP u.1.cls i ci j .long) (hs : SO a ci fs) (hk : fs[j]? = some (.inr true)) (hd : decode u.2.1 pc = .ok (.putfield i, 3)) (k : CW u post (pc + 3) L st (jS M a j x)) : CW u post pc L (.long x :: .ref a :: st) M := by
  intro p l e s m args below meth c D dA ad H locs ls cx hP hS hL
  obtain ⟨C, T, N, h1, h2, h3, h4, h5⟩ := hf
  obtain ⟨q, hq, hi⟩ := uCells_at (dA := dA) (ad := ad) (M := M) hs.2
  rw [uCell_O hs] at hq
  obtain ⟨hw, ty0, hty, hnm⟩ := uCls_ok h1
  have hset : (uCells dA ad M).set q (ad a, .inr (ci, (ucfs ad M a 0 fs).set j (.long x))) = uCells dA ad (jS M a j x) := by
    rw [← uCells_set (M := M) (M' := jS M a j x) hi ?_, uCell_O hs, ucfs_set (M' := jS M a j x) hk]
    · simp [ucfv, jS]
    · intro b g hb
      have hb : b ≠ j := by omega
      rcases g with g | g
      · rfl
      · cases g <;> simp [ucfv, jS, hb]
    · intro b hb
      unfold uCell
      have e1 : (jS M a j x).1 b = M.1 b := by funext z; simp [jS, hb]
      have e2 : (jS M a j x).2 b = M.2 b := by funext z; simp [jS, hb]
      have e3 : ∀ (fs : List Fk) (z : Nat), ucfs ad (jS M a j x) b z fs = ucfs ad M b z fs := by
        intro fs
        induction fs with
        | nil => intro z; rfl
        | cons g fs ih =>
          intro z
          simp only [ucfs]
          rw [ih]
          congr 1
          rcases g with g | g
          · rfl
          · cases g <;> simp [ucfv, e1, e2]
      rw [e1]
      split
      · rfl
      · rfl
      · rw [e3]
  exact va_put (ref := (T j).1) (v := .long x) (ty := .long) cx.1 cx.2.1 cx.2.2.2.2.1 hw ty0 hty hnm cx.2.2.2.1 cx.2.2.2.2.2.2.2.1.1 hP (uD cx.2.2.2.2.2.2.2.2) hS q hq h1 j h2 (cx.2.2.2.2.1 _ h3) (fun _ h => h) h4 h5 rfl rfl (by rw [ucfs_len]; exact (List.getElem?_eq_some_iff.mp hk).1) hd (fun H1 locs1 hP1 hD1 hS1 => k p l e s m args below meth c D dA ad H1 locs1 ls cx (hset ▸ hP1) hS1 hL)
theorem cw_putZ {u : MI} {post : Option Value → Mem → Prop} {pc : Nat} {L : List (Option Value)} {st : List Value} {M : Mem} {a ci j i : Nat} {fs : List Fk} {x : Int32} (hf : FP u.1.cls i ci j .boolean) (hs : SO a ci fs) (hk : fs[j]? = some (.inr false)) (hz : x = 0 ∨ x = 1) (hd : decode u.2.1 pc = .ok (.putfield i, 3)) (k : CW u post (pc + 3) L st (mS M a j x)) : CW u post pc L (.int x :: .ref a :: st) M := by
  intro p l e s m args below meth c D dA ad H locs ls cx hP hS hL
  obtain ⟨C, T, N, h1, h2, h3, h4, h5⟩ := hf
  obtain ⟨q, hq, hi⟩ := uCells_at (dA := dA) (ad := ad) (M := M) hs.2
  rw [uCell_O hs] at hq
  obtain ⟨hw, ty0, hty, hnm⟩ := uCls_ok h1
  have hset : (uCells dA ad M).set q (ad a, .inr (ci, (ucfs ad M a 0 fs).set j (.int x))) = uCells dA ad (mS M a j x) := by
    rw [← uCells_set (M := M) (M' := mS M a j x) hi ?_, uCell_O hs, ucfs_set (M' := mS M a j x) hk]
    · simp [ucfv, mS]
    · intro b g hb
      have hb : b ≠ j := by omega
      rcases g with g | g
      · rfl
      · cases g <;> simp [ucfv, mS, hb]
    · intro b hb
      unfold uCell
      have e1 : (mS M a j x).1 b = M.1 b := by funext z; simp [mS, hb]
      have e2 : (mS M a j x).2 b = M.2 b := by funext z; simp [mS, hb]
      have e3 : ∀ (fs : List Fk) (z : Nat), ucfs ad (mS M a j x) b z fs = ucfs ad M b z fs := by
        intro fs
        induction fs with
        | nil => intro z; rfl
        | cons g fs ih =>
          intro z
          simp only [ucfs]
          rw [ih]
          congr 1
          rcases g with g | g
          · rfl
          · cases g <;> simp [ucfv, e1, e2]
      rw [e1]
      split
      · rfl
      · rfl
      · rw [e3]
  exact va_put (ref := (T j).1) (v := .int x) (ty := .boolean) cx.1 cx.2.1 cx.2.2.2.2.1 hw ty0 hty hnm cx.2.2.2.1 cx.2.2.2.2.2.2.2.1.1 hP (uD cx.2.2.2.2.2.2.2.2) hS q hq h1 j h2 (cx.2.2.2.2.1 _ h3) (fun _ h => h) h4 h5 (by rcases hz with rfl | rfl <;> rfl) (by rcases hz with rfl | rfl <;> rfl) (by rw [ucfs_len]; exact (List.getElem?_eq_some_iff.mp hk).1) hd (fun H1 locs1 hP1 hD1 hS1 => k p l e s m args below meth c D dA ad H1 locs1 ls cx (hset ▸ hP1) hS1 hL)
theorem cw_iald {u : MI} {post : Option Value → Mem → Prop} {pc : Nat} {L : List (Option Value)} {st : List Value} {M : Mem} {a n : Nat} {x : Int32} (hs : SA a n) (hin : vp_in x n) (hd : decode u.2.1 pc = .ok (.iaload, 1)) (k : CW u post (pc + 1) L (.int (mG M a x.toNatClampNeg) :: st) M) : CW u post pc L (.int x :: .ref a :: st) M := by
  intro p l e s m args below meth c D dA ad H locs ls cx hP hS hL
  obtain ⟨q, hq, -⟩ := uCells_at (dA := dA) (ad := ad) (M := M) hs.2
  rw [uCell_A hs] at hq
  exact va_iald cx.1 cx.2.1 cx.2.2.2.2.2.2.2.1.1 hP q 0 hq rfl hin hd (k p l e s m args below meth c D dA ad H locs ls cx hP hS hL)
theorem cw_ialdN {u : MI} {post : Option Value → Mem → Prop} {pc : Nat} {L : List (Option Value)} {st : List Value} {M : Mem} {a n i : Nat} {x : Int32} (hs : SA a n) (hx : x = nI i) (hi : i < n) (hn : n < 1000) (hd : decode u.2.1 pc = .ok (.iaload, 1)) (k : CW u post (pc + 1) L (.int (mG M a i) :: st) M) : CW u post pc L (.int x :: .ref a :: st) M := by
  subst hx
  refine cw_iald hs (vp_in_nI hi (by omega)) hd ?_
  rw [nI_clamp (by omega)]
  exact k
theorem cw_alen {u : MI} {post : Option Value → Mem → Prop} {pc : Nat} {L : List (Option Value)} {st : List Value} {M : Mem} {a n : Nat} (hs : SA a n) (hd : decode u.2.1 pc = .ok (.arraylength, 1)) (k : CW u post (pc + 1) L (.int (nI n) :: st) M) : CW u post pc L (.ref a :: st) M := by
  intro p l e s m args below meth c D dA ad H locs ls cx hP hS hL
  obtain ⟨q, hq, -⟩ := uCells_at (dA := dA) (ad := ad) (M := M) hs.2
  rw [uCell_A hs] at hq
  exact va_alen cx.1 cx.2.1 cx.2.2.2.2.2.2.2.1.1 hP q 0 hq rfl rfl hd (k p l e s m args below meth c D dA ad H locs ls cx hP hS hL)
theorem cw_aaldN {u : MI} {post : Option Value → Mem → Prop} {pc : Nat} {L : List (Option Value)} {st : List Value} {M : Mem} {a t n i : Nat} {g : Nat → Nat} {x : Int32} (hs : SR a t n g) (hx : x = nI i) (hi : i < n) (hn : n < 1000) (hd : decode u.2.1 pc = .ok (.aaload, 1)) (k : CW u post (pc + 1) L (.ref (g i) :: st) M) : CW u post pc L (.int x :: .ref a :: st) M := by
  intro p l e s m args below meth c D dA ad H locs ls cx hP hS hL
  subst hx
  obtain ⟨q, hq, -⟩ := uCells_at (dA := dA) (ad := ad) (M := M) hs.2.1
  rw [uCell_R hs] at hq
  have ht : ∃ C, (uTys dA)[t]? = some (dA t, .object C) := by
    obtain ⟨h1, h2⟩ := hs.2.2
    rcases (show t = 1 ∨ t = 2 ∨ t = 3 ∨ t = 4 ∨ t = 5 by omega) with rfl | rfl | rfl | rfl | rfl <;> exact ⟨_, rfl⟩
  obtain ⟨C, ht⟩ := ht
  refine va_aldq cx.1 cx.2.1 cx.2.2.2.2.2.2.2.1.1 hP q t hq ht (vp_in_nI hi (by omega)) hd ?_
  rw [nI_clamp (by omega)]
  exact (k p l e s m args below meth c D dA ad H locs ls cx hP hS hL)
theorem uCells_arr {dA : Nat → ClassId} {ad : Nat → Nat} {M M' : Mem} {a n q : Nat} (hs : SA a n) (hi : uIds[q]? = some a) {f : Nat → Int32} (h1 : M'.1 a = f) (h2 : ∀ b, b ≠ a → M'.1 b = M.1 b) (h3 : M'.2 = M.2) : (uCells dA ad M).set q (ad a, .inl (dA 0, n, .inl f)) = uCells dA ad M' := by
  have e : uCell dA ad M' a = .inl (dA 0, n, .inl f) := by rw [uCell_A hs, h1]
  rw [← e]
  refine uCells_set hi ?_
  intro b hb
  unfold uCell
  have e3 : ∀ (fs : List Fk) (z : Nat), ucfs ad M' b z fs = ucfs ad M b z fs := by
    intro fs
    induction fs with
    | nil => intro z; rfl
    | cons g fs ih =>
      intro z
      simp only [ucfs]
      rw [ih]
      congr 1
      rcases g with g | g
      · rfl
      · cases g <;> simp [ucfv, h2 b hb, h3]
  rw [h2 b hb]
  split
  · rfl
  · rfl
  · rw [e3]
theorem cw_iast {u : MI} {post : Option Value → Mem → Prop} {pc : Nat} {L : List (Option Value)} {st : List Value} {M : Mem} {a n : Nat} {x y : Int32} (hs : SA a n) (hin : vp_in x n) (hd : decode u.2.1 pc = .ok (.iastore, 1)) (k : CW u post (pc + 1) L st (mS M a x.toNatClampNeg y)) : CW u post pc L (.int y :: .int x :: .ref a :: st) M := by
  intro p l e s m args below meth c D dA ad H locs ls cx hP hS hL
  obtain ⟨q, hq, hi⟩ := uCells_at (dA := dA) (ad := ad) (M := M) hs.2
  rw [uCell_A hs] at hq
  have hset : (uCells dA ad M).set q (ad a, .inl (dA 0, n, .inl (upd (M.1 a) x.toNatClampNeg y))) = uCells dA ad (mS M a x.toNatClampNeg y) := by
    refine uCells_arr hs hi ?_ ?_ rfl
    · funext z
      simp [mS, upd]
    · intro b hb
      funext z
      simp [mS, hb]
  exact va_iast cx.1 cx.2.1 cx.2.2.2.2.2.2.2.1.1 hP (uD cx.2.2.2.2.2.2.2.2) hS q 0 hq rfl hin hd (fun H1 locs1 hP1 hD1 hS1 => k p l e s m args below meth c D dA ad H1 locs1 ls cx (hset ▸ hP1) hS1 hL)
theorem cw_iastN {u : MI} {post : Option Value → Mem → Prop} {pc : Nat} {L : List (Option Value)} {st : List Value} {M : Mem} {a n i : Nat} {x y : Int32} (hs : SA a n) (hx : x = nI i) (hi : i < n) (hn : n < 1000) (hd : decode u.2.1 pc = .ok (.iastore, 1)) (k : CW u post (pc + 1) L st (mS M a i y)) : CW u post pc L (.int y :: .int x :: .ref a :: st) M := by
  subst hx
  refine cw_iast hs (vp_in_nI hi (by omega)) hd ?_
  rw [nI_clamp (by omega)]
  exact k
def mCpy (M : Mem) (a b sp dp n : Nat) : Mem := (fun k j => if k = b then va_cpy (M.1 a) (M.1 b) sp dp n j else M.1 k j, M.2)
theorem cw_copy {u : MI} {post : Option Value → Mem → Prop} {pc : Nat} {L : List (Option Value)} {st : List Value} {M : Mem} {a b n0 n1 sp dp n i : Nat} {x y z : Int32} (hl : Cond.methodLink u.1.cls i arraycopyName ∈ gt) (h0 : SA a n0) (h1 : SA b n1) (hx : x = nI sp) (hy : y = nI dp) (hz : z = nI n) (hb1 : sp + n ≤ n0) (hb2 : dp + n ≤ n1) (hm : n0 < 1000 ∧ n1 < 1000) (hf : Nat.ble 1 u.2.2.2.2.1 = true) (hlo : Nat.ble ((st.map fun v => v.category).sum + 18) u.2.2.2.2.2 = true) (hd : decode u.2.1 pc = .ok (.invokestatic i, 3)) (k : CW u post (pc + 3) L st (mCpy M a b sp dp n)) : CW u post pc L (.int z :: .int y :: .ref b :: .int x :: .ref a :: st) M := by
  intro p l e s m args below meth c D dA ad H locs ls cx hP hS hL
  subst hx; subst hy; subst hz
  obtain ⟨q0, hq0, -⟩ := uCells_at (dA := dA) (ad := ad) (M := M) h0.2
  rw [uCell_A h0] at hq0
  obtain ⟨q1, hq1, hi1⟩ := uCells_at (dA := dA) (ad := ad) (M := M) h1.2
  rw [uCell_A h1] at hq1
  have hset : (uCells dA ad M).set q1 (ad b, .inl (dA 0, n1, .inl (va_cpy (M.1 a) (M.1 b) sp dp n))) = uCells dA ad (mCpy M a b sp dp n) := by
    refine uCells_arr h1 hi1 ?_ ?_ rfl
    · funext w
      simp [mCpy]
    · intro c hc
      funext w
      simp [mCpy, hc]
  have hsum : ((st.map (cv ad)).map fun v => v.category).sum = (st.map fun v => v.category).sum := by
    rw [List.map_map]
    congr 2
    funext v
    exact cv_cat ad v
  have hlo2 := Nat.le_of_ble_eq_true hlo
  refine va_copyi (sp := nI sp) (dp := nI dp) (n := nI n) cx.1 cx.2.1 (by rw [cx.2.2.1, hL.1]) cx.2.2.2.1 (cx.2.2.2.2.1 _ hl) (cx.2.2.2.2.1 _ uNat) (cx.2.2.2.2.1 _ uNatS) (cx.2.2.2.2.1 _ uNatI) cx.2.2.2.2.2.2.2.1.1 hP (uD cx.2.2.2.2.2.2.2.2) hS q0 q1 0 0 hq0 hq1 rfl rfl rfl (nI_pos (by omega)) (nI_pos (by omega)) (nI_pos (by omega)) (by rw [nI_clamp (by omega), nI_clamp (by omega)]; exact hb1) (by rw [nI_clamp (by omega), nI_clamp (by omega)]; exact hb2) (fun _ _ => rfl) (Nat.le_of_ble_eq_true hf) (by rw [hsum]; exact hlo2) hd (fun H1 locs1 hP1 hD1 hS1 => ?_)
  rw [nI_clamp (by omega), nI_clamp (by omega), nI_clamp (by omega), hset] at hP1
  exact k p l e s m args below meth c D dA ad H1 locs1 ls cx hP1 hS1 hL
theorem uBlind {D : va_G} {dA : Nat → ClassId} {ad : Nat → Nat} {As : List Value} {M : Mem} : FrameBlind (uPc D dA ad As M) := by
  intro a U g mk q
  obtain ⟨q0, qP, qK, qI⟩ := q
  exact ⟨q0, qP, ⟨va_K.moved (u := U) (U := U.calling g mk a) (Vm.Alike.refl U.vm) qK.1, va_Nw.same rfl (u := U) (U := U.calling g mk a) rfl qK.2⟩, qI⟩
theorem cs_intro {u : MI} {As : List Value} {M : Mem} {post : Option Value → Mem → Prop} {L : List (Option Value)} (hy : plainName u.1.cls = true) (hE : ∀ ad, ∀ q ∈ al ad 0 L, q ∈ lv_args 0 (As.map (cv ad))) (hn : ∀ ad, (lg_sl (As.map (cv ad))).length ≤ u.2.2.1) (h : CW u post 0 L [] M) : CS u As M post := by
  intro l D dA ad
  refine Met.ofW (cc := u.2.1) (maxL := u.2.2.1) (ret := u.2.2.2.1) hy rfl ?_
  intro p e s m args below meth c s₁ B hml hv
  obtain ⟨rfl, hP, hK, hI⟩ := hv
  have hts := atoms_spec (ws := uLn u) B.pre
  have hl := lv_entry (As.map (cv ad)) (n := u.2.2.1) (hn ad)
  rw [lg_entry_eq]
  exact h p l e s m _ below meth c D dA ad s.heap [] _ ⟨B.exec, B.bytes, hml, findClass_of_methodNamed B.named, fun w hw => hts w (List.mem_cons_of_mem _ hw), B.returns, B.notSynchronized, hK, hI⟩ hP va_S.rf (hl.mono (hE ad))
theorem uGood {u u' : MI} (hc : Cond.code u'.1 u'.2.1 u'.2.2.1 u'.2.2.2.1 ∈ gt) : GoodIn gt (uLn u') := by
  intro w hw
  rcases List.mem_cons.mp hw with e | e
  · rw [e]
    exact ⟨hc, good_of_word (gt_good hc)⟩
  · exact ⟨e, good_of_word (gt_good e)⟩
/-- the entry idx of own's pool names the static method u' -/
def SL (own : String) (idx : Nat) (u' : MI) (n : Nat) : Prop := (Cond.methodLink own idx u'.1 ∈ gt ∧ Cond.static u'.1 ∈ gt ∧ Cond.initialized u'.1.cls ∈ gt ∧ Cond.code u'.1 u'.2.1 u'.2.2.1 u'.2.2.2.1 ∈ gt) ∧ (u'.1.cls ≠ "java/lang/invoke/MethodHandle" ∧ u'.1.cls ≠ "java/lang/invoke/VarHandle" ∧ (parseMethodDescriptor u'.1.desc).map (fun d => d.parameters.length) = some n)
def VL (own : String) (idx ci : Nat) (u' : MI) (n : Nat) : Prop := (Cond.methodLink own idx u'.1 ∈ gt ∧ Cond.instanceMethod u'.1 ∈ gt ∧ Cond.selects u'.1.cls u'.1 u'.1 ∈ gt ∧ Cond.initialized u'.1.cls ∈ gt ∧ Cond.code u'.1 u'.2.1 u'.2.2.1 u'.2.2.2.1 ∈ gt) ∧ (u'.1.cls ≠ "java/lang/invoke/MethodHandle" ∧ u'.1.cls ≠ "java/lang/invoke/VarHandle" ∧ (parseMethodDescriptor u'.1.desc).map (fun d => d.parameters.length) = some n) ∧ ∃ (T : u_T) (N : Nat), uCls[ci]? = some (u'.1.cls, T, N)
def uFit (u u' : MI) : Bool := Nat.ble (u'.2.2.2.2.1 + 1) u.2.2.2.2.1 && Nat.ble (8 + (u'.2.2.1 + 11) + u'.2.2.2.2.2) u.2.2.2.2.2
theorem uFit_1 {u u' : MI} (h : uFit u u' = true) : (uRm u').frames + 1 ≤ (uRm u).frames ∧ 8 + (u'.2.2.1 + 11) + (uRm u').locals ≤ (uRm u).locals := by
  unfold uFit at h
  rw [Bool.and_eq_true] at h
  exact ⟨Nat.le_of_ble_eq_true h.1, Nat.le_of_ble_eq_true h.2⟩
section CWCALL
variable {p : Program} {l : Launch} {e : Env} {R : Room} {s : State} {m : MethodId} {args : Array Value} {below : List Frame} {meth : Method} {c : Code} {H : Heap} {locs : List Loc} {Q : State → Prop}
theorem cw_run {D : va_G} {dA : Nat → ClassId} {ad : Nat → Nat} {post' : Option Value → Mem → Prop} {pc : Nat} {ls : Array Slot} {st0 rest : List Value} {a : Array Value} (hr : va_Run p l e R s m args below meth c H locs 0 0 0 0 (F0 m pc ls st0) rest (uQc D dA ad post' a) (uA ad)) (hS : va_S (uA ad) s.heap H locs)
    (kk : ∀ (v : Option Value) (M' : Mem) (H1 : Heap) (locs1 : List Loc), post' v M' → va_P D uCls (uCells dA ad M') H1 → va_S (uA ad) s.heap H1 locs1 → W p l e R s m args below meth c H1 locs1 0 0 Q (F0 m (pc + 3) ls ((v.map (cv ad)).toList ++ rest))) : W p l e R s m args below meth c H locs 0 0 Q (F0 m pc ls st0) := by
  intro T hT X
  obtain ⟨v, st₀, t, T', L, h0, X', hL, e1, e2, ⟨⟨v', M', hv, hp, hb⟩, hz, hk⟩, st⟩ := hr T hT X
  cases hv
  rw [h0] at hz hk
  obtain ⟨t2, a1, b1⟩ := kk v' M' T'.heap (locs ++ L) hp (by rw [e1]; exact hb)
    ⟨Nat.le_trans hS.1 (by rw [e1]; exact hz), fun q h1 h2 => by rw [e1, hk q (Nat.lt_of_lt_of_le h1 hS.1) h2]; exact hS.2.1 q h1 h2, fun q hq => by
      rcases List.mem_append.mp hq with h | h
      · exact hS.2.2 q h
      · exact hL q h⟩ T' rfl X'
  exact ⟨t2, st t2 a1, b1⟩
end CWCALL
theorem uSum {ad : Nat → Nat} {st : List Value} (h : Nat.ble ((st.map fun v => v.category).sum) 8 = true) : 2 * 0 + ((st.map (cv ad)).map fun v => v.category).sum ≤ 8 := by
  have hsum : ((st.map (cv ad)).map fun v => v.category).sum = (st.map fun v => v.category).sum := by
    rw [List.map_map]
    congr 2
    funext v
    exact cv_cat ad v
  rw [hsum]
  have := Nat.le_of_ble_eq_true h
  omega
theorem uStk {ad : Nat → Nat} {As st st0 : List Value} (h : st0 = As.reverse ++ st) : st0.map (cv ad) = (As.map (cv ad)).reverse ++ st.map (cv ad) := by
  rw [h, List.map_append, List.map_reverse]
theorem cw_static {u : MI} {post : Option Value → Mem → Prop} {pc : Nat} {L : List (Option Value)} {st : List Value} {M : Mem} {u' : MI} {i : Nat} {As st0 : List Value} {post' : Option Value → Mem → Prop} (hw : SL u.1.cls i u' As.length) (hcs : CS u' As M post') (hst : st0 = As.reverse ++ st) (hf : uFit u u' = true) (hsum : Nat.ble ((st.map fun v => v.category).sum) 8 = true) (hd : decode u.2.1 pc = .ok (.invokestatic i, 3)) (k : ∀ (v : Option Value) (M' : Mem), post' v M' → CW u post (pc + 3) L (v.toList ++ st) M') : CW u post pc L st0 M := by
  intro p l e s m args below meth c D dA ad H locs ls cx hP hS hL
  obtain ⟨⟨w1, w2, w3, w4⟩, w5⟩ := hw
  have hts := cx.2.2.2.2.1
  refine cw_run (va_runS (As := As.map (cv ad)) (rest := st.map (cv ad)) (Ts := gt) (own := u.1.cls) ⟨cx.1, cx.2.1, cx.2.2.1, cx.2.2.2.1, hts⟩ (hcs l D dA ad) ⟨callB_of As.length hts (uGood (u := u) w4) rfl rfl rfl (hts _ w3) (hts _ w1) w5 (uFit_1 hf), hts _ w2⟩ ⟨uBlind, fun U hU hW => ⟨rfl, by rw [hU]; exact hP, cx.2.2.2.2.2.2.2.1.moved hW, cx.2.2.2.2.2.2.2.2⟩⟩ rfl (by simp) hL.1 (uStk hst) (uSum hsum) hd ⟨Nat.zero_le _, Nat.zero_le _⟩) hS (fun v M' H1 locs1 hp hP1 hS1 => ?_)
  have h := k v M' hp p l e s m args below meth c D dA ad H1 locs1 ls cx hP1 hS1 hL
  rw [List.map_append] at h
  cases v <;> exact h
theorem cw_virt {u : MI} {post : Option Value → Mem → Prop} {pc : Nat} {L : List (Option Value)} {st : List Value} {M : Mem} {u' : MI} {i a ci : Nat} {fs : List Fk} {As st0 : List Value} {post' : Option Value → Mem → Prop} (hw : VL u.1.cls i ci u' As.length) (hcs : CS u' (.ref a :: As) M post') (hs : SO a ci fs) (hst : st0 = As.reverse ++ .ref a :: st) (hf : uFit u u' = true) (hsum : Nat.ble ((st.map fun v => v.category).sum) 8 = true) (hd : decode u.2.1 pc = .ok (.invokevirtual i, 3)) (k : ∀ (v : Option Value) (M' : Mem), post' v M' → CW u post (pc + 3) L (v.toList ++ st) M') : CW u post pc L st0 M := by
  intro p l e s m args below meth c D dA ad H locs ls cx hP hS hL
  obtain ⟨⟨w1, w2, w3, w4, w6⟩, w5, T, N, hc⟩ := hw
  have hts := cx.2.2.2.2.1
  obtain ⟨q, hq, -⟩ := uCells_at (dA := dA) (ad := ad) (M := M) hs.2
  rw [uCell_O hs] at hq
  refine cw_run (va_runV (As := As.map (cv ad)) (rest := st.map (cv ad)) (Ts := gt) (own := u.1.cls) (C := u'.1.cls) (b := ad a) ⟨cx.1, cx.2.1, cx.2.2.1, cx.2.2.2.1, hts⟩ (hcs l D dA ad) ⟨callB_of As.length hts (uGood (u := u) w6) rfl rfl rfl (hts _ w4) (hts _ w1) w5 (uFit_1 hf), hts _ w2, hts _ w3⟩ ⟨uBlind, va_recv cx.2.2.2.2.2.2.2.1.1 hP hc hq, fun U hU hW => ⟨rfl, by rw [hU]; exact hP, cx.2.2.2.2.2.2.2.1.moved hW, cx.2.2.2.2.2.2.2.2⟩⟩ rfl (by simp) hL.1 (by show st0.map (cv ad) = _; rw [hst, List.map_append, List.map_reverse]; rfl) (uSum hsum) hd ⟨Nat.zero_le _, Nat.zero_le _⟩) hS (fun v M' H1 locs1 hp hP1 hS1 => ?_)
  have h := k v M' hp p l e s m args below meth c D dA ad H1 locs1 ls cx hP1 hS1 hL
  rw [List.map_append] at h
  cases v <;> exact h
/-- the one call of a nest mate's private static method: Hand.mark, isPart -/
theorem cw_nest {u : MI} {post : Option Value → Mem → Prop} {pc : Nat} {L : List (Option Value)} {st : List Value} {M : Mem} {u' : MI} {As st0 : List Value} {post' : Option Value → Mem → Prop} (hw : u.1.cls = "UnlikeDrawn$Hand" ∧ u'.1 = ⟨"UnlikeDrawn", "isPart", "(I)Z"⟩ ∧ Cond.static u'.1 ∈ gt ∧ Cond.initialized u'.1.cls ∈ gt ∧ Cond.code u'.1 u'.2.1 u'.2.2.1 u'.2.2.2.1 ∈ gt) (hn : As.length = 1) (hcs : CS u' As M post') (hst : st0 = As.reverse ++ st) (hf : uFit u u' = true) (hsum : Nat.ble ((st.map fun v => v.category).sum) 8 = true) (hd : decode u.2.1 pc = .ok (.invokestatic 52, 3)) (k : ∀ (v : Option Value) (M' : Mem), post' v M' → CW u post (pc + 3) L (v.toList ++ st) M') : CW u post pc L st0 M := by
  intro p l e s m args below meth c D dA ad H locs ls cx hP hS hL
  obtain ⟨w0, w1, w2, w3, w4⟩ := hw
  have hts := cx.2.2.2.2.1
  have hnest : va_Nw (.methodLinkNest u.1.cls 52 u'.1 "UnlikeDrawn") s := by rw [w0, w1]; exact cx.2.2.2.2.2.2.2.1.2
  refine cw_run (va_runSN (As := As.map (cv ad)) (rest := st.map (cv ad)) (Ts := gt) (own := u.1.cls) (host := "UnlikeDrawn") ⟨cx.1, cx.2.1, cx.2.2.1, cx.2.2.2.1, hts⟩ (hcs l D dA ad) ⟨va_cnB 1 hts (uGood (u := u) w4) rfl rfl rfl hnest (hts _ w3) (by rw [w1]; decide +kernel) (uFit_1 hf), hts _ w2, trivial⟩ ⟨uBlind, fun U hU hW => ⟨rfl, by rw [hU]; exact hP, cx.2.2.2.2.2.2.2.1.moved hW, cx.2.2.2.2.2.2.2.2⟩⟩ rfl (by simp [hn]) hL.1 (uStk hst) (uSum hsum) hd ⟨Nat.zero_le _, Nat.zero_le _⟩) hS (fun v M' H1 locs1 hp hP1 hS1 => ?_)
  have h := k v M' hp p l e s m args below meth c D dA ad H1 locs1 ls cx hP1 hS1 hL
  rw [List.map_append] at h
  cases v <;> exact h
end
section
/-! ===== methods: name, bytes, locals, what it returns, its room ===== -/
def u_Fr_init : MI := (⟨"UnlikeDrawn$Fraction", "<init>", "()V"⟩, prog_2_method_1_code, 1, none, 1, 20)
def u_Fr_become : MI := (⟨"UnlikeDrawn$Fraction", "become", "(JJ)V"⟩, prog_2_method_2_code, 5, none, 0, 0)
def u_Fr_cut : MI := (⟨"UnlikeDrawn$Fraction", "cut", "()J"⟩, prog_2_method_3_code, 1, (some .long), 0, 0)
def u_Fr_isAbove : MI := (⟨"UnlikeDrawn$Fraction", "isAbove", "(LUnlikeDrawn$Fraction;)Z"⟩, prog_2_method_4_code, 10, (some .boolean), 1, 20)
def u_Fr_told : MI := (⟨"UnlikeDrawn$Fraction", "told", "(I)J"⟩, prog_2_method_5_code, 9, (some .long), 1, 21)
def u_Ha_init : MI := (⟨"UnlikeDrawn$Hand", "<init>", "()V"⟩, prog_3_method_1_code, 1, none, 1, 23)
def u_Ha_append : MI := (⟨"UnlikeDrawn$Hand", "append", "(I)V"⟩, prog_3_method_2_code, 2, none, 4, 94)
def u_Ha_clear : MI := (⟨"UnlikeDrawn$Hand", "clear", "()V"⟩, prog_3_method_3_code, 1, none, 4, 94)
def u_Ha_understand : MI := (⟨"UnlikeDrawn$Hand", "understand", "()V"⟩, prog_3_method_4_code, 4, none, 3, 71)
def u_Ha_behindPiece : MI := (⟨"UnlikeDrawn$Hand", "behindPiece", "(I)I"⟩, prog_3_method_5_code, 7, (some .int), 2, 45)
def u_Ha_stopAt : MI := (⟨"UnlikeDrawn$Hand", "stopAt", "(I)I"⟩, prog_3_method_6_code, 2, (some .int), 0, 0)
def u_Ha_mark : MI := (⟨"UnlikeDrawn$Hand", "mark", "(II)V"⟩, prog_3_method_7_code, 3, none, 1, 23)
def u_Ha_byteAt : MI := (⟨"UnlikeDrawn$Hand", "byteAt", "(I)I"⟩, prog_3_method_8_code, 2, (some .int), 0, 0)
def u_Ha_isFigure : MI := (⟨"UnlikeDrawn$Hand", "isFigure", "(I)Z"⟩, prog_3_method_9_code, 1, (some .boolean), 0, 0)
def u_He_init : MI := (⟨"UnlikeDrawn$Head", "<init>", "()V"⟩, prog_4_method_1_code, 1, none, 1, 23)
def u_He_offFrom : MI := (⟨"UnlikeDrawn$Head", "offFrom", "([I)I"⟩, prog_4_method_2_code, 4, (some .int), 1, 20)
def u_Kn_init : MI := (⟨"UnlikeDrawn$Knower", "<init>", "()V"⟩, prog_5_method_1_code, 1, none, 1, 20)
def u_Kn_knows : MI := (⟨"UnlikeDrawn$Knower", "knows", "(I)Z"⟩, prog_5_method_2_code, 2, (some .boolean), 0, 0)
def u_Kn_gaze : MI := (⟨"UnlikeDrawn$Knower", "gaze", "(LUnlikeDrawn$Sketch;II)V"⟩, prog_5_method_3_code, 6, none, 1, 21)
def u_Kn_weigh : MI := (⟨"UnlikeDrawn$Knower", "weigh", "(LUnlikeDrawn$Sketch;LUnlikeDrawn$Head;LUnlikeDrawn$Fraction;)V"⟩, prog_5_method_4_code, 11, none, 1, 24)
def u_Sh_init : MI := (⟨"UnlikeDrawn$Sheet", "<init>", "()V"⟩, prog_6_method_1_code, 1, none, 1, 20)
def u_Sh_isLost : MI := (⟨"UnlikeDrawn$Sheet", "isLost", "()Z"⟩, prog_6_method_2_code, 1, (some .boolean), 0, 0)
def u_Sh_begin : MI := (⟨"UnlikeDrawn$Sheet", "begin", "(II)V"⟩, prog_6_method_3_code, 3, none, 1, 23)
def u_Sh_hasRun : MI := (⟨"UnlikeDrawn$Sheet", "hasRun", "(II)Z"⟩, prog_6_method_4_code, 3, (some .boolean), 0, 0)
def u_Sh_put : MI := (⟨"UnlikeDrawn$Sheet", "put", "(II)V"⟩, prog_6_method_5_code, 3, none, 0, 0)
def u_Sk_init : MI := (⟨"UnlikeDrawn$Sketch", "<init>", "()V"⟩, prog_7_method_1_code, 1, none, 1, 20)
def u_Sk_has : MI := (⟨"UnlikeDrawn$Sketch", "has", "(I)Z"⟩, prog_7_method_2_code, 2, (some .boolean), 0, 0)
def u_Sk_isOffByMoreThan : MI := (⟨"UnlikeDrawn$Sketch", "isOffByMoreThan", "(I)Z"⟩, prog_7_method_3_code, 3, (some .boolean), 1, 21)
def u_Sk_distanceTo : MI := (⟨"UnlikeDrawn$Sketch", "distanceTo", "(LUnlikeDrawn$Sketch;I)I"⟩, prog_7_method_4_code, 5, (some .int), 1, 21)
def u_C_init : MI := (⟨"UnlikeDrawn", "<init>", "()V"⟩, prog_1_method_1_code, 2, none, 2, 43)
def u_C_head : MI := (⟨"UnlikeDrawn", "head", "()I"⟩, prog_1_method_2_code, 1, (some .int), 0, 0)
def u_C_place : MI := (⟨"UnlikeDrawn", "place", "(III)I"⟩, prog_1_method_3_code, 6, (some .int), 1, 21)
def u_C_read : MI := (⟨"UnlikeDrawn", "read", "(II)I"⟩, prog_1_method_4_code, 7, (some .int), 1, 21)
def u_C_mean : MI := (⟨"UnlikeDrawn", "mean", "(II)I"⟩, prog_1_method_5_code, 3, (some .int), 1, 25)
def u_C_type : MI := (⟨"UnlikeDrawn", "type", "(II)I"⟩, prog_1_method_6_code, 3, (some .int), 5, 115)
def u_C_wipe : MI := (⟨"UnlikeDrawn", "wipe", "(I)I"⟩, prog_1_method_7_code, 3, (some .int), 5, 114)
def u_C_fault : MI := (⟨"UnlikeDrawn", "fault", "(I)I"⟩, prog_1_method_8_code, 2, (some .int), 1, 20)
def u_C_tenths : MI := (⟨"UnlikeDrawn", "tenths", "(II)I"⟩, prog_1_method_9_code, 3, (some .int), 1, 20)
def u_C_drawn : MI := (⟨"UnlikeDrawn", "drawn", "(IIII)I"⟩, prog_1_method_10_code, 5, (some .int), 2, 44)
def u_C_set : MI := (⟨"UnlikeDrawn", "set", "(II)I"⟩, prog_1_method_11_code, 4, (some .int), 0, 0)
def u_C_draw : MI := (⟨"UnlikeDrawn", "draw", "(IIII)I"⟩, prog_1_method_12_code, 6, (some .int), 3, 67)
def u_C_copied : MI := (⟨"UnlikeDrawn", "copied", "(III)I"⟩, prog_1_method_13_code, 6, (some .int), 3, 67)
def u_C_line : MI := (⟨"UnlikeDrawn", "line", "(II)I"⟩, prog_1_method_14_code, 3, (some .int), 1, 21)
def u_C_about : MI := (⟨"UnlikeDrawn", "about", "(II)I"⟩, prog_1_method_15_code, 4, (some .int), 4, 93)
def u_C_unlike : MI := (⟨"UnlikeDrawn", "unlike", "(II)I"⟩, prog_1_method_16_code, 3, (some .int), 2, 45)
def u_C_knower : MI := (⟨"UnlikeDrawn", "knower", "(II)I"⟩, prog_1_method_17_code, 4, (some .int), 2, 48)
def u_C_look : MI := (⟨"UnlikeDrawn", "look", "(III)I"⟩, prog_1_method_18_code, 4, (some .int), 2, 46)
def u_C_leans : MI := (⟨"UnlikeDrawn", "leans", "(II)I"⟩, prog_1_method_19_code, 3, (some .int), 1, 21)
def u_C_score : MI := (⟨"UnlikeDrawn", "score", "(IIII)J"⟩, prog_1_method_20_code, 5, (some .long), 2, 54)
def u_C_named : MI := (⟨"UnlikeDrawn", "named", "(III)I"⟩, prog_1_method_21_code, 5, (some .int), 3, 82)
def u_C_much : MI := (⟨"UnlikeDrawn", "much", "(IIII)I"⟩, prog_1_method_22_code, 5, (some .int), 5, 128)
def u_C_few : MI := (⟨"UnlikeDrawn", "few", "(IIII)I"⟩, prog_1_method_23_code, 8, (some .int), 4, 102)
def u_C_stands : MI := (⟨"UnlikeDrawn", "stands", "(IIII)I"⟩, prog_1_method_24_code, 8, (some .int), 4, 102)
def u_C_grows : MI := (⟨"UnlikeDrawn", "grows", "(III)J"⟩, prog_1_method_25_code, 16, (some .long), 2, 49)
def u_C_back : MI := (⟨"UnlikeDrawn", "back", "(III)I"⟩, prog_1_method_26_code, 4, (some .int), 2, 49)
def u_C_near : MI := (⟨"UnlikeDrawn", "near", "(II)I"⟩, prog_1_method_27_code, 6, (some .int), 2, 49)
def u_C_witness : MI := (⟨"UnlikeDrawn", "witness", "(III)I"⟩, prog_1_method_28_code, 6, (some .int), 1, 25)
def u_C_plainest : MI := (⟨"UnlikeDrawn", "plainest", "(I)I"⟩, prog_1_method_29_code, 6, (some .int), 2, 48)
def u_C_sheet : MI := (⟨"UnlikeDrawn", "sheet", "(III)I"⟩, prog_1_method_30_code, 4, (some .int), 2, 45)
def u_C_lose : MI := (⟨"UnlikeDrawn", "lose", "(I)I"⟩, prog_1_method_31_code, 3, (some .int), 2, 45)
def u_C_lay : MI := (⟨"UnlikeDrawn", "lay", "(IIII)I"⟩, prog_1_method_32_code, 6, (some .int), 2, 42)
def u_C_get : MI := (⟨"UnlikeDrawn", "get", "(III)I"⟩, prog_1_method_33_code, 5, (some .int), 2, 42)
def u_C_copy : MI := (⟨"UnlikeDrawn", "copy", "(IIIII)I"⟩, prog_1_method_34_code, 8, (some .int), 1, 26)
def u_C_write : MI := (⟨"UnlikeDrawn", "write", "(II)I"⟩, prog_1_method_35_code, 6, (some .int), 1, 22)
def u_C_count : MI := (⟨"UnlikeDrawn", "count", "(I)I"⟩, prog_1_method_36_code, 2, (some .int), 3, 65)
def u_C_digest : MI := (⟨"UnlikeDrawn", "digest", "()J"⟩, prog_1_method_37_code, 5, (some .long), 6, 142)
def u_C_isHead : MI := (⟨"UnlikeDrawn", "isHead", "(I)Z"⟩, prog_1_method_38_code, 2, (some .boolean), 0, 0)
def u_C_isDrawing : MI := (⟨"UnlikeDrawn", "isDrawing", "(I)Z"⟩, prog_1_method_39_code, 2, (some .boolean), 0, 0)
def u_C_isKnower : MI := (⟨"UnlikeDrawn", "isKnower", "(I)Z"⟩, prog_1_method_40_code, 2, (some .boolean), 0, 0)
def u_C_isSet : MI := (⟨"UnlikeDrawn", "isSet", "(I)Z"⟩, prog_1_method_41_code, 2, (some .boolean), 0, 0)
def u_C_isNextYear : MI := (⟨"UnlikeDrawn", "isNextYear", "(I)Z"⟩, prog_1_method_42_code, 3, (some .boolean), 0, 0)
def u_C_isPart : MI := (⟨"UnlikeDrawn", "isPart", "(I)Z"⟩, prog_1_method_43_code, 1, (some .boolean), 0, 0)
def u_C_isPlace : MI := (⟨"UnlikeDrawn", "isPlace", "(I)Z"⟩, prog_1_method_44_code, 1, (some .boolean), 0, 0)
def u_C_isHand : MI := (⟨"UnlikeDrawn", "isHand", "(I)Z"⟩, prog_1_method_45_code, 1, (some .boolean), 0, 0)
def u_C_isSheet : MI := (⟨"UnlikeDrawn", "isSheet", "(I)Z"⟩, prog_1_method_46_code, 1, (some .boolean), 0, 0)
def u_C_isForm : MI := (⟨"UnlikeDrawn", "isForm", "(I)Z"⟩, prog_1_method_47_code, 1, (some .boolean), 0, 0)
def u_C_refusalOfParts : MI := (⟨"UnlikeDrawn", "refusalOfParts", "(IIII)I"⟩, prog_1_method_48_code, 5, (some .int), 1, 21)
def u_C_found : MI := (⟨"UnlikeDrawn", "found", "(I)I"⟩, prog_1_method_49_code, 2, (some .int), 0, 0)
def u_C_findingAt : MI := (⟨"UnlikeDrawn", "findingAt", "(LUnlikeDrawn$Sheet;II)I"⟩, prog_1_method_50_code, 3, (some .int), 1, 20)
def u_C_meanOf : MI := (⟨"UnlikeDrawn", "meanOf", "(II)I"⟩, prog_1_method_51_code, 6, (some .int), 0, 0)
def u_C_fillMean : MI := (⟨"UnlikeDrawn", "fillMean", "(I[I)V"⟩, prog_1_method_52_code, 4, none, 1, 25)
def u_C_drawnAt : MI := (⟨"UnlikeDrawn", "drawnAt", "(III)I"⟩, prog_1_method_53_code, 4, (some .int), 1, 21)
def u_C_outline : MI := (⟨"UnlikeDrawn", "outline", "(LUnlikeDrawn$Sketch;[ILUnlikeDrawn$Hand;)V"⟩, prog_1_method_54_code, 4, none, 2, 44)
def u_C_kindOf : MI := (⟨"UnlikeDrawn", "kindOf", "(LUnlikeDrawn$Sketch;[ILUnlikeDrawn$Hand;)I"⟩, prog_1_method_55_code, 6, (some .int), 1, 21)
def u_C_monsters : MI := (⟨"UnlikeDrawn", "monsters", "()I"⟩, prog_1_method_56_code, 3, (some .int), 2, 43)
def u_C_fromOf : MI := (⟨"UnlikeDrawn", "fromOf", "(I)I"⟩, prog_1_method_57_code, 6, (some .int), 2, 45)
def u_C_agesOf : MI := (⟨"UnlikeDrawn", "agesOf", "(I)I"⟩, prog_1_method_58_code, 4, (some .int), 3, 70)
def u_C_whoseIs : MI := (⟨"UnlikeDrawn", "whoseIs", "(LUnlikeDrawn$Sketch;)I"⟩, prog_1_method_59_code, 6, (some .int), 3, 67)
def u_C_nameFor : MI := (⟨"UnlikeDrawn", "nameFor", "(LUnlikeDrawn$Knower;LUnlikeDrawn$Sketch;)I"⟩, prog_1_method_60_code, 5, (some .int), 2, 54)
def u_C_marginOf : MI := (⟨"UnlikeDrawn", "marginOf", "(LUnlikeDrawn$Knower;LUnlikeDrawn$Sketch;I)I"⟩, prog_1_method_61_code, 9, (some .int), 2, 54)
def u_C_tryParts : MI := (⟨"UnlikeDrawn", "tryParts", "(III)V"⟩, prog_1_method_62_code, 6, none, 2, 44)
def u_C_isNamedBy : MI := (⟨"UnlikeDrawn", "isNamedBy", "(LUnlikeDrawn$Knower;III)Z"⟩, prog_1_method_63_code, 5, (some .boolean), 3, 78)
def u_C_leastNamed : MI := (⟨"UnlikeDrawn", "leastNamed", "(LUnlikeDrawn$Knower;I)I"⟩, prog_1_method_64_code, 4, (some .int), 4, 102)
def u_C_bestNamed : MI := (⟨"UnlikeDrawn", "bestNamed", "(LUnlikeDrawn$Knower;I)I"⟩, prog_1_method_65_code, 7, (some .int), 4, 102)
def u_C_leastMonster : MI := (⟨"UnlikeDrawn", "leastMonster", "(I)I"⟩, prog_1_method_66_code, 3, (some .int), 3, 69)
def u_C_putBack : MI := (⟨"UnlikeDrawn", "putBack", "(III)I"⟩, prog_1_method_67_code, 9, (some .int), 1, 21)
def u_C_furthestOff : MI := (⟨"UnlikeDrawn", "furthestOff", "()I"⟩, prog_1_method_68_code, 3, (some .int), 0, 0)
def u_C_digestOfDrawing : MI := (⟨"UnlikeDrawn", "digestOfDrawing", "(JI)J"⟩, prog_1_method_69_code, 7, (some .long), 5, 116)
def u_C_digestOfKnower : MI := (⟨"UnlikeDrawn", "digestOfKnower", "(JI)J"⟩, prog_1_method_70_code, 7, (some .long), 4, 106)
def u_M_init : MI := (⟨"UnlikeDrawnModel", "<init>", "()V"⟩, prog_9_method_1_code, 2, none, 1, 20)
def u_M_in : MI := (⟨"UnlikeDrawnModel", "in", "(JJJ)Z"⟩, prog_9_method_3_code, 6, (some .boolean), 0, 0)
def u_M_no : MI := (⟨"UnlikeDrawnModel", "no", "(I)J"⟩, prog_9_method_4_code, 1, (some .long), 0, 0)
def u_M_dear : MI := (⟨"UnlikeDrawnModel", "dear", "(I)I"⟩, prog_9_method_5_code, 1, (some .int), 0, 0)
def u_M_isTwo : MI := (⟨"UnlikeDrawnModel", "isTwo", "(I)Z"⟩, prog_9_method_6_code, 1, (some .boolean), 1, 25)
def u_M_amount : MI := (⟨"UnlikeDrawnModel", "amount", "(I)I"⟩, prog_9_method_7_code, 1, (some .int), 0, 0)
def u_M_met : MI := (⟨"UnlikeDrawnModel", "met", "(I)I"⟩, prog_9_method_8_code, 2, (some .int), 0, 0)
def u_M_isSheet : MI := (⟨"UnlikeDrawnModel", "isSheet", "(I)Z"⟩, prog_9_method_9_code, 1, (some .boolean), 1, 25)
def u_M_sheet : MI := (⟨"UnlikeDrawnModel", "sheet", "(III)I"⟩, prog_9_method_10_code, 5, (some .int), 2, 45)
def u_M_lose : MI := (⟨"UnlikeDrawnModel", "lose", "(I)I"⟩, prog_9_method_11_code, 2, (some .int), 2, 45)
def u_M_lacks : MI := (⟨"UnlikeDrawnModel", "lacks", "(III)I"⟩, prog_9_method_12_code, 4, (some .int), 1, 25)
def u_M_cut : MI := (⟨"UnlikeDrawnModel", "cut", "(II)I"⟩, prog_9_method_13_code, 2, (some .int), 0, 0)
def u_M_lay : MI := (⟨"UnlikeDrawnModel", "lay", "(IIII)I"⟩, prog_9_method_14_code, 6, (some .int), 2, 48)
def u_M_get : MI := (⟨"UnlikeDrawnModel", "get", "(III)I"⟩, prog_9_method_15_code, 4, (some .int), 2, 48)
def u_M_copy : MI := (⟨"UnlikeDrawnModel", "copy", "(IIIII)I"⟩, prog_9_method_16_code, 7, (some .int), 2, 45)
def u_M_isHead : MI := (⟨"UnlikeDrawnModel", "isHead", "(I)Z"⟩, prog_9_method_17_code, 2, (some .boolean), 1, 25)
def u_M_isPart : MI := (⟨"UnlikeDrawnModel", "isPart", "(I)Z"⟩, prog_9_method_18_code, 1, (some .boolean), 1, 25)
def u_M_isHand : MI := (⟨"UnlikeDrawnModel", "isHand", "(I)Z"⟩, prog_9_method_19_code, 1, (some .boolean), 1, 25)
def u_M_isSet : MI := (⟨"UnlikeDrawnModel", "isSet", "(I)Z"⟩, prog_9_method_20_code, 2, (some .boolean), 1, 25)
def u_M_head : MI := (⟨"UnlikeDrawnModel", "head", "()I"⟩, prog_9_method_21_code, 2, (some .int), 0, 0)
def u_M_place : MI := (⟨"UnlikeDrawnModel", "place", "(III)I"⟩, prog_9_method_22_code, 5, (some .int), 2, 46)
def u_M_read : MI := (⟨"UnlikeDrawnModel", "read", "(II)I"⟩, prog_9_method_23_code, 4, (some .int), 3, 70)
def u_M_meanOf : MI := (⟨"UnlikeDrawnModel", "meanOf", "(II)I"⟩, prog_9_method_24_code, 7, (some .int), 0, 0)
def u_M_mean : MI := (⟨"UnlikeDrawnModel", "mean", "(II)I"⟩, prog_9_method_25_code, 3, (some .int), 2, 46)
def u_M_type : MI := (⟨"UnlikeDrawnModel", "type", "(II)I"⟩, prog_9_method_26_code, 3, (some .int), 2, 45)
def u_M_wipe : MI := (⟨"UnlikeDrawnModel", "wipe", "(I)I"⟩, prog_9_method_27_code, 3, (some .int), 2, 45)
def u_M_here : MI := (⟨"UnlikeDrawnModel", "here", "(I)I"⟩, prog_9_method_28_code, 2, (some .int), 0, 0)
def u_M_number : MI := (⟨"UnlikeDrawnModel", "number", "(I)I"⟩, prog_9_method_29_code, 4, (some .int), 1, 25)
def u_M_readsPiece : MI := (⟨"UnlikeDrawnModel", "readsPiece", "(I)Z"⟩, prog_9_method_30_code, 6, (some .boolean), 2, 48)
def u_M_clears : MI := (⟨"UnlikeDrawnModel", "clears", "()V"⟩, prog_9_method_31_code, 2, none, 0, 0)
def u_M_reads : MI := (⟨"UnlikeDrawnModel", "reads", "(I)I"⟩, prog_9_method_32_code, 3, (some .int), 3, 73)
def u_M_fault : MI := (⟨"UnlikeDrawnModel", "fault", "(I)I"⟩, prog_9_method_33_code, 2, (some .int), 4, 95)
def u_M_tenths : MI := (⟨"UnlikeDrawnModel", "tenths", "(II)I"⟩, prog_9_method_34_code, 3, (some .int), 4, 95)
def u_M_drawnBy : MI := (⟨"UnlikeDrawnModel", "drawnBy", "(III)I"⟩, prog_9_method_35_code, 4, (some .int), 0, 0)
def u_M_drawn : MI := (⟨"UnlikeDrawnModel", "drawn", "(IIII)I"⟩, prog_9_method_36_code, 5, (some .int), 4, 95)
def u_M_set : MI := (⟨"UnlikeDrawnModel", "set", "(II)I"⟩, prog_9_method_37_code, 4, (some .int), 1, 25)
def u_M_isDrawing : MI := (⟨"UnlikeDrawnModel", "isDrawing", "(I)Z"⟩, prog_9_method_38_code, 2, (some .boolean), 1, 25)
def u_M_isLate : MI := (⟨"UnlikeDrawnModel", "isLate", "(I)Z"⟩, prog_9_method_39_code, 2, (some .boolean), 1, 25)
def u_M_draw : MI := (⟨"UnlikeDrawnModel", "draw", "(IIII)I"⟩, prog_9_method_40_code, 12, (some .int), 4, 95)
def u_M_copied : MI := (⟨"UnlikeDrawnModel", "copied", "(III)I"⟩, prog_9_method_41_code, 6, (some .int), 4, 95)
def u_M_line : MI := (⟨"UnlikeDrawnModel", "line", "(II)I"⟩, prog_9_method_42_code, 3, (some .int), 2, 46)
def u_M_isMonster : MI := (⟨"UnlikeDrawnModel", "isMonster", "(I)Z"⟩, prog_9_method_43_code, 5, (some .boolean), 1, 20)
def u_M_unlikeBy : MI := (⟨"UnlikeDrawnModel", "unlikeBy", "(II)I"⟩, prog_9_method_44_code, 3, (some .int), 1, 20)
def u_M_unlikeOf : MI := (⟨"UnlikeDrawnModel", "unlikeOf", "(II)I"⟩, prog_9_method_45_code, 5, (some .int), 2, 42)
def u_M_unlike : MI := (⟨"UnlikeDrawnModel", "unlike", "(II)I"⟩, prog_9_method_46_code, 3, (some .int), 3, 66)
def u_M_fromOf : MI := (⟨"UnlikeDrawnModel", "fromOf", "(I)I"⟩, prog_9_method_47_code, 5, (some .int), 3, 66)
def u_M_agesOf : MI := (⟨"UnlikeDrawnModel", "agesOf", "(I)I"⟩, prog_9_method_48_code, 4, (some .int), 4, 90)
def u_M_whoseOf : MI := (⟨"UnlikeDrawnModel", "whoseOf", "(I)I"⟩, prog_9_method_49_code, 8, (some .int), 4, 95)
def u_M_aboutOf : MI := (⟨"UnlikeDrawnModel", "aboutOf", "(II)I"⟩, prog_9_method_50_code, 3, (some .int), 5, 122)
def u_M_about : MI := (⟨"UnlikeDrawnModel", "about", "(II)I"⟩, prog_9_method_51_code, 3, (some .int), 6, 144)
def u_M_isKnower : MI := (⟨"UnlikeDrawnModel", "isKnower", "(I)Z"⟩, prog_9_method_52_code, 2, (some .boolean), 1, 25)
def u_M_doesKnow : MI := (⟨"UnlikeDrawnModel", "doesKnow", "(II)Z"⟩, prog_9_method_53_code, 3, (some .boolean), 0, 0)
def u_M_knower : MI := (⟨"UnlikeDrawnModel", "knower", "(II)I"⟩, prog_9_method_54_code, 4, (some .int), 2, 46)
def u_M_look : MI := (⟨"UnlikeDrawnModel", "look", "(III)I"⟩, prog_9_method_55_code, 7, (some .int), 2, 46)
def u_M_leans : MI := (⟨"UnlikeDrawnModel", "leans", "(II)I"⟩, prog_9_method_56_code, 3, (some .int), 2, 46)
def u_M_sees_I : MI := (⟨"UnlikeDrawnModel", "sees", "(I)V"⟩, prog_9_method_57_code, 3, none, 2, 44)
def u_M_sees_IIII : MI := (⟨"UnlikeDrawnModel", "sees", "(IIII)V"⟩, prog_9_method_58_code, 7, none, 1, 26)
def u_M_findScore : MI := (⟨"UnlikeDrawnModel", "findScore", "(II)V"⟩, prog_9_method_59_code, 12, none, 0, 0)
def u_M_divisor : MI := (⟨"UnlikeDrawnModel", "divisor", "(JJ)J"⟩, prog_9_method_60_code, 10, (some .long), 0, 0)
def u_M_part : MI := (⟨"UnlikeDrawnModel", "part", "(JJI)J"⟩, prog_9_method_61_code, 5, (some .long), 1, 29)
def u_M_isMore : MI := (⟨"UnlikeDrawnModel", "isMore", "(JJJJ)Z"⟩, prog_9_method_62_code, 23, (some .boolean), 0, 0)
def u_M_score : MI := (⟨"UnlikeDrawnModel", "score", "(IIII)J"⟩, prog_9_method_63_code, 5, (some .long), 3, 66)
def u_M_namedBy : MI := (⟨"UnlikeDrawnModel", "namedBy", "(I)I"⟩, prog_9_method_64_code, 8, (some .int), 1, 42)
def u_M_marginOf : MI := (⟨"UnlikeDrawnModel", "marginOf", "(II)I"⟩, prog_9_method_65_code, 8, (some .int), 1, 31)
def u_M_namedOf : MI := (⟨"UnlikeDrawnModel", "namedOf", "(III)I"⟩, prog_9_method_66_code, 5, (some .int), 3, 69)
def u_M_named : MI := (⟨"UnlikeDrawnModel", "named", "(III)I"⟩, prog_9_method_67_code, 4, (some .int), 4, 93)
def u_M_much : MI := (⟨"UnlikeDrawnModel", "much", "(IIII)I"⟩, prog_9_method_68_code, 9, (some .int), 2, 69)
def u_M_ones : MI := (⟨"UnlikeDrawnModel", "ones", "(I)I"⟩, prog_9_method_69_code, 3, (some .int), 0, 0)
def u_M_isEnough : MI := (⟨"UnlikeDrawnModel", "isEnough", "(IIIII)Z"⟩, prog_9_method_70_code, 6, (some .boolean), 2, 69)
def u_M_isAsked : MI := (⟨"UnlikeDrawnModel", "isAsked", "(IIII)Z"⟩, prog_9_method_71_code, 5, (some .boolean), 2, 46)
def u_M_few : MI := (⟨"UnlikeDrawnModel", "few", "(IIII)I"⟩, prog_9_method_72_code, 8, (some .int), 3, 94)
def u_M_stands : MI := (⟨"UnlikeDrawnModel", "stands", "(IIII)I"⟩, prog_9_method_73_code, 7, (some .int), 3, 94)
def u_M_grows : MI := (⟨"UnlikeDrawnModel", "grows", "(III)J"⟩, prog_9_method_74_code, 18, (some .long), 2, 53)
def u_M_backOf : MI := (⟨"UnlikeDrawnModel", "backOf", "(II)I"⟩, prog_9_method_75_code, 9, (some .int), 0, 0)
def u_M_back : MI := (⟨"UnlikeDrawnModel", "back", "(III)I"⟩, prog_9_method_76_code, 4, (some .int), 4, 95)
def u_M_nearOf : MI := (⟨"UnlikeDrawnModel", "nearOf", "(II)I"⟩, prog_9_method_77_code, 6, (some .int), 4, 95)
def u_M_near : MI := (⟨"UnlikeDrawnModel", "near", "(II)I"⟩, prog_9_method_78_code, 3, (some .int), 5, 120)
def u_M_witnessOf : MI := (⟨"UnlikeDrawnModel", "witnessOf", "(III)I"⟩, prog_9_method_79_code, 7, (some .int), 1, 26)
def u_M_witness : MI := (⟨"UnlikeDrawnModel", "witness", "(III)I"⟩, prog_9_method_80_code, 4, (some .int), 2, 52)
def u_M_plainest : MI := (⟨"UnlikeDrawnModel", "plainest", "(I)I"⟩, prog_9_method_81_code, 7, (some .int), 2, 46)
def u_M_write : MI := (⟨"UnlikeDrawnModel", "write", "(II)I"⟩, prog_9_method_82_code, 5, (some .int), 2, 46)
def u_M_count : MI := (⟨"UnlikeDrawnModel", "count", "(I)I"⟩, prog_9_method_83_code, 4, (some .int), 2, 44)
def u_M_digest : MI := (⟨"UnlikeDrawnModel", "digest", "()J"⟩, prog_9_method_84_code, 5, (some .long), 6, 144)
def u_J_bitCount : MI := (⟨"java/lang/Integer", "bitCount", "(I)I"⟩, prog_10_method_49_code, 1, (some .int), 0, 0)
def u_J_abs_I : MI := (⟨"java/lang/Math", "abs", "(I)I"⟩, prog_11_method_59_code, 1, (some .int), 0, 0)
def u_J_abs_J : MI := (⟨"java/lang/Math", "abs", "(J)J"⟩, prog_11_method_61_code, 2, (some .long), 0, 0)
def u_J_max_II : MI := (⟨"java/lang/Math", "max", "(II)I"⟩, prog_11_method_65_code, 2, (some .int), 0, 0)
def u_J_max_JJ : MI := (⟨"java/lang/Math", "max", "(JJ)J"⟩, prog_11_method_66_code, 4, (some .long), 0, 0)
def u_J_min : MI := (⟨"java/lang/Math", "min", "(II)I"⟩, prog_11_method_69_code, 2, (some .int), 0, 0)
def u_J_fill : MI := (⟨"java/util/Arrays", "fill", "([II)V"⟩, prog_13_method_103_code, 4, none, 0, 0)
/-! ===== what the pools' entries name ===== -/
theorem fl_C_11 : FL "UnlikeDrawn" 11 6 0 := ⟨_, _, _, rfl, by decide, gt_at 143 (by decide +kernel) rfl⟩
theorem fl_C_17 : FL "UnlikeDrawn" 17 6 1 := ⟨_, _, _, rfl, by decide, gt_at 144 (by decide +kernel) rfl⟩
theorem fl_C_23 : FL "UnlikeDrawn" 23 6 2 := ⟨_, _, _, rfl, by decide, gt_at 145 (by decide +kernel) rfl⟩
theorem fl_C_29 : FL "UnlikeDrawn" 29 6 3 := ⟨_, _, _, rfl, by decide, gt_at 146 (by decide +kernel) rfl⟩
theorem fl_C_35 : FL "UnlikeDrawn" 35 6 4 := ⟨_, _, _, rfl, by decide, gt_at 147 (by decide +kernel) rfl⟩
theorem fl_C_39 : FL "UnlikeDrawn" 39 6 8 := ⟨_, _, _, rfl, by decide, gt_at 151 (by decide +kernel) rfl⟩
theorem fp_C_39 : FP "UnlikeDrawn" 39 6 8 .int := ⟨_, _, _, rfl, by decide, gt_at 151 (by decide +kernel) rfl, rfl, by decide +kernel⟩
theorem fl_C_43 : FL "UnlikeDrawn" 43 6 9 := ⟨_, _, _, rfl, by decide, gt_at 152 (by decide +kernel) rfl⟩
theorem fp_C_43 : FP "UnlikeDrawn" 43 6 9 .int := ⟨_, _, _, rfl, by decide, gt_at 152 (by decide +kernel) rfl, rfl, by decide +kernel⟩
theorem fl_C_46 : FL "UnlikeDrawn" 46 6 10 := ⟨_, _, _, rfl, by decide, gt_at 153 (by decide +kernel) rfl⟩
theorem fp_C_46 : FP "UnlikeDrawn" 46 6 10 .int := ⟨_, _, _, rfl, by decide, gt_at 153 (by decide +kernel) rfl, rfl, by decide +kernel⟩
theorem fl_C_50 : FL "UnlikeDrawn" 50 6 12 := ⟨_, _, _, rfl, by decide, gt_at 155 (by decide +kernel) rfl⟩
theorem fl_C_54 : FL "UnlikeDrawn" 54 6 13 := ⟨_, _, _, rfl, by decide, gt_at 156 (by decide +kernel) rfl⟩
theorem fl_C_58 : FL "UnlikeDrawn" 58 6 14 := ⟨_, _, _, rfl, by decide, gt_at 157 (by decide +kernel) rfl⟩
theorem fl_C_64 : FL "UnlikeDrawn" 64 6 15 := ⟨_, _, _, rfl, by decide, gt_at 158 (by decide +kernel) rfl⟩
theorem fl_C_68 : FL "UnlikeDrawn" 68 6 16 := ⟨_, _, _, rfl, by decide, gt_at 159 (by decide +kernel) rfl⟩
theorem fl_C_75 : FL "UnlikeDrawn" 75 6 5 := ⟨_, _, _, rfl, by decide, gt_at 148 (by decide +kernel) rfl⟩
theorem fp_C_75 : FP "UnlikeDrawn" 75 6 5 .int := ⟨_, _, _, rfl, by decide, gt_at 148 (by decide +kernel) rfl, rfl, by decide +kernel⟩
theorem fl_C_88 : FL "UnlikeDrawn" 88 2 0 := ⟨_, _, _, rfl, by decide, gt_at 84 (by decide +kernel) rfl⟩
theorem fl_C_102 : FL "UnlikeDrawn" 102 4 2 := ⟨_, _, _, rfl, by decide, gt_at 135 (by decide +kernel) rfl⟩
theorem fp_C_102 : FP "UnlikeDrawn" 102 4 2 .int := ⟨_, _, _, rfl, by decide, gt_at 135 (by decide +kernel) rfl, rfl, by decide +kernel⟩
theorem fl_C_111 : FL "UnlikeDrawn" 111 4 0 := ⟨_, _, _, rfl, by decide, gt_at 131 (by decide +kernel) rfl⟩
theorem fl_C_123 : FL "UnlikeDrawn" 123 1 2 := ⟨_, _, _, rfl, by decide, gt_at 99 (by decide +kernel) rfl⟩
theorem fp_C_123 : FP "UnlikeDrawn" 123 1 2 .int := ⟨_, _, _, rfl, by decide, gt_at 99 (by decide +kernel) rfl, rfl, by decide +kernel⟩
theorem fl_C_133 : FL "UnlikeDrawn" 133 1 3 := ⟨_, _, _, rfl, by decide, gt_at 101 (by decide +kernel) rfl⟩
theorem fp_C_133 : FP "UnlikeDrawn" 133 1 3 .int := ⟨_, _, _, rfl, by decide, gt_at 101 (by decide +kernel) rfl, rfl, by decide +kernel⟩
theorem fl_C_136 : FL "UnlikeDrawn" 136 1 1 := ⟨_, _, _, rfl, by decide, gt_at 97 (by decide +kernel) rfl⟩
theorem fl_C_146 : FL "UnlikeDrawn" 146 6 6 := ⟨_, _, _, rfl, by decide, gt_at 149 (by decide +kernel) rfl⟩
theorem fp_C_146 : FP "UnlikeDrawn" 146 6 6 .int := ⟨_, _, _, rfl, by decide, gt_at 149 (by decide +kernel) rfl, rfl, by decide +kernel⟩
theorem fl_C_149 : FL "UnlikeDrawn" 149 5 0 := ⟨_, _, _, rfl, by decide, gt_at 37 (by decide +kernel) rfl⟩
theorem fl_C_160 : FL "UnlikeDrawn" 160 5 2 := ⟨_, _, _, rfl, by decide, gt_at 41 (by decide +kernel) rfl⟩
theorem fp_C_160 : FP "UnlikeDrawn" 160 5 2 .int := ⟨_, _, _, rfl, by decide, gt_at 41 (by decide +kernel) rfl, rfl, by decide +kernel⟩
theorem fl_C_163 : FL "UnlikeDrawn" 163 5 3 := ⟨_, _, _, rfl, by decide, gt_at 42 (by decide +kernel) rfl⟩
theorem fp_C_163 : FP "UnlikeDrawn" 163 5 3 .int := ⟨_, _, _, rfl, by decide, gt_at 42 (by decide +kernel) rfl, rfl, by decide +kernel⟩
theorem fl_C_166 : FL "UnlikeDrawn" 166 5 5 := ⟨_, _, _, rfl, by decide, gt_at 45 (by decide +kernel) rfl⟩
theorem fp_C_166 : FP "UnlikeDrawn" 166 5 5 .int := ⟨_, _, _, rfl, by decide, gt_at 45 (by decide +kernel) rfl, rfl, by decide +kernel⟩
theorem fl_C_173 : FL "UnlikeDrawn" 173 5 4 := ⟨_, _, _, rfl, by decide, gt_at 43 (by decide +kernel) rfl⟩
theorem fp_C_173 : FP "UnlikeDrawn" 173 5 4 .int := ⟨_, _, _, rfl, by decide, gt_at 43 (by decide +kernel) rfl, rfl, by decide +kernel⟩
theorem fl_C_185 : FL "UnlikeDrawn" 185 5 1 := ⟨_, _, _, rfl, by decide, gt_at 40 (by decide +kernel) rfl⟩
theorem fl_C_205 : FL "UnlikeDrawn" 205 6 7 := ⟨_, _, _, rfl, by decide, gt_at 150 (by decide +kernel) rfl⟩
theorem fp_C_205 : FP "UnlikeDrawn" 205 6 7 .int := ⟨_, _, _, rfl, by decide, gt_at 150 (by decide +kernel) rfl, rfl, by decide +kernel⟩
theorem fl_C_208 : FL "UnlikeDrawn" 208 3 1 := ⟨_, _, _, rfl, by decide, gt_at 119 (by decide +kernel) rfl⟩
theorem fp_C_208 : FP "UnlikeDrawn" 208 3 1 .int := ⟨_, _, _, rfl, by decide, gt_at 119 (by decide +kernel) rfl, rfl, by decide +kernel⟩
theorem fl_C_211 : FL "UnlikeDrawn" 211 3 0 := ⟨_, _, _, rfl, by decide, gt_at 117 (by decide +kernel) rfl⟩
theorem fl_C_303 : FL "UnlikeDrawn" 303 4 1 := ⟨_, _, _, rfl, by decide, gt_at 133 (by decide +kernel) rfl⟩
theorem fp_C_303 : FP "UnlikeDrawn" 303 4 1 .int := ⟨_, _, _, rfl, by decide, gt_at 133 (by decide +kernel) rfl, rfl, by decide +kernel⟩
theorem fl_C_313 : FL "UnlikeDrawn" 313 6 11 := ⟨_, _, _, rfl, by decide, gt_at 154 (by decide +kernel) rfl⟩
theorem fp_C_313 : FP "UnlikeDrawn" 313 6 11 .int := ⟨_, _, _, rfl, by decide, gt_at 154 (by decide +kernel) rfl, rfl, by decide +kernel⟩
theorem fl_C_347 : FL "UnlikeDrawn" 347 0 0 := ⟨_, _, _, rfl, by decide, gt_at 67 (by decide +kernel) rfl⟩
theorem fp_C_347 : FP "UnlikeDrawn" 347 0 0 .long := ⟨_, _, _, rfl, by decide, gt_at 67 (by decide +kernel) rfl, rfl, by decide +kernel⟩
theorem fl_C_351 : FL "UnlikeDrawn" 351 0 1 := ⟨_, _, _, rfl, by decide, gt_at 69 (by decide +kernel) rfl⟩
theorem fp_C_351 : FP "UnlikeDrawn" 351 0 1 .long := ⟨_, _, _, rfl, by decide, gt_at 69 (by decide +kernel) rfl, rfl, by decide +kernel⟩
theorem fl_Fr_7 : FL "UnlikeDrawn$Fraction" 7 0 1 := ⟨_, _, _, rfl, by decide, gt_at 68 (by decide +kernel) rfl⟩
theorem fp_Fr_7 : FP "UnlikeDrawn$Fraction" 7 0 1 .long := ⟨_, _, _, rfl, by decide, gt_at 68 (by decide +kernel) rfl, rfl, by decide +kernel⟩
theorem fl_Fr_13 : FL "UnlikeDrawn$Fraction" 13 0 0 := ⟨_, _, _, rfl, by decide, gt_at 66 (by decide +kernel) rfl⟩
theorem fp_Fr_13 : FP "UnlikeDrawn$Fraction" 13 0 0 .long := ⟨_, _, _, rfl, by decide, gt_at 66 (by decide +kernel) rfl, rfl, by decide +kernel⟩
theorem fl_Ha_9 : FL "UnlikeDrawn$Hand" 9 1 0 := ⟨_, _, _, rfl, by decide, gt_at 95 (by decide +kernel) rfl⟩
theorem fl_Ha_15 : FL "UnlikeDrawn$Hand" 15 1 1 := ⟨_, _, _, rfl, by decide, gt_at 96 (by decide +kernel) rfl⟩
theorem fl_Ha_18 : FL "UnlikeDrawn$Hand" 18 1 3 := ⟨_, _, _, rfl, by decide, gt_at 100 (by decide +kernel) rfl⟩
theorem fp_Ha_18 : FP "UnlikeDrawn$Hand" 18 1 3 .int := ⟨_, _, _, rfl, by decide, gt_at 100 (by decide +kernel) rfl, rfl, by decide +kernel⟩
theorem fl_Ha_28 : FL "UnlikeDrawn$Hand" 28 1 2 := ⟨_, _, _, rfl, by decide, gt_at 98 (by decide +kernel) rfl⟩
theorem fp_Ha_28 : FP "UnlikeDrawn$Hand" 28 1 2 .int := ⟨_, _, _, rfl, by decide, gt_at 98 (by decide +kernel) rfl, rfl, by decide +kernel⟩
theorem fl_He_9 : FL "UnlikeDrawn$Head" 9 2 0 := ⟨_, _, _, rfl, by decide, gt_at 83 (by decide +kernel) rfl⟩
theorem fl_Kn_9 : FL "UnlikeDrawn$Knower" 9 3 0 := ⟨_, _, _, rfl, by decide, gt_at 116 (by decide +kernel) rfl⟩
theorem fl_Kn_15 : FL "UnlikeDrawn$Knower" 15 3 1 := ⟨_, _, _, rfl, by decide, gt_at 118 (by decide +kernel) rfl⟩
theorem fp_Kn_15 : FP "UnlikeDrawn$Knower" 15 3 1 .int := ⟨_, _, _, rfl, by decide, gt_at 118 (by decide +kernel) rfl, rfl, by decide +kernel⟩
theorem fl_Kn_25 : FL "UnlikeDrawn$Knower" 25 5 1 := ⟨_, _, _, rfl, by decide, gt_at 39 (by decide +kernel) rfl⟩
theorem fl_Kn_28 : FL "UnlikeDrawn$Knower" 28 2 0 := ⟨_, _, _, rfl, by decide, gt_at 85 (by decide +kernel) rfl⟩
theorem fl_Sh_9 : FL "UnlikeDrawn$Sheet" 9 4 0 := ⟨_, _, _, rfl, by decide, gt_at 130 (by decide +kernel) rfl⟩
theorem fl_Sh_15 : FL "UnlikeDrawn$Sheet" 15 4 1 := ⟨_, _, _, rfl, by decide, gt_at 132 (by decide +kernel) rfl⟩
theorem fp_Sh_15 : FP "UnlikeDrawn$Sheet" 15 4 1 .int := ⟨_, _, _, rfl, by decide, gt_at 132 (by decide +kernel) rfl, rfl, by decide +kernel⟩
theorem fl_Sh_19 : FL "UnlikeDrawn$Sheet" 19 4 2 := ⟨_, _, _, rfl, by decide, gt_at 134 (by decide +kernel) rfl⟩
theorem fp_Sh_19 : FP "UnlikeDrawn$Sheet" 19 4 2 .int := ⟨_, _, _, rfl, by decide, gt_at 134 (by decide +kernel) rfl, rfl, by decide +kernel⟩
theorem fl_Sk_9 : FL "UnlikeDrawn$Sketch" 9 5 0 := ⟨_, _, _, rfl, by decide, gt_at 36 (by decide +kernel) rfl⟩
theorem fl_Sk_15 : FL "UnlikeDrawn$Sketch" 15 5 1 := ⟨_, _, _, rfl, by decide, gt_at 38 (by decide +kernel) rfl⟩
theorem fl_Sk_18 : FL "UnlikeDrawn$Sketch" 18 5 5 := ⟨_, _, _, rfl, by decide, gt_at 44 (by decide +kernel) rfl⟩
theorem fp_Sk_18 : FP "UnlikeDrawn$Sketch" 18 5 5 .int := ⟨_, _, _, rfl, by decide, gt_at 44 (by decide +kernel) rfl, rfl, by decide +kernel⟩
theorem fl_M_7 : FL "UnlikeDrawnModel" 7 7 0 := ⟨_, _, _, rfl, by decide, gt_at 605 (by decide +kernel) rfl⟩
theorem fl_M_13 : FL "UnlikeDrawnModel" 13 7 1 := ⟨_, _, _, rfl, by decide, gt_at 606 (by decide +kernel) rfl⟩
theorem fl_M_16 : FL "UnlikeDrawnModel" 16 7 2 := ⟨_, _, _, rfl, by decide, gt_at 607 (by decide +kernel) rfl⟩
theorem fl_M_19 : FL "UnlikeDrawnModel" 19 7 3 := ⟨_, _, _, rfl, by decide, gt_at 608 (by decide +kernel) rfl⟩
theorem fl_M_22 : FL "UnlikeDrawnModel" 22 7 6 := ⟨_, _, _, rfl, by decide, gt_at 611 (by decide +kernel) rfl⟩
theorem fl_M_25 : FL "UnlikeDrawnModel" 25 7 7 := ⟨_, _, _, rfl, by decide, gt_at 612 (by decide +kernel) rfl⟩
theorem fl_M_28 : FL "UnlikeDrawnModel" 28 7 8 := ⟨_, _, _, rfl, by decide, gt_at 613 (by decide +kernel) rfl⟩
theorem fl_M_31 : FL "UnlikeDrawnModel" 31 7 10 := ⟨_, _, _, rfl, by decide, gt_at 615 (by decide +kernel) rfl⟩
theorem fl_M_34 : FL "UnlikeDrawnModel" 34 7 11 := ⟨_, _, _, rfl, by decide, gt_at 616 (by decide +kernel) rfl⟩
theorem fl_M_37 : FL "UnlikeDrawnModel" 37 7 13 := ⟨_, _, _, rfl, by decide, gt_at 618 (by decide +kernel) rfl⟩
theorem fl_M_40 : FL "UnlikeDrawnModel" 40 7 14 := ⟨_, _, _, rfl, by decide, gt_at 619 (by decide +kernel) rfl⟩
theorem fl_M_43 : FL "UnlikeDrawnModel" 43 7 15 := ⟨_, _, _, rfl, by decide, gt_at 620 (by decide +kernel) rfl⟩
theorem fl_M_46 : FL "UnlikeDrawnModel" 46 7 16 := ⟨_, _, _, rfl, by decide, gt_at 621 (by decide +kernel) rfl⟩
theorem fl_M_49 : FL "UnlikeDrawnModel" 49 7 17 := ⟨_, _, _, rfl, by decide, gt_at 622 (by decide +kernel) rfl⟩
theorem fl_M_52 : FL "UnlikeDrawnModel" 52 7 18 := ⟨_, _, _, rfl, by decide, gt_at 623 (by decide +kernel) rfl⟩
theorem fl_M_55 : FL "UnlikeDrawnModel" 55 7 20 := ⟨_, _, _, rfl, by decide, gt_at 625 (by decide +kernel) rfl⟩
theorem fl_M_58 : FL "UnlikeDrawnModel" 58 7 21 := ⟨_, _, _, rfl, by decide, gt_at 626 (by decide +kernel) rfl⟩
theorem fl_M_61 : FL "UnlikeDrawnModel" 61 7 22 := ⟨_, _, _, rfl, by decide, gt_at 627 (by decide +kernel) rfl⟩
theorem fl_M_64 : FL "UnlikeDrawnModel" 64 7 26 := ⟨_, _, _, rfl, by decide, gt_at 631 (by decide +kernel) rfl⟩
theorem fl_M_73 : FL "UnlikeDrawnModel" 73 7 4 := ⟨_, _, _, rfl, by decide, gt_at 609 (by decide +kernel) rfl⟩
theorem fp_M_73 : FP "UnlikeDrawnModel" 73 7 4 .int := ⟨_, _, _, rfl, by decide, gt_at 609 (by decide +kernel) rfl, rfl, by decide +kernel⟩
theorem fl_M_98 : FL "UnlikeDrawnModel" 98 7 5 := ⟨_, _, _, rfl, by decide, gt_at 610 (by decide +kernel) rfl⟩
theorem fp_M_98 : FP "UnlikeDrawnModel" 98 7 5 .int := ⟨_, _, _, rfl, by decide, gt_at 610 (by decide +kernel) rfl, rfl, by decide +kernel⟩
theorem fl_M_125 : FL "UnlikeDrawnModel" 125 7 9 := ⟨_, _, _, rfl, by decide, gt_at 614 (by decide +kernel) rfl⟩
theorem fp_M_125 : FP "UnlikeDrawnModel" 125 7 9 .int := ⟨_, _, _, rfl, by decide, gt_at 614 (by decide +kernel) rfl, rfl, by decide +kernel⟩
theorem fl_M_157 : FL "UnlikeDrawnModel" 157 7 12 := ⟨_, _, _, rfl, by decide, gt_at 617 (by decide +kernel) rfl⟩
theorem fp_M_157 : FP "UnlikeDrawnModel" 157 7 12 .int := ⟨_, _, _, rfl, by decide, gt_at 617 (by decide +kernel) rfl, rfl, by decide +kernel⟩
theorem fl_M_190 : FL "UnlikeDrawnModel" 190 7 19 := ⟨_, _, _, rfl, by decide, gt_at 624 (by decide +kernel) rfl⟩
theorem fp_M_190 : FP "UnlikeDrawnModel" 190 7 19 .int := ⟨_, _, _, rfl, by decide, gt_at 624 (by decide +kernel) rfl, rfl, by decide +kernel⟩
theorem fl_M_196 : FL "UnlikeDrawnModel" 196 7 23 := ⟨_, _, _, rfl, by decide, gt_at 628 (by decide +kernel) rfl⟩
theorem fp_M_196 : FP "UnlikeDrawnModel" 196 7 23 .boolean := ⟨_, _, _, rfl, by decide, gt_at 628 (by decide +kernel) rfl, rfl, by decide +kernel⟩
theorem fl_M_200 : FL "UnlikeDrawnModel" 200 7 24 := ⟨_, _, _, rfl, by decide, gt_at 629 (by decide +kernel) rfl⟩
theorem fp_M_200 : FP "UnlikeDrawnModel" 200 7 24 .long := ⟨_, _, _, rfl, by decide, gt_at 629 (by decide +kernel) rfl, rfl, by decide +kernel⟩
theorem fl_M_204 : FL "UnlikeDrawnModel" 204 7 25 := ⟨_, _, _, rfl, by decide, gt_at 630 (by decide +kernel) rfl⟩
theorem fp_M_204 : FP "UnlikeDrawnModel" 204 7 25 .long := ⟨_, _, _, rfl, by decide, gt_at 630 (by decide +kernel) rfl, rfl, by decide +kernel⟩
theorem kc_C_221 : Cond.constantLong "UnlikeDrawn" 221 (-9223372036854775806) ∈ gt := gt_at 402 (by decide +kernel) rfl
theorem kc_C_226 : Cond.constantLong "UnlikeDrawn" 226 (-9223372036854775805) ∈ gt := gt_at 407 (by decide +kernel) rfl
theorem kc_C_302 : Cond.constant "UnlikeDrawn" 302 (-2147483648) ∈ gt := gt_at 555 (by decide +kernel) rfl
theorem kc_C_316 : Cond.constantLong "UnlikeDrawn" 316 (17) ∈ gt := gt_at 580 (by decide +kernel) rfl
theorem kc_C_318 : Cond.constantLong "UnlikeDrawn" 318 (31) ∈ gt := gt_at 581 (by decide +kernel) rfl
theorem kc_M_67 : Cond.constantLong "UnlikeDrawnModel" 67 (-9223372036854775808) ∈ gt := gt_at 904 (by decide +kernel) rfl
theorem kc_M_77 : Cond.constantLong "UnlikeDrawnModel" 77 (3) ∈ gt := gt_at 694 (by decide +kernel) rfl
theorem kc_M_83 : Cond.constantLong "UnlikeDrawnModel" 83 (2) ∈ gt := gt_at 698 (by decide +kernel) rfl
theorem kc_M_97 : Cond.constant "UnlikeDrawnModel" 97 (-2147483648) ∈ gt := gt_at 722 (by decide +kernel) rfl
theorem kc_M_101 : Cond.constantLong "UnlikeDrawnModel" 101 (7) ∈ gt := gt_at 742 (by decide +kernel) rfl
theorem kc_M_109 : Cond.constantLong "UnlikeDrawnModel" 109 (99) ∈ gt := gt_at 743 (by decide +kernel) rfl
theorem kc_M_123 : Cond.constantLong "UnlikeDrawnModel" 123 (255) ∈ gt := gt_at 768 (by decide +kernel) rfl
theorem kc_M_131 : Cond.constantLong "UnlikeDrawnModel" 131 (48) ∈ gt := gt_at 798 (by decide +kernel) rfl
theorem kc_M_133 : Cond.constantLong "UnlikeDrawnModel" 133 (57) ∈ gt := gt_at 799 (by decide +kernel) rfl
theorem kc_M_135 : Cond.constantLong "UnlikeDrawnModel" 135 (8) ∈ gt := gt_at 793 (by decide +kernel) rfl
theorem kc_M_155 : Cond.constantLong "UnlikeDrawnModel" 155 (60) ∈ gt := gt_at 818 (by decide +kernel) rfl
theorem kc_M_270 : Cond.constantLong "UnlikeDrawnModel" 270 (17) ∈ gt := gt_at 1013 (by decide +kernel) rfl
theorem kc_M_272 : Cond.constantLong "UnlikeDrawnModel" 272 (31) ∈ gt := gt_at 1014 (by decide +kernel) rfl
theorem kc_J_265 : Cond.constant "java/lang/Integer" 265 (1431655765) ∈ gt := gt_at 483 (by decide +kernel) rfl
theorem kc_J_266 : Cond.constant "java/lang/Integer" 266 (858993459) ∈ gt := gt_at 484 (by decide +kernel) rfl
theorem kc_J_267 : Cond.constant "java/lang/Integer" 267 (252645135) ∈ gt := gt_at 485 (by decide +kernel) rfl
theorem gc_Fr_init : Cond.code u_Fr_init.1 u_Fr_init.2.1 u_Fr_init.2.2.1 u_Fr_init.2.2.2.1 ∈ gt := gt_at 64 (by decide +kernel) rfl
theorem gc_Fr_become : Cond.code u_Fr_become.1 u_Fr_become.2.1 u_Fr_become.2.2.1 u_Fr_become.2.2.2.1 ∈ gt := gt_at 415 (by decide +kernel) rfl
theorem gc_Fr_cut : Cond.code u_Fr_cut.1 u_Fr_cut.2.1 u_Fr_cut.2.2.1 u_Fr_cut.2.2.2.1 ∈ gt := gt_at 439 (by decide +kernel) rfl
theorem gc_Fr_isAbove : Cond.code u_Fr_isAbove.1 u_Fr_isAbove.2.1 u_Fr_isAbove.2.2.1 u_Fr_isAbove.2.2.2.1 ∈ gt := gt_at 435 (by decide +kernel) rfl
theorem gc_Fr_told : Cond.code u_Fr_told.1 u_Fr_told.2.1 u_Fr_told.2.2.1 u_Fr_told.2.2.2.1 ∈ gt := gt_at 419 (by decide +kernel) rfl
theorem gc_Ha_init : Cond.code u_Ha_init.1 u_Ha_init.2.1 u_Ha_init.2.2.1 u_Ha_init.2.2.2.1 ∈ gt := gt_at 92 (by decide +kernel) rfl
theorem gc_Ha_append : Cond.code u_Ha_append.1 u_Ha_append.2.1 u_Ha_append.2.2.1 u_Ha_append.2.2.2.1 ∈ gt := gt_at 253 (by decide +kernel) rfl
theorem gc_Ha_clear : Cond.code u_Ha_clear.1 u_Ha_clear.2.1 u_Ha_clear.2.2.1 u_Ha_clear.2.2.2.1 ∈ gt := gt_at 285 (by decide +kernel) rfl
theorem gc_Ha_understand : Cond.code u_Ha_understand.1 u_Ha_understand.2.1 u_Ha_understand.2.2.1 u_Ha_understand.2.2.2.1 ∈ gt := gt_at 257 (by decide +kernel) rfl
theorem gc_Ha_behindPiece : Cond.code u_Ha_behindPiece.1 u_Ha_behindPiece.2.1 u_Ha_behindPiece.2.2.1 u_Ha_behindPiece.2.2.2.1 ∈ gt := gt_at 261 (by decide +kernel) rfl
theorem gc_Ha_stopAt : Cond.code u_Ha_stopAt.1 u_Ha_stopAt.2.1 u_Ha_stopAt.2.2.1 u_Ha_stopAt.2.2.2.1 ∈ gt := gt_at 269 (by decide +kernel) rfl
theorem gc_Ha_mark : Cond.code u_Ha_mark.1 u_Ha_mark.2.1 u_Ha_mark.2.2.1 u_Ha_mark.2.2.2.1 ∈ gt := gt_at 273 (by decide +kernel) rfl
theorem gc_Ha_byteAt : Cond.code u_Ha_byteAt.1 u_Ha_byteAt.2.1 u_Ha_byteAt.2.2.1 u_Ha_byteAt.2.2.2.1 ∈ gt := gt_at 265 (by decide +kernel) rfl
theorem gc_Ha_isFigure : Cond.code u_Ha_isFigure.1 u_Ha_isFigure.2.1 u_Ha_isFigure.2.2.1 u_Ha_isFigure.2.2.2.1 ∈ gt := gt_at 277 (by decide +kernel) rfl
theorem gc_He_init : Cond.code u_He_init.1 u_He_init.2.1 u_He_init.2.2.1 u_He_init.2.2.2.1 ∈ gt := gt_at 78 (by decide +kernel) rfl
theorem gc_He_offFrom : Cond.code u_He_offFrom.1 u_He_offFrom.2.1 u_He_offFrom.2.2.1 u_He_offFrom.2.2.2.1 ∈ gt := gt_at 522 (by decide +kernel) rfl
theorem gc_Kn_init : Cond.code u_Kn_init.1 u_Kn_init.2.1 u_Kn_init.2.2.1 u_Kn_init.2.2.2.1 ∈ gt := gt_at 114 (by decide +kernel) rfl
theorem gc_Kn_knows : Cond.code u_Kn_knows.1 u_Kn_knows.2.1 u_Kn_knows.2.2.1 u_Kn_knows.2.2.2.1 ∈ gt := gt_at 406 (by decide +kernel) rfl
theorem gc_Kn_gaze : Cond.code u_Kn_gaze.1 u_Kn_gaze.2.1 u_Kn_gaze.2.2.1 u_Kn_gaze.2.2.2.1 ∈ gt := gt_at 392 (by decide +kernel) rfl
theorem gc_Kn_weigh : Cond.code u_Kn_weigh.1 u_Kn_weigh.2.1 u_Kn_weigh.2.2.1 u_Kn_weigh.2.2.2.1 ∈ gt := gt_at 411 (by decide +kernel) rfl
theorem gc_Sh_init : Cond.code u_Sh_init.1 u_Sh_init.2.1 u_Sh_init.2.2.1 u_Sh_init.2.2.2.1 ∈ gt := gt_at 128 (by decide +kernel) rfl
theorem gc_Sh_isLost : Cond.code u_Sh_isLost.1 u_Sh_isLost.2.1 u_Sh_isLost.2.2.1 u_Sh_isLost.2.2.2.1 ∈ gt := gt_at 223 (by decide +kernel) rfl
theorem gc_Sh_begin : Cond.code u_Sh_begin.1 u_Sh_begin.2.1 u_Sh_begin.2.2.1 u_Sh_begin.2.2.2.1 ∈ gt := gt_at 534 (by decide +kernel) rfl
theorem gc_Sh_hasRun : Cond.code u_Sh_hasRun.1 u_Sh_hasRun.2.1 u_Sh_hasRun.2.2.1 u_Sh_hasRun.2.2.2.1 ∈ gt := gt_at 563 (by decide +kernel) rfl
theorem gc_Sh_put : Cond.code u_Sh_put.1 u_Sh_put.2.1 u_Sh_put.2.2.1 u_Sh_put.2.2.2.1 ∈ gt := gt_at 550 (by decide +kernel) rfl
theorem gc_Sk_init : Cond.code u_Sk_init.1 u_Sk_init.2.1 u_Sk_init.2.2.1 u_Sk_init.2.2.2.1 ∈ gt := gt_at 34 (by decide +kernel) rfl
theorem gc_Sk_has : Cond.code u_Sk_has.1 u_Sk_has.2.1 u_Sk_has.2.2.1 u_Sk_has.2.2.2.1 ∈ gt := gt_at 329 (by decide +kernel) rfl
theorem gc_Sk_isOffByMoreThan : Cond.code u_Sk_isOffByMoreThan.1 u_Sk_isOffByMoreThan.2.1 u_Sk_isOffByMoreThan.2.2.1 u_Sk_isOffByMoreThan.2.2.2.1 ∈ gt := gt_at 352 (by decide +kernel) rfl
theorem gc_Sk_distanceTo : Cond.code u_Sk_distanceTo.1 u_Sk_distanceTo.2.1 u_Sk_distanceTo.2.2.1 u_Sk_distanceTo.2.2.2.1 ∈ gt := gt_at 364 (by decide +kernel) rfl
theorem gc_C_init : Cond.code u_C_init.1 u_C_init.2.1 u_C_init.2.2.1 u_C_init.2.2.2.1 ∈ gt := gt_at 17 (by decide +kernel) rfl
theorem gc_C_head : Cond.code u_C_head.1 u_C_head.2.1 u_C_head.2.2.1 u_C_head.2.2.2.1 ∈ gt := gt_at 198 (by decide +kernel) rfl
theorem gc_C_place : Cond.code u_C_place.1 u_C_place.2.1 u_C_place.2.2.1 u_C_place.2.2.2.1 ∈ gt := gt_at 202 (by decide +kernel) rfl
theorem gc_C_read : Cond.code u_C_read.1 u_C_read.2.1 u_C_read.2.2.1 u_C_read.2.2.2.1 ∈ gt := gt_at 216 (by decide +kernel) rfl
theorem gc_C_mean : Cond.code u_C_mean.1 u_C_mean.2.1 u_C_mean.2.2.1 u_C_mean.2.2.2.1 ∈ gt := gt_at 234 (by decide +kernel) rfl
theorem gc_C_type : Cond.code u_C_type.1 u_C_type.2.1 u_C_type.2.2.1 u_C_type.2.2.2.1 ∈ gt := gt_at 246 (by decide +kernel) rfl
theorem gc_C_wipe : Cond.code u_C_wipe.1 u_C_wipe.2.1 u_C_wipe.2.2.1 u_C_wipe.2.2.2.1 ∈ gt := gt_at 281 (by decide +kernel) rfl
theorem gc_C_fault : Cond.code u_C_fault.1 u_C_fault.2.1 u_C_fault.2.2.1 u_C_fault.2.2.2.1 ∈ gt := gt_at 289 (by decide +kernel) rfl
theorem gc_C_tenths : Cond.code u_C_tenths.1 u_C_tenths.2.1 u_C_tenths.2.2.1 u_C_tenths.2.2.2.1 ∈ gt := gt_at 293 (by decide +kernel) rfl
theorem gc_C_drawn : Cond.code u_C_drawn.1 u_C_drawn.2.1 u_C_drawn.2.2.1 u_C_drawn.2.2.2.1 ∈ gt := gt_at 297 (by decide +kernel) rfl
theorem gc_C_set : Cond.code u_C_set.1 u_C_set.2.1 u_C_set.2.2.1 u_C_set.2.2.2.1 ∈ gt := gt_at 307 (by decide +kernel) rfl
theorem gc_C_draw : Cond.code u_C_draw.1 u_C_draw.2.1 u_C_draw.2.2.1 u_C_draw.2.2.2.1 ∈ gt := gt_at 311 (by decide +kernel) rfl
theorem gc_C_copied : Cond.code u_C_copied.1 u_C_copied.2.1 u_C_copied.2.2.1 u_C_copied.2.2.2.1 ∈ gt := gt_at 333 (by decide +kernel) rfl
theorem gc_C_line : Cond.code u_C_line.1 u_C_line.2.1 u_C_line.2.2.1 u_C_line.2.2.2.1 ∈ gt := gt_at 344 (by decide +kernel) rfl
theorem gc_C_about : Cond.code u_C_about.1 u_C_about.2.1 u_C_about.2.2.1 u_C_about.2.2.2.1 ∈ gt := gt_at 348 (by decide +kernel) rfl
theorem gc_C_unlike : Cond.code u_C_unlike.1 u_C_unlike.2.1 u_C_unlike.2.2.1 u_C_unlike.2.2.2.1 ∈ gt := gt_at 376 (by decide +kernel) rfl
theorem gc_C_knower : Cond.code u_C_knower.1 u_C_knower.2.1 u_C_knower.2.2.1 u_C_knower.2.2.2.1 ∈ gt := gt_at 380 (by decide +kernel) rfl
theorem gc_C_look : Cond.code u_C_look.1 u_C_look.2.1 u_C_look.2.2.1 u_C_look.2.2.2.1 ∈ gt := gt_at 384 (by decide +kernel) rfl
theorem gc_C_leans : Cond.code u_C_leans.1 u_C_leans.2.1 u_C_leans.2.2.1 u_C_leans.2.2.2.1 ∈ gt := gt_at 397 (by decide +kernel) rfl
theorem gc_C_score : Cond.code u_C_score.1 u_C_score.2.1 u_C_score.2.2.1 u_C_score.2.2.2.1 ∈ gt := gt_at 401 (by decide +kernel) rfl
theorem gc_C_named : Cond.code u_C_named.1 u_C_named.2.1 u_C_named.2.2.1 u_C_named.2.2.2.1 ∈ gt := gt_at 426 (by decide +kernel) rfl
theorem gc_C_much : Cond.code u_C_much.1 u_C_much.2.1 u_C_much.2.2.1 u_C_much.2.2.2.1 ∈ gt := gt_at 451 (by decide +kernel) rfl
theorem gc_C_few : Cond.code u_C_few.1 u_C_few.2.1 u_C_few.2.2.1 u_C_few.2.2.2.1 ∈ gt := gt_at 475 (by decide +kernel) rfl
theorem gc_C_stands : Cond.code u_C_stands.1 u_C_stands.2.1 u_C_stands.2.2.1 u_C_stands.2.2.2.1 ∈ gt := gt_at 489 (by decide +kernel) rfl
theorem gc_C_grows : Cond.code u_C_grows.1 u_C_grows.2.1 u_C_grows.2.2.1 u_C_grows.2.2.2.1 ∈ gt := gt_at 493 (by decide +kernel) rfl
theorem gc_C_back : Cond.code u_C_back.1 u_C_back.2.1 u_C_back.2.2.1 u_C_back.2.2.2.1 ∈ gt := gt_at 497 (by decide +kernel) rfl
theorem gc_C_near : Cond.code u_C_near.1 u_C_near.2.1 u_C_near.2.2.1 u_C_near.2.2.2.1 ∈ gt := gt_at 505 (by decide +kernel) rfl
theorem gc_C_witness : Cond.code u_C_witness.1 u_C_witness.2.1 u_C_witness.2.2.1 u_C_witness.2.2.2.1 ∈ gt := gt_at 510 (by decide +kernel) rfl
theorem gc_C_plainest : Cond.code u_C_plainest.1 u_C_plainest.2.1 u_C_plainest.2.2.1 u_C_plainest.2.2.2.1 ∈ gt := gt_at 518 (by decide +kernel) rfl
theorem gc_C_sheet : Cond.code u_C_sheet.1 u_C_sheet.2.1 u_C_sheet.2.2.1 u_C_sheet.2.2.2.1 ∈ gt := gt_at 527 (by decide +kernel) rfl
theorem gc_C_lose : Cond.code u_C_lose.1 u_C_lose.2.1 u_C_lose.2.2.1 u_C_lose.2.2.2.1 ∈ gt := gt_at 539 (by decide +kernel) rfl
theorem gc_C_lay : Cond.code u_C_lay.1 u_C_lay.2.1 u_C_lay.2.2.1 u_C_lay.2.2.2.1 ∈ gt := gt_at 543 (by decide +kernel) rfl
theorem gc_C_get : Cond.code u_C_get.1 u_C_get.2.1 u_C_get.2.2.1 u_C_get.2.2.2.1 ∈ gt := gt_at 554 (by decide +kernel) rfl
theorem gc_C_copy : Cond.code u_C_copy.1 u_C_copy.2.1 u_C_copy.2.2.1 u_C_copy.2.2.2.1 ∈ gt := gt_at 559 (by decide +kernel) rfl
theorem gc_C_write : Cond.code u_C_write.1 u_C_write.2.1 u_C_write.2.2.1 u_C_write.2.2.2.1 ∈ gt := gt_at 567 (by decide +kernel) rfl
theorem gc_C_count : Cond.code u_C_count.1 u_C_count.2.1 u_C_count.2.2.1 u_C_count.2.2.2.1 ∈ gt := gt_at 571 (by decide +kernel) rfl
theorem gc_C_digest : Cond.code u_C_digest.1 u_C_digest.2.1 u_C_digest.2.2.1 u_C_digest.2.2.2.1 ∈ gt := gt_at 579 (by decide +kernel) rfl
theorem gc_C_isHead : Cond.code u_C_isHead.1 u_C_isHead.2.1 u_C_isHead.2.2.1 u_C_isHead.2.2.2.1 ∈ gt := gt_at 206 (by decide +kernel) rfl
theorem gc_C_isDrawing : Cond.code u_C_isDrawing.1 u_C_isDrawing.2.1 u_C_isDrawing.2.2.1 u_C_isDrawing.2.2.2.1 ∈ gt := gt_at 337 (by decide +kernel) rfl
theorem gc_C_isKnower : Cond.code u_C_isKnower.1 u_C_isKnower.2.1 u_C_isKnower.2.2.1 u_C_isKnower.2.2.2.1 ∈ gt := gt_at 388 (by decide +kernel) rfl
theorem gc_C_isSet : Cond.code u_C_isSet.1 u_C_isSet.2.1 u_C_isSet.2.2.1 u_C_isSet.2.2.2.1 ∈ gt := gt_at 238 (by decide +kernel) rfl
theorem gc_C_isNextYear : Cond.code u_C_isNextYear.1 u_C_isNextYear.2.1 u_C_isNextYear.2.2.1 u_C_isNextYear.2.2.2.1 ∈ gt := gt_at 315 (by decide +kernel) rfl
theorem gc_C_isPart : Cond.code u_C_isPart.1 u_C_isPart.2.1 u_C_isPart.2.2.1 u_C_isPart.2.2.2.1 ∈ gt := gt_at 209 (by decide +kernel) rfl
theorem gc_C_isPlace : Cond.code u_C_isPlace.1 u_C_isPlace.2.1 u_C_isPlace.2.2.1 u_C_isPlace.2.2.2.1 ∈ gt := gt_at 212 (by decide +kernel) rfl
theorem gc_C_isHand : Cond.code u_C_isHand.1 u_C_isHand.2.1 u_C_isHand.2.2.1 u_C_isHand.2.2.2.1 ∈ gt := gt_at 249 (by decide +kernel) rfl
theorem gc_C_isSheet : Cond.code u_C_isSheet.1 u_C_isSheet.2.1 u_C_isSheet.2.2.1 u_C_isSheet.2.2.2.1 ∈ gt := gt_at 219 (by decide +kernel) rfl
theorem gc_C_isForm : Cond.code u_C_isForm.1 u_C_isForm.2.1 u_C_isForm.2.2.1 u_C_isForm.2.2.2.1 ∈ gt := gt_at 530 (by decide +kernel) rfl
theorem gc_C_refusalOfParts : Cond.code u_C_refusalOfParts.1 u_C_refusalOfParts.2.1 u_C_refusalOfParts.2.2.1 u_C_refusalOfParts.2.2.2.1 ∈ gt := gt_at 479 (by decide +kernel) rfl
theorem gc_C_found : Cond.code u_C_found.1 u_C_found.2.1 u_C_found.2.2.1 u_C_found.2.2.2.1 ∈ gt := gt_at 227 (by decide +kernel) rfl
theorem gc_C_findingAt : Cond.code u_C_findingAt.1 u_C_findingAt.2.1 u_C_findingAt.2.2.1 u_C_findingAt.2.2.2.1 ∈ gt := gt_at 546 (by decide +kernel) rfl
theorem gc_C_meanOf : Cond.code u_C_meanOf.1 u_C_meanOf.2.1 u_C_meanOf.2.2.1 u_C_meanOf.2.2.2.1 ∈ gt := gt_at 242 (by decide +kernel) rfl
theorem gc_C_fillMean : Cond.code u_C_fillMean.1 u_C_fillMean.2.1 u_C_fillMean.2.2.1 u_C_fillMean.2.2.2.1 ∈ gt := gt_at 319 (by decide +kernel) rfl
theorem gc_C_drawnAt : Cond.code u_C_drawnAt.1 u_C_drawnAt.2.1 u_C_drawnAt.2.2.1 u_C_drawnAt.2.2.2.1 ∈ gt := gt_at 300 (by decide +kernel) rfl
theorem gc_C_outline : Cond.code u_C_outline.1 u_C_outline.2.1 u_C_outline.2.2.1 u_C_outline.2.2.2.1 ∈ gt := gt_at 322 (by decide +kernel) rfl
theorem gc_C_kindOf : Cond.code u_C_kindOf.1 u_C_kindOf.2.1 u_C_kindOf.2.2.1 u_C_kindOf.2.2.2.1 ∈ gt := gt_at 325 (by decide +kernel) rfl
theorem gc_C_monsters : Cond.code u_C_monsters.1 u_C_monsters.2.1 u_C_monsters.2.2.1 u_C_monsters.2.2.2.1 ∈ gt := gt_at 575 (by decide +kernel) rfl
theorem gc_C_fromOf : Cond.code u_C_fromOf.1 u_C_fromOf.2.1 u_C_fromOf.2.2.1 u_C_fromOf.2.2.2.1 ∈ gt := gt_at 360 (by decide +kernel) rfl
theorem gc_C_agesOf : Cond.code u_C_agesOf.1 u_C_agesOf.2.1 u_C_agesOf.2.2.1 u_C_agesOf.2.2.2.1 ∈ gt := gt_at 368 (by decide +kernel) rfl
theorem gc_C_whoseIs : Cond.code u_C_whoseIs.1 u_C_whoseIs.2.1 u_C_whoseIs.2.2.1 u_C_whoseIs.2.2.2.1 ∈ gt := gt_at 372 (by decide +kernel) rfl
theorem gc_C_nameFor : Cond.code u_C_nameFor.1 u_C_nameFor.2.1 u_C_nameFor.2.2.1 u_C_nameFor.2.2.2.1 ∈ gt := gt_at 430 (by decide +kernel) rfl
theorem gc_C_marginOf : Cond.code u_C_marginOf.1 u_C_marginOf.2.1 u_C_marginOf.2.2.1 u_C_marginOf.2.2.2.1 ∈ gt := gt_at 443 (by decide +kernel) rfl
theorem gc_C_tryParts : Cond.code u_C_tryParts.1 u_C_tryParts.2.1 u_C_tryParts.2.2.1 u_C_tryParts.2.2.2.1 ∈ gt := gt_at 459 (by decide +kernel) rfl
theorem gc_C_isNamedBy : Cond.code u_C_isNamedBy.1 u_C_isNamedBy.2.1 u_C_isNamedBy.2.2.1 u_C_isNamedBy.2.2.2.1 ∈ gt := gt_at 467 (by decide +kernel) rfl
theorem gc_C_leastNamed : Cond.code u_C_leastNamed.1 u_C_leastNamed.2.1 u_C_leastNamed.2.2.1 u_C_leastNamed.2.2.2.1 ∈ gt := gt_at 463 (by decide +kernel) rfl
theorem gc_C_bestNamed : Cond.code u_C_bestNamed.1 u_C_bestNamed.2.1 u_C_bestNamed.2.2.1 u_C_bestNamed.2.2.2.1 ∈ gt := gt_at 471 (by decide +kernel) rfl
theorem gc_C_leastMonster : Cond.code u_C_leastMonster.1 u_C_leastMonster.2.1 u_C_leastMonster.2.2.1 u_C_leastMonster.2.2.2.1 ∈ gt := gt_at 455 (by decide +kernel) rfl
theorem gc_C_putBack : Cond.code u_C_putBack.1 u_C_putBack.2.1 u_C_putBack.2.2.1 u_C_putBack.2.2.2.1 ∈ gt := gt_at 501 (by decide +kernel) rfl
theorem gc_C_furthestOff : Cond.code u_C_furthestOff.1 u_C_furthestOff.2.1 u_C_furthestOff.2.2.1 u_C_furthestOff.2.2.2.1 ∈ gt := gt_at 514 (by decide +kernel) rfl
theorem gc_C_digestOfDrawing : Cond.code u_C_digestOfDrawing.1 u_C_digestOfDrawing.2.1 u_C_digestOfDrawing.2.2.1 u_C_digestOfDrawing.2.2.2.1 ∈ gt := gt_at 590 (by decide +kernel) rfl
theorem gc_C_digestOfKnower : Cond.code u_C_digestOfKnower.1 u_C_digestOfKnower.2.1 u_C_digestOfKnower.2.2.1 u_C_digestOfKnower.2.2.2.1 ∈ gt := gt_at 596 (by decide +kernel) rfl
theorem gc_M_init : Cond.code u_M_init.1 u_M_init.2.1 u_M_init.2.2.1 u_M_init.2.2.2.1 ∈ gt := gt_at 603 (by decide +kernel) rfl
theorem gc_M_in : Cond.code u_M_in.1 u_M_in.2.1 u_M_in.2.2.1 u_M_in.2.2.2.1 ∈ gt := gt_at 697 (by decide +kernel) rfl
theorem gc_M_no : Cond.code u_M_no.1 u_M_no.2.1 u_M_no.2.2.1 u_M_no.2.2.2.1 ∈ gt := gt_at 903 (by decide +kernel) rfl
theorem gc_M_dear : Cond.code u_M_dear.1 u_M_dear.2.1 u_M_dear.2.2.1 u_M_dear.2.2.2.1 ∈ gt := gt_at 806 (by decide +kernel) rfl
theorem gc_M_isTwo : Cond.code u_M_isTwo.1 u_M_isTwo.2.1 u_M_isTwo.2.2.1 u_M_isTwo.2.2.2.1 ∈ gt := gt_at 900 (by decide +kernel) rfl
theorem gc_M_amount : Cond.code u_M_amount.1 u_M_amount.2.1 u_M_amount.2.2.1 u_M_amount.2.2.2.1 ∈ gt := gt_at 853 (by decide +kernel) rfl
theorem gc_M_met : Cond.code u_M_met.1 u_M_met.2.1 u_M_met.2.2.1 u_M_met.2.2.2.1 ∈ gt := gt_at 702 (by decide +kernel) rfl
theorem gc_M_isSheet : Cond.code u_M_isSheet.1 u_M_isSheet.2.1 u_M_isSheet.2.2.1 u_M_isSheet.2.2.2.1 ∈ gt := gt_at 693 (by decide +kernel) rfl
theorem gc_M_sheet : Cond.code u_M_sheet.1 u_M_sheet.2.1 u_M_sheet.2.2.1 u_M_sheet.2.2.2.1 ∈ gt := gt_at 690 (by decide +kernel) rfl
theorem gc_M_lose : Cond.code u_M_lose.1 u_M_lose.2.1 u_M_lose.2.2.1 u_M_lose.2.2.2.1 ∈ gt := gt_at 706 (by decide +kernel) rfl
theorem gc_M_lacks : Cond.code u_M_lacks.1 u_M_lacks.2.1 u_M_lacks.2.2.1 u_M_lacks.2.2.2.1 ∈ gt := gt_at 714 (by decide +kernel) rfl
theorem gc_M_cut : Cond.code u_M_cut.1 u_M_cut.2.1 u_M_cut.2.2.1 u_M_cut.2.2.2.1 ∈ gt := gt_at 717 (by decide +kernel) rfl
theorem gc_M_lay : Cond.code u_M_lay.1 u_M_lay.2.1 u_M_lay.2.2.1 u_M_lay.2.2.2.1 ∈ gt := gt_at 710 (by decide +kernel) rfl
theorem gc_M_get : Cond.code u_M_get.1 u_M_get.2.1 u_M_get.2.2.1 u_M_get.2.2.2.1 ∈ gt := gt_at 721 (by decide +kernel) rfl
theorem gc_M_copy : Cond.code u_M_copy.1 u_M_copy.2.1 u_M_copy.2.2.1 u_M_copy.2.2.2.1 ∈ gt := gt_at 726 (by decide +kernel) rfl
theorem gc_M_isHead : Cond.code u_M_isHead.1 u_M_isHead.2.1 u_M_isHead.2.2.1 u_M_isHead.2.2.2.1 ∈ gt := gt_at 738 (by decide +kernel) rfl
theorem gc_M_isPart : Cond.code u_M_isPart.1 u_M_isPart.2.1 u_M_isPart.2.2.1 u_M_isPart.2.2.2.1 ∈ gt := gt_at 741 (by decide +kernel) rfl
theorem gc_M_isHand : Cond.code u_M_isHand.1 u_M_isHand.2.1 u_M_isHand.2.2.1 u_M_isHand.2.2.2.1 ∈ gt := gt_at 767 (by decide +kernel) rfl
theorem gc_M_isSet : Cond.code u_M_isSet.1 u_M_isSet.2.1 u_M_isSet.2.2.1 u_M_isSet.2.2.2.1 ∈ gt := gt_at 756 (by decide +kernel) rfl
theorem gc_M_head : Cond.code u_M_head.1 u_M_head.2.1 u_M_head.2.2.1 u_M_head.2.2.2.1 ∈ gt := gt_at 730 (by decide +kernel) rfl
theorem gc_M_place : Cond.code u_M_place.1 u_M_place.2.1 u_M_place.2.2.1 u_M_place.2.2.2.1 ∈ gt := gt_at 734 (by decide +kernel) rfl
theorem gc_M_read : Cond.code u_M_read.1 u_M_read.2.1 u_M_read.2.2.1 u_M_read.2.2.2.1 ∈ gt := gt_at 747 (by decide +kernel) rfl
theorem gc_M_meanOf : Cond.code u_M_meanOf.1 u_M_meanOf.2.1 u_M_meanOf.2.2.1 u_M_meanOf.2.2.2.1 ∈ gt := gt_at 760 (by decide +kernel) rfl
theorem gc_M_mean : Cond.code u_M_mean.1 u_M_mean.2.1 u_M_mean.2.2.1 u_M_mean.2.2.2.1 ∈ gt := gt_at 752 (by decide +kernel) rfl
theorem gc_M_type : Cond.code u_M_type.1 u_M_type.2.1 u_M_type.2.2.1 u_M_type.2.2.2.1 ∈ gt := gt_at 764 (by decide +kernel) rfl
theorem gc_M_wipe : Cond.code u_M_wipe.1 u_M_wipe.2.1 u_M_wipe.2.2.1 u_M_wipe.2.2.2.1 ∈ gt := gt_at 772 (by decide +kernel) rfl
theorem gc_M_here : Cond.code u_M_here.1 u_M_here.2.1 u_M_here.2.2.1 u_M_here.2.2.2.1 ∈ gt := gt_at 792 (by decide +kernel) rfl
theorem gc_M_number : Cond.code u_M_number.1 u_M_number.2.1 u_M_number.2.2.1 u_M_number.2.2.2.1 ∈ gt := gt_at 797 (by decide +kernel) rfl
theorem gc_M_readsPiece : Cond.code u_M_readsPiece.1 u_M_readsPiece.2.1 u_M_readsPiece.2.2.1 u_M_readsPiece.2.2.2.1 ∈ gt := gt_at 788 (by decide +kernel) rfl
theorem gc_M_clears : Cond.code u_M_clears.1 u_M_clears.2.1 u_M_clears.2.2.1 u_M_clears.2.2.2.1 ∈ gt := gt_at 784 (by decide +kernel) rfl
theorem gc_M_reads : Cond.code u_M_reads.1 u_M_reads.2.1 u_M_reads.2.2.1 u_M_reads.2.2.2.1 ∈ gt := gt_at 780 (by decide +kernel) rfl
theorem gc_M_fault : Cond.code u_M_fault.1 u_M_fault.2.1 u_M_fault.2.2.1 u_M_fault.2.2.2.1 ∈ gt := gt_at 776 (by decide +kernel) rfl
theorem gc_M_tenths : Cond.code u_M_tenths.1 u_M_tenths.2.1 u_M_tenths.2.2.1 u_M_tenths.2.2.2.1 ∈ gt := gt_at 803 (by decide +kernel) rfl
theorem gc_M_drawnBy : Cond.code u_M_drawnBy.1 u_M_drawnBy.2.1 u_M_drawnBy.2.2.1 u_M_drawnBy.2.2.2.1 ∈ gt := gt_at 813 (by decide +kernel) rfl
theorem gc_M_drawn : Cond.code u_M_drawn.1 u_M_drawn.2.1 u_M_drawn.2.2.1 u_M_drawn.2.2.2.1 ∈ gt := gt_at 810 (by decide +kernel) rfl
theorem gc_M_set : Cond.code u_M_set.1 u_M_set.2.1 u_M_set.2.2.1 u_M_set.2.2.2.1 ∈ gt := gt_at 817 (by decide +kernel) rfl
theorem gc_M_isDrawing : Cond.code u_M_isDrawing.1 u_M_isDrawing.2.1 u_M_isDrawing.2.2.1 u_M_isDrawing.2.2.2.1 ∈ gt := gt_at 834 (by decide +kernel) rfl
theorem gc_M_isLate : Cond.code u_M_isLate.1 u_M_isLate.2.1 u_M_isLate.2.2.1 u_M_isLate.2.2.2.1 ∈ gt := gt_at 826 (by decide +kernel) rfl
theorem gc_M_draw : Cond.code u_M_draw.1 u_M_draw.2.1 u_M_draw.2.2.1 u_M_draw.2.2.2.1 ∈ gt := gt_at 822 (by decide +kernel) rfl
theorem gc_M_copied : Cond.code u_M_copied.1 u_M_copied.2.1 u_M_copied.2.2.1 u_M_copied.2.2.2.1 ∈ gt := gt_at 830 (by decide +kernel) rfl
theorem gc_M_line : Cond.code u_M_line.1 u_M_line.2.1 u_M_line.2.2.1 u_M_line.2.2.2.1 ∈ gt := gt_at 838 (by decide +kernel) rfl
theorem gc_M_isMonster : Cond.code u_M_isMonster.1 u_M_isMonster.2.1 u_M_isMonster.2.2.1 u_M_isMonster.2.2.2.1 ∈ gt := gt_at 865 (by decide +kernel) rfl
theorem gc_M_unlikeBy : Cond.code u_M_unlikeBy.1 u_M_unlikeBy.2.1 u_M_unlikeBy.2.2.1 u_M_unlikeBy.2.2.2.1 ∈ gt := gt_at 850 (by decide +kernel) rfl
theorem gc_M_unlikeOf : Cond.code u_M_unlikeOf.1 u_M_unlikeOf.2.1 u_M_unlikeOf.2.2.1 u_M_unlikeOf.2.2.2.1 ∈ gt := gt_at 846 (by decide +kernel) rfl
theorem gc_M_unlike : Cond.code u_M_unlike.1 u_M_unlike.2.1 u_M_unlike.2.2.1 u_M_unlike.2.2.2.1 ∈ gt := gt_at 842 (by decide +kernel) rfl
theorem gc_M_fromOf : Cond.code u_M_fromOf.1 u_M_fromOf.2.1 u_M_fromOf.2.2.1 u_M_fromOf.2.2.2.1 ∈ gt := gt_at 869 (by decide +kernel) rfl
theorem gc_M_agesOf : Cond.code u_M_agesOf.1 u_M_agesOf.2.1 u_M_agesOf.2.2.1 u_M_agesOf.2.2.2.1 ∈ gt := gt_at 873 (by decide +kernel) rfl
theorem gc_M_whoseOf : Cond.code u_M_whoseOf.1 u_M_whoseOf.2.1 u_M_whoseOf.2.2.1 u_M_whoseOf.2.2.2.1 ∈ gt := gt_at 877 (by decide +kernel) rfl
theorem gc_M_aboutOf : Cond.code u_M_aboutOf.1 u_M_aboutOf.2.1 u_M_aboutOf.2.2.1 u_M_aboutOf.2.2.2.1 ∈ gt := gt_at 861 (by decide +kernel) rfl
theorem gc_M_about : Cond.code u_M_about.1 u_M_about.2.1 u_M_about.2.2.1 u_M_about.2.2.2.1 ∈ gt := gt_at 857 (by decide +kernel) rfl
theorem gc_M_isKnower : Cond.code u_M_isKnower.1 u_M_isKnower.2.1 u_M_isKnower.2.2.1 u_M_isKnower.2.2.2.1 ∈ gt := gt_at 889 (by decide +kernel) rfl
theorem gc_M_doesKnow : Cond.code u_M_doesKnow.1 u_M_doesKnow.2.1 u_M_doesKnow.2.2.1 u_M_doesKnow.2.2.2.1 ∈ gt := gt_at 908 (by decide +kernel) rfl
theorem gc_M_knower : Cond.code u_M_knower.1 u_M_knower.2.1 u_M_knower.2.2.1 u_M_knower.2.2.2.1 ∈ gt := gt_at 881 (by decide +kernel) rfl
theorem gc_M_look : Cond.code u_M_look.1 u_M_look.2.1 u_M_look.2.2.1 u_M_look.2.2.2.1 ∈ gt := gt_at 885 (by decide +kernel) rfl
theorem gc_M_leans : Cond.code u_M_leans.1 u_M_leans.2.1 u_M_leans.2.2.1 u_M_leans.2.2.2.1 ∈ gt := gt_at 893 (by decide +kernel) rfl
theorem gc_M_sees_I : Cond.code u_M_sees_I.1 u_M_sees_I.2.1 u_M_sees_I.2.2.1 u_M_sees_I.2.2.2.1 ∈ gt := gt_at 912 (by decide +kernel) rfl
theorem gc_M_sees_IIII : Cond.code u_M_sees_IIII.1 u_M_sees_IIII.2.1 u_M_sees_IIII.2.2.1 u_M_sees_IIII.2.2.2.1 ∈ gt := gt_at 949 (by decide +kernel) rfl
theorem gc_M_findScore : Cond.code u_M_findScore.1 u_M_findScore.2.1 u_M_findScore.2.2.1 u_M_findScore.2.2.2.1 ∈ gt := gt_at 916 (by decide +kernel) rfl
theorem gc_M_divisor : Cond.code u_M_divisor.1 u_M_divisor.2.1 u_M_divisor.2.2.1 u_M_divisor.2.2.2.1 ∈ gt := gt_at 922 (by decide +kernel) rfl
theorem gc_M_part : Cond.code u_M_part.1 u_M_part.2.1 u_M_part.2.2.1 u_M_part.2.2.2.1 ∈ gt := gt_at 919 (by decide +kernel) rfl
theorem gc_M_isMore : Cond.code u_M_isMore.1 u_M_isMore.2.1 u_M_isMore.2.2.1 u_M_isMore.2.2.2.1 ∈ gt := gt_at 937 (by decide +kernel) rfl
theorem gc_M_score : Cond.code u_M_score.1 u_M_score.2.1 u_M_score.2.2.1 u_M_score.2.2.2.1 ∈ gt := gt_at 897 (by decide +kernel) rfl
theorem gc_M_namedBy : Cond.code u_M_namedBy.1 u_M_namedBy.2.1 u_M_namedBy.2.2.1 u_M_namedBy.2.2.2.1 ∈ gt := gt_at 934 (by decide +kernel) rfl
theorem gc_M_marginOf : Cond.code u_M_marginOf.1 u_M_marginOf.2.1 u_M_marginOf.2.2.1 u_M_marginOf.2.2.2.1 ∈ gt := gt_at 941 (by decide +kernel) rfl
theorem gc_M_namedOf : Cond.code u_M_namedOf.1 u_M_namedOf.2.1 u_M_namedOf.2.2.1 u_M_namedOf.2.2.2.1 ∈ gt := gt_at 930 (by decide +kernel) rfl
theorem gc_M_named : Cond.code u_M_named.1 u_M_named.2.1 u_M_named.2.2.1 u_M_named.2.2.2.1 ∈ gt := gt_at 926 (by decide +kernel) rfl
theorem gc_M_much : Cond.code u_M_much.1 u_M_much.2.1 u_M_much.2.2.1 u_M_much.2.2.2.1 ∈ gt := gt_at 945 (by decide +kernel) rfl
theorem gc_M_ones : Cond.code u_M_ones.1 u_M_ones.2.1 u_M_ones.2.2.1 u_M_ones.2.2.2.1 ∈ gt := gt_at 960 (by decide +kernel) rfl
theorem gc_M_isEnough : Cond.code u_M_isEnough.1 u_M_isEnough.2.1 u_M_isEnough.2.2.1 u_M_isEnough.2.2.2.1 ∈ gt := gt_at 964 (by decide +kernel) rfl
theorem gc_M_isAsked : Cond.code u_M_isAsked.1 u_M_isAsked.2.1 u_M_isAsked.2.2.1 u_M_isAsked.2.2.2.1 ∈ gt := gt_at 957 (by decide +kernel) rfl
theorem gc_M_few : Cond.code u_M_few.1 u_M_few.2.1 u_M_few.2.2.1 u_M_few.2.2.2.1 ∈ gt := gt_at 953 (by decide +kernel) rfl
theorem gc_M_stands : Cond.code u_M_stands.1 u_M_stands.2.1 u_M_stands.2.2.1 u_M_stands.2.2.2.1 ∈ gt := gt_at 968 (by decide +kernel) rfl
theorem gc_M_grows : Cond.code u_M_grows.1 u_M_grows.2.1 u_M_grows.2.2.1 u_M_grows.2.2.2.1 ∈ gt := gt_at 972 (by decide +kernel) rfl
theorem gc_M_backOf : Cond.code u_M_backOf.1 u_M_backOf.2.1 u_M_backOf.2.2.1 u_M_backOf.2.2.2.1 ∈ gt := gt_at 980 (by decide +kernel) rfl
theorem gc_M_back : Cond.code u_M_back.1 u_M_back.2.1 u_M_back.2.2.1 u_M_back.2.2.2.1 ∈ gt := gt_at 976 (by decide +kernel) rfl
theorem gc_M_nearOf : Cond.code u_M_nearOf.1 u_M_nearOf.2.1 u_M_nearOf.2.2.1 u_M_nearOf.2.2.2.1 ∈ gt := gt_at 988 (by decide +kernel) rfl
theorem gc_M_near : Cond.code u_M_near.1 u_M_near.2.1 u_M_near.2.2.1 u_M_near.2.2.2.1 ∈ gt := gt_at 984 (by decide +kernel) rfl
theorem gc_M_witnessOf : Cond.code u_M_witnessOf.1 u_M_witnessOf.2.1 u_M_witnessOf.2.2.1 u_M_witnessOf.2.2.2.1 ∈ gt := gt_at 996 (by decide +kernel) rfl
theorem gc_M_witness : Cond.code u_M_witness.1 u_M_witness.2.1 u_M_witness.2.2.1 u_M_witness.2.2.2.1 ∈ gt := gt_at 992 (by decide +kernel) rfl
theorem gc_M_plainest : Cond.code u_M_plainest.1 u_M_plainest.2.1 u_M_plainest.2.2.1 u_M_plainest.2.2.2.1 ∈ gt := gt_at 1000 (by decide +kernel) rfl
theorem gc_M_write : Cond.code u_M_write.1 u_M_write.2.1 u_M_write.2.2.1 u_M_write.2.2.2.1 ∈ gt := gt_at 1004 (by decide +kernel) rfl
theorem gc_M_count : Cond.code u_M_count.1 u_M_count.2.1 u_M_count.2.2.1 u_M_count.2.2.2.1 ∈ gt := gt_at 1008 (by decide +kernel) rfl
theorem gc_M_digest : Cond.code u_M_digest.1 u_M_digest.2.1 u_M_digest.2.2.1 u_M_digest.2.2.2.1 ∈ gt := gt_at 1012 (by decide +kernel) rfl
theorem gc_J_bitCount : Cond.code u_J_bitCount.1 u_J_bitCount.2.1 u_J_bitCount.2.2.1 u_J_bitCount.2.2.2.1 ∈ gt := gt_at 482 (by decide +kernel) rfl
theorem gc_J_abs_I : Cond.code u_J_abs_I.1 u_J_abs_I.2.1 u_J_abs_I.2.2.1 u_J_abs_I.2.2.2.1 ∈ gt := gt_at 356 (by decide +kernel) rfl
theorem gc_J_abs_J : Cond.code u_J_abs_J.1 u_J_abs_J.2.1 u_J_abs_J.2.2.1 u_J_abs_J.2.2.2.1 ∈ gt := gt_at 422 (by decide +kernel) rfl
theorem gc_J_max_II : Cond.code u_J_max_II.1 u_J_max_II.2.1 u_J_max_II.2.2.1 u_J_max_II.2.2.2.1 ∈ gt := gt_at 303 (by decide +kernel) rfl
theorem gc_J_max_JJ : Cond.code u_J_max_JJ.1 u_J_max_JJ.2.1 u_J_max_JJ.2.2.1 u_J_max_JJ.2.2.2.1 ∈ gt := gt_at 447 (by decide +kernel) rfl
theorem gc_J_min : Cond.code u_J_min.1 u_J_min.2.1 u_J_min.2.2.1 u_J_min.2.2.2.1 ∈ gt := gt_at 230 (by decide +kernel) rfl
theorem gc_J_fill : Cond.code u_J_fill.1 u_J_fill.2.1 u_J_fill.2.2.1 u_J_fill.2.2.2.1 ∈ gt := gt_at 82 (by decide +kernel) rfl
theorem ml_C_78 : VL "UnlikeDrawn" 78 6 u_C_isHead 1 := ⟨⟨gt_at 203 (by decide +kernel) rfl, gt_at 205 (by decide +kernel) rfl, gt_sel (q := (⟨"UnlikeDrawn", "isHead", "(I)Z"⟩, 17)) 0 (by decide +kernel), gt_at 1 (by decide +kernel) rfl, gc_C_isHead⟩, ⟨by decide +kernel, by decide +kernel, by decide +kernel⟩, _, _, rfl⟩
theorem ml_C_82 : SL "UnlikeDrawn" 82 u_C_isPart 1 := ⟨⟨gt_at 207 (by decide +kernel) rfl, gt_at 208 (by decide +kernel) rfl, gt_at 1 (by decide +kernel) rfl, gc_C_isPart⟩, ⟨by decide +kernel, by decide +kernel, by decide +kernel⟩⟩
theorem ml_C_85 : SL "UnlikeDrawn" 85 u_C_isPlace 1 := ⟨⟨gt_at 210 (by decide +kernel) rfl, gt_at 211 (by decide +kernel) rfl, gt_at 1 (by decide +kernel) rfl, gc_C_isPlace⟩, ⟨by decide +kernel, by decide +kernel, by decide +kernel⟩⟩
theorem ml_C_91 : SL "UnlikeDrawn" 91 u_C_isSheet 1 := ⟨⟨gt_at 217 (by decide +kernel) rfl, gt_at 218 (by decide +kernel) rfl, gt_at 1 (by decide +kernel) rfl, gc_C_isSheet⟩, ⟨by decide +kernel, by decide +kernel, by decide +kernel⟩⟩
theorem ml_C_94 : VL "UnlikeDrawn" 94 4 u_Sh_isLost 0 := ⟨⟨gt_at 220 (by decide +kernel) rfl, gt_at 221 (by decide +kernel) rfl, gt_at 222 (by decide +kernel) rfl, gt_at 8 (by decide +kernel) rfl, gc_Sh_isLost⟩, ⟨by decide +kernel, by decide +kernel, by decide +kernel⟩, _, _, rfl⟩
theorem ml_C_98 : VL "UnlikeDrawn" 98 6 u_C_found 1 := ⟨⟨gt_at 224 (by decide +kernel) rfl, gt_at 226 (by decide +kernel) rfl, gt_sel (q := (⟨"UnlikeDrawn", "found", "(I)I"⟩, 17)) 1 (by decide +kernel), gt_at 1 (by decide +kernel) rfl, gc_C_found⟩, ⟨by decide +kernel, by decide +kernel, by decide +kernel⟩, _, _, rfl⟩
theorem ml_C_105 : SL "UnlikeDrawn" 105 u_J_min 2 := ⟨⟨gt_at 228 (by decide +kernel) rfl, gt_at 229 (by decide +kernel) rfl, gt_at 10 (by decide +kernel) rfl, gc_J_min⟩, ⟨by decide +kernel, by decide +kernel, by decide +kernel⟩⟩
theorem ml_C_114 : VL "UnlikeDrawn" 114 6 u_C_isSet 1 := ⟨⟨gt_at 235 (by decide +kernel) rfl, gt_at 237 (by decide +kernel) rfl, gt_sel (q := (⟨"UnlikeDrawn", "isSet", "(I)Z"⟩, 17)) 2 (by decide +kernel), gt_at 1 (by decide +kernel) rfl, gc_C_isSet⟩, ⟨by decide +kernel, by decide +kernel, by decide +kernel⟩, _, _, rfl⟩
theorem ml_C_117 : VL "UnlikeDrawn" 117 6 u_C_meanOf 2 := ⟨⟨gt_at 239 (by decide +kernel) rfl, gt_at 241 (by decide +kernel) rfl, gt_sel (q := (⟨"UnlikeDrawn", "meanOf", "(II)I"⟩, 17)) 3 (by decide +kernel), gt_at 1 (by decide +kernel) rfl, gc_C_meanOf⟩, ⟨by decide +kernel, by decide +kernel, by decide +kernel⟩, _, _, rfl⟩
theorem ml_C_120 : SL "UnlikeDrawn" 120 u_C_isHand 1 := ⟨⟨gt_at 247 (by decide +kernel) rfl, gt_at 248 (by decide +kernel) rfl, gt_at 1 (by decide +kernel) rfl, gc_C_isHand⟩, ⟨by decide +kernel, by decide +kernel, by decide +kernel⟩⟩
theorem ml_C_126 : VL "UnlikeDrawn" 126 1 u_Ha_append 1 := ⟨⟨gt_at 250 (by decide +kernel) rfl, gt_at 251 (by decide +kernel) rfl, gt_at 252 (by decide +kernel) rfl, gt_at 6 (by decide +kernel) rfl, gc_Ha_append⟩, ⟨by decide +kernel, by decide +kernel, by decide +kernel⟩, _, _, rfl⟩
theorem ml_C_130 : VL "UnlikeDrawn" 130 1 u_Ha_clear 0 := ⟨⟨gt_at 282 (by decide +kernel) rfl, gt_at 283 (by decide +kernel) rfl, gt_at 284 (by decide +kernel) rfl, gt_at 6 (by decide +kernel) rfl, gc_Ha_clear⟩, ⟨by decide +kernel, by decide +kernel, by decide +kernel⟩, _, _, rfl⟩
theorem ml_C_139 : SL "UnlikeDrawn" 139 u_C_drawnAt 3 := ⟨⟨gt_at 298 (by decide +kernel) rfl, gt_at 299 (by decide +kernel) rfl, gt_at 1 (by decide +kernel) rfl, gc_C_drawnAt⟩, ⟨by decide +kernel, by decide +kernel, by decide +kernel⟩⟩
theorem ml_C_143 : VL "UnlikeDrawn" 143 6 u_C_isNextYear 1 := ⟨⟨gt_at 312 (by decide +kernel) rfl, gt_at 314 (by decide +kernel) rfl, gt_sel (q := (⟨"UnlikeDrawn", "isNextYear", "(I)Z"⟩, 17)) 9 (by decide +kernel), gt_at 1 (by decide +kernel) rfl, gc_C_isNextYear⟩, ⟨by decide +kernel, by decide +kernel, by decide +kernel⟩, _, _, rfl⟩
theorem ml_C_152 : VL "UnlikeDrawn" 152 6 u_C_fillMean 2 := ⟨⟨gt_at 316 (by decide +kernel) rfl, gt_at 318 (by decide +kernel) rfl, gt_sel (q := (⟨"UnlikeDrawn", "fillMean", "(I[I)V"⟩, 17)) 10 (by decide +kernel), gt_at 1 (by decide +kernel) rfl, gc_C_fillMean⟩, ⟨by decide +kernel, by decide +kernel, by decide +kernel⟩, _, _, rfl⟩
theorem ml_C_156 : SL "UnlikeDrawn" 156 u_C_outline 3 := ⟨⟨gt_at 320 (by decide +kernel) rfl, gt_at 321 (by decide +kernel) rfl, gt_at 1 (by decide +kernel) rfl, gc_C_outline⟩, ⟨by decide +kernel, by decide +kernel, by decide +kernel⟩⟩
theorem ml_C_169 : SL "UnlikeDrawn" 169 u_C_kindOf 3 := ⟨⟨gt_at 323 (by decide +kernel) rfl, gt_at 324 (by decide +kernel) rfl, gt_at 1 (by decide +kernel) rfl, gc_C_kindOf⟩, ⟨by decide +kernel, by decide +kernel, by decide +kernel⟩⟩
theorem ml_C_176 : VL "UnlikeDrawn" 176 6 u_C_isDrawing 1 := ⟨⟨gt_at 334 (by decide +kernel) rfl, gt_at 336 (by decide +kernel) rfl, gt_sel (q := (⟨"UnlikeDrawn", "isDrawing", "(I)Z"⟩, 17)) 11 (by decide +kernel), gt_at 1 (by decide +kernel) rfl, gc_C_isDrawing⟩, ⟨by decide +kernel, by decide +kernel, by decide +kernel⟩, _, _, rfl⟩
theorem ml_C_179 : Cond.methodLink "UnlikeDrawn" 179 arraycopyName ∈ gt := gt_at 338 (by decide +kernel) rfl
theorem ml_C_188 : VL "UnlikeDrawn" 188 5 u_Sk_isOffByMoreThan 1 := ⟨⟨gt_at 349 (by decide +kernel) rfl, gt_at 350 (by decide +kernel) rfl, gt_at 351 (by decide +kernel) rfl, gt_at 2 (by decide +kernel) rfl, gc_Sk_isOffByMoreThan⟩, ⟨by decide +kernel, by decide +kernel, by decide +kernel⟩, _, _, rfl⟩
theorem ml_C_191 : VL "UnlikeDrawn" 191 6 u_C_fromOf 1 := ⟨⟨gt_at 357 (by decide +kernel) rfl, gt_at 359 (by decide +kernel) rfl, gt_sel (q := (⟨"UnlikeDrawn", "fromOf", "(I)I"⟩, 17)) 12 (by decide +kernel), gt_at 1 (by decide +kernel) rfl, gc_C_fromOf⟩, ⟨by decide +kernel, by decide +kernel, by decide +kernel⟩, _, _, rfl⟩
theorem ml_C_194 : VL "UnlikeDrawn" 194 6 u_C_agesOf 1 := ⟨⟨gt_at 365 (by decide +kernel) rfl, gt_at 367 (by decide +kernel) rfl, gt_sel (q := (⟨"UnlikeDrawn", "agesOf", "(I)I"⟩, 17)) 13 (by decide +kernel), gt_at 1 (by decide +kernel) rfl, gc_C_agesOf⟩, ⟨by decide +kernel, by decide +kernel, by decide +kernel⟩, _, _, rfl⟩
theorem ml_C_197 : VL "UnlikeDrawn" 197 6 u_C_whoseIs 1 := ⟨⟨gt_at 369 (by decide +kernel) rfl, gt_at 371 (by decide +kernel) rfl, gt_sel (q := (⟨"UnlikeDrawn", "whoseIs", "(LUnlikeDrawn$Sketch;)I"⟩, 17)) 14 (by decide +kernel), gt_at 1 (by decide +kernel) rfl, gc_C_whoseIs⟩, ⟨by decide +kernel, by decide +kernel, by decide +kernel⟩, _, _, rfl⟩
theorem ml_C_201 : VL "UnlikeDrawn" 201 5 u_Sk_distanceTo 2 := ⟨⟨gt_at 361 (by decide +kernel) rfl, gt_at 362 (by decide +kernel) rfl, gt_at 363 (by decide +kernel) rfl, gt_at 2 (by decide +kernel) rfl, gc_Sk_distanceTo⟩, ⟨by decide +kernel, by decide +kernel, by decide +kernel⟩, _, _, rfl⟩
theorem ml_C_214 : VL "UnlikeDrawn" 214 6 u_C_isKnower 1 := ⟨⟨gt_at 385 (by decide +kernel) rfl, gt_at 387 (by decide +kernel) rfl, gt_sel (q := (⟨"UnlikeDrawn", "isKnower", "(I)Z"⟩, 17)) 15 (by decide +kernel), gt_at 1 (by decide +kernel) rfl, gc_C_isKnower⟩, ⟨by decide +kernel, by decide +kernel, by decide +kernel⟩, _, _, rfl⟩
theorem ml_C_217 : VL "UnlikeDrawn" 217 3 u_Kn_gaze 3 := ⟨⟨gt_at 389 (by decide +kernel) rfl, gt_at 390 (by decide +kernel) rfl, gt_at 391 (by decide +kernel) rfl, gt_at 7 (by decide +kernel) rfl, gc_Kn_gaze⟩, ⟨by decide +kernel, by decide +kernel, by decide +kernel⟩, _, _, rfl⟩
theorem ml_C_223 : VL "UnlikeDrawn" 223 3 u_Kn_knows 1 := ⟨⟨gt_at 403 (by decide +kernel) rfl, gt_at 404 (by decide +kernel) rfl, gt_at 405 (by decide +kernel) rfl, gt_at 7 (by decide +kernel) rfl, gc_Kn_knows⟩, ⟨by decide +kernel, by decide +kernel, by decide +kernel⟩, _, _, rfl⟩
theorem ml_C_228 : VL "UnlikeDrawn" 228 3 u_Kn_weigh 3 := ⟨⟨gt_at 408 (by decide +kernel) rfl, gt_at 409 (by decide +kernel) rfl, gt_at 410 (by decide +kernel) rfl, gt_at 7 (by decide +kernel) rfl, gc_Kn_weigh⟩, ⟨by decide +kernel, by decide +kernel, by decide +kernel⟩, _, _, rfl⟩
theorem ml_C_232 : VL "UnlikeDrawn" 232 0 u_Fr_told 1 := ⟨⟨gt_at 416 (by decide +kernel) rfl, gt_at 417 (by decide +kernel) rfl, gt_at 418 (by decide +kernel) rfl, gt_at 3 (by decide +kernel) rfl, gc_Fr_told⟩, ⟨by decide +kernel, by decide +kernel, by decide +kernel⟩, _, _, rfl⟩
theorem ml_C_236 : VL "UnlikeDrawn" 236 6 u_C_nameFor 2 := ⟨⟨gt_at 427 (by decide +kernel) rfl, gt_at 429 (by decide +kernel) rfl, gt_sel (q := (⟨"UnlikeDrawn", "nameFor", "(LUnlikeDrawn$Knower;LUnlikeDrawn$Sketch;)I"⟩, 17)) 16 (by decide +kernel), gt_at 1 (by decide +kernel) rfl, gc_C_nameFor⟩, ⟨by decide +kernel, by decide +kernel, by decide +kernel⟩, _, _, rfl⟩
theorem ml_C_240 : VL "UnlikeDrawn" 240 6 u_C_marginOf 3 := ⟨⟨gt_at 440 (by decide +kernel) rfl, gt_at 442 (by decide +kernel) rfl, gt_sel (q := (⟨"UnlikeDrawn", "marginOf", "(LUnlikeDrawn$Knower;LUnlikeDrawn$Sketch;I)I"⟩, 17)) 17 (by decide +kernel), gt_at 1 (by decide +kernel) rfl, gc_C_marginOf⟩, ⟨by decide +kernel, by decide +kernel, by decide +kernel⟩, _, _, rfl⟩
theorem ml_C_244 : VL "UnlikeDrawn" 244 6 u_C_leastMonster 1 := ⟨⟨gt_at 452 (by decide +kernel) rfl, gt_at 454 (by decide +kernel) rfl, gt_sel (q := (⟨"UnlikeDrawn", "leastMonster", "(I)I"⟩, 17)) 18 (by decide +kernel), gt_at 1 (by decide +kernel) rfl, gc_C_leastMonster⟩, ⟨by decide +kernel, by decide +kernel, by decide +kernel⟩, _, _, rfl⟩
theorem ml_C_247 : VL "UnlikeDrawn" 247 6 u_C_leastNamed 2 := ⟨⟨gt_at 460 (by decide +kernel) rfl, gt_at 462 (by decide +kernel) rfl, gt_sel (q := (⟨"UnlikeDrawn", "leastNamed", "(LUnlikeDrawn$Knower;I)I"⟩, 17)) 20 (by decide +kernel), gt_at 1 (by decide +kernel) rfl, gc_C_leastNamed⟩, ⟨by decide +kernel, by decide +kernel, by decide +kernel⟩, _, _, rfl⟩
theorem ml_C_251 : VL "UnlikeDrawn" 251 6 u_C_bestNamed 2 := ⟨⟨gt_at 468 (by decide +kernel) rfl, gt_at 470 (by decide +kernel) rfl, gt_sel (q := (⟨"UnlikeDrawn", "bestNamed", "(LUnlikeDrawn$Knower;I)I"⟩, 17)) 22 (by decide +kernel), gt_at 1 (by decide +kernel) rfl, gc_C_bestNamed⟩, ⟨by decide +kernel, by decide +kernel, by decide +kernel⟩, _, _, rfl⟩
theorem ml_C_254 : VL "UnlikeDrawn" 254 6 u_C_refusalOfParts 4 := ⟨⟨gt_at 476 (by decide +kernel) rfl, gt_at 478 (by decide +kernel) rfl, gt_sel (q := (⟨"UnlikeDrawn", "refusalOfParts", "(IIII)I"⟩, 17)) 23 (by decide +kernel), gt_at 1 (by decide +kernel) rfl, gc_C_refusalOfParts⟩, ⟨by decide +kernel, by decide +kernel, by decide +kernel⟩, _, _, rfl⟩
theorem ml_C_258 : SL "UnlikeDrawn" 258 u_J_bitCount 1 := ⟨⟨gt_at 480 (by decide +kernel) rfl, gt_at 481 (by decide +kernel) rfl, gt_at 12 (by decide +kernel) rfl, gc_J_bitCount⟩, ⟨by decide +kernel, by decide +kernel, by decide +kernel⟩⟩
theorem ml_C_263 : VL "UnlikeDrawn" 263 6 u_C_isNamedBy 4 := ⟨⟨gt_at 464 (by decide +kernel) rfl, gt_at 466 (by decide +kernel) rfl, gt_sel (q := (⟨"UnlikeDrawn", "isNamedBy", "(LUnlikeDrawn$Knower;III)Z"⟩, 17)) 21 (by decide +kernel), gt_at 1 (by decide +kernel) rfl, gc_C_isNamedBy⟩, ⟨by decide +kernel, by decide +kernel, by decide +kernel⟩, _, _, rfl⟩
theorem ml_C_267 : VL "UnlikeDrawn" 267 5 u_Sk_has 1 := ⟨⟨gt_at 326 (by decide +kernel) rfl, gt_at 327 (by decide +kernel) rfl, gt_at 328 (by decide +kernel) rfl, gt_at 2 (by decide +kernel) rfl, gc_Sk_has⟩, ⟨by decide +kernel, by decide +kernel, by decide +kernel⟩, _, _, rfl⟩
theorem ml_C_270 : VL "UnlikeDrawn" 270 0 u_Fr_become 2 := ⟨⟨gt_at 431 (by decide +kernel) rfl, gt_at 413 (by decide +kernel) rfl, gt_at 414 (by decide +kernel) rfl, gt_at 3 (by decide +kernel) rfl, gc_Fr_become⟩, ⟨by decide +kernel, by decide +kernel, by decide +kernel⟩, _, _, rfl⟩
theorem ml_C_274 : VL "UnlikeDrawn" 274 6 u_C_putBack 3 := ⟨⟨gt_at 498 (by decide +kernel) rfl, gt_at 500 (by decide +kernel) rfl, gt_sel (q := (⟨"UnlikeDrawn", "putBack", "(III)I"⟩, 17)) 24 (by decide +kernel), gt_at 1 (by decide +kernel) rfl, gc_C_putBack⟩, ⟨by decide +kernel, by decide +kernel, by decide +kernel⟩, _, _, rfl⟩
theorem ml_C_277 : SL "UnlikeDrawn" 277 u_J_abs_I 1 := ⟨⟨gt_at 506 (by decide +kernel) rfl, gt_at 355 (by decide +kernel) rfl, gt_at 10 (by decide +kernel) rfl, gc_J_abs_I⟩, ⟨by decide +kernel, by decide +kernel, by decide +kernel⟩⟩
theorem ml_C_280 : VL "UnlikeDrawn" 280 6 u_C_furthestOff 0 := ⟨⟨gt_at 511 (by decide +kernel) rfl, gt_at 513 (by decide +kernel) rfl, gt_sel (q := (⟨"UnlikeDrawn", "furthestOff", "()I"⟩, 17)) 25 (by decide +kernel), gt_at 1 (by decide +kernel) rfl, gc_C_furthestOff⟩, ⟨by decide +kernel, by decide +kernel, by decide +kernel⟩, _, _, rfl⟩
theorem ml_C_284 : VL "UnlikeDrawn" 284 2 u_He_offFrom 1 := ⟨⟨gt_at 519 (by decide +kernel) rfl, gt_at 520 (by decide +kernel) rfl, gt_at 521 (by decide +kernel) rfl, gt_at 4 (by decide +kernel) rfl, gc_He_offFrom⟩, ⟨by decide +kernel, by decide +kernel, by decide +kernel⟩, _, _, rfl⟩
theorem ml_C_288 : SL "UnlikeDrawn" 288 u_C_isForm 1 := ⟨⟨gt_at 528 (by decide +kernel) rfl, gt_at 529 (by decide +kernel) rfl, gt_at 1 (by decide +kernel) rfl, gc_C_isForm⟩, ⟨by decide +kernel, by decide +kernel, by decide +kernel⟩⟩
theorem ml_C_291 : VL "UnlikeDrawn" 291 4 u_Sh_begin 2 := ⟨⟨gt_at 531 (by decide +kernel) rfl, gt_at 532 (by decide +kernel) rfl, gt_at 533 (by decide +kernel) rfl, gt_at 8 (by decide +kernel) rfl, gc_Sh_begin⟩, ⟨by decide +kernel, by decide +kernel, by decide +kernel⟩, _, _, rfl⟩
theorem ml_C_295 : SL "UnlikeDrawn" 295 u_C_findingAt 3 := ⟨⟨gt_at 544 (by decide +kernel) rfl, gt_at 545 (by decide +kernel) rfl, gt_at 1 (by decide +kernel) rfl, gc_C_findingAt⟩, ⟨by decide +kernel, by decide +kernel, by decide +kernel⟩⟩
theorem ml_C_299 : VL "UnlikeDrawn" 299 4 u_Sh_put 2 := ⟨⟨gt_at 547 (by decide +kernel) rfl, gt_at 548 (by decide +kernel) rfl, gt_at 549 (by decide +kernel) rfl, gt_at 8 (by decide +kernel) rfl, gc_Sh_put⟩, ⟨by decide +kernel, by decide +kernel, by decide +kernel⟩, _, _, rfl⟩
theorem ml_C_306 : VL "UnlikeDrawn" 306 4 u_Sh_hasRun 2 := ⟨⟨gt_at 560 (by decide +kernel) rfl, gt_at 561 (by decide +kernel) rfl, gt_at 562 (by decide +kernel) rfl, gt_at 8 (by decide +kernel) rfl, gc_Sh_hasRun⟩, ⟨by decide +kernel, by decide +kernel, by decide +kernel⟩, _, _, rfl⟩
theorem ml_C_310 : VL "UnlikeDrawn" 310 6 u_C_monsters 0 := ⟨⟨gt_at 572 (by decide +kernel) rfl, gt_at 574 (by decide +kernel) rfl, gt_sel (q := (⟨"UnlikeDrawn", "monsters", "()I"⟩, 17)) 26 (by decide +kernel), gt_at 1 (by decide +kernel) rfl, gc_C_monsters⟩, ⟨by decide +kernel, by decide +kernel, by decide +kernel⟩, _, _, rfl⟩
theorem ml_C_320 : VL "UnlikeDrawn" 320 6 u_C_count 1 := ⟨⟨gt_at 582 (by decide +kernel) rfl, gt_at 569 (by decide +kernel) rfl, gt_at 570 (by decide +kernel) rfl, gt_at 1 (by decide +kernel) rfl, gc_C_count⟩, ⟨by decide +kernel, by decide +kernel, by decide +kernel⟩, _, _, rfl⟩
theorem ml_C_323 : VL "UnlikeDrawn" 323 6 u_C_fault 1 := ⟨⟨gt_at 583 (by decide +kernel) rfl, gt_at 287 (by decide +kernel) rfl, gt_at 288 (by decide +kernel) rfl, gt_at 1 (by decide +kernel) rfl, gc_C_fault⟩, ⟨by decide +kernel, by decide +kernel, by decide +kernel⟩, _, _, rfl⟩
theorem ml_C_325 : VL "UnlikeDrawn" 325 6 u_C_tenths 2 := ⟨⟨gt_at 584 (by decide +kernel) rfl, gt_at 291 (by decide +kernel) rfl, gt_at 292 (by decide +kernel) rfl, gt_at 1 (by decide +kernel) rfl, gc_C_tenths⟩, ⟨by decide +kernel, by decide +kernel, by decide +kernel⟩, _, _, rfl⟩
theorem ml_C_327 : VL "UnlikeDrawn" 327 6 u_C_near 2 := ⟨⟨gt_at 585 (by decide +kernel) rfl, gt_at 503 (by decide +kernel) rfl, gt_at 504 (by decide +kernel) rfl, gt_at 1 (by decide +kernel) rfl, gc_C_near⟩, ⟨by decide +kernel, by decide +kernel, by decide +kernel⟩, _, _, rfl⟩
theorem ml_C_330 : VL "UnlikeDrawn" 330 6 u_C_witness 3 := ⟨⟨gt_at 586 (by decide +kernel) rfl, gt_at 508 (by decide +kernel) rfl, gt_at 509 (by decide +kernel) rfl, gt_at 1 (by decide +kernel) rfl, gc_C_witness⟩, ⟨by decide +kernel, by decide +kernel, by decide +kernel⟩, _, _, rfl⟩
theorem ml_C_333 : VL "UnlikeDrawn" 333 6 u_C_digestOfDrawing 2 := ⟨⟨gt_at 587 (by decide +kernel) rfl, gt_at 589 (by decide +kernel) rfl, gt_sel (q := (⟨"UnlikeDrawn", "digestOfDrawing", "(JI)J"⟩, 17)) 27 (by decide +kernel), gt_at 1 (by decide +kernel) rfl, gc_C_digestOfDrawing⟩, ⟨by decide +kernel, by decide +kernel, by decide +kernel⟩, _, _, rfl⟩
theorem ml_C_337 : VL "UnlikeDrawn" 337 6 u_C_digestOfKnower 2 := ⟨⟨gt_at 593 (by decide +kernel) rfl, gt_at 595 (by decide +kernel) rfl, gt_sel (q := (⟨"UnlikeDrawn", "digestOfKnower", "(JI)J"⟩, 17)) 28 (by decide +kernel), gt_at 1 (by decide +kernel) rfl, gc_C_digestOfKnower⟩, ⟨by decide +kernel, by decide +kernel, by decide +kernel⟩, _, _, rfl⟩
theorem ml_C_340 : SL "UnlikeDrawn" 340 u_J_max_II 2 := ⟨⟨gt_at 301 (by decide +kernel) rfl, gt_at 302 (by decide +kernel) rfl, gt_at 10 (by decide +kernel) rfl, gc_J_max_II⟩, ⟨by decide +kernel, by decide +kernel, by decide +kernel⟩⟩
theorem ml_C_343 : VL "UnlikeDrawn" 343 0 u_Fr_isAbove 1 := ⟨⟨gt_at 432 (by decide +kernel) rfl, gt_at 433 (by decide +kernel) rfl, gt_at 434 (by decide +kernel) rfl, gt_at 3 (by decide +kernel) rfl, gc_Fr_isAbove⟩, ⟨by decide +kernel, by decide +kernel, by decide +kernel⟩, _, _, rfl⟩
theorem ml_C_354 : VL "UnlikeDrawn" 354 0 u_Fr_cut 0 := ⟨⟨gt_at 444 (by decide +kernel) rfl, gt_at 437 (by decide +kernel) rfl, gt_at 438 (by decide +kernel) rfl, gt_at 3 (by decide +kernel) rfl, gc_Fr_cut⟩, ⟨by decide +kernel, by decide +kernel, by decide +kernel⟩, _, _, rfl⟩
theorem ml_C_358 : SL "UnlikeDrawn" 358 u_J_max_JJ 2 := ⟨⟨gt_at 445 (by decide +kernel) rfl, gt_at 446 (by decide +kernel) rfl, gt_at 10 (by decide +kernel) rfl, gc_J_max_JJ⟩, ⟨by decide +kernel, by decide +kernel, by decide +kernel⟩⟩
theorem ml_C_361 : VL "UnlikeDrawn" 361 6 u_C_tryParts 3 := ⟨⟨gt_at 456 (by decide +kernel) rfl, gt_at 458 (by decide +kernel) rfl, gt_sel (q := (⟨"UnlikeDrawn", "tryParts", "(III)V"⟩, 17)) 19 (by decide +kernel), gt_at 1 (by decide +kernel) rfl, gc_C_tryParts⟩, ⟨by decide +kernel, by decide +kernel, by decide +kernel⟩, _, _, rfl⟩
theorem ml_C_365 : VL "UnlikeDrawn" 365 6 u_C_about 2 := ⟨⟨gt_at 591 (by decide +kernel) rfl, gt_at 346 (by decide +kernel) rfl, gt_at 347 (by decide +kernel) rfl, gt_at 1 (by decide +kernel) rfl, gc_C_about⟩, ⟨by decide +kernel, by decide +kernel, by decide +kernel⟩, _, _, rfl⟩
theorem ml_C_368 : VL "UnlikeDrawn" 368 6 u_C_line 2 := ⟨⟨gt_at 592 (by decide +kernel) rfl, gt_at 342 (by decide +kernel) rfl, gt_at 343 (by decide +kernel) rfl, gt_at 1 (by decide +kernel) rfl, gc_C_line⟩, ⟨by decide +kernel, by decide +kernel, by decide +kernel⟩, _, _, rfl⟩
theorem ml_C_371 : VL "UnlikeDrawn" 371 6 u_C_leans 2 := ⟨⟨gt_at 597 (by decide +kernel) rfl, gt_at 395 (by decide +kernel) rfl, gt_at 396 (by decide +kernel) rfl, gt_at 1 (by decide +kernel) rfl, gc_C_leans⟩, ⟨by decide +kernel, by decide +kernel, by decide +kernel⟩, _, _, rfl⟩
theorem ml_C_374 : VL "UnlikeDrawn" 374 6 u_C_named 3 := ⟨⟨gt_at 598 (by decide +kernel) rfl, gt_at 424 (by decide +kernel) rfl, gt_at 425 (by decide +kernel) rfl, gt_at 1 (by decide +kernel) rfl, gc_C_named⟩, ⟨by decide +kernel, by decide +kernel, by decide +kernel⟩, _, _, rfl⟩
theorem ml_Fr_16 : VL "UnlikeDrawn$Fraction" 16 0 u_Fr_cut 0 := ⟨⟨gt_at 436 (by decide +kernel) rfl, gt_at 437 (by decide +kernel) rfl, gt_at 438 (by decide +kernel) rfl, gt_at 3 (by decide +kernel) rfl, gc_Fr_cut⟩, ⟨by decide +kernel, by decide +kernel, by decide +kernel⟩, _, _, rfl⟩
theorem ml_Fr_20 : SL "UnlikeDrawn$Fraction" 20 u_J_abs_J 1 := ⟨⟨gt_at 420 (by decide +kernel) rfl, gt_at 421 (by decide +kernel) rfl, gt_at 10 (by decide +kernel) rfl, gc_J_abs_J⟩, ⟨by decide +kernel, by decide +kernel, by decide +kernel⟩⟩
theorem ml_Ha_22 : SL "UnlikeDrawn$Hand" 22 u_J_fill 2 := ⟨⟨gt_at 94 (by decide +kernel) rfl, gt_at 81 (by decide +kernel) rfl, gt_at 5 (by decide +kernel) rfl, gc_J_fill⟩, ⟨by decide +kernel, by decide +kernel, by decide +kernel⟩⟩
theorem ml_Ha_31 : VL "UnlikeDrawn$Hand" 31 1 u_Ha_understand 0 := ⟨⟨gt_at 254 (by decide +kernel) rfl, gt_at 256 (by decide +kernel) rfl, gt_sel (q := (⟨"UnlikeDrawn$Hand", "understand", "()V"⟩, 4)) 4 (by decide +kernel), gt_at 6 (by decide +kernel) rfl, gc_Ha_understand⟩, ⟨by decide +kernel, by decide +kernel, by decide +kernel⟩, _, _, rfl⟩
theorem ml_Ha_34 : VL "UnlikeDrawn$Hand" 34 1 u_Ha_behindPiece 1 := ⟨⟨gt_at 258 (by decide +kernel) rfl, gt_at 260 (by decide +kernel) rfl, gt_sel (q := (⟨"UnlikeDrawn$Hand", "behindPiece", "(I)I"⟩, 4)) 5 (by decide +kernel), gt_at 6 (by decide +kernel) rfl, gc_Ha_behindPiece⟩, ⟨by decide +kernel, by decide +kernel, by decide +kernel⟩, _, _, rfl⟩
theorem ml_Ha_38 : VL "UnlikeDrawn$Hand" 38 1 u_Ha_byteAt 1 := ⟨⟨gt_at 262 (by decide +kernel) rfl, gt_at 264 (by decide +kernel) rfl, gt_sel (q := (⟨"UnlikeDrawn$Hand", "byteAt", "(I)I"⟩, 4)) 6 (by decide +kernel), gt_at 6 (by decide +kernel) rfl, gc_Ha_byteAt⟩, ⟨by decide +kernel, by decide +kernel, by decide +kernel⟩, _, _, rfl⟩
theorem ml_Ha_41 : VL "UnlikeDrawn$Hand" 41 1 u_Ha_stopAt 1 := ⟨⟨gt_at 266 (by decide +kernel) rfl, gt_at 268 (by decide +kernel) rfl, gt_sel (q := (⟨"UnlikeDrawn$Hand", "stopAt", "(I)I"⟩, 4)) 7 (by decide +kernel), gt_at 6 (by decide +kernel) rfl, gc_Ha_stopAt⟩, ⟨by decide +kernel, by decide +kernel, by decide +kernel⟩, _, _, rfl⟩
theorem ml_Ha_44 : VL "UnlikeDrawn$Hand" 44 1 u_Ha_mark 2 := ⟨⟨gt_at 270 (by decide +kernel) rfl, gt_at 272 (by decide +kernel) rfl, gt_sel (q := (⟨"UnlikeDrawn$Hand", "mark", "(II)V"⟩, 4)) 8 (by decide +kernel), gt_at 6 (by decide +kernel) rfl, gc_Ha_mark⟩, ⟨by decide +kernel, by decide +kernel, by decide +kernel⟩, _, _, rfl⟩
theorem ml_Ha_48 : SL "UnlikeDrawn$Hand" 48 u_Ha_isFigure 1 := ⟨⟨gt_at 275 (by decide +kernel) rfl, gt_at 276 (by decide +kernel) rfl, gt_at 6 (by decide +kernel) rfl, gc_Ha_isFigure⟩, ⟨by decide +kernel, by decide +kernel, by decide +kernel⟩⟩
theorem ml_He_15 : SL "UnlikeDrawn$Head" 15 u_J_fill 2 := ⟨⟨gt_at 80 (by decide +kernel) rfl, gt_at 81 (by decide +kernel) rfl, gt_at 5 (by decide +kernel) rfl, gc_J_fill⟩, ⟨by decide +kernel, by decide +kernel, by decide +kernel⟩⟩
theorem ml_He_21 : SL "UnlikeDrawn$Head" 21 u_J_abs_I 1 := ⟨⟨gt_at 523 (by decide +kernel) rfl, gt_at 355 (by decide +kernel) rfl, gt_at 10 (by decide +kernel) rfl, gc_J_abs_I⟩, ⟨by decide +kernel, by decide +kernel, by decide +kernel⟩⟩
theorem ml_Kn_19 : VL "UnlikeDrawn$Knower" 19 5 u_Sk_has 1 := ⟨⟨gt_at 393 (by decide +kernel) rfl, gt_at 327 (by decide +kernel) rfl, gt_at 328 (by decide +kernel) rfl, gt_at 2 (by decide +kernel) rfl, gc_Sk_has⟩, ⟨by decide +kernel, by decide +kernel, by decide +kernel⟩, _, _, rfl⟩
theorem ml_Kn_33 : VL "UnlikeDrawn$Knower" 33 0 u_Fr_become 2 := ⟨⟨gt_at 412 (by decide +kernel) rfl, gt_at 413 (by decide +kernel) rfl, gt_at 414 (by decide +kernel) rfl, gt_at 3 (by decide +kernel) rfl, gc_Fr_become⟩, ⟨by decide +kernel, by decide +kernel, by decide +kernel⟩, _, _, rfl⟩
theorem ml_Sh_22 : SL "UnlikeDrawn$Sheet" 22 u_J_fill 2 := ⟨⟨gt_at 535 (by decide +kernel) rfl, gt_at 81 (by decide +kernel) rfl, gt_at 5 (by decide +kernel) rfl, gc_J_fill⟩, ⟨by decide +kernel, by decide +kernel, by decide +kernel⟩⟩
theorem ml_Sk_22 : VL "UnlikeDrawn$Sketch" 22 5 u_Sk_has 1 := ⟨⟨gt_at 353 (by decide +kernel) rfl, gt_at 327 (by decide +kernel) rfl, gt_at 328 (by decide +kernel) rfl, gt_at 2 (by decide +kernel) rfl, gc_Sk_has⟩, ⟨by decide +kernel, by decide +kernel, by decide +kernel⟩, _, _, rfl⟩
theorem ml_Sk_26 : SL "UnlikeDrawn$Sketch" 26 u_J_abs_I 1 := ⟨⟨gt_at 354 (by decide +kernel) rfl, gt_at 355 (by decide +kernel) rfl, gt_at 10 (by decide +kernel) rfl, gc_J_abs_I⟩, ⟨by decide +kernel, by decide +kernel, by decide +kernel⟩⟩
theorem ml_M_69 : SL "UnlikeDrawnModel" 69 u_M_in 3 := ⟨⟨gt_at 695 (by decide +kernel) rfl, gt_at 696 (by decide +kernel) rfl, gt_at 9 (by decide +kernel) rfl, gc_M_in⟩, ⟨by decide +kernel, by decide +kernel, by decide +kernel⟩⟩
theorem ml_M_79 : SL "UnlikeDrawnModel" 79 u_M_isSheet 1 := ⟨⟨gt_at 691 (by decide +kernel) rfl, gt_at 692 (by decide +kernel) rfl, gt_at 9 (by decide +kernel) rfl, gc_M_isSheet⟩, ⟨by decide +kernel, by decide +kernel, by decide +kernel⟩⟩
theorem ml_M_85 : VL "UnlikeDrawnModel" 85 7 u_M_met 1 := ⟨⟨gt_at 699 (by decide +kernel) rfl, gt_at 701 (by decide +kernel) rfl, gt_sel (q := (⟨"UnlikeDrawnModel", "met", "(I)I"⟩, 27)) 29 (by decide +kernel), gt_at 9 (by decide +kernel) rfl, gc_M_met⟩, ⟨by decide +kernel, by decide +kernel, by decide +kernel⟩, _, _, rfl⟩
theorem ml_M_89 : VL "UnlikeDrawnModel" 89 7 u_M_lacks 3 := ⟨⟨gt_at 711 (by decide +kernel) rfl, gt_at 713 (by decide +kernel) rfl, gt_sel (q := (⟨"UnlikeDrawnModel", "lacks", "(III)I"⟩, 27)) 30 (by decide +kernel), gt_at 9 (by decide +kernel) rfl, gc_M_lacks⟩, ⟨by decide +kernel, by decide +kernel, by decide +kernel⟩, _, _, rfl⟩
theorem ml_M_93 : SL "UnlikeDrawnModel" 93 u_M_cut 2 := ⟨⟨gt_at 715 (by decide +kernel) rfl, gt_at 716 (by decide +kernel) rfl, gt_at 9 (by decide +kernel) rfl, gc_M_cut⟩, ⟨by decide +kernel, by decide +kernel, by decide +kernel⟩⟩
theorem ml_M_103 : VL "UnlikeDrawnModel" 103 7 u_M_isHead 1 := ⟨⟨gt_at 735 (by decide +kernel) rfl, gt_at 737 (by decide +kernel) rfl, gt_sel (q := (⟨"UnlikeDrawnModel", "isHead", "(I)Z"⟩, 27)) 31 (by decide +kernel), gt_at 9 (by decide +kernel) rfl, gc_M_isHead⟩, ⟨by decide +kernel, by decide +kernel, by decide +kernel⟩, _, _, rfl⟩
theorem ml_M_106 : SL "UnlikeDrawnModel" 106 u_M_isPart 1 := ⟨⟨gt_at 739 (by decide +kernel) rfl, gt_at 740 (by decide +kernel) rfl, gt_at 9 (by decide +kernel) rfl, gc_M_isPart⟩, ⟨by decide +kernel, by decide +kernel, by decide +kernel⟩⟩
theorem ml_M_111 : VL "UnlikeDrawnModel" 111 7 u_M_place 3 := ⟨⟨gt_at 748 (by decide +kernel) rfl, gt_at 732 (by decide +kernel) rfl, gt_at 733 (by decide +kernel) rfl, gt_at 9 (by decide +kernel) rfl, gc_M_place⟩, ⟨by decide +kernel, by decide +kernel, by decide +kernel⟩, _, _, rfl⟩
theorem ml_M_114 : VL "UnlikeDrawnModel" 114 7 u_M_isSet 1 := ⟨⟨gt_at 753 (by decide +kernel) rfl, gt_at 755 (by decide +kernel) rfl, gt_sel (q := (⟨"UnlikeDrawnModel", "isSet", "(I)Z"⟩, 27)) 32 (by decide +kernel), gt_at 9 (by decide +kernel) rfl, gc_M_isSet⟩, ⟨by decide +kernel, by decide +kernel, by decide +kernel⟩, _, _, rfl⟩
theorem ml_M_117 : VL "UnlikeDrawnModel" 117 7 u_M_meanOf 2 := ⟨⟨gt_at 757 (by decide +kernel) rfl, gt_at 759 (by decide +kernel) rfl, gt_sel (q := (⟨"UnlikeDrawnModel", "meanOf", "(II)I"⟩, 27)) 33 (by decide +kernel), gt_at 9 (by decide +kernel) rfl, gc_M_meanOf⟩, ⟨by decide +kernel, by decide +kernel, by decide +kernel⟩, _, _, rfl⟩
theorem ml_M_120 : SL "UnlikeDrawnModel" 120 u_M_isHand 1 := ⟨⟨gt_at 765 (by decide +kernel) rfl, gt_at 766 (by decide +kernel) rfl, gt_at 9 (by decide +kernel) rfl, gc_M_isHand⟩, ⟨by decide +kernel, by decide +kernel, by decide +kernel⟩⟩
theorem ml_M_128 : VL "UnlikeDrawnModel" 128 7 u_M_here 1 := ⟨⟨gt_at 789 (by decide +kernel) rfl, gt_at 791 (by decide +kernel) rfl, gt_sel (q := (⟨"UnlikeDrawnModel", "here", "(I)I"⟩, 27)) 37 (by decide +kernel), gt_at 9 (by decide +kernel) rfl, gc_M_here⟩, ⟨by decide +kernel, by decide +kernel, by decide +kernel⟩, _, _, rfl⟩
theorem ml_M_137 : VL "UnlikeDrawnModel" 137 7 u_M_number 1 := ⟨⟨gt_at 794 (by decide +kernel) rfl, gt_at 796 (by decide +kernel) rfl, gt_sel (q := (⟨"UnlikeDrawnModel", "number", "(I)I"⟩, 27)) 38 (by decide +kernel), gt_at 9 (by decide +kernel) rfl, gc_M_number⟩, ⟨by decide +kernel, by decide +kernel, by decide +kernel⟩, _, _, rfl⟩
theorem ml_M_140 : VL "UnlikeDrawnModel" 140 7 u_M_clears 0 := ⟨⟨gt_at 781 (by decide +kernel) rfl, gt_at 783 (by decide +kernel) rfl, gt_sel (q := (⟨"UnlikeDrawnModel", "clears", "()V"⟩, 27)) 35 (by decide +kernel), gt_at 9 (by decide +kernel) rfl, gc_M_clears⟩, ⟨by decide +kernel, by decide +kernel, by decide +kernel⟩, _, _, rfl⟩
theorem ml_M_143 : VL "UnlikeDrawnModel" 143 7 u_M_readsPiece 1 := ⟨⟨gt_at 785 (by decide +kernel) rfl, gt_at 787 (by decide +kernel) rfl, gt_sel (q := (⟨"UnlikeDrawnModel", "readsPiece", "(I)Z"⟩, 27)) 36 (by decide +kernel), gt_at 9 (by decide +kernel) rfl, gc_M_readsPiece⟩, ⟨by decide +kernel, by decide +kernel, by decide +kernel⟩, _, _, rfl⟩
theorem ml_M_146 : VL "UnlikeDrawnModel" 146 7 u_M_reads 1 := ⟨⟨gt_at 777 (by decide +kernel) rfl, gt_at 779 (by decide +kernel) rfl, gt_sel (q := (⟨"UnlikeDrawnModel", "reads", "(I)I"⟩, 27)) 34 (by decide +kernel), gt_at 9 (by decide +kernel) rfl, gc_M_reads⟩, ⟨by decide +kernel, by decide +kernel, by decide +kernel⟩, _, _, rfl⟩
theorem ml_M_149 : SL "UnlikeDrawnModel" 149 u_M_dear 1 := ⟨⟨gt_at 804 (by decide +kernel) rfl, gt_at 805 (by decide +kernel) rfl, gt_at 9 (by decide +kernel) rfl, gc_M_dear⟩, ⟨by decide +kernel, by decide +kernel, by decide +kernel⟩⟩
theorem ml_M_152 : SL "UnlikeDrawnModel" 152 u_M_drawnBy 3 := ⟨⟨gt_at 811 (by decide +kernel) rfl, gt_at 812 (by decide +kernel) rfl, gt_at 9 (by decide +kernel) rfl, gc_M_drawnBy⟩, ⟨by decide +kernel, by decide +kernel, by decide +kernel⟩⟩
theorem ml_M_160 : VL "UnlikeDrawnModel" 160 7 u_M_isLate 1 := ⟨⟨gt_at 823 (by decide +kernel) rfl, gt_at 825 (by decide +kernel) rfl, gt_sel (q := (⟨"UnlikeDrawnModel", "isLate", "(I)Z"⟩, 27)) 39 (by decide +kernel), gt_at 9 (by decide +kernel) rfl, gc_M_isLate⟩, ⟨by decide +kernel, by decide +kernel, by decide +kernel⟩, _, _, rfl⟩
theorem ml_M_163 : VL "UnlikeDrawnModel" 163 7 u_M_isDrawing 1 := ⟨⟨gt_at 831 (by decide +kernel) rfl, gt_at 833 (by decide +kernel) rfl, gt_sel (q := (⟨"UnlikeDrawnModel", "isDrawing", "(I)Z"⟩, 27)) 40 (by decide +kernel), gt_at 9 (by decide +kernel) rfl, gc_M_isDrawing⟩, ⟨by decide +kernel, by decide +kernel, by decide +kernel⟩, _, _, rfl⟩
theorem ml_M_166 : SL "UnlikeDrawnModel" 166 u_M_amount 1 := ⟨⟨gt_at 851 (by decide +kernel) rfl, gt_at 852 (by decide +kernel) rfl, gt_at 9 (by decide +kernel) rfl, gc_M_amount⟩, ⟨by decide +kernel, by decide +kernel, by decide +kernel⟩⟩
theorem ml_M_169 : VL "UnlikeDrawnModel" 169 7 u_M_unlikeBy 2 := ⟨⟨gt_at 847 (by decide +kernel) rfl, gt_at 849 (by decide +kernel) rfl, gt_sel (q := (⟨"UnlikeDrawnModel", "unlikeBy", "(II)I"⟩, 27)) 42 (by decide +kernel), gt_at 9 (by decide +kernel) rfl, gc_M_unlikeBy⟩, ⟨by decide +kernel, by decide +kernel, by decide +kernel⟩, _, _, rfl⟩
theorem ml_M_172 : VL "UnlikeDrawnModel" 172 7 u_M_unlikeOf 2 := ⟨⟨gt_at 843 (by decide +kernel) rfl, gt_at 845 (by decide +kernel) rfl, gt_sel (q := (⟨"UnlikeDrawnModel", "unlikeOf", "(II)I"⟩, 27)) 41 (by decide +kernel), gt_at 9 (by decide +kernel) rfl, gc_M_unlikeOf⟩, ⟨by decide +kernel, by decide +kernel, by decide +kernel⟩, _, _, rfl⟩
theorem ml_M_175 : VL "UnlikeDrawnModel" 175 7 u_M_fromOf 1 := ⟨⟨gt_at 866 (by decide +kernel) rfl, gt_at 868 (by decide +kernel) rfl, gt_sel (q := (⟨"UnlikeDrawnModel", "fromOf", "(I)I"⟩, 27)) 45 (by decide +kernel), gt_at 9 (by decide +kernel) rfl, gc_M_fromOf⟩, ⟨by decide +kernel, by decide +kernel, by decide +kernel⟩, _, _, rfl⟩
theorem ml_M_178 : VL "UnlikeDrawnModel" 178 7 u_M_isMonster 1 := ⟨⟨gt_at 862 (by decide +kernel) rfl, gt_at 864 (by decide +kernel) rfl, gt_sel (q := (⟨"UnlikeDrawnModel", "isMonster", "(I)Z"⟩, 27)) 44 (by decide +kernel), gt_at 9 (by decide +kernel) rfl, gc_M_isMonster⟩, ⟨by decide +kernel, by decide +kernel, by decide +kernel⟩, _, _, rfl⟩
theorem ml_M_181 : VL "UnlikeDrawnModel" 181 7 u_M_agesOf 1 := ⟨⟨gt_at 870 (by decide +kernel) rfl, gt_at 872 (by decide +kernel) rfl, gt_sel (q := (⟨"UnlikeDrawnModel", "agesOf", "(I)I"⟩, 27)) 46 (by decide +kernel), gt_at 9 (by decide +kernel) rfl, gc_M_agesOf⟩, ⟨by decide +kernel, by decide +kernel, by decide +kernel⟩, _, _, rfl⟩
theorem ml_M_184 : VL "UnlikeDrawnModel" 184 7 u_M_whoseOf 1 := ⟨⟨gt_at 874 (by decide +kernel) rfl, gt_at 876 (by decide +kernel) rfl, gt_sel (q := (⟨"UnlikeDrawnModel", "whoseOf", "(I)I"⟩, 27)) 47 (by decide +kernel), gt_at 9 (by decide +kernel) rfl, gc_M_whoseOf⟩, ⟨by decide +kernel, by decide +kernel, by decide +kernel⟩, _, _, rfl⟩
theorem ml_M_187 : VL "UnlikeDrawnModel" 187 7 u_M_aboutOf 2 := ⟨⟨gt_at 858 (by decide +kernel) rfl, gt_at 860 (by decide +kernel) rfl, gt_sel (q := (⟨"UnlikeDrawnModel", "aboutOf", "(II)I"⟩, 27)) 43 (by decide +kernel), gt_at 9 (by decide +kernel) rfl, gc_M_aboutOf⟩, ⟨by decide +kernel, by decide +kernel, by decide +kernel⟩, _, _, rfl⟩
theorem ml_M_193 : VL "UnlikeDrawnModel" 193 7 u_M_isKnower 1 := ⟨⟨gt_at 886 (by decide +kernel) rfl, gt_at 888 (by decide +kernel) rfl, gt_sel (q := (⟨"UnlikeDrawnModel", "isKnower", "(I)Z"⟩, 27)) 48 (by decide +kernel), gt_at 9 (by decide +kernel) rfl, gc_M_isKnower⟩, ⟨by decide +kernel, by decide +kernel, by decide +kernel⟩, _, _, rfl⟩
theorem ml_M_207 : SL "UnlikeDrawnModel" 207 u_M_divisor 2 := ⟨⟨gt_at 920 (by decide +kernel) rfl, gt_at 921 (by decide +kernel) rfl, gt_at 9 (by decide +kernel) rfl, gc_M_divisor⟩, ⟨by decide +kernel, by decide +kernel, by decide +kernel⟩⟩
theorem ml_M_211 : SL "UnlikeDrawnModel" 211 u_M_isTwo 1 := ⟨⟨gt_at 898 (by decide +kernel) rfl, gt_at 899 (by decide +kernel) rfl, gt_at 9 (by decide +kernel) rfl, gc_M_isTwo⟩, ⟨by decide +kernel, by decide +kernel, by decide +kernel⟩⟩
theorem ml_M_214 : SL "UnlikeDrawnModel" 214 u_M_no 1 := ⟨⟨gt_at 901 (by decide +kernel) rfl, gt_at 902 (by decide +kernel) rfl, gt_at 9 (by decide +kernel) rfl, gc_M_no⟩, ⟨by decide +kernel, by decide +kernel, by decide +kernel⟩⟩
theorem ml_M_218 : VL "UnlikeDrawnModel" 218 7 u_M_doesKnow 2 := ⟨⟨gt_at 905 (by decide +kernel) rfl, gt_at 907 (by decide +kernel) rfl, gt_sel (q := (⟨"UnlikeDrawnModel", "doesKnow", "(II)Z"⟩, 27)) 49 (by decide +kernel), gt_at 9 (by decide +kernel) rfl, gc_M_doesKnow⟩, ⟨by decide +kernel, by decide +kernel, by decide +kernel⟩, _, _, rfl⟩
theorem ml_M_222 : VL "UnlikeDrawnModel" 222 7 u_M_sees_I 1 := ⟨⟨gt_at 909 (by decide +kernel) rfl, gt_at 911 (by decide +kernel) rfl, gt_sel (q := (⟨"UnlikeDrawnModel", "sees", "(I)V"⟩, 27)) 50 (by decide +kernel), gt_at 9 (by decide +kernel) rfl, gc_M_sees_I⟩, ⟨by decide +kernel, by decide +kernel, by decide +kernel⟩, _, _, rfl⟩
theorem ml_M_226 : VL "UnlikeDrawnModel" 226 7 u_M_findScore 2 := ⟨⟨gt_at 913 (by decide +kernel) rfl, gt_at 915 (by decide +kernel) rfl, gt_sel (q := (⟨"UnlikeDrawnModel", "findScore", "(II)V"⟩, 27)) 51 (by decide +kernel), gt_at 9 (by decide +kernel) rfl, gc_M_findScore⟩, ⟨by decide +kernel, by decide +kernel, by decide +kernel⟩, _, _, rfl⟩
theorem ml_M_230 : SL "UnlikeDrawnModel" 230 u_M_part 3 := ⟨⟨gt_at 917 (by decide +kernel) rfl, gt_at 918 (by decide +kernel) rfl, gt_at 9 (by decide +kernel) rfl, gc_M_part⟩, ⟨by decide +kernel, by decide +kernel, by decide +kernel⟩⟩
theorem ml_M_234 : SL "UnlikeDrawnModel" 234 u_M_isMore 4 := ⟨⟨gt_at 935 (by decide +kernel) rfl, gt_at 936 (by decide +kernel) rfl, gt_at 9 (by decide +kernel) rfl, gc_M_isMore⟩, ⟨by decide +kernel, by decide +kernel, by decide +kernel⟩⟩
theorem ml_M_238 : VL "UnlikeDrawnModel" 238 7 u_M_namedBy 1 := ⟨⟨gt_at 931 (by decide +kernel) rfl, gt_at 933 (by decide +kernel) rfl, gt_sel (q := (⟨"UnlikeDrawnModel", "namedBy", "(I)I"⟩, 27)) 53 (by decide +kernel), gt_at 9 (by decide +kernel) rfl, gc_M_namedBy⟩, ⟨by decide +kernel, by decide +kernel, by decide +kernel⟩, _, _, rfl⟩
theorem ml_M_241 : VL "UnlikeDrawnModel" 241 7 u_M_marginOf 2 := ⟨⟨gt_at 938 (by decide +kernel) rfl, gt_at 940 (by decide +kernel) rfl, gt_sel (q := (⟨"UnlikeDrawnModel", "marginOf", "(II)I"⟩, 27)) 54 (by decide +kernel), gt_at 9 (by decide +kernel) rfl, gc_M_marginOf⟩, ⟨by decide +kernel, by decide +kernel, by decide +kernel⟩, _, _, rfl⟩
theorem ml_M_244 : VL "UnlikeDrawnModel" 244 7 u_M_namedOf 3 := ⟨⟨gt_at 927 (by decide +kernel) rfl, gt_at 929 (by decide +kernel) rfl, gt_sel (q := (⟨"UnlikeDrawnModel", "namedOf", "(III)I"⟩, 27)) 52 (by decide +kernel), gt_at 9 (by decide +kernel) rfl, gc_M_namedOf⟩, ⟨by decide +kernel, by decide +kernel, by decide +kernel⟩, _, _, rfl⟩
theorem ml_M_247 : VL "UnlikeDrawnModel" 247 7 u_M_sees_IIII 4 := ⟨⟨gt_at 946 (by decide +kernel) rfl, gt_at 948 (by decide +kernel) rfl, gt_sel (q := (⟨"UnlikeDrawnModel", "sees", "(IIII)V"⟩, 27)) 55 (by decide +kernel), gt_at 9 (by decide +kernel) rfl, gc_M_sees_IIII⟩, ⟨by decide +kernel, by decide +kernel, by decide +kernel⟩, _, _, rfl⟩
theorem ml_M_250 : VL "UnlikeDrawnModel" 250 7 u_M_isAsked 4 := ⟨⟨gt_at 954 (by decide +kernel) rfl, gt_at 956 (by decide +kernel) rfl, gt_sel (q := (⟨"UnlikeDrawnModel", "isAsked", "(IIII)Z"⟩, 27)) 56 (by decide +kernel), gt_at 9 (by decide +kernel) rfl, gc_M_isAsked⟩, ⟨by decide +kernel, by decide +kernel, by decide +kernel⟩, _, _, rfl⟩
theorem ml_M_254 : SL "UnlikeDrawnModel" 254 u_M_ones 1 := ⟨⟨gt_at 958 (by decide +kernel) rfl, gt_at 959 (by decide +kernel) rfl, gt_at 9 (by decide +kernel) rfl, gc_M_ones⟩, ⟨by decide +kernel, by decide +kernel, by decide +kernel⟩⟩
theorem ml_M_257 : VL "UnlikeDrawnModel" 257 7 u_M_isEnough 5 := ⟨⟨gt_at 961 (by decide +kernel) rfl, gt_at 963 (by decide +kernel) rfl, gt_sel (q := (⟨"UnlikeDrawnModel", "isEnough", "(IIIII)Z"⟩, 27)) 57 (by decide +kernel), gt_at 9 (by decide +kernel) rfl, gc_M_isEnough⟩, ⟨by decide +kernel, by decide +kernel, by decide +kernel⟩, _, _, rfl⟩
theorem ml_M_261 : VL "UnlikeDrawnModel" 261 7 u_M_backOf 2 := ⟨⟨gt_at 977 (by decide +kernel) rfl, gt_at 979 (by decide +kernel) rfl, gt_sel (q := (⟨"UnlikeDrawnModel", "backOf", "(II)I"⟩, 27)) 58 (by decide +kernel), gt_at 9 (by decide +kernel) rfl, gc_M_backOf⟩, ⟨by decide +kernel, by decide +kernel, by decide +kernel⟩, _, _, rfl⟩
theorem ml_M_264 : VL "UnlikeDrawnModel" 264 7 u_M_nearOf 2 := ⟨⟨gt_at 985 (by decide +kernel) rfl, gt_at 987 (by decide +kernel) rfl, gt_sel (q := (⟨"UnlikeDrawnModel", "nearOf", "(II)I"⟩, 27)) 59 (by decide +kernel), gt_at 9 (by decide +kernel) rfl, gc_M_nearOf⟩, ⟨by decide +kernel, by decide +kernel, by decide +kernel⟩, _, _, rfl⟩
theorem ml_M_267 : VL "UnlikeDrawnModel" 267 7 u_M_witnessOf 3 := ⟨⟨gt_at 993 (by decide +kernel) rfl, gt_at 995 (by decide +kernel) rfl, gt_sel (q := (⟨"UnlikeDrawnModel", "witnessOf", "(III)I"⟩, 27)) 60 (by decide +kernel), gt_at 9 (by decide +kernel) rfl, gc_M_witnessOf⟩, ⟨by decide +kernel, by decide +kernel, by decide +kernel⟩, _, _, rfl⟩
theorem ml_M_274 : VL "UnlikeDrawnModel" 274 7 u_M_count 1 := ⟨⟨gt_at 1015 (by decide +kernel) rfl, gt_at 1006 (by decide +kernel) rfl, gt_at 1007 (by decide +kernel) rfl, gt_at 9 (by decide +kernel) rfl, gc_M_count⟩, ⟨by decide +kernel, by decide +kernel, by decide +kernel⟩, _, _, rfl⟩
theorem ml_nest : u_Ha_mark.1.cls = "UnlikeDrawn$Hand" ∧ u_C_isPart.1 = ⟨"UnlikeDrawn", "isPart", "(I)Z"⟩ ∧ Cond.static u_C_isPart.1 ∈ gt ∧ Cond.initialized u_C_isPart.1.cls ∈ gt ∧ Cond.code u_C_isPart.1 u_C_isPart.2.1 u_C_isPart.2.2.1 u_C_isPart.2.2.2.1 ∈ gt := ⟨rfl, rfl, gt_at 208 (by decide +kernel) rfl, gt_at 1 (by decide +kernel) rfl, gc_C_isPart⟩
end
section
theorem d_Fr_init_0 : decode u_Fr_init.2.1 0 = .ok (.aload_n 0, 1) := by decide +kernel
theorem d_Fr_init_1 : decode u_Fr_init.2.1 1 = .ok (.invokespecial 1, 3) := by decide +kernel
theorem d_Fr_init_4 : decode u_Fr_init.2.1 4 = .ok (.aload_n 0, 1) := by decide +kernel
theorem d_Fr_init_5 : decode u_Fr_init.2.1 5 = .ok (.lconst 1, 1) := by decide +kernel
theorem d_Fr_init_6 : decode u_Fr_init.2.1 6 = .ok (.putfield 7, 3) := by decide +kernel
theorem d_Fr_init_9 : decode u_Fr_init.2.1 9 = .ok (.return_, 1) := by decide +kernel
theorem d_Fr_become_0 : decode u_Fr_become.2.1 0 = .ok (.aload_n 0, 1) := by decide +kernel
theorem d_Fr_become_1 : decode u_Fr_become.2.1 1 = .ok (.lload_n 1, 1) := by decide +kernel
theorem d_Fr_become_2 : decode u_Fr_become.2.1 2 = .ok (.putfield 13, 3) := by decide +kernel
theorem d_Fr_become_5 : decode u_Fr_become.2.1 5 = .ok (.aload_n 0, 1) := by decide +kernel
theorem d_Fr_become_6 : decode u_Fr_become.2.1 6 = .ok (.lload_n 3, 1) := by decide +kernel
theorem d_Fr_become_7 : decode u_Fr_become.2.1 7 = .ok (.putfield 7, 3) := by decide +kernel
theorem d_Fr_become_10 : decode u_Fr_become.2.1 10 = .ok (.return_, 1) := by decide +kernel
theorem d_Fr_cut_0 : decode u_Fr_cut.2.1 0 = .ok (.aload_n 0, 1) := by decide +kernel
theorem d_Fr_cut_1 : decode u_Fr_cut.2.1 1 = .ok (.getfield 7, 3) := by decide +kernel
theorem d_Fr_cut_4 : decode u_Fr_cut.2.1 4 = .ok (.lconst 0, 1) := by decide +kernel
theorem d_Fr_cut_5 : decode u_Fr_cut.2.1 5 = .ok (.lcmp, 1) := by decide +kernel
theorem d_Fr_cut_6 : decode u_Fr_cut.2.1 6 = .ok (.ifCond .ne 7, 3) := by decide +kernel
theorem d_Fr_cut_9 : decode u_Fr_cut.2.1 9 = .ok (.lconst 0, 1) := by decide +kernel
theorem d_Fr_cut_10 : decode u_Fr_cut.2.1 10 = .ok (.goto 12, 3) := by decide +kernel
theorem d_Fr_cut_13 : decode u_Fr_cut.2.1 13 = .ok (.aload_n 0, 1) := by decide +kernel
theorem d_Fr_cut_14 : decode u_Fr_cut.2.1 14 = .ok (.getfield 13, 3) := by decide +kernel
theorem d_Fr_cut_17 : decode u_Fr_cut.2.1 17 = .ok (.aload_n 0, 1) := by decide +kernel
theorem d_Fr_cut_18 : decode u_Fr_cut.2.1 18 = .ok (.getfield 7, 3) := by decide +kernel
theorem d_Fr_cut_21 : decode u_Fr_cut.2.1 21 = .ok (.ldiv, 1) := by decide +kernel
theorem d_Fr_cut_22 : decode u_Fr_cut.2.1 22 = .ok (.lreturn, 1) := by decide +kernel
theorem d_Fr_isAbove_0 : decode u_Fr_isAbove.2.1 0 = .ok (.aload_n 0, 1) := by decide +kernel
theorem d_Fr_isAbove_1 : decode u_Fr_isAbove.2.1 1 = .ok (.invokevirtual 16, 3) := by decide +kernel
theorem d_Fr_isAbove_4 : decode u_Fr_isAbove.2.1 4 = .ok (.lstore_n 2, 1) := by decide +kernel
theorem d_Fr_isAbove_5 : decode u_Fr_isAbove.2.1 5 = .ok (.aload_n 1, 1) := by decide +kernel
theorem d_Fr_isAbove_6 : decode u_Fr_isAbove.2.1 6 = .ok (.invokevirtual 16, 3) := by decide +kernel
theorem d_Fr_isAbove_9 : decode u_Fr_isAbove.2.1 9 = .ok (.lstore 4, 2) := by decide +kernel
theorem d_Fr_isAbove_11 : decode u_Fr_isAbove.2.1 11 = .ok (.lload_n 2, 1) := by decide +kernel
theorem d_Fr_isAbove_12 : decode u_Fr_isAbove.2.1 12 = .ok (.lload 4, 2) := by decide +kernel
theorem d_Fr_isAbove_14 : decode u_Fr_isAbove.2.1 14 = .ok (.lcmp, 1) := by decide +kernel
theorem d_Fr_isAbove_15 : decode u_Fr_isAbove.2.1 15 = .ok (.ifCond .eq 16, 3) := by decide +kernel
theorem d_Fr_isAbove_18 : decode u_Fr_isAbove.2.1 18 = .ok (.lload_n 2, 1) := by decide +kernel
theorem d_Fr_isAbove_19 : decode u_Fr_isAbove.2.1 19 = .ok (.lload 4, 2) := by decide +kernel
theorem d_Fr_isAbove_21 : decode u_Fr_isAbove.2.1 21 = .ok (.lcmp, 1) := by decide +kernel
theorem d_Fr_isAbove_22 : decode u_Fr_isAbove.2.1 22 = .ok (.ifCond .le 7, 3) := by decide +kernel
theorem d_Fr_isAbove_25 : decode u_Fr_isAbove.2.1 25 = .ok (.iconst 1, 1) := by decide +kernel
theorem d_Fr_isAbove_26 : decode u_Fr_isAbove.2.1 26 = .ok (.goto 4, 3) := by decide +kernel
theorem d_Fr_isAbove_29 : decode u_Fr_isAbove.2.1 29 = .ok (.iconst 0, 1) := by decide +kernel
theorem d_Fr_isAbove_30 : decode u_Fr_isAbove.2.1 30 = .ok (.ireturn, 1) := by decide +kernel
theorem d_Fr_isAbove_31 : decode u_Fr_isAbove.2.1 31 = .ok (.aload_n 0, 1) := by decide +kernel
theorem d_Fr_isAbove_32 : decode u_Fr_isAbove.2.1 32 = .ok (.getfield 13, 3) := by decide +kernel
theorem d_Fr_isAbove_35 : decode u_Fr_isAbove.2.1 35 = .ok (.lload_n 2, 1) := by decide +kernel
theorem d_Fr_isAbove_36 : decode u_Fr_isAbove.2.1 36 = .ok (.aload_n 0, 1) := by decide +kernel
theorem d_Fr_isAbove_37 : decode u_Fr_isAbove.2.1 37 = .ok (.getfield 7, 3) := by decide +kernel
theorem d_Fr_isAbove_40 : decode u_Fr_isAbove.2.1 40 = .ok (.lmul, 1) := by decide +kernel
theorem d_Fr_isAbove_41 : decode u_Fr_isAbove.2.1 41 = .ok (.lsub, 1) := by decide +kernel
theorem d_Fr_isAbove_42 : decode u_Fr_isAbove.2.1 42 = .ok (.lstore 6, 2) := by decide +kernel
theorem d_Fr_isAbove_44 : decode u_Fr_isAbove.2.1 44 = .ok (.aload_n 1, 1) := by decide +kernel
theorem d_Fr_isAbove_45 : decode u_Fr_isAbove.2.1 45 = .ok (.getfield 13, 3) := by decide +kernel
theorem d_Fr_isAbove_48 : decode u_Fr_isAbove.2.1 48 = .ok (.lload 4, 2) := by decide +kernel
theorem d_Fr_isAbove_50 : decode u_Fr_isAbove.2.1 50 = .ok (.aload_n 1, 1) := by decide +kernel
theorem d_Fr_isAbove_51 : decode u_Fr_isAbove.2.1 51 = .ok (.getfield 7, 3) := by decide +kernel
theorem d_Fr_isAbove_54 : decode u_Fr_isAbove.2.1 54 = .ok (.lmul, 1) := by decide +kernel
theorem d_Fr_isAbove_55 : decode u_Fr_isAbove.2.1 55 = .ok (.lsub, 1) := by decide +kernel
theorem d_Fr_isAbove_56 : decode u_Fr_isAbove.2.1 56 = .ok (.lstore 8, 2) := by decide +kernel
theorem d_Fr_isAbove_58 : decode u_Fr_isAbove.2.1 58 = .ok (.lload 6, 2) := by decide +kernel
theorem d_Fr_isAbove_60 : decode u_Fr_isAbove.2.1 60 = .ok (.aload_n 1, 1) := by decide +kernel
theorem d_Fr_isAbove_61 : decode u_Fr_isAbove.2.1 61 = .ok (.getfield 7, 3) := by decide +kernel
theorem d_Fr_isAbove_64 : decode u_Fr_isAbove.2.1 64 = .ok (.lmul, 1) := by decide +kernel
theorem d_Fr_isAbove_65 : decode u_Fr_isAbove.2.1 65 = .ok (.lload 8, 2) := by decide +kernel
theorem d_Fr_isAbove_67 : decode u_Fr_isAbove.2.1 67 = .ok (.aload_n 0, 1) := by decide +kernel
theorem d_Fr_isAbove_68 : decode u_Fr_isAbove.2.1 68 = .ok (.getfield 7, 3) := by decide +kernel
theorem d_Fr_isAbove_71 : decode u_Fr_isAbove.2.1 71 = .ok (.lmul, 1) := by decide +kernel
theorem d_Fr_isAbove_72 : decode u_Fr_isAbove.2.1 72 = .ok (.lcmp, 1) := by decide +kernel
theorem d_Fr_isAbove_73 : decode u_Fr_isAbove.2.1 73 = .ok (.ifCond .le 7, 3) := by decide +kernel
theorem d_Fr_isAbove_76 : decode u_Fr_isAbove.2.1 76 = .ok (.iconst 1, 1) := by decide +kernel
theorem d_Fr_isAbove_77 : decode u_Fr_isAbove.2.1 77 = .ok (.goto 4, 3) := by decide +kernel
theorem d_Fr_isAbove_80 : decode u_Fr_isAbove.2.1 80 = .ok (.iconst 0, 1) := by decide +kernel
theorem d_Fr_isAbove_81 : decode u_Fr_isAbove.2.1 81 = .ok (.ireturn, 1) := by decide +kernel
theorem d_Fr_told_0 : decode u_Fr_told.2.1 0 = .ok (.aload_n 0, 1) := by decide +kernel
theorem d_Fr_told_1 : decode u_Fr_told.2.1 1 = .ok (.getfield 13, 3) := by decide +kernel
theorem d_Fr_told_4 : decode u_Fr_told.2.1 4 = .ok (.invokestatic 20, 3) := by decide +kernel
theorem d_Fr_told_7 : decode u_Fr_told.2.1 7 = .ok (.lstore_n 2, 1) := by decide +kernel
theorem d_Fr_told_8 : decode u_Fr_told.2.1 8 = .ok (.aload_n 0, 1) := by decide +kernel
theorem d_Fr_told_9 : decode u_Fr_told.2.1 9 = .ok (.getfield 7, 3) := by decide +kernel
theorem d_Fr_told_12 : decode u_Fr_told.2.1 12 = .ok (.lstore 4, 2) := by decide +kernel
theorem d_Fr_told_14 : decode u_Fr_told.2.1 14 = .ok (.iconst 0, 1) := by decide +kernel
theorem d_Fr_told_15 : decode u_Fr_told.2.1 15 = .ok (.istore 6, 2) := by decide +kernel
theorem d_Fr_told_17 : decode u_Fr_told.2.1 17 = .ok (.iload 6, 2) := by decide +kernel
theorem d_Fr_told_19 : decode u_Fr_told.2.1 19 = .ok (.bipush 100, 2) := by decide +kernel
theorem d_Fr_told_21 : decode u_Fr_told.2.1 21 = .ok (.if_icmp .ge 29, 3) := by decide +kernel
theorem d_Fr_told_24 : decode u_Fr_told.2.1 24 = .ok (.lload 4, 2) := by decide +kernel
theorem d_Fr_told_26 : decode u_Fr_told.2.1 26 = .ok (.lconst 0, 1) := by decide +kernel
theorem d_Fr_told_27 : decode u_Fr_told.2.1 27 = .ok (.lcmp, 1) := by decide +kernel
theorem d_Fr_told_28 : decode u_Fr_told.2.1 28 = .ok (.ifCond .eq 22, 3) := by decide +kernel
theorem d_Fr_told_31 : decode u_Fr_told.2.1 31 = .ok (.lload_n 2, 1) := by decide +kernel
theorem d_Fr_told_32 : decode u_Fr_told.2.1 32 = .ok (.lload 4, 2) := by decide +kernel
theorem d_Fr_told_34 : decode u_Fr_told.2.1 34 = .ok (.lrem, 1) := by decide +kernel
theorem d_Fr_told_35 : decode u_Fr_told.2.1 35 = .ok (.lstore 7, 2) := by decide +kernel
theorem d_Fr_told_37 : decode u_Fr_told.2.1 37 = .ok (.lload 4, 2) := by decide +kernel
theorem d_Fr_told_39 : decode u_Fr_told.2.1 39 = .ok (.lstore_n 2, 1) := by decide +kernel
theorem d_Fr_told_40 : decode u_Fr_told.2.1 40 = .ok (.lload 7, 2) := by decide +kernel
theorem d_Fr_told_42 : decode u_Fr_told.2.1 42 = .ok (.lstore 4, 2) := by decide +kernel
theorem d_Fr_told_44 : decode u_Fr_told.2.1 44 = .ok (.iinc 6 1, 3) := by decide +kernel
theorem d_Fr_told_47 : decode u_Fr_told.2.1 47 = .ok (.goto (-30), 3) := by decide +kernel
theorem d_Fr_told_50 : decode u_Fr_told.2.1 50 = .ok (.lload_n 2, 1) := by decide +kernel
theorem d_Fr_told_51 : decode u_Fr_told.2.1 51 = .ok (.lconst 0, 1) := by decide +kernel
theorem d_Fr_told_52 : decode u_Fr_told.2.1 52 = .ok (.lcmp, 1) := by decide +kernel
theorem d_Fr_told_53 : decode u_Fr_told.2.1 53 = .ok (.ifCond .ne 13, 3) := by decide +kernel
theorem d_Fr_told_56 : decode u_Fr_told.2.1 56 = .ok (.iload_n 1, 1) := by decide +kernel
theorem d_Fr_told_57 : decode u_Fr_told.2.1 57 = .ok (.ifCond .ne 7, 3) := by decide +kernel
theorem d_Fr_told_60 : decode u_Fr_told.2.1 60 = .ok (.lconst 0, 1) := by decide +kernel
theorem d_Fr_told_61 : decode u_Fr_told.2.1 61 = .ok (.goto 4, 3) := by decide +kernel
theorem d_Fr_told_64 : decode u_Fr_told.2.1 64 = .ok (.lconst 1, 1) := by decide +kernel
theorem d_Fr_told_65 : decode u_Fr_told.2.1 65 = .ok (.lreturn, 1) := by decide +kernel
theorem d_Fr_told_66 : decode u_Fr_told.2.1 66 = .ok (.iload_n 1, 1) := by decide +kernel
theorem d_Fr_told_67 : decode u_Fr_told.2.1 67 = .ok (.ifCond .ne 12, 3) := by decide +kernel
theorem d_Fr_told_70 : decode u_Fr_told.2.1 70 = .ok (.aload_n 0, 1) := by decide +kernel
theorem d_Fr_told_71 : decode u_Fr_told.2.1 71 = .ok (.getfield 13, 3) := by decide +kernel
theorem d_Fr_told_74 : decode u_Fr_told.2.1 74 = .ok (.lload_n 2, 1) := by decide +kernel
theorem d_Fr_told_75 : decode u_Fr_told.2.1 75 = .ok (.ldiv, 1) := by decide +kernel
theorem d_Fr_told_76 : decode u_Fr_told.2.1 76 = .ok (.goto 9, 3) := by decide +kernel
theorem d_Fr_told_79 : decode u_Fr_told.2.1 79 = .ok (.aload_n 0, 1) := by decide +kernel
theorem d_Fr_told_80 : decode u_Fr_told.2.1 80 = .ok (.getfield 7, 3) := by decide +kernel
theorem d_Fr_told_83 : decode u_Fr_told.2.1 83 = .ok (.lload_n 2, 1) := by decide +kernel
theorem d_Fr_told_84 : decode u_Fr_told.2.1 84 = .ok (.ldiv, 1) := by decide +kernel
theorem d_Fr_told_85 : decode u_Fr_told.2.1 85 = .ok (.lreturn, 1) := by decide +kernel
theorem d_Ha_init_0 : decode u_Ha_init.2.1 0 = .ok (.aload_n 0, 1) := by decide +kernel
theorem d_Ha_init_1 : decode u_Ha_init.2.1 1 = .ok (.invokespecial 3, 3) := by decide +kernel
theorem d_Ha_init_4 : decode u_Ha_init.2.1 4 = .ok (.aload_n 0, 1) := by decide +kernel
theorem d_Ha_init_5 : decode u_Ha_init.2.1 5 = .ok (.bipush 40, 2) := by decide +kernel
theorem d_Ha_init_7 : decode u_Ha_init.2.1 7 = .ok (.newarray .int, 2) := by decide +kernel
theorem d_Ha_init_9 : decode u_Ha_init.2.1 9 = .ok (.putfield 9, 3) := by decide +kernel
theorem d_Ha_init_12 : decode u_Ha_init.2.1 12 = .ok (.aload_n 0, 1) := by decide +kernel
theorem d_Ha_init_13 : decode u_Ha_init.2.1 13 = .ok (.bipush 8, 2) := by decide +kernel
theorem d_Ha_init_15 : decode u_Ha_init.2.1 15 = .ok (.newarray .int, 2) := by decide +kernel
theorem d_Ha_init_17 : decode u_Ha_init.2.1 17 = .ok (.putfield 15, 3) := by decide +kernel
theorem d_Ha_init_20 : decode u_Ha_init.2.1 20 = .ok (.aload_n 0, 1) := by decide +kernel
theorem d_Ha_init_21 : decode u_Ha_init.2.1 21 = .ok (.iconst (-1), 1) := by decide +kernel
theorem d_Ha_init_22 : decode u_Ha_init.2.1 22 = .ok (.putfield 18, 3) := by decide +kernel
theorem d_Ha_init_25 : decode u_Ha_init.2.1 25 = .ok (.aload_n 0, 1) := by decide +kernel
theorem d_Ha_init_26 : decode u_Ha_init.2.1 26 = .ok (.getfield 15, 3) := by decide +kernel
theorem d_Ha_init_29 : decode u_Ha_init.2.1 29 = .ok (.bipush 10, 2) := by decide +kernel
theorem d_Ha_init_31 : decode u_Ha_init.2.1 31 = .ok (.invokestatic 22, 3) := by decide +kernel
theorem d_Ha_init_34 : decode u_Ha_init.2.1 34 = .ok (.return_, 1) := by decide +kernel
theorem d_Ha_append_0 : decode u_Ha_append.2.1 0 = .ok (.aload_n 0, 1) := by decide +kernel
theorem d_Ha_append_1 : decode u_Ha_append.2.1 1 = .ok (.getfield 28, 3) := by decide +kernel
theorem d_Ha_append_4 : decode u_Ha_append.2.1 4 = .ok (.bipush 40, 2) := by decide +kernel
theorem d_Ha_append_6 : decode u_Ha_append.2.1 6 = .ok (.if_icmp .ge 27, 3) := by decide +kernel
theorem d_Ha_append_9 : decode u_Ha_append.2.1 9 = .ok (.aload_n 0, 1) := by decide +kernel
theorem d_Ha_append_10 : decode u_Ha_append.2.1 10 = .ok (.getfield 9, 3) := by decide +kernel
theorem d_Ha_append_13 : decode u_Ha_append.2.1 13 = .ok (.aload_n 0, 1) := by decide +kernel
theorem d_Ha_append_14 : decode u_Ha_append.2.1 14 = .ok (.getfield 28, 3) := by decide +kernel
theorem d_Ha_append_17 : decode u_Ha_append.2.1 17 = .ok (.iload_n 1, 1) := by decide +kernel
theorem d_Ha_append_18 : decode u_Ha_append.2.1 18 = .ok (.iastore, 1) := by decide +kernel
theorem d_Ha_append_19 : decode u_Ha_append.2.1 19 = .ok (.aload_n 0, 1) := by decide +kernel
theorem d_Ha_append_20 : decode u_Ha_append.2.1 20 = .ok (.dup, 1) := by decide +kernel
theorem d_Ha_append_21 : decode u_Ha_append.2.1 21 = .ok (.getfield 28, 3) := by decide +kernel
theorem d_Ha_append_24 : decode u_Ha_append.2.1 24 = .ok (.iconst 1, 1) := by decide +kernel
theorem d_Ha_append_25 : decode u_Ha_append.2.1 25 = .ok (.iadd, 1) := by decide +kernel
theorem d_Ha_append_26 : decode u_Ha_append.2.1 26 = .ok (.putfield 28, 3) := by decide +kernel
theorem d_Ha_append_29 : decode u_Ha_append.2.1 29 = .ok (.aload_n 0, 1) := by decide +kernel
theorem d_Ha_append_30 : decode u_Ha_append.2.1 30 = .ok (.invokevirtual 31, 3) := by decide +kernel
theorem d_Ha_append_33 : decode u_Ha_append.2.1 33 = .ok (.return_, 1) := by decide +kernel
theorem d_Ha_clear_0 : decode u_Ha_clear.2.1 0 = .ok (.aload_n 0, 1) := by decide +kernel
theorem d_Ha_clear_1 : decode u_Ha_clear.2.1 1 = .ok (.iconst 0, 1) := by decide +kernel
theorem d_Ha_clear_2 : decode u_Ha_clear.2.1 2 = .ok (.putfield 28, 3) := by decide +kernel
theorem d_Ha_clear_5 : decode u_Ha_clear.2.1 5 = .ok (.aload_n 0, 1) := by decide +kernel
theorem d_Ha_clear_6 : decode u_Ha_clear.2.1 6 = .ok (.invokevirtual 31, 3) := by decide +kernel
theorem d_Ha_clear_9 : decode u_Ha_clear.2.1 9 = .ok (.return_, 1) := by decide +kernel
theorem d_Ha_understand_0 : decode u_Ha_understand.2.1 0 = .ok (.aload_n 0, 1) := by decide +kernel
theorem d_Ha_understand_1 : decode u_Ha_understand.2.1 1 = .ok (.getfield 15, 3) := by decide +kernel
theorem d_Ha_understand_4 : decode u_Ha_understand.2.1 4 = .ok (.bipush 10, 2) := by decide +kernel
theorem d_Ha_understand_6 : decode u_Ha_understand.2.1 6 = .ok (.invokestatic 22, 3) := by decide +kernel
theorem d_Ha_understand_9 : decode u_Ha_understand.2.1 9 = .ok (.aload_n 0, 1) := by decide +kernel
theorem d_Ha_understand_10 : decode u_Ha_understand.2.1 10 = .ok (.iconst (-1), 1) := by decide +kernel
theorem d_Ha_understand_11 : decode u_Ha_understand.2.1 11 = .ok (.putfield 18, 3) := by decide +kernel
theorem d_Ha_understand_14 : decode u_Ha_understand.2.1 14 = .ok (.iconst 0, 1) := by decide +kernel
theorem d_Ha_understand_15 : decode u_Ha_understand.2.1 15 = .ok (.istore_n 1, 1) := by decide +kernel
theorem d_Ha_understand_16 : decode u_Ha_understand.2.1 16 = .ok (.aload_n 0, 1) := by decide +kernel
theorem d_Ha_understand_17 : decode u_Ha_understand.2.1 17 = .ok (.getfield 28, 3) := by decide +kernel
theorem d_Ha_understand_20 : decode u_Ha_understand.2.1 20 = .ok (.ifCond .le 7, 3) := by decide +kernel
theorem d_Ha_understand_23 : decode u_Ha_understand.2.1 23 = .ok (.iconst 1, 1) := by decide +kernel
theorem d_Ha_understand_24 : decode u_Ha_understand.2.1 24 = .ok (.goto 4, 3) := by decide +kernel
theorem d_Ha_understand_27 : decode u_Ha_understand.2.1 27 = .ok (.iconst 0, 1) := by decide +kernel
theorem d_Ha_understand_28 : decode u_Ha_understand.2.1 28 = .ok (.istore_n 2, 1) := by decide +kernel
theorem d_Ha_understand_29 : decode u_Ha_understand.2.1 29 = .ok (.iconst 0, 1) := by decide +kernel
theorem d_Ha_understand_30 : decode u_Ha_understand.2.1 30 = .ok (.istore_n 3, 1) := by decide +kernel
theorem d_Ha_understand_31 : decode u_Ha_understand.2.1 31 = .ok (.iload_n 2, 1) := by decide +kernel
theorem d_Ha_understand_32 : decode u_Ha_understand.2.1 32 = .ok (.ifCond .eq 77, 3) := by decide +kernel
theorem d_Ha_understand_35 : decode u_Ha_understand.2.1 35 = .ok (.iload_n 3, 1) := by decide +kernel
theorem d_Ha_understand_36 : decode u_Ha_understand.2.1 36 = .ok (.bipush 40, 2) := by decide +kernel
theorem d_Ha_understand_38 : decode u_Ha_understand.2.1 38 = .ok (.if_icmp .ge 71, 3) := by decide +kernel
theorem d_Ha_understand_41 : decode u_Ha_understand.2.1 41 = .ok (.aload_n 0, 1) := by decide +kernel
theorem d_Ha_understand_42 : decode u_Ha_understand.2.1 42 = .ok (.iload_n 1, 1) := by decide +kernel
theorem d_Ha_understand_43 : decode u_Ha_understand.2.1 43 = .ok (.invokevirtual 34, 3) := by decide +kernel
theorem d_Ha_understand_46 : decode u_Ha_understand.2.1 46 = .ok (.istore_n 1, 1) := by decide +kernel
theorem d_Ha_understand_47 : decode u_Ha_understand.2.1 47 = .ok (.aload_n 0, 1) := by decide +kernel
theorem d_Ha_understand_48 : decode u_Ha_understand.2.1 48 = .ok (.getfield 18, 3) := by decide +kernel
theorem d_Ha_understand_51 : decode u_Ha_understand.2.1 51 = .ok (.iconst (-1), 1) := by decide +kernel
theorem d_Ha_understand_52 : decode u_Ha_understand.2.1 52 = .ok (.if_icmp .ne 26, 3) := by decide +kernel
theorem d_Ha_understand_55 : decode u_Ha_understand.2.1 55 = .ok (.iload_n 1, 1) := by decide +kernel
theorem d_Ha_understand_56 : decode u_Ha_understand.2.1 56 = .ok (.aload_n 0, 1) := by decide +kernel
theorem d_Ha_understand_57 : decode u_Ha_understand.2.1 57 = .ok (.getfield 28, 3) := by decide +kernel
theorem d_Ha_understand_60 : decode u_Ha_understand.2.1 60 = .ok (.if_icmp .ge 18, 3) := by decide +kernel
theorem d_Ha_understand_63 : decode u_Ha_understand.2.1 63 = .ok (.aload_n 0, 1) := by decide +kernel
theorem d_Ha_understand_64 : decode u_Ha_understand.2.1 64 = .ok (.iload_n 1, 1) := by decide +kernel
theorem d_Ha_understand_65 : decode u_Ha_understand.2.1 65 = .ok (.invokevirtual 38, 3) := by decide +kernel
theorem d_Ha_understand_68 : decode u_Ha_understand.2.1 68 = .ok (.bipush 59, 2) := by decide +kernel
theorem d_Ha_understand_70 : decode u_Ha_understand.2.1 70 = .ok (.if_icmp .eq 8, 3) := by decide +kernel
theorem d_Ha_understand_73 : decode u_Ha_understand.2.1 73 = .ok (.aload_n 0, 1) := by decide +kernel
theorem d_Ha_understand_74 : decode u_Ha_understand.2.1 74 = .ok (.iload_n 1, 1) := by decide +kernel
theorem d_Ha_understand_75 : decode u_Ha_understand.2.1 75 = .ok (.putfield 18, 3) := by decide +kernel
theorem d_Ha_understand_78 : decode u_Ha_understand.2.1 78 = .ok (.aload_n 0, 1) := by decide +kernel
theorem d_Ha_understand_79 : decode u_Ha_understand.2.1 79 = .ok (.getfield 18, 3) := by decide +kernel
theorem d_Ha_understand_82 : decode u_Ha_understand.2.1 82 = .ok (.iconst (-1), 1) := by decide +kernel
theorem d_Ha_understand_83 : decode u_Ha_understand.2.1 83 = .ok (.if_icmp .ne 15, 3) := by decide +kernel
theorem d_Ha_understand_86 : decode u_Ha_understand.2.1 86 = .ok (.iload_n 1, 1) := by decide +kernel
theorem d_Ha_understand_87 : decode u_Ha_understand.2.1 87 = .ok (.aload_n 0, 1) := by decide +kernel
theorem d_Ha_understand_88 : decode u_Ha_understand.2.1 88 = .ok (.getfield 28, 3) := by decide +kernel
theorem d_Ha_understand_91 : decode u_Ha_understand.2.1 91 = .ok (.if_icmp .ge 7, 3) := by decide +kernel
theorem d_Ha_understand_94 : decode u_Ha_understand.2.1 94 = .ok (.iconst 1, 1) := by decide +kernel
theorem d_Ha_understand_95 : decode u_Ha_understand.2.1 95 = .ok (.goto 4, 3) := by decide +kernel
theorem d_Ha_understand_98 : decode u_Ha_understand.2.1 98 = .ok (.iconst 0, 1) := by decide +kernel
theorem d_Ha_understand_99 : decode u_Ha_understand.2.1 99 = .ok (.istore_n 2, 1) := by decide +kernel
theorem d_Ha_understand_100 : decode u_Ha_understand.2.1 100 = .ok (.iinc 1 1, 3) := by decide +kernel
theorem d_Ha_understand_103 : decode u_Ha_understand.2.1 103 = .ok (.iinc 3 1, 3) := by decide +kernel
theorem d_Ha_understand_106 : decode u_Ha_understand.2.1 106 = .ok (.goto (-75), 3) := by decide +kernel
theorem d_Ha_understand_109 : decode u_Ha_understand.2.1 109 = .ok (.aload_n 0, 1) := by decide +kernel
theorem d_Ha_understand_110 : decode u_Ha_understand.2.1 110 = .ok (.getfield 18, 3) := by decide +kernel
theorem d_Ha_understand_113 : decode u_Ha_understand.2.1 113 = .ok (.iconst (-1), 1) := by decide +kernel
theorem d_Ha_understand_114 : decode u_Ha_understand.2.1 114 = .ok (.if_icmp .eq 12, 3) := by decide +kernel
theorem d_Ha_understand_117 : decode u_Ha_understand.2.1 117 = .ok (.aload_n 0, 1) := by decide +kernel
theorem d_Ha_understand_118 : decode u_Ha_understand.2.1 118 = .ok (.getfield 15, 3) := by decide +kernel
theorem d_Ha_understand_121 : decode u_Ha_understand.2.1 121 = .ok (.bipush 10, 2) := by decide +kernel
theorem d_Ha_understand_123 : decode u_Ha_understand.2.1 123 = .ok (.invokestatic 22, 3) := by decide +kernel
theorem d_Ha_understand_126 : decode u_Ha_understand.2.1 126 = .ok (.return_, 1) := by decide +kernel
theorem d_Ha_behindPiece_0 : decode u_Ha_behindPiece.2.1 0 = .ok (.aload_n 0, 1) := by decide +kernel
theorem d_Ha_behindPiece_1 : decode u_Ha_behindPiece.2.1 1 = .ok (.iload_n 1, 1) := by decide +kernel
theorem d_Ha_behindPiece_2 : decode u_Ha_behindPiece.2.1 2 = .ok (.invokevirtual 38, 3) := by decide +kernel
theorem d_Ha_behindPiece_5 : decode u_Ha_behindPiece.2.1 5 = .ok (.istore_n 2, 1) := by decide +kernel
theorem d_Ha_behindPiece_6 : decode u_Ha_behindPiece.2.1 6 = .ok (.iload_n 2, 1) := by decide +kernel
theorem d_Ha_behindPiece_7 : decode u_Ha_behindPiece.2.1 7 = .ok (.bipush 42, 2) := by decide +kernel
theorem d_Ha_behindPiece_9 : decode u_Ha_behindPiece.2.1 9 = .ok (.if_icmp .eq 21, 3) := by decide +kernel
theorem d_Ha_behindPiece_12 : decode u_Ha_behindPiece.2.1 12 = .ok (.iload_n 2, 1) := by decide +kernel
theorem d_Ha_behindPiece_13 : decode u_Ha_behindPiece.2.1 13 = .ok (.bipush 48, 2) := by decide +kernel
theorem d_Ha_behindPiece_15 : decode u_Ha_behindPiece.2.1 15 = .ok (.if_icmp .lt 9, 3) := by decide +kernel
theorem d_Ha_behindPiece_18 : decode u_Ha_behindPiece.2.1 18 = .ok (.iload_n 2, 1) := by decide +kernel
theorem d_Ha_behindPiece_19 : decode u_Ha_behindPiece.2.1 19 = .ok (.bipush 55, 2) := by decide +kernel
theorem d_Ha_behindPiece_21 : decode u_Ha_behindPiece.2.1 21 = .ok (.if_icmp .le 9, 3) := by decide +kernel
theorem d_Ha_behindPiece_24 : decode u_Ha_behindPiece.2.1 24 = .ok (.aload_n 0, 1) := by decide +kernel
theorem d_Ha_behindPiece_25 : decode u_Ha_behindPiece.2.1 25 = .ok (.iload_n 1, 1) := by decide +kernel
theorem d_Ha_behindPiece_26 : decode u_Ha_behindPiece.2.1 26 = .ok (.invokevirtual 41, 3) := by decide +kernel
theorem d_Ha_behindPiece_29 : decode u_Ha_behindPiece.2.1 29 = .ok (.ireturn, 1) := by decide +kernel
theorem d_Ha_behindPiece_30 : decode u_Ha_behindPiece.2.1 30 = .ok (.aload_n 0, 1) := by decide +kernel
theorem d_Ha_behindPiece_31 : decode u_Ha_behindPiece.2.1 31 = .ok (.iload_n 1, 1) := by decide +kernel
theorem d_Ha_behindPiece_32 : decode u_Ha_behindPiece.2.1 32 = .ok (.iconst 1, 1) := by decide +kernel
theorem d_Ha_behindPiece_33 : decode u_Ha_behindPiece.2.1 33 = .ok (.iadd, 1) := by decide +kernel
theorem d_Ha_behindPiece_34 : decode u_Ha_behindPiece.2.1 34 = .ok (.invokevirtual 38, 3) := by decide +kernel
theorem d_Ha_behindPiece_37 : decode u_Ha_behindPiece.2.1 37 = .ok (.istore_n 3, 1) := by decide +kernel
theorem d_Ha_behindPiece_38 : decode u_Ha_behindPiece.2.1 38 = .ok (.iload_n 3, 1) := by decide +kernel
theorem d_Ha_behindPiece_39 : decode u_Ha_behindPiece.2.1 39 = .ok (.bipush 120, 2) := by decide +kernel
theorem d_Ha_behindPiece_41 : decode u_Ha_behindPiece.2.1 41 = .ok (.if_icmp .ne 15, 3) := by decide +kernel
theorem d_Ha_behindPiece_44 : decode u_Ha_behindPiece.2.1 44 = .ok (.aload_n 0, 1) := by decide +kernel
theorem d_Ha_behindPiece_45 : decode u_Ha_behindPiece.2.1 45 = .ok (.iload_n 2, 1) := by decide +kernel
theorem d_Ha_behindPiece_46 : decode u_Ha_behindPiece.2.1 46 = .ok (.sipush (-9999), 3) := by decide +kernel
theorem d_Ha_behindPiece_49 : decode u_Ha_behindPiece.2.1 49 = .ok (.invokevirtual 44, 3) := by decide +kernel
theorem d_Ha_behindPiece_52 : decode u_Ha_behindPiece.2.1 52 = .ok (.iload_n 1, 1) := by decide +kernel
theorem d_Ha_behindPiece_53 : decode u_Ha_behindPiece.2.1 53 = .ok (.iconst 2, 1) := by decide +kernel
theorem d_Ha_behindPiece_54 : decode u_Ha_behindPiece.2.1 54 = .ok (.iadd, 1) := by decide +kernel
theorem d_Ha_behindPiece_55 : decode u_Ha_behindPiece.2.1 55 = .ok (.ireturn, 1) := by decide +kernel
theorem d_Ha_behindPiece_56 : decode u_Ha_behindPiece.2.1 56 = .ok (.iload_n 3, 1) := by decide +kernel
theorem d_Ha_behindPiece_57 : decode u_Ha_behindPiece.2.1 57 = .ok (.bipush 43, 2) := by decide +kernel
theorem d_Ha_behindPiece_59 : decode u_Ha_behindPiece.2.1 59 = .ok (.if_icmp .eq 17, 3) := by decide +kernel
theorem d_Ha_behindPiece_62 : decode u_Ha_behindPiece.2.1 62 = .ok (.iload_n 3, 1) := by decide +kernel
theorem d_Ha_behindPiece_63 : decode u_Ha_behindPiece.2.1 63 = .ok (.bipush 45, 2) := by decide +kernel
theorem d_Ha_behindPiece_65 : decode u_Ha_behindPiece.2.1 65 = .ok (.if_icmp .eq 11, 3) := by decide +kernel
theorem d_Ha_behindPiece_68 : decode u_Ha_behindPiece.2.1 68 = .ok (.aload_n 0, 1) := by decide +kernel
theorem d_Ha_behindPiece_69 : decode u_Ha_behindPiece.2.1 69 = .ok (.iload_n 1, 1) := by decide +kernel
theorem d_Ha_behindPiece_70 : decode u_Ha_behindPiece.2.1 70 = .ok (.iconst 1, 1) := by decide +kernel
theorem d_Ha_behindPiece_71 : decode u_Ha_behindPiece.2.1 71 = .ok (.iadd, 1) := by decide +kernel
theorem d_Ha_behindPiece_72 : decode u_Ha_behindPiece.2.1 72 = .ok (.invokevirtual 41, 3) := by decide +kernel
theorem d_Ha_behindPiece_75 : decode u_Ha_behindPiece.2.1 75 = .ok (.ireturn, 1) := by decide +kernel
theorem d_Ha_behindPiece_76 : decode u_Ha_behindPiece.2.1 76 = .ok (.iload_n 1, 1) := by decide +kernel
theorem d_Ha_behindPiece_77 : decode u_Ha_behindPiece.2.1 77 = .ok (.iconst 2, 1) := by decide +kernel
theorem d_Ha_behindPiece_78 : decode u_Ha_behindPiece.2.1 78 = .ok (.iadd, 1) := by decide +kernel
theorem d_Ha_behindPiece_79 : decode u_Ha_behindPiece.2.1 79 = .ok (.istore 4, 2) := by decide +kernel
theorem d_Ha_behindPiece_81 : decode u_Ha_behindPiece.2.1 81 = .ok (.aload_n 0, 1) := by decide +kernel
theorem d_Ha_behindPiece_82 : decode u_Ha_behindPiece.2.1 82 = .ok (.iload 4, 2) := by decide +kernel
theorem d_Ha_behindPiece_84 : decode u_Ha_behindPiece.2.1 84 = .ok (.invokevirtual 38, 3) := by decide +kernel
theorem d_Ha_behindPiece_87 : decode u_Ha_behindPiece.2.1 87 = .ok (.invokestatic 48, 3) := by decide +kernel
theorem d_Ha_behindPiece_90 : decode u_Ha_behindPiece.2.1 90 = .ok (.ifCond .ne 10, 3) := by decide +kernel
theorem d_Ha_behindPiece_93 : decode u_Ha_behindPiece.2.1 93 = .ok (.aload_n 0, 1) := by decide +kernel
theorem d_Ha_behindPiece_94 : decode u_Ha_behindPiece.2.1 94 = .ok (.iload 4, 2) := by decide +kernel
theorem d_Ha_behindPiece_96 : decode u_Ha_behindPiece.2.1 96 = .ok (.invokevirtual 41, 3) := by decide +kernel
theorem d_Ha_behindPiece_99 : decode u_Ha_behindPiece.2.1 99 = .ok (.ireturn, 1) := by decide +kernel
theorem d_Ha_behindPiece_100 : decode u_Ha_behindPiece.2.1 100 = .ok (.aload_n 0, 1) := by decide +kernel
theorem d_Ha_behindPiece_101 : decode u_Ha_behindPiece.2.1 101 = .ok (.iload 4, 2) := by decide +kernel
theorem d_Ha_behindPiece_103 : decode u_Ha_behindPiece.2.1 103 = .ok (.invokevirtual 38, 3) := by decide +kernel
theorem d_Ha_behindPiece_106 : decode u_Ha_behindPiece.2.1 106 = .ok (.bipush 48, 2) := by decide +kernel
theorem d_Ha_behindPiece_108 : decode u_Ha_behindPiece.2.1 108 = .ok (.isub, 1) := by decide +kernel
theorem d_Ha_behindPiece_109 : decode u_Ha_behindPiece.2.1 109 = .ok (.istore 5, 2) := by decide +kernel
theorem d_Ha_behindPiece_111 : decode u_Ha_behindPiece.2.1 111 = .ok (.iload 4, 2) := by decide +kernel
theorem d_Ha_behindPiece_113 : decode u_Ha_behindPiece.2.1 113 = .ok (.iconst 1, 1) := by decide +kernel
theorem d_Ha_behindPiece_114 : decode u_Ha_behindPiece.2.1 114 = .ok (.iadd, 1) := by decide +kernel
theorem d_Ha_behindPiece_115 : decode u_Ha_behindPiece.2.1 115 = .ok (.istore 6, 2) := by decide +kernel
theorem d_Ha_behindPiece_117 : decode u_Ha_behindPiece.2.1 117 = .ok (.aload_n 0, 1) := by decide +kernel
theorem d_Ha_behindPiece_118 : decode u_Ha_behindPiece.2.1 118 = .ok (.iload 6, 2) := by decide +kernel
theorem d_Ha_behindPiece_120 : decode u_Ha_behindPiece.2.1 120 = .ok (.invokevirtual 38, 3) := by decide +kernel
theorem d_Ha_behindPiece_123 : decode u_Ha_behindPiece.2.1 123 = .ok (.invokestatic 48, 3) := by decide +kernel
theorem d_Ha_behindPiece_126 : decode u_Ha_behindPiece.2.1 126 = .ok (.ifCond .eq 23, 3) := by decide +kernel
theorem d_Ha_behindPiece_129 : decode u_Ha_behindPiece.2.1 129 = .ok (.bipush 10, 2) := by decide +kernel
theorem d_Ha_behindPiece_131 : decode u_Ha_behindPiece.2.1 131 = .ok (.iload 5, 2) := by decide +kernel
theorem d_Ha_behindPiece_133 : decode u_Ha_behindPiece.2.1 133 = .ok (.imul, 1) := by decide +kernel
theorem d_Ha_behindPiece_134 : decode u_Ha_behindPiece.2.1 134 = .ok (.aload_n 0, 1) := by decide +kernel
theorem d_Ha_behindPiece_135 : decode u_Ha_behindPiece.2.1 135 = .ok (.iload 6, 2) := by decide +kernel
theorem d_Ha_behindPiece_137 : decode u_Ha_behindPiece.2.1 137 = .ok (.invokevirtual 38, 3) := by decide +kernel
theorem d_Ha_behindPiece_140 : decode u_Ha_behindPiece.2.1 140 = .ok (.iadd, 1) := by decide +kernel
theorem d_Ha_behindPiece_141 : decode u_Ha_behindPiece.2.1 141 = .ok (.bipush 48, 2) := by decide +kernel
theorem d_Ha_behindPiece_143 : decode u_Ha_behindPiece.2.1 143 = .ok (.isub, 1) := by decide +kernel
theorem d_Ha_behindPiece_144 : decode u_Ha_behindPiece.2.1 144 = .ok (.istore 5, 2) := by decide +kernel
theorem d_Ha_behindPiece_146 : decode u_Ha_behindPiece.2.1 146 = .ok (.iinc 6 1, 3) := by decide +kernel
theorem d_Ha_behindPiece_149 : decode u_Ha_behindPiece.2.1 149 = .ok (.iload 5, 2) := by decide +kernel
theorem d_Ha_behindPiece_151 : decode u_Ha_behindPiece.2.1 151 = .ok (.bipush 60, 2) := by decide +kernel
theorem d_Ha_behindPiece_153 : decode u_Ha_behindPiece.2.1 153 = .ok (.if_icmp .le 10, 3) := by decide +kernel
theorem d_Ha_behindPiece_156 : decode u_Ha_behindPiece.2.1 156 = .ok (.aload_n 0, 1) := by decide +kernel
theorem d_Ha_behindPiece_157 : decode u_Ha_behindPiece.2.1 157 = .ok (.iload 4, 2) := by decide +kernel
theorem d_Ha_behindPiece_159 : decode u_Ha_behindPiece.2.1 159 = .ok (.invokevirtual 41, 3) := by decide +kernel
theorem d_Ha_behindPiece_162 : decode u_Ha_behindPiece.2.1 162 = .ok (.ireturn, 1) := by decide +kernel
theorem d_Ha_behindPiece_163 : decode u_Ha_behindPiece.2.1 163 = .ok (.aload_n 0, 1) := by decide +kernel
theorem d_Ha_behindPiece_164 : decode u_Ha_behindPiece.2.1 164 = .ok (.iload_n 2, 1) := by decide +kernel
theorem d_Ha_behindPiece_165 : decode u_Ha_behindPiece.2.1 165 = .ok (.iload_n 3, 1) := by decide +kernel
theorem d_Ha_behindPiece_166 : decode u_Ha_behindPiece.2.1 166 = .ok (.bipush 45, 2) := by decide +kernel
theorem d_Ha_behindPiece_168 : decode u_Ha_behindPiece.2.1 168 = .ok (.if_icmp .ne 9, 3) := by decide +kernel
theorem d_Ha_behindPiece_171 : decode u_Ha_behindPiece.2.1 171 = .ok (.iload 5, 2) := by decide +kernel
theorem d_Ha_behindPiece_173 : decode u_Ha_behindPiece.2.1 173 = .ok (.ineg, 1) := by decide +kernel
theorem d_Ha_behindPiece_174 : decode u_Ha_behindPiece.2.1 174 = .ok (.goto 5, 3) := by decide +kernel
theorem d_Ha_behindPiece_177 : decode u_Ha_behindPiece.2.1 177 = .ok (.iload 5, 2) := by decide +kernel
theorem d_Ha_behindPiece_179 : decode u_Ha_behindPiece.2.1 179 = .ok (.invokevirtual 44, 3) := by decide +kernel
theorem d_Ha_behindPiece_182 : decode u_Ha_behindPiece.2.1 182 = .ok (.iload 6, 2) := by decide +kernel
theorem d_Ha_behindPiece_184 : decode u_Ha_behindPiece.2.1 184 = .ok (.ireturn, 1) := by decide +kernel
theorem d_Ha_stopAt_0 : decode u_Ha_stopAt.2.1 0 = .ok (.aload_n 0, 1) := by decide +kernel
theorem d_Ha_stopAt_1 : decode u_Ha_stopAt.2.1 1 = .ok (.iload_n 1, 1) := by decide +kernel
theorem d_Ha_stopAt_2 : decode u_Ha_stopAt.2.1 2 = .ok (.putfield 18, 3) := by decide +kernel
theorem d_Ha_stopAt_5 : decode u_Ha_stopAt.2.1 5 = .ok (.iload_n 1, 1) := by decide +kernel
theorem d_Ha_stopAt_6 : decode u_Ha_stopAt.2.1 6 = .ok (.ireturn, 1) := by decide +kernel
theorem d_Ha_mark_0 : decode u_Ha_mark.2.1 0 = .ok (.iload_n 1, 1) := by decide +kernel
theorem d_Ha_mark_1 : decode u_Ha_mark.2.1 1 = .ok (.bipush 42, 2) := by decide +kernel
theorem d_Ha_mark_3 : decode u_Ha_mark.2.1 3 = .ok (.if_icmp .ne 14, 3) := by decide +kernel
theorem d_Ha_mark_6 : decode u_Ha_mark.2.1 6 = .ok (.aload_n 0, 1) := by decide +kernel
theorem d_Ha_mark_7 : decode u_Ha_mark.2.1 7 = .ok (.getfield 15, 3) := by decide +kernel
theorem d_Ha_mark_10 : decode u_Ha_mark.2.1 10 = .ok (.iload_n 2, 1) := by decide +kernel
theorem d_Ha_mark_11 : decode u_Ha_mark.2.1 11 = .ok (.invokestatic 22, 3) := by decide +kernel
theorem d_Ha_mark_14 : decode u_Ha_mark.2.1 14 = .ok (.goto 23, 3) := by decide +kernel
theorem d_Ha_mark_17 : decode u_Ha_mark.2.1 17 = .ok (.iload_n 1, 1) := by decide +kernel
theorem d_Ha_mark_18 : decode u_Ha_mark.2.1 18 = .ok (.bipush 48, 2) := by decide +kernel
theorem d_Ha_mark_20 : decode u_Ha_mark.2.1 20 = .ok (.isub, 1) := by decide +kernel
theorem d_Ha_mark_21 : decode u_Ha_mark.2.1 21 = .ok (.invokestatic 52, 3) := by decide +kernel
theorem d_Ha_mark_24 : decode u_Ha_mark.2.1 24 = .ok (.ifCond .eq 13, 3) := by decide +kernel
theorem d_Ha_mark_27 : decode u_Ha_mark.2.1 27 = .ok (.aload_n 0, 1) := by decide +kernel
theorem d_Ha_mark_28 : decode u_Ha_mark.2.1 28 = .ok (.getfield 15, 3) := by decide +kernel
theorem d_Ha_mark_31 : decode u_Ha_mark.2.1 31 = .ok (.iload_n 1, 1) := by decide +kernel
theorem d_Ha_mark_32 : decode u_Ha_mark.2.1 32 = .ok (.bipush 48, 2) := by decide +kernel
theorem d_Ha_mark_34 : decode u_Ha_mark.2.1 34 = .ok (.isub, 1) := by decide +kernel
theorem d_Ha_mark_35 : decode u_Ha_mark.2.1 35 = .ok (.iload_n 2, 1) := by decide +kernel
theorem d_Ha_mark_36 : decode u_Ha_mark.2.1 36 = .ok (.iastore, 1) := by decide +kernel
theorem d_Ha_mark_37 : decode u_Ha_mark.2.1 37 = .ok (.return_, 1) := by decide +kernel
theorem d_Ha_byteAt_0 : decode u_Ha_byteAt.2.1 0 = .ok (.iload_n 1, 1) := by decide +kernel
theorem d_Ha_byteAt_1 : decode u_Ha_byteAt.2.1 1 = .ok (.ifCond .lt 20, 3) := by decide +kernel
theorem d_Ha_byteAt_4 : decode u_Ha_byteAt.2.1 4 = .ok (.iload_n 1, 1) := by decide +kernel
theorem d_Ha_byteAt_5 : decode u_Ha_byteAt.2.1 5 = .ok (.aload_n 0, 1) := by decide +kernel
theorem d_Ha_byteAt_6 : decode u_Ha_byteAt.2.1 6 = .ok (.getfield 28, 3) := by decide +kernel
theorem d_Ha_byteAt_9 : decode u_Ha_byteAt.2.1 9 = .ok (.if_icmp .ge 12, 3) := by decide +kernel
theorem d_Ha_byteAt_12 : decode u_Ha_byteAt.2.1 12 = .ok (.aload_n 0, 1) := by decide +kernel
theorem d_Ha_byteAt_13 : decode u_Ha_byteAt.2.1 13 = .ok (.getfield 9, 3) := by decide +kernel
theorem d_Ha_byteAt_16 : decode u_Ha_byteAt.2.1 16 = .ok (.iload_n 1, 1) := by decide +kernel
theorem d_Ha_byteAt_17 : decode u_Ha_byteAt.2.1 17 = .ok (.iaload, 1) := by decide +kernel
theorem d_Ha_byteAt_18 : decode u_Ha_byteAt.2.1 18 = .ok (.goto 4, 3) := by decide +kernel
theorem d_Ha_byteAt_21 : decode u_Ha_byteAt.2.1 21 = .ok (.iconst (-1), 1) := by decide +kernel
theorem d_Ha_byteAt_22 : decode u_Ha_byteAt.2.1 22 = .ok (.ireturn, 1) := by decide +kernel
theorem d_Ha_isFigure_0 : decode u_Ha_isFigure.2.1 0 = .ok (.iload_n 0, 1) := by decide +kernel
theorem d_Ha_isFigure_1 : decode u_Ha_isFigure.2.1 1 = .ok (.bipush 48, 2) := by decide +kernel
theorem d_Ha_isFigure_3 : decode u_Ha_isFigure.2.1 3 = .ok (.if_icmp .lt 13, 3) := by decide +kernel
theorem d_Ha_isFigure_6 : decode u_Ha_isFigure.2.1 6 = .ok (.iload_n 0, 1) := by decide +kernel
theorem d_Ha_isFigure_7 : decode u_Ha_isFigure.2.1 7 = .ok (.bipush 57, 2) := by decide +kernel
theorem d_Ha_isFigure_9 : decode u_Ha_isFigure.2.1 9 = .ok (.if_icmp .gt 7, 3) := by decide +kernel
theorem d_Ha_isFigure_12 : decode u_Ha_isFigure.2.1 12 = .ok (.iconst 1, 1) := by decide +kernel
theorem d_Ha_isFigure_13 : decode u_Ha_isFigure.2.1 13 = .ok (.goto 4, 3) := by decide +kernel
theorem d_Ha_isFigure_16 : decode u_Ha_isFigure.2.1 16 = .ok (.iconst 0, 1) := by decide +kernel
theorem d_Ha_isFigure_17 : decode u_Ha_isFigure.2.1 17 = .ok (.ireturn, 1) := by decide +kernel
theorem d_He_init_0 : decode u_He_init.2.1 0 = .ok (.aload_n 0, 1) := by decide +kernel
theorem d_He_init_1 : decode u_He_init.2.1 1 = .ok (.invokespecial 3, 3) := by decide +kernel
theorem d_He_init_4 : decode u_He_init.2.1 4 = .ok (.aload_n 0, 1) := by decide +kernel
theorem d_He_init_5 : decode u_He_init.2.1 5 = .ok (.bipush 8, 2) := by decide +kernel
theorem d_He_init_7 : decode u_He_init.2.1 7 = .ok (.newarray .int, 2) := by decide +kernel
theorem d_He_init_9 : decode u_He_init.2.1 9 = .ok (.putfield 9, 3) := by decide +kernel
theorem d_He_init_12 : decode u_He_init.2.1 12 = .ok (.aload_n 0, 1) := by decide +kernel
theorem d_He_init_13 : decode u_He_init.2.1 13 = .ok (.getfield 9, 3) := by decide +kernel
theorem d_He_init_16 : decode u_He_init.2.1 16 = .ok (.bipush 50, 2) := by decide +kernel
theorem d_He_init_18 : decode u_He_init.2.1 18 = .ok (.invokestatic 15, 3) := by decide +kernel
theorem d_He_init_21 : decode u_He_init.2.1 21 = .ok (.return_, 1) := by decide +kernel
theorem d_He_offFrom_0 : decode u_He_offFrom.2.1 0 = .ok (.iconst 0, 1) := by decide +kernel
theorem d_He_offFrom_1 : decode u_He_offFrom.2.1 1 = .ok (.istore_n 2, 1) := by decide +kernel
theorem d_He_offFrom_2 : decode u_He_offFrom.2.1 2 = .ok (.iconst 0, 1) := by decide +kernel
theorem d_He_offFrom_3 : decode u_He_offFrom.2.1 3 = .ok (.istore_n 3, 1) := by decide +kernel
theorem d_He_offFrom_4 : decode u_He_offFrom.2.1 4 = .ok (.iload_n 3, 1) := by decide +kernel
theorem d_He_offFrom_5 : decode u_He_offFrom.2.1 5 = .ok (.bipush 8, 2) := by decide +kernel
theorem d_He_offFrom_7 : decode u_He_offFrom.2.1 7 = .ok (.if_icmp .ge 25, 3) := by decide +kernel
theorem d_He_offFrom_10 : decode u_He_offFrom.2.1 10 = .ok (.iload_n 2, 1) := by decide +kernel
theorem d_He_offFrom_11 : decode u_He_offFrom.2.1 11 = .ok (.aload_n 0, 1) := by decide +kernel
theorem d_He_offFrom_12 : decode u_He_offFrom.2.1 12 = .ok (.getfield 9, 3) := by decide +kernel
theorem d_He_offFrom_15 : decode u_He_offFrom.2.1 15 = .ok (.iload_n 3, 1) := by decide +kernel
theorem d_He_offFrom_16 : decode u_He_offFrom.2.1 16 = .ok (.iaload, 1) := by decide +kernel
theorem d_He_offFrom_17 : decode u_He_offFrom.2.1 17 = .ok (.aload_n 1, 1) := by decide +kernel
theorem d_He_offFrom_18 : decode u_He_offFrom.2.1 18 = .ok (.iload_n 3, 1) := by decide +kernel
theorem d_He_offFrom_19 : decode u_He_offFrom.2.1 19 = .ok (.iaload, 1) := by decide +kernel
theorem d_He_offFrom_20 : decode u_He_offFrom.2.1 20 = .ok (.isub, 1) := by decide +kernel
theorem d_He_offFrom_21 : decode u_He_offFrom.2.1 21 = .ok (.invokestatic 21, 3) := by decide +kernel
theorem d_He_offFrom_24 : decode u_He_offFrom.2.1 24 = .ok (.iadd, 1) := by decide +kernel
theorem d_He_offFrom_25 : decode u_He_offFrom.2.1 25 = .ok (.istore_n 2, 1) := by decide +kernel
theorem d_He_offFrom_26 : decode u_He_offFrom.2.1 26 = .ok (.iinc 3 1, 3) := by decide +kernel
theorem d_He_offFrom_29 : decode u_He_offFrom.2.1 29 = .ok (.goto (-25), 3) := by decide +kernel
theorem d_He_offFrom_32 : decode u_He_offFrom.2.1 32 = .ok (.iload_n 2, 1) := by decide +kernel
theorem d_He_offFrom_33 : decode u_He_offFrom.2.1 33 = .ok (.ireturn, 1) := by decide +kernel
theorem d_Kn_init_0 : decode u_Kn_init.2.1 0 = .ok (.aload_n 0, 1) := by decide +kernel
theorem d_Kn_init_1 : decode u_Kn_init.2.1 1 = .ok (.invokespecial 3, 3) := by decide +kernel
theorem d_Kn_init_4 : decode u_Kn_init.2.1 4 = .ok (.aload_n 0, 1) := by decide +kernel
theorem d_Kn_init_5 : decode u_Kn_init.2.1 5 = .ok (.bipush 8, 2) := by decide +kernel
theorem d_Kn_init_7 : decode u_Kn_init.2.1 7 = .ok (.newarray .int, 2) := by decide +kernel
theorem d_Kn_init_9 : decode u_Kn_init.2.1 9 = .ok (.putfield 9, 3) := by decide +kernel
theorem d_Kn_init_12 : decode u_Kn_init.2.1 12 = .ok (.return_, 1) := by decide +kernel
theorem d_Kn_knows_0 : decode u_Kn_knows.2.1 0 = .ok (.aload_n 0, 1) := by decide +kernel
theorem d_Kn_knows_1 : decode u_Kn_knows.2.1 1 = .ok (.getfield 15, 3) := by decide +kernel
theorem d_Kn_knows_4 : decode u_Kn_knows.2.1 4 = .ok (.iload_n 1, 1) := by decide +kernel
theorem d_Kn_knows_5 : decode u_Kn_knows.2.1 5 = .ok (.ishr, 1) := by decide +kernel
theorem d_Kn_knows_6 : decode u_Kn_knows.2.1 6 = .ok (.iconst 1, 1) := by decide +kernel
theorem d_Kn_knows_7 : decode u_Kn_knows.2.1 7 = .ok (.iand, 1) := by decide +kernel
theorem d_Kn_knows_8 : decode u_Kn_knows.2.1 8 = .ok (.iconst 1, 1) := by decide +kernel
theorem d_Kn_knows_9 : decode u_Kn_knows.2.1 9 = .ok (.if_icmp .ne 7, 3) := by decide +kernel
theorem d_Kn_knows_12 : decode u_Kn_knows.2.1 12 = .ok (.iconst 1, 1) := by decide +kernel
theorem d_Kn_knows_13 : decode u_Kn_knows.2.1 13 = .ok (.goto 4, 3) := by decide +kernel
theorem d_Kn_knows_16 : decode u_Kn_knows.2.1 16 = .ok (.iconst 0, 1) := by decide +kernel
theorem d_Kn_knows_17 : decode u_Kn_knows.2.1 17 = .ok (.ireturn, 1) := by decide +kernel
theorem d_Kn_gaze_0 : decode u_Kn_gaze.2.1 0 = .ok (.iload_n 2, 1) := by decide +kernel
theorem d_Kn_gaze_1 : decode u_Kn_gaze.2.1 1 = .ok (.iload_n 3, 1) := by decide +kernel
theorem d_Kn_gaze_2 : decode u_Kn_gaze.2.1 2 = .ok (.iadd, 1) := by decide +kernel
theorem d_Kn_gaze_3 : decode u_Kn_gaze.2.1 3 = .ok (.istore 4, 2) := by decide +kernel
theorem d_Kn_gaze_5 : decode u_Kn_gaze.2.1 5 = .ok (.iconst 0, 1) := by decide +kernel
theorem d_Kn_gaze_6 : decode u_Kn_gaze.2.1 6 = .ok (.istore 5, 2) := by decide +kernel
theorem d_Kn_gaze_8 : decode u_Kn_gaze.2.1 8 = .ok (.iload 5, 2) := by decide +kernel
theorem d_Kn_gaze_10 : decode u_Kn_gaze.2.1 10 = .ok (.bipush 8, 2) := by decide +kernel
theorem d_Kn_gaze_12 : decode u_Kn_gaze.2.1 12 = .ok (.if_icmp .ge 53, 3) := by decide +kernel
theorem d_Kn_gaze_15 : decode u_Kn_gaze.2.1 15 = .ok (.iload 4, 2) := by decide +kernel
theorem d_Kn_gaze_17 : decode u_Kn_gaze.2.1 17 = .ok (.ifCond .le 48, 3) := by decide +kernel
theorem d_Kn_gaze_20 : decode u_Kn_gaze.2.1 20 = .ok (.aload_n 1, 1) := by decide +kernel
theorem d_Kn_gaze_21 : decode u_Kn_gaze.2.1 21 = .ok (.iload 5, 2) := by decide +kernel
theorem d_Kn_gaze_23 : decode u_Kn_gaze.2.1 23 = .ok (.invokevirtual 19, 3) := by decide +kernel
theorem d_Kn_gaze_26 : decode u_Kn_gaze.2.1 26 = .ok (.ifCond .eq 33, 3) := by decide +kernel
theorem d_Kn_gaze_29 : decode u_Kn_gaze.2.1 29 = .ok (.aload_n 0, 1) := by decide +kernel
theorem d_Kn_gaze_30 : decode u_Kn_gaze.2.1 30 = .ok (.getfield 9, 3) := by decide +kernel
theorem d_Kn_gaze_33 : decode u_Kn_gaze.2.1 33 = .ok (.iload 5, 2) := by decide +kernel
theorem d_Kn_gaze_35 : decode u_Kn_gaze.2.1 35 = .ok (.dup2, 1) := by decide +kernel
theorem d_Kn_gaze_36 : decode u_Kn_gaze.2.1 36 = .ok (.iaload, 1) := by decide +kernel
theorem d_Kn_gaze_37 : decode u_Kn_gaze.2.1 37 = .ok (.aload_n 1, 1) := by decide +kernel
theorem d_Kn_gaze_38 : decode u_Kn_gaze.2.1 38 = .ok (.getfield 25, 3) := by decide +kernel
theorem d_Kn_gaze_41 : decode u_Kn_gaze.2.1 41 = .ok (.iload 5, 2) := by decide +kernel
theorem d_Kn_gaze_43 : decode u_Kn_gaze.2.1 43 = .ok (.iaload, 1) := by decide +kernel
theorem d_Kn_gaze_44 : decode u_Kn_gaze.2.1 44 = .ok (.aload_n 0, 1) := by decide +kernel
theorem d_Kn_gaze_45 : decode u_Kn_gaze.2.1 45 = .ok (.getfield 9, 3) := by decide +kernel
theorem d_Kn_gaze_48 : decode u_Kn_gaze.2.1 48 = .ok (.iload 5, 2) := by decide +kernel
theorem d_Kn_gaze_50 : decode u_Kn_gaze.2.1 50 = .ok (.iaload, 1) := by decide +kernel
theorem d_Kn_gaze_51 : decode u_Kn_gaze.2.1 51 = .ok (.isub, 1) := by decide +kernel
theorem d_Kn_gaze_52 : decode u_Kn_gaze.2.1 52 = .ok (.iload_n 2, 1) := by decide +kernel
theorem d_Kn_gaze_53 : decode u_Kn_gaze.2.1 53 = .ok (.imul, 1) := by decide +kernel
theorem d_Kn_gaze_54 : decode u_Kn_gaze.2.1 54 = .ok (.iload 4, 2) := by decide +kernel
theorem d_Kn_gaze_56 : decode u_Kn_gaze.2.1 56 = .ok (.idiv, 1) := by decide +kernel
theorem d_Kn_gaze_57 : decode u_Kn_gaze.2.1 57 = .ok (.iadd, 1) := by decide +kernel
theorem d_Kn_gaze_58 : decode u_Kn_gaze.2.1 58 = .ok (.iastore, 1) := by decide +kernel
theorem d_Kn_gaze_59 : decode u_Kn_gaze.2.1 59 = .ok (.iinc 5 1, 3) := by decide +kernel
theorem d_Kn_gaze_62 : decode u_Kn_gaze.2.1 62 = .ok (.goto (-54), 3) := by decide +kernel
theorem d_Kn_gaze_65 : decode u_Kn_gaze.2.1 65 = .ok (.return_, 1) := by decide +kernel
theorem d_Kn_weigh_0 : decode u_Kn_weigh.2.1 0 = .ok (.lconst 0, 1) := by decide +kernel
theorem d_Kn_weigh_1 : decode u_Kn_weigh.2.1 1 = .ok (.lstore 4, 2) := by decide +kernel
theorem d_Kn_weigh_3 : decode u_Kn_weigh.2.1 3 = .ok (.lconst 0, 1) := by decide +kernel
theorem d_Kn_weigh_4 : decode u_Kn_weigh.2.1 4 = .ok (.lstore 6, 2) := by decide +kernel
theorem d_Kn_weigh_6 : decode u_Kn_weigh.2.1 6 = .ok (.iconst 0, 1) := by decide +kernel
theorem d_Kn_weigh_7 : decode u_Kn_weigh.2.1 7 = .ok (.istore 8, 2) := by decide +kernel
theorem d_Kn_weigh_9 : decode u_Kn_weigh.2.1 9 = .ok (.iload 8, 2) := by decide +kernel
theorem d_Kn_weigh_11 : decode u_Kn_weigh.2.1 11 = .ok (.bipush 8, 2) := by decide +kernel
theorem d_Kn_weigh_13 : decode u_Kn_weigh.2.1 13 = .ok (.if_icmp .ge 70, 3) := by decide +kernel
theorem d_Kn_weigh_16 : decode u_Kn_weigh.2.1 16 = .ok (.aload_n 1, 1) := by decide +kernel
theorem d_Kn_weigh_17 : decode u_Kn_weigh.2.1 17 = .ok (.iload 8, 2) := by decide +kernel
theorem d_Kn_weigh_19 : decode u_Kn_weigh.2.1 19 = .ok (.invokevirtual 19, 3) := by decide +kernel
theorem d_Kn_weigh_22 : decode u_Kn_weigh.2.1 22 = .ok (.ifCond .eq 55, 3) := by decide +kernel
theorem d_Kn_weigh_25 : decode u_Kn_weigh.2.1 25 = .ok (.aload_n 2, 1) := by decide +kernel
theorem d_Kn_weigh_26 : decode u_Kn_weigh.2.1 26 = .ok (.getfield 28, 3) := by decide +kernel
theorem d_Kn_weigh_29 : decode u_Kn_weigh.2.1 29 = .ok (.iload 8, 2) := by decide +kernel
theorem d_Kn_weigh_31 : decode u_Kn_weigh.2.1 31 = .ok (.iaload, 1) := by decide +kernel
theorem d_Kn_weigh_32 : decode u_Kn_weigh.2.1 32 = .ok (.aload_n 0, 1) := by decide +kernel
theorem d_Kn_weigh_33 : decode u_Kn_weigh.2.1 33 = .ok (.getfield 9, 3) := by decide +kernel
theorem d_Kn_weigh_36 : decode u_Kn_weigh.2.1 36 = .ok (.iload 8, 2) := by decide +kernel
theorem d_Kn_weigh_38 : decode u_Kn_weigh.2.1 38 = .ok (.iaload, 1) := by decide +kernel
theorem d_Kn_weigh_39 : decode u_Kn_weigh.2.1 39 = .ok (.isub, 1) := by decide +kernel
theorem d_Kn_weigh_40 : decode u_Kn_weigh.2.1 40 = .ok (.i2l, 1) := by decide +kernel
theorem d_Kn_weigh_41 : decode u_Kn_weigh.2.1 41 = .ok (.lstore 9, 2) := by decide +kernel
theorem d_Kn_weigh_43 : decode u_Kn_weigh.2.1 43 = .ok (.lload 4, 2) := by decide +kernel
theorem d_Kn_weigh_45 : decode u_Kn_weigh.2.1 45 = .ok (.lload 9, 2) := by decide +kernel
theorem d_Kn_weigh_47 : decode u_Kn_weigh.2.1 47 = .ok (.aload_n 1, 1) := by decide +kernel
theorem d_Kn_weigh_48 : decode u_Kn_weigh.2.1 48 = .ok (.getfield 25, 3) := by decide +kernel
theorem d_Kn_weigh_51 : decode u_Kn_weigh.2.1 51 = .ok (.iload 8, 2) := by decide +kernel
theorem d_Kn_weigh_53 : decode u_Kn_weigh.2.1 53 = .ok (.iaload, 1) := by decide +kernel
theorem d_Kn_weigh_54 : decode u_Kn_weigh.2.1 54 = .ok (.aload_n 0, 1) := by decide +kernel
theorem d_Kn_weigh_55 : decode u_Kn_weigh.2.1 55 = .ok (.getfield 9, 3) := by decide +kernel
theorem d_Kn_weigh_58 : decode u_Kn_weigh.2.1 58 = .ok (.iload 8, 2) := by decide +kernel
theorem d_Kn_weigh_60 : decode u_Kn_weigh.2.1 60 = .ok (.iaload, 1) := by decide +kernel
theorem d_Kn_weigh_61 : decode u_Kn_weigh.2.1 61 = .ok (.isub, 1) := by decide +kernel
theorem d_Kn_weigh_62 : decode u_Kn_weigh.2.1 62 = .ok (.i2l, 1) := by decide +kernel
theorem d_Kn_weigh_63 : decode u_Kn_weigh.2.1 63 = .ok (.lmul, 1) := by decide +kernel
theorem d_Kn_weigh_64 : decode u_Kn_weigh.2.1 64 = .ok (.ladd, 1) := by decide +kernel
theorem d_Kn_weigh_65 : decode u_Kn_weigh.2.1 65 = .ok (.lstore 4, 2) := by decide +kernel
theorem d_Kn_weigh_67 : decode u_Kn_weigh.2.1 67 = .ok (.lload 6, 2) := by decide +kernel
theorem d_Kn_weigh_69 : decode u_Kn_weigh.2.1 69 = .ok (.lload 9, 2) := by decide +kernel
theorem d_Kn_weigh_71 : decode u_Kn_weigh.2.1 71 = .ok (.lload 9, 2) := by decide +kernel
theorem d_Kn_weigh_73 : decode u_Kn_weigh.2.1 73 = .ok (.lmul, 1) := by decide +kernel
theorem d_Kn_weigh_74 : decode u_Kn_weigh.2.1 74 = .ok (.ladd, 1) := by decide +kernel
theorem d_Kn_weigh_75 : decode u_Kn_weigh.2.1 75 = .ok (.lstore 6, 2) := by decide +kernel
theorem d_Kn_weigh_77 : decode u_Kn_weigh.2.1 77 = .ok (.iinc 8 1, 3) := by decide +kernel
theorem d_Kn_weigh_80 : decode u_Kn_weigh.2.1 80 = .ok (.goto (-71), 3) := by decide +kernel
theorem d_Kn_weigh_83 : decode u_Kn_weigh.2.1 83 = .ok (.lload 4, 2) := by decide +kernel
theorem d_Kn_weigh_85 : decode u_Kn_weigh.2.1 85 = .ok (.lconst 0, 1) := by decide +kernel
theorem d_Kn_weigh_86 : decode u_Kn_weigh.2.1 86 = .ok (.lcmp, 1) := by decide +kernel
theorem d_Kn_weigh_87 : decode u_Kn_weigh.2.1 87 = .ok (.ifCond .lt 10, 3) := by decide +kernel
theorem d_Kn_weigh_90 : decode u_Kn_weigh.2.1 90 = .ok (.lload 6, 2) := by decide +kernel
theorem d_Kn_weigh_92 : decode u_Kn_weigh.2.1 92 = .ok (.lconst 0, 1) := by decide +kernel
theorem d_Kn_weigh_93 : decode u_Kn_weigh.2.1 93 = .ok (.lcmp, 1) := by decide +kernel
theorem d_Kn_weigh_94 : decode u_Kn_weigh.2.1 94 = .ok (.ifCond .ne 12, 3) := by decide +kernel
theorem d_Kn_weigh_97 : decode u_Kn_weigh.2.1 97 = .ok (.aload_n 3, 1) := by decide +kernel
theorem d_Kn_weigh_98 : decode u_Kn_weigh.2.1 98 = .ok (.lconst 0, 1) := by decide +kernel
theorem d_Kn_weigh_99 : decode u_Kn_weigh.2.1 99 = .ok (.lconst 1, 1) := by decide +kernel
theorem d_Kn_weigh_100 : decode u_Kn_weigh.2.1 100 = .ok (.invokevirtual 33, 3) := by decide +kernel
theorem d_Kn_weigh_103 : decode u_Kn_weigh.2.1 103 = .ok (.goto 14, 3) := by decide +kernel
theorem d_Kn_weigh_106 : decode u_Kn_weigh.2.1 106 = .ok (.aload_n 3, 1) := by decide +kernel
theorem d_Kn_weigh_107 : decode u_Kn_weigh.2.1 107 = .ok (.lload 4, 2) := by decide +kernel
theorem d_Kn_weigh_109 : decode u_Kn_weigh.2.1 109 = .ok (.lload 4, 2) := by decide +kernel
theorem d_Kn_weigh_111 : decode u_Kn_weigh.2.1 111 = .ok (.lmul, 1) := by decide +kernel
theorem d_Kn_weigh_112 : decode u_Kn_weigh.2.1 112 = .ok (.lload 6, 2) := by decide +kernel
theorem d_Kn_weigh_114 : decode u_Kn_weigh.2.1 114 = .ok (.invokevirtual 33, 3) := by decide +kernel
theorem d_Kn_weigh_117 : decode u_Kn_weigh.2.1 117 = .ok (.return_, 1) := by decide +kernel
theorem d_Sh_init_0 : decode u_Sh_init.2.1 0 = .ok (.aload_n 0, 1) := by decide +kernel
theorem d_Sh_init_1 : decode u_Sh_init.2.1 1 = .ok (.invokespecial 3, 3) := by decide +kernel
theorem d_Sh_init_4 : decode u_Sh_init.2.1 4 = .ok (.aload_n 0, 1) := by decide +kernel
theorem d_Sh_init_5 : decode u_Sh_init.2.1 5 = .ok (.bipush 60, 2) := by decide +kernel
theorem d_Sh_init_7 : decode u_Sh_init.2.1 7 = .ok (.newarray .int, 2) := by decide +kernel
theorem d_Sh_init_9 : decode u_Sh_init.2.1 9 = .ok (.putfield 9, 3) := by decide +kernel
theorem d_Sh_init_12 : decode u_Sh_init.2.1 12 = .ok (.aload_n 0, 1) := by decide +kernel
theorem d_Sh_init_13 : decode u_Sh_init.2.1 13 = .ok (.iconst (-1), 1) := by decide +kernel
theorem d_Sh_init_14 : decode u_Sh_init.2.1 14 = .ok (.putfield 15, 3) := by decide +kernel
theorem d_Sh_init_17 : decode u_Sh_init.2.1 17 = .ok (.return_, 1) := by decide +kernel
theorem d_Sh_isLost_0 : decode u_Sh_isLost.2.1 0 = .ok (.aload_n 0, 1) := by decide +kernel
theorem d_Sh_isLost_1 : decode u_Sh_isLost.2.1 1 = .ok (.getfield 15, 3) := by decide +kernel
theorem d_Sh_isLost_4 : decode u_Sh_isLost.2.1 4 = .ok (.iconst (-1), 1) := by decide +kernel
theorem d_Sh_isLost_5 : decode u_Sh_isLost.2.1 5 = .ok (.if_icmp .ne 7, 3) := by decide +kernel
theorem d_Sh_isLost_8 : decode u_Sh_isLost.2.1 8 = .ok (.iconst 1, 1) := by decide +kernel
theorem d_Sh_isLost_9 : decode u_Sh_isLost.2.1 9 = .ok (.goto 4, 3) := by decide +kernel
theorem d_Sh_isLost_12 : decode u_Sh_isLost.2.1 12 = .ok (.iconst 0, 1) := by decide +kernel
theorem d_Sh_isLost_13 : decode u_Sh_isLost.2.1 13 = .ok (.ireturn, 1) := by decide +kernel
theorem d_Sh_begin_0 : decode u_Sh_begin.2.1 0 = .ok (.aload_n 0, 1) := by decide +kernel
theorem d_Sh_begin_1 : decode u_Sh_begin.2.1 1 = .ok (.iload_n 1, 1) := by decide +kernel
theorem d_Sh_begin_2 : decode u_Sh_begin.2.1 2 = .ok (.putfield 15, 3) := by decide +kernel
theorem d_Sh_begin_5 : decode u_Sh_begin.2.1 5 = .ok (.aload_n 0, 1) := by decide +kernel
theorem d_Sh_begin_6 : decode u_Sh_begin.2.1 6 = .ok (.iload_n 2, 1) := by decide +kernel
theorem d_Sh_begin_7 : decode u_Sh_begin.2.1 7 = .ok (.putfield 19, 3) := by decide +kernel
theorem d_Sh_begin_10 : decode u_Sh_begin.2.1 10 = .ok (.aload_n 0, 1) := by decide +kernel
theorem d_Sh_begin_11 : decode u_Sh_begin.2.1 11 = .ok (.getfield 9, 3) := by decide +kernel
theorem d_Sh_begin_14 : decode u_Sh_begin.2.1 14 = .ok (.iconst 0, 1) := by decide +kernel
theorem d_Sh_begin_15 : decode u_Sh_begin.2.1 15 = .ok (.invokestatic 22, 3) := by decide +kernel
theorem d_Sh_begin_18 : decode u_Sh_begin.2.1 18 = .ok (.return_, 1) := by decide +kernel
theorem d_Sh_hasRun_0 : decode u_Sh_hasRun.2.1 0 = .ok (.iload_n 1, 1) := by decide +kernel
theorem d_Sh_hasRun_1 : decode u_Sh_hasRun.2.1 1 = .ok (.ifCond .lt 29, 3) := by decide +kernel
theorem d_Sh_hasRun_4 : decode u_Sh_hasRun.2.1 4 = .ok (.iload_n 2, 1) := by decide +kernel
theorem d_Sh_hasRun_5 : decode u_Sh_hasRun.2.1 5 = .ok (.ifCond .lt 25, 3) := by decide +kernel
theorem d_Sh_hasRun_8 : decode u_Sh_hasRun.2.1 8 = .ok (.iload_n 2, 1) := by decide +kernel
theorem d_Sh_hasRun_9 : decode u_Sh_hasRun.2.1 9 = .ok (.aload_n 0, 1) := by decide +kernel
theorem d_Sh_hasRun_10 : decode u_Sh_hasRun.2.1 10 = .ok (.getfield 19, 3) := by decide +kernel
theorem d_Sh_hasRun_13 : decode u_Sh_hasRun.2.1 13 = .ok (.if_icmp .gt 17, 3) := by decide +kernel
theorem d_Sh_hasRun_16 : decode u_Sh_hasRun.2.1 16 = .ok (.iload_n 1, 1) := by decide +kernel
theorem d_Sh_hasRun_17 : decode u_Sh_hasRun.2.1 17 = .ok (.aload_n 0, 1) := by decide +kernel
theorem d_Sh_hasRun_18 : decode u_Sh_hasRun.2.1 18 = .ok (.getfield 19, 3) := by decide +kernel
theorem d_Sh_hasRun_21 : decode u_Sh_hasRun.2.1 21 = .ok (.iload_n 2, 1) := by decide +kernel
theorem d_Sh_hasRun_22 : decode u_Sh_hasRun.2.1 22 = .ok (.isub, 1) := by decide +kernel
theorem d_Sh_hasRun_23 : decode u_Sh_hasRun.2.1 23 = .ok (.if_icmp .gt 7, 3) := by decide +kernel
theorem d_Sh_hasRun_26 : decode u_Sh_hasRun.2.1 26 = .ok (.iconst 1, 1) := by decide +kernel
theorem d_Sh_hasRun_27 : decode u_Sh_hasRun.2.1 27 = .ok (.goto 4, 3) := by decide +kernel
theorem d_Sh_hasRun_30 : decode u_Sh_hasRun.2.1 30 = .ok (.iconst 0, 1) := by decide +kernel
theorem d_Sh_hasRun_31 : decode u_Sh_hasRun.2.1 31 = .ok (.ireturn, 1) := by decide +kernel
theorem d_Sh_put_0 : decode u_Sh_put.2.1 0 = .ok (.iload_n 1, 1) := by decide +kernel
theorem d_Sh_put_1 : decode u_Sh_put.2.1 1 = .ok (.ifCond .lt 17, 3) := by decide +kernel
theorem d_Sh_put_4 : decode u_Sh_put.2.1 4 = .ok (.iload_n 1, 1) := by decide +kernel
theorem d_Sh_put_5 : decode u_Sh_put.2.1 5 = .ok (.aload_n 0, 1) := by decide +kernel
theorem d_Sh_put_6 : decode u_Sh_put.2.1 6 = .ok (.getfield 19, 3) := by decide +kernel
theorem d_Sh_put_9 : decode u_Sh_put.2.1 9 = .ok (.if_icmp .ge 9, 3) := by decide +kernel
theorem d_Sh_put_12 : decode u_Sh_put.2.1 12 = .ok (.iload_n 1, 1) := by decide +kernel
theorem d_Sh_put_13 : decode u_Sh_put.2.1 13 = .ok (.bipush 60, 2) := by decide +kernel
theorem d_Sh_put_15 : decode u_Sh_put.2.1 15 = .ok (.if_icmp .lt 4, 3) := by decide +kernel
theorem d_Sh_put_18 : decode u_Sh_put.2.1 18 = .ok (.return_, 1) := by decide +kernel
theorem d_Sh_put_19 : decode u_Sh_put.2.1 19 = .ok (.aload_n 0, 1) := by decide +kernel
theorem d_Sh_put_20 : decode u_Sh_put.2.1 20 = .ok (.getfield 15, 3) := by decide +kernel
theorem d_Sh_put_23 : decode u_Sh_put.2.1 23 = .ok (.ifCond .ne 14, 3) := by decide +kernel
theorem d_Sh_put_26 : decode u_Sh_put.2.1 26 = .ok (.aload_n 0, 1) := by decide +kernel
theorem d_Sh_put_27 : decode u_Sh_put.2.1 27 = .ok (.getfield 9, 3) := by decide +kernel
theorem d_Sh_put_30 : decode u_Sh_put.2.1 30 = .ok (.iload_n 1, 1) := by decide +kernel
theorem d_Sh_put_31 : decode u_Sh_put.2.1 31 = .ok (.iload_n 2, 1) := by decide +kernel
theorem d_Sh_put_32 : decode u_Sh_put.2.1 32 = .ok (.i2b, 1) := by decide +kernel
theorem d_Sh_put_33 : decode u_Sh_put.2.1 33 = .ok (.iastore, 1) := by decide +kernel
theorem d_Sh_put_34 : decode u_Sh_put.2.1 34 = .ok (.goto 29, 3) := by decide +kernel
theorem d_Sh_put_37 : decode u_Sh_put.2.1 37 = .ok (.aload_n 0, 1) := by decide +kernel
theorem d_Sh_put_38 : decode u_Sh_put.2.1 38 = .ok (.getfield 15, 3) := by decide +kernel
theorem d_Sh_put_41 : decode u_Sh_put.2.1 41 = .ok (.iconst 1, 1) := by decide +kernel
theorem d_Sh_put_42 : decode u_Sh_put.2.1 42 = .ok (.if_icmp .ne 14, 3) := by decide +kernel
theorem d_Sh_put_45 : decode u_Sh_put.2.1 45 = .ok (.aload_n 0, 1) := by decide +kernel
theorem d_Sh_put_46 : decode u_Sh_put.2.1 46 = .ok (.getfield 9, 3) := by decide +kernel
theorem d_Sh_put_49 : decode u_Sh_put.2.1 49 = .ok (.iload_n 1, 1) := by decide +kernel
theorem d_Sh_put_50 : decode u_Sh_put.2.1 50 = .ok (.iload_n 2, 1) := by decide +kernel
theorem d_Sh_put_51 : decode u_Sh_put.2.1 51 = .ok (.i2s, 1) := by decide +kernel
theorem d_Sh_put_52 : decode u_Sh_put.2.1 52 = .ok (.iastore, 1) := by decide +kernel
theorem d_Sh_put_53 : decode u_Sh_put.2.1 53 = .ok (.goto 10, 3) := by decide +kernel
theorem d_Sh_put_56 : decode u_Sh_put.2.1 56 = .ok (.aload_n 0, 1) := by decide +kernel
theorem d_Sh_put_57 : decode u_Sh_put.2.1 57 = .ok (.getfield 9, 3) := by decide +kernel
theorem d_Sh_put_60 : decode u_Sh_put.2.1 60 = .ok (.iload_n 1, 1) := by decide +kernel
theorem d_Sh_put_61 : decode u_Sh_put.2.1 61 = .ok (.iload_n 2, 1) := by decide +kernel
theorem d_Sh_put_62 : decode u_Sh_put.2.1 62 = .ok (.iastore, 1) := by decide +kernel
theorem d_Sh_put_63 : decode u_Sh_put.2.1 63 = .ok (.return_, 1) := by decide +kernel
theorem d_Sk_init_0 : decode u_Sk_init.2.1 0 = .ok (.aload_n 0, 1) := by decide +kernel
theorem d_Sk_init_1 : decode u_Sk_init.2.1 1 = .ok (.invokespecial 3, 3) := by decide +kernel
theorem d_Sk_init_4 : decode u_Sk_init.2.1 4 = .ok (.aload_n 0, 1) := by decide +kernel
theorem d_Sk_init_5 : decode u_Sk_init.2.1 5 = .ok (.bipush 8, 2) := by decide +kernel
theorem d_Sk_init_7 : decode u_Sk_init.2.1 7 = .ok (.newarray .int, 2) := by decide +kernel
theorem d_Sk_init_9 : decode u_Sk_init.2.1 9 = .ok (.putfield 9, 3) := by decide +kernel
theorem d_Sk_init_12 : decode u_Sk_init.2.1 12 = .ok (.aload_n 0, 1) := by decide +kernel
theorem d_Sk_init_13 : decode u_Sk_init.2.1 13 = .ok (.bipush 8, 2) := by decide +kernel
theorem d_Sk_init_15 : decode u_Sk_init.2.1 15 = .ok (.newarray .int, 2) := by decide +kernel
theorem d_Sk_init_17 : decode u_Sk_init.2.1 17 = .ok (.putfield 15, 3) := by decide +kernel
theorem d_Sk_init_20 : decode u_Sk_init.2.1 20 = .ok (.aload_n 0, 1) := by decide +kernel
theorem d_Sk_init_21 : decode u_Sk_init.2.1 21 = .ok (.iconst (-1), 1) := by decide +kernel
theorem d_Sk_init_22 : decode u_Sk_init.2.1 22 = .ok (.putfield 18, 3) := by decide +kernel
theorem d_Sk_init_25 : decode u_Sk_init.2.1 25 = .ok (.return_, 1) := by decide +kernel
theorem d_Sk_has_0 : decode u_Sk_has.2.1 0 = .ok (.aload_n 0, 1) := by decide +kernel
theorem d_Sk_has_1 : decode u_Sk_has.2.1 1 = .ok (.getfield 15, 3) := by decide +kernel
theorem d_Sk_has_4 : decode u_Sk_has.2.1 4 = .ok (.iload_n 1, 1) := by decide +kernel
theorem d_Sk_has_5 : decode u_Sk_has.2.1 5 = .ok (.iaload, 1) := by decide +kernel
theorem d_Sk_has_6 : decode u_Sk_has.2.1 6 = .ok (.sipush (-9999), 3) := by decide +kernel
theorem d_Sk_has_9 : decode u_Sk_has.2.1 9 = .ok (.if_icmp .eq 7, 3) := by decide +kernel
theorem d_Sk_has_12 : decode u_Sk_has.2.1 12 = .ok (.iconst 1, 1) := by decide +kernel
theorem d_Sk_has_13 : decode u_Sk_has.2.1 13 = .ok (.goto 4, 3) := by decide +kernel
theorem d_Sk_has_16 : decode u_Sk_has.2.1 16 = .ok (.iconst 0, 1) := by decide +kernel
theorem d_Sk_has_17 : decode u_Sk_has.2.1 17 = .ok (.ireturn, 1) := by decide +kernel
theorem d_Sk_isOffByMoreThan_0 : decode u_Sk_isOffByMoreThan.2.1 0 = .ok (.iconst 0, 1) := by decide +kernel
theorem d_Sk_isOffByMoreThan_1 : decode u_Sk_isOffByMoreThan.2.1 1 = .ok (.istore_n 2, 1) := by decide +kernel
theorem d_Sk_isOffByMoreThan_2 : decode u_Sk_isOffByMoreThan.2.1 2 = .ok (.iload_n 2, 1) := by decide +kernel
theorem d_Sk_isOffByMoreThan_3 : decode u_Sk_isOffByMoreThan.2.1 3 = .ok (.bipush 8, 2) := by decide +kernel
theorem d_Sk_isOffByMoreThan_5 : decode u_Sk_isOffByMoreThan.2.1 5 = .ok (.if_icmp .ge 39, 3) := by decide +kernel
theorem d_Sk_isOffByMoreThan_8 : decode u_Sk_isOffByMoreThan.2.1 8 = .ok (.aload_n 0, 1) := by decide +kernel
theorem d_Sk_isOffByMoreThan_9 : decode u_Sk_isOffByMoreThan.2.1 9 = .ok (.iload_n 2, 1) := by decide +kernel
theorem d_Sk_isOffByMoreThan_10 : decode u_Sk_isOffByMoreThan.2.1 10 = .ok (.invokevirtual 22, 3) := by decide +kernel
theorem d_Sk_isOffByMoreThan_13 : decode u_Sk_isOffByMoreThan.2.1 13 = .ok (.ifCond .eq 25, 3) := by decide +kernel
theorem d_Sk_isOffByMoreThan_16 : decode u_Sk_isOffByMoreThan.2.1 16 = .ok (.aload_n 0, 1) := by decide +kernel
theorem d_Sk_isOffByMoreThan_17 : decode u_Sk_isOffByMoreThan.2.1 17 = .ok (.getfield 15, 3) := by decide +kernel
theorem d_Sk_isOffByMoreThan_20 : decode u_Sk_isOffByMoreThan.2.1 20 = .ok (.iload_n 2, 1) := by decide +kernel
theorem d_Sk_isOffByMoreThan_21 : decode u_Sk_isOffByMoreThan.2.1 21 = .ok (.iaload, 1) := by decide +kernel
theorem d_Sk_isOffByMoreThan_22 : decode u_Sk_isOffByMoreThan.2.1 22 = .ok (.aload_n 0, 1) := by decide +kernel
theorem d_Sk_isOffByMoreThan_23 : decode u_Sk_isOffByMoreThan.2.1 23 = .ok (.getfield 9, 3) := by decide +kernel
theorem d_Sk_isOffByMoreThan_26 : decode u_Sk_isOffByMoreThan.2.1 26 = .ok (.iload_n 2, 1) := by decide +kernel
theorem d_Sk_isOffByMoreThan_27 : decode u_Sk_isOffByMoreThan.2.1 27 = .ok (.iaload, 1) := by decide +kernel
theorem d_Sk_isOffByMoreThan_28 : decode u_Sk_isOffByMoreThan.2.1 28 = .ok (.isub, 1) := by decide +kernel
theorem d_Sk_isOffByMoreThan_29 : decode u_Sk_isOffByMoreThan.2.1 29 = .ok (.invokestatic 26, 3) := by decide +kernel
theorem d_Sk_isOffByMoreThan_32 : decode u_Sk_isOffByMoreThan.2.1 32 = .ok (.iload_n 1, 1) := by decide +kernel
theorem d_Sk_isOffByMoreThan_33 : decode u_Sk_isOffByMoreThan.2.1 33 = .ok (.if_icmp .le 5, 3) := by decide +kernel
theorem d_Sk_isOffByMoreThan_36 : decode u_Sk_isOffByMoreThan.2.1 36 = .ok (.iconst 1, 1) := by decide +kernel
theorem d_Sk_isOffByMoreThan_37 : decode u_Sk_isOffByMoreThan.2.1 37 = .ok (.ireturn, 1) := by decide +kernel
theorem d_Sk_isOffByMoreThan_38 : decode u_Sk_isOffByMoreThan.2.1 38 = .ok (.iinc 2 1, 3) := by decide +kernel
theorem d_Sk_isOffByMoreThan_41 : decode u_Sk_isOffByMoreThan.2.1 41 = .ok (.goto (-39), 3) := by decide +kernel
theorem d_Sk_isOffByMoreThan_44 : decode u_Sk_isOffByMoreThan.2.1 44 = .ok (.iconst 0, 1) := by decide +kernel
theorem d_Sk_isOffByMoreThan_45 : decode u_Sk_isOffByMoreThan.2.1 45 = .ok (.ireturn, 1) := by decide +kernel
theorem d_Sk_distanceTo_0 : decode u_Sk_distanceTo.2.1 0 = .ok (.iconst 0, 1) := by decide +kernel
theorem d_Sk_distanceTo_1 : decode u_Sk_distanceTo.2.1 1 = .ok (.istore_n 3, 1) := by decide +kernel
theorem d_Sk_distanceTo_2 : decode u_Sk_distanceTo.2.1 2 = .ok (.iconst 0, 1) := by decide +kernel
theorem d_Sk_distanceTo_3 : decode u_Sk_distanceTo.2.1 3 = .ok (.istore 4, 2) := by decide +kernel
theorem d_Sk_distanceTo_5 : decode u_Sk_distanceTo.2.1 5 = .ok (.iload 4, 2) := by decide +kernel
theorem d_Sk_distanceTo_7 : decode u_Sk_distanceTo.2.1 7 = .ok (.bipush 8, 2) := by decide +kernel
theorem d_Sk_distanceTo_9 : decode u_Sk_distanceTo.2.1 9 = .ok (.if_icmp .ge 73, 3) := by decide +kernel
theorem d_Sk_distanceTo_12 : decode u_Sk_distanceTo.2.1 12 = .ok (.aload_n 0, 1) := by decide +kernel
theorem d_Sk_distanceTo_13 : decode u_Sk_distanceTo.2.1 13 = .ok (.iload 4, 2) := by decide +kernel
theorem d_Sk_distanceTo_15 : decode u_Sk_distanceTo.2.1 15 = .ok (.invokevirtual 22, 3) := by decide +kernel
theorem d_Sk_distanceTo_18 : decode u_Sk_distanceTo.2.1 18 = .ok (.ifCond .eq 36, 3) := by decide +kernel
theorem d_Sk_distanceTo_21 : decode u_Sk_distanceTo.2.1 21 = .ok (.aload_n 1, 1) := by decide +kernel
theorem d_Sk_distanceTo_22 : decode u_Sk_distanceTo.2.1 22 = .ok (.iload 4, 2) := by decide +kernel
theorem d_Sk_distanceTo_24 : decode u_Sk_distanceTo.2.1 24 = .ok (.invokevirtual 22, 3) := by decide +kernel
theorem d_Sk_distanceTo_27 : decode u_Sk_distanceTo.2.1 27 = .ok (.ifCond .eq 27, 3) := by decide +kernel
theorem d_Sk_distanceTo_30 : decode u_Sk_distanceTo.2.1 30 = .ok (.iload_n 3, 1) := by decide +kernel
theorem d_Sk_distanceTo_31 : decode u_Sk_distanceTo.2.1 31 = .ok (.aload_n 0, 1) := by decide +kernel
theorem d_Sk_distanceTo_32 : decode u_Sk_distanceTo.2.1 32 = .ok (.getfield 15, 3) := by decide +kernel
theorem d_Sk_distanceTo_35 : decode u_Sk_distanceTo.2.1 35 = .ok (.iload 4, 2) := by decide +kernel
theorem d_Sk_distanceTo_37 : decode u_Sk_distanceTo.2.1 37 = .ok (.iaload, 1) := by decide +kernel
theorem d_Sk_distanceTo_38 : decode u_Sk_distanceTo.2.1 38 = .ok (.aload_n 1, 1) := by decide +kernel
theorem d_Sk_distanceTo_39 : decode u_Sk_distanceTo.2.1 39 = .ok (.getfield 15, 3) := by decide +kernel
theorem d_Sk_distanceTo_42 : decode u_Sk_distanceTo.2.1 42 = .ok (.iload 4, 2) := by decide +kernel
theorem d_Sk_distanceTo_44 : decode u_Sk_distanceTo.2.1 44 = .ok (.iaload, 1) := by decide +kernel
theorem d_Sk_distanceTo_45 : decode u_Sk_distanceTo.2.1 45 = .ok (.isub, 1) := by decide +kernel
theorem d_Sk_distanceTo_46 : decode u_Sk_distanceTo.2.1 46 = .ok (.invokestatic 26, 3) := by decide +kernel
theorem d_Sk_distanceTo_49 : decode u_Sk_distanceTo.2.1 49 = .ok (.iadd, 1) := by decide +kernel
theorem d_Sk_distanceTo_50 : decode u_Sk_distanceTo.2.1 50 = .ok (.istore_n 3, 1) := by decide +kernel
theorem d_Sk_distanceTo_51 : decode u_Sk_distanceTo.2.1 51 = .ok (.goto 25, 3) := by decide +kernel
theorem d_Sk_distanceTo_54 : decode u_Sk_distanceTo.2.1 54 = .ok (.aload_n 0, 1) := by decide +kernel
theorem d_Sk_distanceTo_55 : decode u_Sk_distanceTo.2.1 55 = .ok (.iload 4, 2) := by decide +kernel
theorem d_Sk_distanceTo_57 : decode u_Sk_distanceTo.2.1 57 = .ok (.invokevirtual 22, 3) := by decide +kernel
theorem d_Sk_distanceTo_60 : decode u_Sk_distanceTo.2.1 60 = .ok (.ifCond .ne 12, 3) := by decide +kernel
theorem d_Sk_distanceTo_63 : decode u_Sk_distanceTo.2.1 63 = .ok (.aload_n 1, 1) := by decide +kernel
theorem d_Sk_distanceTo_64 : decode u_Sk_distanceTo.2.1 64 = .ok (.iload 4, 2) := by decide +kernel
theorem d_Sk_distanceTo_66 : decode u_Sk_distanceTo.2.1 66 = .ok (.invokevirtual 22, 3) := by decide +kernel
theorem d_Sk_distanceTo_69 : decode u_Sk_distanceTo.2.1 69 = .ok (.ifCond .eq 7, 3) := by decide +kernel
theorem d_Sk_distanceTo_72 : decode u_Sk_distanceTo.2.1 72 = .ok (.iload_n 3, 1) := by decide +kernel
theorem d_Sk_distanceTo_73 : decode u_Sk_distanceTo.2.1 73 = .ok (.iload_n 2, 1) := by decide +kernel
theorem d_Sk_distanceTo_74 : decode u_Sk_distanceTo.2.1 74 = .ok (.iadd, 1) := by decide +kernel
theorem d_Sk_distanceTo_75 : decode u_Sk_distanceTo.2.1 75 = .ok (.istore_n 3, 1) := by decide +kernel
theorem d_Sk_distanceTo_76 : decode u_Sk_distanceTo.2.1 76 = .ok (.iinc 4 1, 3) := by decide +kernel
theorem d_Sk_distanceTo_79 : decode u_Sk_distanceTo.2.1 79 = .ok (.goto (-74), 3) := by decide +kernel
theorem d_Sk_distanceTo_82 : decode u_Sk_distanceTo.2.1 82 = .ok (.iload_n 3, 1) := by decide +kernel
theorem d_Sk_distanceTo_83 : decode u_Sk_distanceTo.2.1 83 = .ok (.ireturn, 1) := by decide +kernel
theorem d_C_init_0 : decode u_C_init.2.1 0 = .ok (.aload_n 0, 1) := by decide +kernel
theorem d_C_init_1 : decode u_C_init.2.1 1 = .ok (.invokespecial 3, 3) := by decide +kernel
theorem d_C_init_4 : decode u_C_init.2.1 4 = .ok (.aload_n 0, 1) := by decide +kernel
theorem d_C_init_5 : decode u_C_init.2.1 5 = .ok (.bipush 8, 2) := by decide +kernel
theorem d_C_init_7 : decode u_C_init.2.1 7 = .ok (.anewarray 9, 3) := by decide +kernel
theorem d_C_init_10 : decode u_C_init.2.1 10 = .ok (.putfield 11, 3) := by decide +kernel
theorem d_C_init_13 : decode u_C_init.2.1 13 = .ok (.aload_n 0, 1) := by decide +kernel
theorem d_C_init_14 : decode u_C_init.2.1 14 = .ok (.iconst 4, 1) := by decide +kernel
theorem d_C_init_15 : decode u_C_init.2.1 15 = .ok (.anewarray 15, 3) := by decide +kernel
theorem d_C_init_18 : decode u_C_init.2.1 18 = .ok (.putfield 17, 3) := by decide +kernel
theorem d_C_init_21 : decode u_C_init.2.1 21 = .ok (.aload_n 0, 1) := by decide +kernel
theorem d_C_init_22 : decode u_C_init.2.1 22 = .ok (.bipush 30, 2) := by decide +kernel
theorem d_C_init_24 : decode u_C_init.2.1 24 = .ok (.anewarray 21, 3) := by decide +kernel
theorem d_C_init_27 : decode u_C_init.2.1 27 = .ok (.putfield 23, 3) := by decide +kernel
theorem d_C_init_30 : decode u_C_init.2.1 30 = .ok (.aload_n 0, 1) := by decide +kernel
theorem d_C_init_31 : decode u_C_init.2.1 31 = .ok (.iconst 4, 1) := by decide +kernel
theorem d_C_init_32 : decode u_C_init.2.1 32 = .ok (.anewarray 27, 3) := by decide +kernel
theorem d_C_init_35 : decode u_C_init.2.1 35 = .ok (.putfield 29, 3) := by decide +kernel
theorem d_C_init_38 : decode u_C_init.2.1 38 = .ok (.aload_n 0, 1) := by decide +kernel
theorem d_C_init_39 : decode u_C_init.2.1 39 = .ok (.iconst 4, 1) := by decide +kernel
theorem d_C_init_40 : decode u_C_init.2.1 40 = .ok (.anewarray 33, 3) := by decide +kernel
theorem d_C_init_43 : decode u_C_init.2.1 43 = .ok (.putfield 35, 3) := by decide +kernel
theorem d_C_init_46 : decode u_C_init.2.1 46 = .ok (.aload_n 0, 1) := by decide +kernel
theorem d_C_init_47 : decode u_C_init.2.1 47 = .ok (.bipush 60, 2) := by decide +kernel
theorem d_C_init_49 : decode u_C_init.2.1 49 = .ok (.putfield 39, 3) := by decide +kernel
theorem d_C_init_52 : decode u_C_init.2.1 52 = .ok (.aload_n 0, 1) := by decide +kernel
theorem d_C_init_53 : decode u_C_init.2.1 53 = .ok (.bipush 10, 2) := by decide +kernel
theorem d_C_init_55 : decode u_C_init.2.1 55 = .ok (.putfield 43, 3) := by decide +kernel
theorem d_C_init_58 : decode u_C_init.2.1 58 = .ok (.aload_n 0, 1) := by decide +kernel
theorem d_C_init_59 : decode u_C_init.2.1 59 = .ok (.bipush 20, 2) := by decide +kernel
theorem d_C_init_61 : decode u_C_init.2.1 61 = .ok (.putfield 46, 3) := by decide +kernel
theorem d_C_init_64 : decode u_C_init.2.1 64 = .ok (.aload_n 0, 1) := by decide +kernel
theorem d_C_init_65 : decode u_C_init.2.1 65 = .ok (.new 21, 3) := by decide +kernel
theorem d_C_init_68 : decode u_C_init.2.1 68 = .ok (.dup, 1) := by decide +kernel
theorem d_C_init_69 : decode u_C_init.2.1 69 = .ok (.invokespecial 49, 3) := by decide +kernel
theorem d_C_init_72 : decode u_C_init.2.1 72 = .ok (.putfield 50, 3) := by decide +kernel
theorem d_C_init_75 : decode u_C_init.2.1 75 = .ok (.aload_n 0, 1) := by decide +kernel
theorem d_C_init_76 : decode u_C_init.2.1 76 = .ok (.bipush 8, 2) := by decide +kernel
theorem d_C_init_78 : decode u_C_init.2.1 78 = .ok (.newarray .int, 2) := by decide +kernel
theorem d_C_init_80 : decode u_C_init.2.1 80 = .ok (.putfield 54, 3) := by decide +kernel
theorem d_C_init_83 : decode u_C_init.2.1 83 = .ok (.aload_n 0, 1) := by decide +kernel
theorem d_C_init_84 : decode u_C_init.2.1 84 = .ok (.bipush 8, 2) := by decide +kernel
theorem d_C_init_86 : decode u_C_init.2.1 86 = .ok (.newarray .int, 2) := by decide +kernel
theorem d_C_init_88 : decode u_C_init.2.1 88 = .ok (.putfield 58, 3) := by decide +kernel
theorem d_C_init_91 : decode u_C_init.2.1 91 = .ok (.aload_n 0, 1) := by decide +kernel
theorem d_C_init_92 : decode u_C_init.2.1 92 = .ok (.new 61, 3) := by decide +kernel
theorem d_C_init_95 : decode u_C_init.2.1 95 = .ok (.dup, 1) := by decide +kernel
theorem d_C_init_96 : decode u_C_init.2.1 96 = .ok (.invokespecial 63, 3) := by decide +kernel
theorem d_C_init_99 : decode u_C_init.2.1 99 = .ok (.putfield 64, 3) := by decide +kernel
theorem d_C_init_102 : decode u_C_init.2.1 102 = .ok (.aload_n 0, 1) := by decide +kernel
theorem d_C_init_103 : decode u_C_init.2.1 103 = .ok (.new 61, 3) := by decide +kernel
theorem d_C_init_106 : decode u_C_init.2.1 106 = .ok (.dup, 1) := by decide +kernel
theorem d_C_init_107 : decode u_C_init.2.1 107 = .ok (.invokespecial 63, 3) := by decide +kernel
theorem d_C_init_110 : decode u_C_init.2.1 110 = .ok (.putfield 68, 3) := by decide +kernel
theorem d_C_init_113 : decode u_C_init.2.1 113 = .ok (.iconst 0, 1) := by decide +kernel
theorem d_C_init_114 : decode u_C_init.2.1 114 = .ok (.istore_n 1, 1) := by decide +kernel
theorem d_C_init_115 : decode u_C_init.2.1 115 = .ok (.iload_n 1, 1) := by decide +kernel
theorem d_C_init_116 : decode u_C_init.2.1 116 = .ok (.bipush 8, 2) := by decide +kernel
theorem d_C_init_118 : decode u_C_init.2.1 118 = .ok (.if_icmp .ge 22, 3) := by decide +kernel
theorem d_C_init_121 : decode u_C_init.2.1 121 = .ok (.aload_n 0, 1) := by decide +kernel
theorem d_C_init_122 : decode u_C_init.2.1 122 = .ok (.getfield 11, 3) := by decide +kernel
theorem d_C_init_125 : decode u_C_init.2.1 125 = .ok (.iload_n 1, 1) := by decide +kernel
theorem d_C_init_126 : decode u_C_init.2.1 126 = .ok (.new 9, 3) := by decide +kernel
theorem d_C_init_129 : decode u_C_init.2.1 129 = .ok (.dup, 1) := by decide +kernel
theorem d_C_init_130 : decode u_C_init.2.1 130 = .ok (.invokespecial 71, 3) := by decide +kernel
theorem d_C_init_133 : decode u_C_init.2.1 133 = .ok (.aastore, 1) := by decide +kernel
theorem d_C_init_134 : decode u_C_init.2.1 134 = .ok (.iinc 1 1, 3) := by decide +kernel
theorem d_C_init_137 : decode u_C_init.2.1 137 = .ok (.goto (-22), 3) := by decide +kernel
theorem d_C_init_140 : decode u_C_init.2.1 140 = .ok (.iconst 0, 1) := by decide +kernel
theorem d_C_init_141 : decode u_C_init.2.1 141 = .ok (.istore_n 1, 1) := by decide +kernel
theorem d_C_init_142 : decode u_C_init.2.1 142 = .ok (.iload_n 1, 1) := by decide +kernel
theorem d_C_init_143 : decode u_C_init.2.1 143 = .ok (.iconst 4, 1) := by decide +kernel
theorem d_C_init_144 : decode u_C_init.2.1 144 = .ok (.if_icmp .ge 22, 3) := by decide +kernel
theorem d_C_init_147 : decode u_C_init.2.1 147 = .ok (.aload_n 0, 1) := by decide +kernel
theorem d_C_init_148 : decode u_C_init.2.1 148 = .ok (.getfield 17, 3) := by decide +kernel
theorem d_C_init_151 : decode u_C_init.2.1 151 = .ok (.iload_n 1, 1) := by decide +kernel
theorem d_C_init_152 : decode u_C_init.2.1 152 = .ok (.new 15, 3) := by decide +kernel
theorem d_C_init_155 : decode u_C_init.2.1 155 = .ok (.dup, 1) := by decide +kernel
theorem d_C_init_156 : decode u_C_init.2.1 156 = .ok (.invokespecial 72, 3) := by decide +kernel
theorem d_C_init_159 : decode u_C_init.2.1 159 = .ok (.aastore, 1) := by decide +kernel
theorem d_C_init_160 : decode u_C_init.2.1 160 = .ok (.iinc 1 1, 3) := by decide +kernel
theorem d_C_init_163 : decode u_C_init.2.1 163 = .ok (.goto (-21), 3) := by decide +kernel
theorem d_C_init_166 : decode u_C_init.2.1 166 = .ok (.iconst 0, 1) := by decide +kernel
theorem d_C_init_167 : decode u_C_init.2.1 167 = .ok (.istore_n 1, 1) := by decide +kernel
theorem d_C_init_168 : decode u_C_init.2.1 168 = .ok (.iload_n 1, 1) := by decide +kernel
theorem d_C_init_169 : decode u_C_init.2.1 169 = .ok (.bipush 30, 2) := by decide +kernel
theorem d_C_init_171 : decode u_C_init.2.1 171 = .ok (.if_icmp .ge 22, 3) := by decide +kernel
theorem d_C_init_174 : decode u_C_init.2.1 174 = .ok (.aload_n 0, 1) := by decide +kernel
theorem d_C_init_175 : decode u_C_init.2.1 175 = .ok (.getfield 23, 3) := by decide +kernel
theorem d_C_init_178 : decode u_C_init.2.1 178 = .ok (.iload_n 1, 1) := by decide +kernel
theorem d_C_init_179 : decode u_C_init.2.1 179 = .ok (.new 21, 3) := by decide +kernel
theorem d_C_init_182 : decode u_C_init.2.1 182 = .ok (.dup, 1) := by decide +kernel
theorem d_C_init_183 : decode u_C_init.2.1 183 = .ok (.invokespecial 49, 3) := by decide +kernel
theorem d_C_init_186 : decode u_C_init.2.1 186 = .ok (.aastore, 1) := by decide +kernel
theorem d_C_init_187 : decode u_C_init.2.1 187 = .ok (.iinc 1 1, 3) := by decide +kernel
theorem d_C_init_190 : decode u_C_init.2.1 190 = .ok (.goto (-22), 3) := by decide +kernel
theorem d_C_init_193 : decode u_C_init.2.1 193 = .ok (.iconst 0, 1) := by decide +kernel
theorem d_C_init_194 : decode u_C_init.2.1 194 = .ok (.istore_n 1, 1) := by decide +kernel
theorem d_C_init_195 : decode u_C_init.2.1 195 = .ok (.iload_n 1, 1) := by decide +kernel
theorem d_C_init_196 : decode u_C_init.2.1 196 = .ok (.iconst 4, 1) := by decide +kernel
theorem d_C_init_197 : decode u_C_init.2.1 197 = .ok (.if_icmp .ge 22, 3) := by decide +kernel
theorem d_C_init_200 : decode u_C_init.2.1 200 = .ok (.aload_n 0, 1) := by decide +kernel
theorem d_C_init_201 : decode u_C_init.2.1 201 = .ok (.getfield 29, 3) := by decide +kernel
theorem d_C_init_204 : decode u_C_init.2.1 204 = .ok (.iload_n 1, 1) := by decide +kernel
theorem d_C_init_205 : decode u_C_init.2.1 205 = .ok (.new 27, 3) := by decide +kernel
theorem d_C_init_208 : decode u_C_init.2.1 208 = .ok (.dup, 1) := by decide +kernel
theorem d_C_init_209 : decode u_C_init.2.1 209 = .ok (.invokespecial 73, 3) := by decide +kernel
theorem d_C_init_212 : decode u_C_init.2.1 212 = .ok (.aastore, 1) := by decide +kernel
theorem d_C_init_213 : decode u_C_init.2.1 213 = .ok (.iinc 1 1, 3) := by decide +kernel
theorem d_C_init_216 : decode u_C_init.2.1 216 = .ok (.goto (-21), 3) := by decide +kernel
theorem d_C_init_219 : decode u_C_init.2.1 219 = .ok (.iconst 0, 1) := by decide +kernel
theorem d_C_init_220 : decode u_C_init.2.1 220 = .ok (.istore_n 1, 1) := by decide +kernel
theorem d_C_init_221 : decode u_C_init.2.1 221 = .ok (.iload_n 1, 1) := by decide +kernel
theorem d_C_init_222 : decode u_C_init.2.1 222 = .ok (.iconst 4, 1) := by decide +kernel
theorem d_C_init_223 : decode u_C_init.2.1 223 = .ok (.if_icmp .ge 22, 3) := by decide +kernel
theorem d_C_init_226 : decode u_C_init.2.1 226 = .ok (.aload_n 0, 1) := by decide +kernel
theorem d_C_init_227 : decode u_C_init.2.1 227 = .ok (.getfield 35, 3) := by decide +kernel
theorem d_C_init_230 : decode u_C_init.2.1 230 = .ok (.iload_n 1, 1) := by decide +kernel
theorem d_C_init_231 : decode u_C_init.2.1 231 = .ok (.new 33, 3) := by decide +kernel
theorem d_C_init_234 : decode u_C_init.2.1 234 = .ok (.dup, 1) := by decide +kernel
theorem d_C_init_235 : decode u_C_init.2.1 235 = .ok (.invokespecial 74, 3) := by decide +kernel
theorem d_C_init_238 : decode u_C_init.2.1 238 = .ok (.aastore, 1) := by decide +kernel
theorem d_C_init_239 : decode u_C_init.2.1 239 = .ok (.iinc 1 1, 3) := by decide +kernel
theorem d_C_init_242 : decode u_C_init.2.1 242 = .ok (.goto (-21), 3) := by decide +kernel
theorem d_C_init_245 : decode u_C_init.2.1 245 = .ok (.return_, 1) := by decide +kernel
theorem d_C_head_0 : decode u_C_head.2.1 0 = .ok (.aload_n 0, 1) := by decide +kernel
theorem d_C_head_1 : decode u_C_head.2.1 1 = .ok (.getfield 75, 3) := by decide +kernel
theorem d_C_head_4 : decode u_C_head.2.1 4 = .ok (.bipush 8, 2) := by decide +kernel
theorem d_C_head_6 : decode u_C_head.2.1 6 = .ok (.if_icmp .lt 6, 3) := by decide +kernel
theorem d_C_head_9 : decode u_C_head.2.1 9 = .ok (.bipush (-4), 2) := by decide +kernel
theorem d_C_head_11 : decode u_C_head.2.1 11 = .ok (.ireturn, 1) := by decide +kernel
theorem d_C_head_12 : decode u_C_head.2.1 12 = .ok (.aload_n 0, 1) := by decide +kernel
theorem d_C_head_13 : decode u_C_head.2.1 13 = .ok (.dup, 1) := by decide +kernel
theorem d_C_head_14 : decode u_C_head.2.1 14 = .ok (.getfield 75, 3) := by decide +kernel
theorem d_C_head_17 : decode u_C_head.2.1 17 = .ok (.iconst 1, 1) := by decide +kernel
theorem d_C_head_18 : decode u_C_head.2.1 18 = .ok (.iadd, 1) := by decide +kernel
theorem d_C_head_19 : decode u_C_head.2.1 19 = .ok (.putfield 75, 3) := by decide +kernel
theorem d_C_head_22 : decode u_C_head.2.1 22 = .ok (.aload_n 0, 1) := by decide +kernel
theorem d_C_head_23 : decode u_C_head.2.1 23 = .ok (.getfield 75, 3) := by decide +kernel
theorem d_C_head_26 : decode u_C_head.2.1 26 = .ok (.iconst 1, 1) := by decide +kernel
theorem d_C_head_27 : decode u_C_head.2.1 27 = .ok (.isub, 1) := by decide +kernel
theorem d_C_head_28 : decode u_C_head.2.1 28 = .ok (.ireturn, 1) := by decide +kernel
theorem d_C_place_0 : decode u_C_place.2.1 0 = .ok (.aload_n 0, 1) := by decide +kernel
theorem d_C_place_1 : decode u_C_place.2.1 1 = .ok (.iload_n 1, 1) := by decide +kernel
theorem d_C_place_2 : decode u_C_place.2.1 2 = .ok (.invokevirtual 78, 3) := by decide +kernel
theorem d_C_place_5 : decode u_C_place.2.1 5 = .ok (.ifCond .eq 17, 3) := by decide +kernel
theorem d_C_place_8 : decode u_C_place.2.1 8 = .ok (.iload_n 2, 1) := by decide +kernel
theorem d_C_place_9 : decode u_C_place.2.1 9 = .ok (.invokestatic 82, 3) := by decide +kernel
theorem d_C_place_12 : decode u_C_place.2.1 12 = .ok (.ifCond .eq 10, 3) := by decide +kernel
theorem d_C_place_15 : decode u_C_place.2.1 15 = .ok (.iload_n 3, 1) := by decide +kernel
theorem d_C_place_16 : decode u_C_place.2.1 16 = .ok (.invokestatic 85, 3) := by decide +kernel
theorem d_C_place_19 : decode u_C_place.2.1 19 = .ok (.ifCond .ne 6, 3) := by decide +kernel
theorem d_C_place_22 : decode u_C_place.2.1 22 = .ok (.bipush (-2), 2) := by decide +kernel
theorem d_C_place_24 : decode u_C_place.2.1 24 = .ok (.ireturn, 1) := by decide +kernel
theorem d_C_place_25 : decode u_C_place.2.1 25 = .ok (.aload_n 0, 1) := by decide +kernel
theorem d_C_place_26 : decode u_C_place.2.1 26 = .ok (.getfield 11, 3) := by decide +kernel
theorem d_C_place_29 : decode u_C_place.2.1 29 = .ok (.iload_n 1, 1) := by decide +kernel
theorem d_C_place_30 : decode u_C_place.2.1 30 = .ok (.aaload, 1) := by decide +kernel
theorem d_C_place_31 : decode u_C_place.2.1 31 = .ok (.getfield 88, 3) := by decide +kernel
theorem d_C_place_34 : decode u_C_place.2.1 34 = .ok (.astore 4, 2) := by decide +kernel
theorem d_C_place_36 : decode u_C_place.2.1 36 = .ok (.aload 4, 2) := by decide +kernel
theorem d_C_place_38 : decode u_C_place.2.1 38 = .ok (.iload_n 2, 1) := by decide +kernel
theorem d_C_place_39 : decode u_C_place.2.1 39 = .ok (.iaload, 1) := by decide +kernel
theorem d_C_place_40 : decode u_C_place.2.1 40 = .ok (.istore 5, 2) := by decide +kernel
theorem d_C_place_42 : decode u_C_place.2.1 42 = .ok (.aload 4, 2) := by decide +kernel
theorem d_C_place_44 : decode u_C_place.2.1 44 = .ok (.iload_n 2, 1) := by decide +kernel
theorem d_C_place_45 : decode u_C_place.2.1 45 = .ok (.iload_n 3, 1) := by decide +kernel
theorem d_C_place_46 : decode u_C_place.2.1 46 = .ok (.iastore, 1) := by decide +kernel
theorem d_C_place_47 : decode u_C_place.2.1 47 = .ok (.iload 5, 2) := by decide +kernel
theorem d_C_place_49 : decode u_C_place.2.1 49 = .ok (.ireturn, 1) := by decide +kernel
theorem d_C_read_0 : decode u_C_read.2.1 0 = .ok (.iload_n 1, 1) := by decide +kernel
theorem d_C_read_1 : decode u_C_read.2.1 1 = .ok (.invokestatic 91, 3) := by decide +kernel
theorem d_C_read_4 : decode u_C_read.2.1 4 = .ok (.ifCond .eq 11, 3) := by decide +kernel
theorem d_C_read_7 : decode u_C_read.2.1 7 = .ok (.aload_n 0, 1) := by decide +kernel
theorem d_C_read_8 : decode u_C_read.2.1 8 = .ok (.iload_n 2, 1) := by decide +kernel
theorem d_C_read_9 : decode u_C_read.2.1 9 = .ok (.invokevirtual 78, 3) := by decide +kernel
theorem d_C_read_12 : decode u_C_read.2.1 12 = .ok (.ifCond .ne 6, 3) := by decide +kernel
theorem d_C_read_15 : decode u_C_read.2.1 15 = .ok (.bipush (-2), 2) := by decide +kernel
theorem d_C_read_17 : decode u_C_read.2.1 17 = .ok (.ireturn, 1) := by decide +kernel
theorem d_C_read_18 : decode u_C_read.2.1 18 = .ok (.aload_n 0, 1) := by decide +kernel
theorem d_C_read_19 : decode u_C_read.2.1 19 = .ok (.getfield 35, 3) := by decide +kernel
theorem d_C_read_22 : decode u_C_read.2.1 22 = .ok (.iload_n 1, 1) := by decide +kernel
theorem d_C_read_23 : decode u_C_read.2.1 23 = .ok (.aaload, 1) := by decide +kernel
theorem d_C_read_24 : decode u_C_read.2.1 24 = .ok (.astore_n 3, 1) := by decide +kernel
theorem d_C_read_25 : decode u_C_read.2.1 25 = .ok (.aload_n 3, 1) := by decide +kernel
theorem d_C_read_26 : decode u_C_read.2.1 26 = .ok (.invokevirtual 94, 3) := by decide +kernel
theorem d_C_read_29 : decode u_C_read.2.1 29 = .ok (.ifCond .eq 9, 3) := by decide +kernel
theorem d_C_read_32 : decode u_C_read.2.1 32 = .ok (.aload_n 0, 1) := by decide +kernel
theorem d_C_read_33 : decode u_C_read.2.1 33 = .ok (.iconst 1, 1) := by decide +kernel
theorem d_C_read_34 : decode u_C_read.2.1 34 = .ok (.invokevirtual 98, 3) := by decide +kernel
theorem d_C_read_37 : decode u_C_read.2.1 37 = .ok (.ireturn, 1) := by decide +kernel
theorem d_C_read_38 : decode u_C_read.2.1 38 = .ok (.aload_n 0, 1) := by decide +kernel
theorem d_C_read_39 : decode u_C_read.2.1 39 = .ok (.getfield 11, 3) := by decide +kernel
theorem d_C_read_42 : decode u_C_read.2.1 42 = .ok (.iload_n 2, 1) := by decide +kernel
theorem d_C_read_43 : decode u_C_read.2.1 43 = .ok (.aaload, 1) := by decide +kernel
theorem d_C_read_44 : decode u_C_read.2.1 44 = .ok (.getfield 88, 3) := by decide +kernel
theorem d_C_read_47 : decode u_C_read.2.1 47 = .ok (.astore 4, 2) := by decide +kernel
theorem d_C_read_49 : decode u_C_read.2.1 49 = .ok (.aload_n 3, 1) := by decide +kernel
theorem d_C_read_50 : decode u_C_read.2.1 50 = .ok (.getfield 102, 3) := by decide +kernel
theorem d_C_read_53 : decode u_C_read.2.1 53 = .ok (.bipush 8, 2) := by decide +kernel
theorem d_C_read_55 : decode u_C_read.2.1 55 = .ok (.invokestatic 105, 3) := by decide +kernel
theorem d_C_read_58 : decode u_C_read.2.1 58 = .ok (.istore 5, 2) := by decide +kernel
theorem d_C_read_60 : decode u_C_read.2.1 60 = .ok (.iconst 0, 1) := by decide +kernel
theorem d_C_read_61 : decode u_C_read.2.1 61 = .ok (.istore 6, 2) := by decide +kernel
theorem d_C_read_63 : decode u_C_read.2.1 63 = .ok (.iload 6, 2) := by decide +kernel
theorem d_C_read_65 : decode u_C_read.2.1 65 = .ok (.iload 5, 2) := by decide +kernel
theorem d_C_read_67 : decode u_C_read.2.1 67 = .ok (.if_icmp .ge 37, 3) := by decide +kernel
theorem d_C_read_70 : decode u_C_read.2.1 70 = .ok (.aload_n 3, 1) := by decide +kernel
theorem d_C_read_71 : decode u_C_read.2.1 71 = .ok (.getfield 111, 3) := by decide +kernel
theorem d_C_read_74 : decode u_C_read.2.1 74 = .ok (.iload 6, 2) := by decide +kernel
theorem d_C_read_76 : decode u_C_read.2.1 76 = .ok (.iaload, 1) := by decide +kernel
theorem d_C_read_77 : decode u_C_read.2.1 77 = .ok (.invokestatic 85, 3) := by decide +kernel
theorem d_C_read_80 : decode u_C_read.2.1 80 = .ok (.ifCond .ne 6, 3) := by decide +kernel
theorem d_C_read_83 : decode u_C_read.2.1 83 = .ok (.iload 6, 2) := by decide +kernel
theorem d_C_read_85 : decode u_C_read.2.1 85 = .ok (.ireturn, 1) := by decide +kernel
theorem d_C_read_86 : decode u_C_read.2.1 86 = .ok (.aload 4, 2) := by decide +kernel
theorem d_C_read_88 : decode u_C_read.2.1 88 = .ok (.iload 6, 2) := by decide +kernel
theorem d_C_read_90 : decode u_C_read.2.1 90 = .ok (.aload_n 3, 1) := by decide +kernel
theorem d_C_read_91 : decode u_C_read.2.1 91 = .ok (.getfield 111, 3) := by decide +kernel
theorem d_C_read_94 : decode u_C_read.2.1 94 = .ok (.iload 6, 2) := by decide +kernel
theorem d_C_read_96 : decode u_C_read.2.1 96 = .ok (.iaload, 1) := by decide +kernel
theorem d_C_read_97 : decode u_C_read.2.1 97 = .ok (.iastore, 1) := by decide +kernel
theorem d_C_read_98 : decode u_C_read.2.1 98 = .ok (.iinc 6 1, 3) := by decide +kernel
theorem d_C_read_101 : decode u_C_read.2.1 101 = .ok (.goto (-38), 3) := by decide +kernel
theorem d_C_read_104 : decode u_C_read.2.1 104 = .ok (.iload 5, 2) := by decide +kernel
theorem d_C_read_106 : decode u_C_read.2.1 106 = .ok (.ireturn, 1) := by decide +kernel
theorem d_C_mean_0 : decode u_C_mean.2.1 0 = .ok (.aload_n 0, 1) := by decide +kernel
theorem d_C_mean_1 : decode u_C_mean.2.1 1 = .ok (.iload_n 1, 1) := by decide +kernel
theorem d_C_mean_2 : decode u_C_mean.2.1 2 = .ok (.invokevirtual 114, 3) := by decide +kernel
theorem d_C_mean_5 : decode u_C_mean.2.1 5 = .ok (.ifCond .eq 10, 3) := by decide +kernel
theorem d_C_mean_8 : decode u_C_mean.2.1 8 = .ok (.iload_n 2, 1) := by decide +kernel
theorem d_C_mean_9 : decode u_C_mean.2.1 9 = .ok (.invokestatic 82, 3) := by decide +kernel
theorem d_C_mean_12 : decode u_C_mean.2.1 12 = .ok (.ifCond .ne 6, 3) := by decide +kernel
theorem d_C_mean_15 : decode u_C_mean.2.1 15 = .ok (.bipush (-2), 2) := by decide +kernel
theorem d_C_mean_17 : decode u_C_mean.2.1 17 = .ok (.ireturn, 1) := by decide +kernel
theorem d_C_mean_18 : decode u_C_mean.2.1 18 = .ok (.aload_n 0, 1) := by decide +kernel
theorem d_C_mean_19 : decode u_C_mean.2.1 19 = .ok (.iload_n 1, 1) := by decide +kernel
theorem d_C_mean_20 : decode u_C_mean.2.1 20 = .ok (.iload_n 2, 1) := by decide +kernel
theorem d_C_mean_21 : decode u_C_mean.2.1 21 = .ok (.invokevirtual 117, 3) := by decide +kernel
theorem d_C_mean_24 : decode u_C_mean.2.1 24 = .ok (.ireturn, 1) := by decide +kernel
theorem d_C_type_0 : decode u_C_type.2.1 0 = .ok (.iload_n 1, 1) := by decide +kernel
theorem d_C_type_1 : decode u_C_type.2.1 1 = .ok (.invokestatic 120, 3) := by decide +kernel
theorem d_C_type_4 : decode u_C_type.2.1 4 = .ok (.ifCond .eq 14, 3) := by decide +kernel
theorem d_C_type_7 : decode u_C_type.2.1 7 = .ok (.iload_n 2, 1) := by decide +kernel
theorem d_C_type_8 : decode u_C_type.2.1 8 = .ok (.ifCond .lt 10, 3) := by decide +kernel
theorem d_C_type_11 : decode u_C_type.2.1 11 = .ok (.iload_n 2, 1) := by decide +kernel
theorem d_C_type_12 : decode u_C_type.2.1 12 = .ok (.sipush 255, 3) := by decide +kernel
theorem d_C_type_15 : decode u_C_type.2.1 15 = .ok (.if_icmp .le 6, 3) := by decide +kernel
theorem d_C_type_18 : decode u_C_type.2.1 18 = .ok (.bipush (-2), 2) := by decide +kernel
theorem d_C_type_20 : decode u_C_type.2.1 20 = .ok (.ireturn, 1) := by decide +kernel
theorem d_C_type_21 : decode u_C_type.2.1 21 = .ok (.aload_n 0, 1) := by decide +kernel
theorem d_C_type_22 : decode u_C_type.2.1 22 = .ok (.getfield 17, 3) := by decide +kernel
theorem d_C_type_25 : decode u_C_type.2.1 25 = .ok (.iload_n 1, 1) := by decide +kernel
theorem d_C_type_26 : decode u_C_type.2.1 26 = .ok (.aaload, 1) := by decide +kernel
theorem d_C_type_27 : decode u_C_type.2.1 27 = .ok (.getfield 123, 3) := by decide +kernel
theorem d_C_type_30 : decode u_C_type.2.1 30 = .ok (.bipush 40, 2) := by decide +kernel
theorem d_C_type_32 : decode u_C_type.2.1 32 = .ok (.if_icmp .lt 6, 3) := by decide +kernel
theorem d_C_type_35 : decode u_C_type.2.1 35 = .ok (.bipush (-4), 2) := by decide +kernel
theorem d_C_type_37 : decode u_C_type.2.1 37 = .ok (.ireturn, 1) := by decide +kernel
theorem d_C_type_38 : decode u_C_type.2.1 38 = .ok (.aload_n 0, 1) := by decide +kernel
theorem d_C_type_39 : decode u_C_type.2.1 39 = .ok (.getfield 17, 3) := by decide +kernel
theorem d_C_type_42 : decode u_C_type.2.1 42 = .ok (.iload_n 1, 1) := by decide +kernel
theorem d_C_type_43 : decode u_C_type.2.1 43 = .ok (.aaload, 1) := by decide +kernel
theorem d_C_type_44 : decode u_C_type.2.1 44 = .ok (.iload_n 2, 1) := by decide +kernel
theorem d_C_type_45 : decode u_C_type.2.1 45 = .ok (.invokevirtual 126, 3) := by decide +kernel
theorem d_C_type_48 : decode u_C_type.2.1 48 = .ok (.aload_n 0, 1) := by decide +kernel
theorem d_C_type_49 : decode u_C_type.2.1 49 = .ok (.getfield 17, 3) := by decide +kernel
theorem d_C_type_52 : decode u_C_type.2.1 52 = .ok (.iload_n 1, 1) := by decide +kernel
theorem d_C_type_53 : decode u_C_type.2.1 53 = .ok (.aaload, 1) := by decide +kernel
theorem d_C_type_54 : decode u_C_type.2.1 54 = .ok (.getfield 123, 3) := by decide +kernel
theorem d_C_type_57 : decode u_C_type.2.1 57 = .ok (.ireturn, 1) := by decide +kernel
theorem d_C_wipe_0 : decode u_C_wipe.2.1 0 = .ok (.iload_n 1, 1) := by decide +kernel
theorem d_C_wipe_1 : decode u_C_wipe.2.1 1 = .ok (.invokestatic 120, 3) := by decide +kernel
theorem d_C_wipe_4 : decode u_C_wipe.2.1 4 = .ok (.ifCond .ne 6, 3) := by decide +kernel
theorem d_C_wipe_7 : decode u_C_wipe.2.1 7 = .ok (.bipush (-2), 2) := by decide +kernel
theorem d_C_wipe_9 : decode u_C_wipe.2.1 9 = .ok (.ireturn, 1) := by decide +kernel
theorem d_C_wipe_10 : decode u_C_wipe.2.1 10 = .ok (.aload_n 0, 1) := by decide +kernel
end
section
theorem d_C_wipe_11 : decode u_C_wipe.2.1 11 = .ok (.getfield 17, 3) := by decide +kernel
theorem d_C_wipe_14 : decode u_C_wipe.2.1 14 = .ok (.iload_n 1, 1) := by decide +kernel
theorem d_C_wipe_15 : decode u_C_wipe.2.1 15 = .ok (.aaload, 1) := by decide +kernel
theorem d_C_wipe_16 : decode u_C_wipe.2.1 16 = .ok (.getfield 123, 3) := by decide +kernel
theorem d_C_wipe_19 : decode u_C_wipe.2.1 19 = .ok (.istore_n 2, 1) := by decide +kernel
theorem d_C_wipe_20 : decode u_C_wipe.2.1 20 = .ok (.aload_n 0, 1) := by decide +kernel
theorem d_C_wipe_21 : decode u_C_wipe.2.1 21 = .ok (.getfield 17, 3) := by decide +kernel
theorem d_C_wipe_24 : decode u_C_wipe.2.1 24 = .ok (.iload_n 1, 1) := by decide +kernel
theorem d_C_wipe_25 : decode u_C_wipe.2.1 25 = .ok (.aaload, 1) := by decide +kernel
theorem d_C_wipe_26 : decode u_C_wipe.2.1 26 = .ok (.invokevirtual 130, 3) := by decide +kernel
theorem d_C_wipe_29 : decode u_C_wipe.2.1 29 = .ok (.iload_n 2, 1) := by decide +kernel
theorem d_C_wipe_30 : decode u_C_wipe.2.1 30 = .ok (.ireturn, 1) := by decide +kernel
theorem d_C_fault_0 : decode u_C_fault.2.1 0 = .ok (.iload_n 1, 1) := by decide +kernel
theorem d_C_fault_1 : decode u_C_fault.2.1 1 = .ok (.invokestatic 120, 3) := by decide +kernel
theorem d_C_fault_4 : decode u_C_fault.2.1 4 = .ok (.ifCond .eq 15, 3) := by decide +kernel
theorem d_C_fault_7 : decode u_C_fault.2.1 7 = .ok (.aload_n 0, 1) := by decide +kernel
theorem d_C_fault_8 : decode u_C_fault.2.1 8 = .ok (.getfield 17, 3) := by decide +kernel
theorem d_C_fault_11 : decode u_C_fault.2.1 11 = .ok (.iload_n 1, 1) := by decide +kernel
theorem d_C_fault_12 : decode u_C_fault.2.1 12 = .ok (.aaload, 1) := by decide +kernel
theorem d_C_fault_13 : decode u_C_fault.2.1 13 = .ok (.getfield 133, 3) := by decide +kernel
theorem d_C_fault_16 : decode u_C_fault.2.1 16 = .ok (.goto 5, 3) := by decide +kernel
theorem d_C_fault_19 : decode u_C_fault.2.1 19 = .ok (.bipush (-2), 2) := by decide +kernel
theorem d_C_fault_21 : decode u_C_fault.2.1 21 = .ok (.ireturn, 1) := by decide +kernel
theorem d_C_tenths_0 : decode u_C_tenths.2.1 0 = .ok (.iload_n 1, 1) := by decide +kernel
theorem d_C_tenths_1 : decode u_C_tenths.2.1 1 = .ok (.invokestatic 120, 3) := by decide +kernel
theorem d_C_tenths_4 : decode u_C_tenths.2.1 4 = .ok (.ifCond .eq 24, 3) := by decide +kernel
theorem d_C_tenths_7 : decode u_C_tenths.2.1 7 = .ok (.iload_n 2, 1) := by decide +kernel
theorem d_C_tenths_8 : decode u_C_tenths.2.1 8 = .ok (.invokestatic 82, 3) := by decide +kernel
theorem d_C_tenths_11 : decode u_C_tenths.2.1 11 = .ok (.ifCond .eq 17, 3) := by decide +kernel
theorem d_C_tenths_14 : decode u_C_tenths.2.1 14 = .ok (.aload_n 0, 1) := by decide +kernel
theorem d_C_tenths_15 : decode u_C_tenths.2.1 15 = .ok (.getfield 17, 3) := by decide +kernel
theorem d_C_tenths_18 : decode u_C_tenths.2.1 18 = .ok (.iload_n 1, 1) := by decide +kernel
theorem d_C_tenths_19 : decode u_C_tenths.2.1 19 = .ok (.aaload, 1) := by decide +kernel
theorem d_C_tenths_20 : decode u_C_tenths.2.1 20 = .ok (.getfield 136, 3) := by decide +kernel
theorem d_C_tenths_23 : decode u_C_tenths.2.1 23 = .ok (.iload_n 2, 1) := by decide +kernel
theorem d_C_tenths_24 : decode u_C_tenths.2.1 24 = .ok (.iaload, 1) := by decide +kernel
theorem d_C_tenths_25 : decode u_C_tenths.2.1 25 = .ok (.goto 6, 3) := by decide +kernel
theorem d_C_tenths_28 : decode u_C_tenths.2.1 28 = .ok (.sipush (-10002), 3) := by decide +kernel
theorem d_C_tenths_31 : decode u_C_tenths.2.1 31 = .ok (.ireturn, 1) := by decide +kernel
theorem d_C_drawn_0 : decode u_C_drawn.2.1 0 = .ok (.iload_n 1, 1) := by decide +kernel
theorem d_C_drawn_1 : decode u_C_drawn.2.1 1 = .ok (.invokestatic 120, 3) := by decide +kernel
theorem d_C_drawn_4 : decode u_C_drawn.2.1 4 = .ok (.ifCond .eq 27, 3) := by decide +kernel
theorem d_C_drawn_7 : decode u_C_drawn.2.1 7 = .ok (.aload_n 0, 1) := by decide +kernel
theorem d_C_drawn_8 : decode u_C_drawn.2.1 8 = .ok (.iload_n 2, 1) := by decide +kernel
theorem d_C_drawn_9 : decode u_C_drawn.2.1 9 = .ok (.invokevirtual 78, 3) := by decide +kernel
theorem d_C_drawn_12 : decode u_C_drawn.2.1 12 = .ok (.ifCond .eq 19, 3) := by decide +kernel
theorem d_C_drawn_15 : decode u_C_drawn.2.1 15 = .ok (.aload_n 0, 1) := by decide +kernel
theorem d_C_drawn_16 : decode u_C_drawn.2.1 16 = .ok (.iload_n 3, 1) := by decide +kernel
theorem d_C_drawn_17 : decode u_C_drawn.2.1 17 = .ok (.invokevirtual 114, 3) := by decide +kernel
theorem d_C_drawn_20 : decode u_C_drawn.2.1 20 = .ok (.ifCond .eq 11, 3) := by decide +kernel
theorem d_C_drawn_23 : decode u_C_drawn.2.1 23 = .ok (.iload 4, 2) := by decide +kernel
theorem d_C_drawn_25 : decode u_C_drawn.2.1 25 = .ok (.invokestatic 82, 3) := by decide +kernel
theorem d_C_drawn_28 : decode u_C_drawn.2.1 28 = .ok (.ifCond .ne 7, 3) := by decide +kernel
theorem d_C_drawn_31 : decode u_C_drawn.2.1 31 = .ok (.sipush (-10002), 3) := by decide +kernel
theorem d_C_drawn_34 : decode u_C_drawn.2.1 34 = .ok (.ireturn, 1) := by decide +kernel
theorem d_C_drawn_35 : decode u_C_drawn.2.1 35 = .ok (.aload_n 0, 1) := by decide +kernel
theorem d_C_drawn_36 : decode u_C_drawn.2.1 36 = .ok (.iload_n 3, 1) := by decide +kernel
theorem d_C_drawn_37 : decode u_C_drawn.2.1 37 = .ok (.iload 4, 2) := by decide +kernel
theorem d_C_drawn_39 : decode u_C_drawn.2.1 39 = .ok (.invokevirtual 117, 3) := by decide +kernel
theorem d_C_drawn_42 : decode u_C_drawn.2.1 42 = .ok (.aload_n 0, 1) := by decide +kernel
theorem d_C_drawn_43 : decode u_C_drawn.2.1 43 = .ok (.getfield 11, 3) := by decide +kernel
theorem d_C_drawn_46 : decode u_C_drawn.2.1 46 = .ok (.iload_n 2, 1) := by decide +kernel
theorem d_C_drawn_47 : decode u_C_drawn.2.1 47 = .ok (.aaload, 1) := by decide +kernel
theorem d_C_drawn_48 : decode u_C_drawn.2.1 48 = .ok (.getfield 88, 3) := by decide +kernel
theorem d_C_drawn_51 : decode u_C_drawn.2.1 51 = .ok (.iload 4, 2) := by decide +kernel
theorem d_C_drawn_53 : decode u_C_drawn.2.1 53 = .ok (.iaload, 1) := by decide +kernel
theorem d_C_drawn_54 : decode u_C_drawn.2.1 54 = .ok (.aload_n 0, 1) := by decide +kernel
theorem d_C_drawn_55 : decode u_C_drawn.2.1 55 = .ok (.getfield 17, 3) := by decide +kernel
theorem d_C_drawn_58 : decode u_C_drawn.2.1 58 = .ok (.iload_n 1, 1) := by decide +kernel
theorem d_C_drawn_59 : decode u_C_drawn.2.1 59 = .ok (.aaload, 1) := by decide +kernel
theorem d_C_drawn_60 : decode u_C_drawn.2.1 60 = .ok (.getfield 136, 3) := by decide +kernel
theorem d_C_drawn_63 : decode u_C_drawn.2.1 63 = .ok (.iload 4, 2) := by decide +kernel
theorem d_C_drawn_65 : decode u_C_drawn.2.1 65 = .ok (.iaload, 1) := by decide +kernel
theorem d_C_drawn_66 : decode u_C_drawn.2.1 66 = .ok (.invokestatic 139, 3) := by decide +kernel
theorem d_C_drawn_69 : decode u_C_drawn.2.1 69 = .ok (.ireturn, 1) := by decide +kernel
theorem d_C_set_0 : decode u_C_set.2.1 0 = .ok (.iload_n 1, 1) := by decide +kernel
theorem d_C_set_1 : decode u_C_set.2.1 1 = .ok (.ifCond .ne 26, 3) := by decide +kernel
theorem d_C_set_4 : decode u_C_set.2.1 4 = .ok (.iload_n 2, 1) := by decide +kernel
theorem d_C_set_5 : decode u_C_set.2.1 5 = .ok (.iconst 1, 1) := by decide +kernel
theorem d_C_set_6 : decode u_C_set.2.1 6 = .ok (.if_icmp .lt 21, 3) := by decide +kernel
theorem d_C_set_9 : decode u_C_set.2.1 9 = .ok (.iload_n 2, 1) := by decide +kernel
theorem d_C_set_10 : decode u_C_set.2.1 10 = .ok (.bipush 99, 2) := by decide +kernel
theorem d_C_set_12 : decode u_C_set.2.1 12 = .ok (.if_icmp .gt 15, 3) := by decide +kernel
theorem d_C_set_15 : decode u_C_set.2.1 15 = .ok (.aload_n 0, 1) := by decide +kernel
theorem d_C_set_16 : decode u_C_set.2.1 16 = .ok (.getfield 39, 3) := by decide +kernel
theorem d_C_set_19 : decode u_C_set.2.1 19 = .ok (.istore_n 3, 1) := by decide +kernel
theorem d_C_set_20 : decode u_C_set.2.1 20 = .ok (.aload_n 0, 1) := by decide +kernel
theorem d_C_set_21 : decode u_C_set.2.1 21 = .ok (.iload_n 2, 1) := by decide +kernel
theorem d_C_set_22 : decode u_C_set.2.1 22 = .ok (.putfield 39, 3) := by decide +kernel
theorem d_C_set_25 : decode u_C_set.2.1 25 = .ok (.iload_n 3, 1) := by decide +kernel
theorem d_C_set_26 : decode u_C_set.2.1 26 = .ok (.ireturn, 1) := by decide +kernel
theorem d_C_set_27 : decode u_C_set.2.1 27 = .ok (.iload_n 1, 1) := by decide +kernel
theorem d_C_set_28 : decode u_C_set.2.1 28 = .ok (.iconst 1, 1) := by decide +kernel
theorem d_C_set_29 : decode u_C_set.2.1 29 = .ok (.if_icmp .ne 26, 3) := by decide +kernel
theorem d_C_set_32 : decode u_C_set.2.1 32 = .ok (.iload_n 2, 1) := by decide +kernel
theorem d_C_set_33 : decode u_C_set.2.1 33 = .ok (.iconst 1, 1) := by decide +kernel
theorem d_C_set_34 : decode u_C_set.2.1 34 = .ok (.if_icmp .lt 21, 3) := by decide +kernel
theorem d_C_set_37 : decode u_C_set.2.1 37 = .ok (.iload_n 2, 1) := by decide +kernel
theorem d_C_set_38 : decode u_C_set.2.1 38 = .ok (.bipush 60, 2) := by decide +kernel
theorem d_C_set_40 : decode u_C_set.2.1 40 = .ok (.if_icmp .gt 15, 3) := by decide +kernel
theorem d_C_set_43 : decode u_C_set.2.1 43 = .ok (.aload_n 0, 1) := by decide +kernel
theorem d_C_set_44 : decode u_C_set.2.1 44 = .ok (.getfield 43, 3) := by decide +kernel
theorem d_C_set_47 : decode u_C_set.2.1 47 = .ok (.istore_n 3, 1) := by decide +kernel
theorem d_C_set_48 : decode u_C_set.2.1 48 = .ok (.aload_n 0, 1) := by decide +kernel
theorem d_C_set_49 : decode u_C_set.2.1 49 = .ok (.iload_n 2, 1) := by decide +kernel
theorem d_C_set_50 : decode u_C_set.2.1 50 = .ok (.putfield 43, 3) := by decide +kernel
theorem d_C_set_53 : decode u_C_set.2.1 53 = .ok (.iload_n 3, 1) := by decide +kernel
theorem d_C_set_54 : decode u_C_set.2.1 54 = .ok (.ireturn, 1) := by decide +kernel
theorem d_C_set_55 : decode u_C_set.2.1 55 = .ok (.iload_n 1, 1) := by decide +kernel
theorem d_C_set_56 : decode u_C_set.2.1 56 = .ok (.iconst 2, 1) := by decide +kernel
theorem d_C_set_57 : decode u_C_set.2.1 57 = .ok (.if_icmp .ne 25, 3) := by decide +kernel
theorem d_C_set_60 : decode u_C_set.2.1 60 = .ok (.iload_n 2, 1) := by decide +kernel
theorem d_C_set_61 : decode u_C_set.2.1 61 = .ok (.ifCond .lt 21, 3) := by decide +kernel
theorem d_C_set_64 : decode u_C_set.2.1 64 = .ok (.iload_n 2, 1) := by decide +kernel
theorem d_C_set_65 : decode u_C_set.2.1 65 = .ok (.bipush 99, 2) := by decide +kernel
theorem d_C_set_67 : decode u_C_set.2.1 67 = .ok (.if_icmp .gt 15, 3) := by decide +kernel
theorem d_C_set_70 : decode u_C_set.2.1 70 = .ok (.aload_n 0, 1) := by decide +kernel
theorem d_C_set_71 : decode u_C_set.2.1 71 = .ok (.getfield 46, 3) := by decide +kernel
theorem d_C_set_74 : decode u_C_set.2.1 74 = .ok (.istore_n 3, 1) := by decide +kernel
theorem d_C_set_75 : decode u_C_set.2.1 75 = .ok (.aload_n 0, 1) := by decide +kernel
theorem d_C_set_76 : decode u_C_set.2.1 76 = .ok (.iload_n 2, 1) := by decide +kernel
theorem d_C_set_77 : decode u_C_set.2.1 77 = .ok (.putfield 46, 3) := by decide +kernel
theorem d_C_set_80 : decode u_C_set.2.1 80 = .ok (.iload_n 3, 1) := by decide +kernel
theorem d_C_set_81 : decode u_C_set.2.1 81 = .ok (.ireturn, 1) := by decide +kernel
theorem d_C_set_82 : decode u_C_set.2.1 82 = .ok (.bipush (-2), 2) := by decide +kernel
theorem d_C_set_84 : decode u_C_set.2.1 84 = .ok (.ireturn, 1) := by decide +kernel
theorem d_C_draw_0 : decode u_C_draw.2.1 0 = .ok (.iload_n 1, 1) := by decide +kernel
theorem d_C_draw_1 : decode u_C_draw.2.1 1 = .ok (.invokestatic 120, 3) := by decide +kernel
theorem d_C_draw_4 : decode u_C_draw.2.1 4 = .ok (.ifCond .eq 28, 3) := by decide +kernel
theorem d_C_draw_7 : decode u_C_draw.2.1 7 = .ok (.aload_n 0, 1) := by decide +kernel
theorem d_C_draw_8 : decode u_C_draw.2.1 8 = .ok (.iload_n 2, 1) := by decide +kernel
theorem d_C_draw_9 : decode u_C_draw.2.1 9 = .ok (.invokevirtual 78, 3) := by decide +kernel
theorem d_C_draw_12 : decode u_C_draw.2.1 12 = .ok (.ifCond .eq 20, 3) := by decide +kernel
theorem d_C_draw_15 : decode u_C_draw.2.1 15 = .ok (.aload_n 0, 1) := by decide +kernel
theorem d_C_draw_16 : decode u_C_draw.2.1 16 = .ok (.iload_n 3, 1) := by decide +kernel
theorem d_C_draw_17 : decode u_C_draw.2.1 17 = .ok (.invokevirtual 114, 3) := by decide +kernel
theorem d_C_draw_20 : decode u_C_draw.2.1 20 = .ok (.ifCond .eq 12, 3) := by decide +kernel
theorem d_C_draw_23 : decode u_C_draw.2.1 23 = .ok (.aload_n 0, 1) := by decide +kernel
theorem d_C_draw_24 : decode u_C_draw.2.1 24 = .ok (.iload 4, 2) := by decide +kernel
theorem d_C_draw_26 : decode u_C_draw.2.1 26 = .ok (.invokevirtual 143, 3) := by decide +kernel
theorem d_C_draw_29 : decode u_C_draw.2.1 29 = .ok (.ifCond .ne 6, 3) := by decide +kernel
theorem d_C_draw_32 : decode u_C_draw.2.1 32 = .ok (.bipush (-2), 2) := by decide +kernel
theorem d_C_draw_34 : decode u_C_draw.2.1 34 = .ok (.ireturn, 1) := by decide +kernel
theorem d_C_draw_35 : decode u_C_draw.2.1 35 = .ok (.aload_n 0, 1) := by decide +kernel
theorem d_C_draw_36 : decode u_C_draw.2.1 36 = .ok (.getfield 146, 3) := by decide +kernel
theorem d_C_draw_39 : decode u_C_draw.2.1 39 = .ok (.bipush 30, 2) := by decide +kernel
theorem d_C_draw_41 : decode u_C_draw.2.1 41 = .ok (.if_icmp .lt 6, 3) := by decide +kernel
theorem d_C_draw_44 : decode u_C_draw.2.1 44 = .ok (.bipush (-4), 2) := by decide +kernel
theorem d_C_draw_46 : decode u_C_draw.2.1 46 = .ok (.ireturn, 1) := by decide +kernel
theorem d_C_draw_47 : decode u_C_draw.2.1 47 = .ok (.aload_n 0, 1) := by decide +kernel
theorem d_C_draw_48 : decode u_C_draw.2.1 48 = .ok (.getfield 23, 3) := by decide +kernel
theorem d_C_draw_51 : decode u_C_draw.2.1 51 = .ok (.aload_n 0, 1) := by decide +kernel
theorem d_C_draw_52 : decode u_C_draw.2.1 52 = .ok (.getfield 146, 3) := by decide +kernel
theorem d_C_draw_55 : decode u_C_draw.2.1 55 = .ok (.aaload, 1) := by decide +kernel
theorem d_C_draw_56 : decode u_C_draw.2.1 56 = .ok (.astore 5, 2) := by decide +kernel
theorem d_C_draw_58 : decode u_C_draw.2.1 58 = .ok (.aload_n 0, 1) := by decide +kernel
theorem d_C_draw_59 : decode u_C_draw.2.1 59 = .ok (.iload_n 3, 1) := by decide +kernel
theorem d_C_draw_60 : decode u_C_draw.2.1 60 = .ok (.aload 5, 2) := by decide +kernel
theorem d_C_draw_62 : decode u_C_draw.2.1 62 = .ok (.getfield 149, 3) := by decide +kernel
theorem d_C_draw_65 : decode u_C_draw.2.1 65 = .ok (.invokevirtual 152, 3) := by decide +kernel
theorem d_C_draw_68 : decode u_C_draw.2.1 68 = .ok (.aload 5, 2) := by decide +kernel
theorem d_C_draw_70 : decode u_C_draw.2.1 70 = .ok (.aload_n 0, 1) := by decide +kernel
theorem d_C_draw_71 : decode u_C_draw.2.1 71 = .ok (.getfield 11, 3) := by decide +kernel
theorem d_C_draw_74 : decode u_C_draw.2.1 74 = .ok (.iload_n 2, 1) := by decide +kernel
theorem d_C_draw_75 : decode u_C_draw.2.1 75 = .ok (.aaload, 1) := by decide +kernel
theorem d_C_draw_76 : decode u_C_draw.2.1 76 = .ok (.getfield 88, 3) := by decide +kernel
theorem d_C_draw_79 : decode u_C_draw.2.1 79 = .ok (.aload_n 0, 1) := by decide +kernel
theorem d_C_draw_80 : decode u_C_draw.2.1 80 = .ok (.getfield 17, 3) := by decide +kernel
theorem d_C_draw_83 : decode u_C_draw.2.1 83 = .ok (.iload_n 1, 1) := by decide +kernel
theorem d_C_draw_84 : decode u_C_draw.2.1 84 = .ok (.aaload, 1) := by decide +kernel
theorem d_C_draw_85 : decode u_C_draw.2.1 85 = .ok (.invokestatic 156, 3) := by decide +kernel
theorem d_C_draw_88 : decode u_C_draw.2.1 88 = .ok (.aload 5, 2) := by decide +kernel
theorem d_C_draw_90 : decode u_C_draw.2.1 90 = .ok (.iload_n 2, 1) := by decide +kernel
theorem d_C_draw_91 : decode u_C_draw.2.1 91 = .ok (.putfield 160, 3) := by decide +kernel
theorem d_C_draw_94 : decode u_C_draw.2.1 94 = .ok (.aload 5, 2) := by decide +kernel
theorem d_C_draw_96 : decode u_C_draw.2.1 96 = .ok (.iload 4, 2) := by decide +kernel
theorem d_C_draw_98 : decode u_C_draw.2.1 98 = .ok (.putfield 163, 3) := by decide +kernel
theorem d_C_draw_101 : decode u_C_draw.2.1 101 = .ok (.aload 5, 2) := by decide +kernel
theorem d_C_draw_103 : decode u_C_draw.2.1 103 = .ok (.iconst (-1), 1) := by decide +kernel
theorem d_C_draw_104 : decode u_C_draw.2.1 104 = .ok (.putfield 166, 3) := by decide +kernel
theorem d_C_draw_107 : decode u_C_draw.2.1 107 = .ok (.aload 5, 2) := by decide +kernel
theorem d_C_draw_109 : decode u_C_draw.2.1 109 = .ok (.aload 5, 2) := by decide +kernel
theorem d_C_draw_111 : decode u_C_draw.2.1 111 = .ok (.aload_n 0, 1) := by decide +kernel
theorem d_C_draw_112 : decode u_C_draw.2.1 112 = .ok (.getfield 11, 3) := by decide +kernel
theorem d_C_draw_115 : decode u_C_draw.2.1 115 = .ok (.iload_n 2, 1) := by decide +kernel
theorem d_C_draw_116 : decode u_C_draw.2.1 116 = .ok (.aaload, 1) := by decide +kernel
theorem d_C_draw_117 : decode u_C_draw.2.1 117 = .ok (.getfield 88, 3) := by decide +kernel
theorem d_C_draw_120 : decode u_C_draw.2.1 120 = .ok (.aload_n 0, 1) := by decide +kernel
theorem d_C_draw_121 : decode u_C_draw.2.1 121 = .ok (.getfield 17, 3) := by decide +kernel
theorem d_C_draw_124 : decode u_C_draw.2.1 124 = .ok (.iload_n 1, 1) := by decide +kernel
theorem d_C_draw_125 : decode u_C_draw.2.1 125 = .ok (.aaload, 1) := by decide +kernel
theorem d_C_draw_126 : decode u_C_draw.2.1 126 = .ok (.invokestatic 169, 3) := by decide +kernel
theorem d_C_draw_129 : decode u_C_draw.2.1 129 = .ok (.putfield 173, 3) := by decide +kernel
theorem d_C_draw_132 : decode u_C_draw.2.1 132 = .ok (.aload_n 0, 1) := by decide +kernel
theorem d_C_draw_133 : decode u_C_draw.2.1 133 = .ok (.dup, 1) := by decide +kernel
theorem d_C_draw_134 : decode u_C_draw.2.1 134 = .ok (.getfield 146, 3) := by decide +kernel
theorem d_C_draw_137 : decode u_C_draw.2.1 137 = .ok (.iconst 1, 1) := by decide +kernel
theorem d_C_draw_138 : decode u_C_draw.2.1 138 = .ok (.iadd, 1) := by decide +kernel
theorem d_C_draw_139 : decode u_C_draw.2.1 139 = .ok (.putfield 146, 3) := by decide +kernel
theorem d_C_draw_142 : decode u_C_draw.2.1 142 = .ok (.aload_n 0, 1) := by decide +kernel
theorem d_C_draw_143 : decode u_C_draw.2.1 143 = .ok (.getfield 146, 3) := by decide +kernel
theorem d_C_draw_146 : decode u_C_draw.2.1 146 = .ok (.iconst 1, 1) := by decide +kernel
theorem d_C_draw_147 : decode u_C_draw.2.1 147 = .ok (.isub, 1) := by decide +kernel
theorem d_C_draw_148 : decode u_C_draw.2.1 148 = .ok (.ireturn, 1) := by decide +kernel
theorem d_C_copied_0 : decode u_C_copied.2.1 0 = .ok (.iload_n 1, 1) := by decide +kernel
theorem d_C_copied_1 : decode u_C_copied.2.1 1 = .ok (.invokestatic 120, 3) := by decide +kernel
theorem d_C_copied_4 : decode u_C_copied.2.1 4 = .ok (.ifCond .eq 19, 3) := by decide +kernel
theorem d_C_copied_7 : decode u_C_copied.2.1 7 = .ok (.aload_n 0, 1) := by decide +kernel
theorem d_C_copied_8 : decode u_C_copied.2.1 8 = .ok (.iload_n 2, 1) := by decide +kernel
theorem d_C_copied_9 : decode u_C_copied.2.1 9 = .ok (.invokevirtual 176, 3) := by decide +kernel
theorem d_C_copied_12 : decode u_C_copied.2.1 12 = .ok (.ifCond .eq 11, 3) := by decide +kernel
theorem d_C_copied_15 : decode u_C_copied.2.1 15 = .ok (.aload_n 0, 1) := by decide +kernel
theorem d_C_copied_16 : decode u_C_copied.2.1 16 = .ok (.iload_n 3, 1) := by decide +kernel
theorem d_C_copied_17 : decode u_C_copied.2.1 17 = .ok (.invokevirtual 143, 3) := by decide +kernel
theorem d_C_copied_20 : decode u_C_copied.2.1 20 = .ok (.ifCond .ne 6, 3) := by decide +kernel
theorem d_C_copied_23 : decode u_C_copied.2.1 23 = .ok (.bipush (-2), 2) := by decide +kernel
theorem d_C_copied_25 : decode u_C_copied.2.1 25 = .ok (.ireturn, 1) := by decide +kernel
theorem d_C_copied_26 : decode u_C_copied.2.1 26 = .ok (.aload_n 0, 1) := by decide +kernel
theorem d_C_copied_27 : decode u_C_copied.2.1 27 = .ok (.getfield 146, 3) := by decide +kernel
theorem d_C_copied_30 : decode u_C_copied.2.1 30 = .ok (.bipush 30, 2) := by decide +kernel
theorem d_C_copied_32 : decode u_C_copied.2.1 32 = .ok (.if_icmp .lt 6, 3) := by decide +kernel
theorem d_C_copied_35 : decode u_C_copied.2.1 35 = .ok (.bipush (-4), 2) := by decide +kernel
theorem d_C_copied_37 : decode u_C_copied.2.1 37 = .ok (.ireturn, 1) := by decide +kernel
theorem d_C_copied_38 : decode u_C_copied.2.1 38 = .ok (.aload_n 0, 1) := by decide +kernel
theorem d_C_copied_39 : decode u_C_copied.2.1 39 = .ok (.getfield 23, 3) := by decide +kernel
theorem d_C_copied_42 : decode u_C_copied.2.1 42 = .ok (.iload_n 2, 1) := by decide +kernel
theorem d_C_copied_43 : decode u_C_copied.2.1 43 = .ok (.aaload, 1) := by decide +kernel
theorem d_C_copied_44 : decode u_C_copied.2.1 44 = .ok (.astore 4, 2) := by decide +kernel
theorem d_C_copied_46 : decode u_C_copied.2.1 46 = .ok (.aload_n 0, 1) := by decide +kernel
theorem d_C_copied_47 : decode u_C_copied.2.1 47 = .ok (.getfield 23, 3) := by decide +kernel
theorem d_C_copied_50 : decode u_C_copied.2.1 50 = .ok (.aload_n 0, 1) := by decide +kernel
theorem d_C_copied_51 : decode u_C_copied.2.1 51 = .ok (.getfield 146, 3) := by decide +kernel
theorem d_C_copied_54 : decode u_C_copied.2.1 54 = .ok (.aaload, 1) := by decide +kernel
theorem d_C_copied_55 : decode u_C_copied.2.1 55 = .ok (.astore 5, 2) := by decide +kernel
theorem d_C_copied_57 : decode u_C_copied.2.1 57 = .ok (.aload 4, 2) := by decide +kernel
theorem d_C_copied_59 : decode u_C_copied.2.1 59 = .ok (.getfield 149, 3) := by decide +kernel
theorem d_C_copied_62 : decode u_C_copied.2.1 62 = .ok (.iconst 0, 1) := by decide +kernel
theorem d_C_copied_63 : decode u_C_copied.2.1 63 = .ok (.aload 5, 2) := by decide +kernel
theorem d_C_copied_65 : decode u_C_copied.2.1 65 = .ok (.getfield 149, 3) := by decide +kernel
theorem d_C_copied_68 : decode u_C_copied.2.1 68 = .ok (.iconst 0, 1) := by decide +kernel
theorem d_C_copied_69 : decode u_C_copied.2.1 69 = .ok (.bipush 8, 2) := by decide +kernel
theorem d_C_copied_71 : decode u_C_copied.2.1 71 = .ok (.invokestatic 179, 3) := by decide +kernel
theorem d_C_copied_74 : decode u_C_copied.2.1 74 = .ok (.aload 5, 2) := by decide +kernel
theorem d_C_copied_76 : decode u_C_copied.2.1 76 = .ok (.aload 4, 2) := by decide +kernel
theorem d_C_copied_78 : decode u_C_copied.2.1 78 = .ok (.getfield 185, 3) := by decide +kernel
theorem d_C_copied_81 : decode u_C_copied.2.1 81 = .ok (.aload_n 0, 1) := by decide +kernel
theorem d_C_copied_82 : decode u_C_copied.2.1 82 = .ok (.getfield 17, 3) := by decide +kernel
theorem d_C_copied_85 : decode u_C_copied.2.1 85 = .ok (.iload_n 1, 1) := by decide +kernel
theorem d_C_copied_86 : decode u_C_copied.2.1 86 = .ok (.aaload, 1) := by decide +kernel
theorem d_C_copied_87 : decode u_C_copied.2.1 87 = .ok (.invokestatic 156, 3) := by decide +kernel
theorem d_C_copied_90 : decode u_C_copied.2.1 90 = .ok (.aload 5, 2) := by decide +kernel
theorem d_C_copied_92 : decode u_C_copied.2.1 92 = .ok (.aload 4, 2) := by decide +kernel
theorem d_C_copied_94 : decode u_C_copied.2.1 94 = .ok (.getfield 160, 3) := by decide +kernel
theorem d_C_copied_97 : decode u_C_copied.2.1 97 = .ok (.putfield 160, 3) := by decide +kernel
theorem d_C_copied_100 : decode u_C_copied.2.1 100 = .ok (.aload 5, 2) := by decide +kernel
theorem d_C_copied_102 : decode u_C_copied.2.1 102 = .ok (.iload_n 3, 1) := by decide +kernel
theorem d_C_copied_103 : decode u_C_copied.2.1 103 = .ok (.putfield 163, 3) := by decide +kernel
theorem d_C_copied_106 : decode u_C_copied.2.1 106 = .ok (.aload 5, 2) := by decide +kernel
theorem d_C_copied_108 : decode u_C_copied.2.1 108 = .ok (.iload_n 2, 1) := by decide +kernel
theorem d_C_copied_109 : decode u_C_copied.2.1 109 = .ok (.putfield 166, 3) := by decide +kernel
theorem d_C_copied_112 : decode u_C_copied.2.1 112 = .ok (.aload 5, 2) := by decide +kernel
theorem d_C_copied_114 : decode u_C_copied.2.1 114 = .ok (.iconst 4, 1) := by decide +kernel
theorem d_C_copied_115 : decode u_C_copied.2.1 115 = .ok (.putfield 173, 3) := by decide +kernel
theorem d_C_copied_118 : decode u_C_copied.2.1 118 = .ok (.aload_n 0, 1) := by decide +kernel
theorem d_C_copied_119 : decode u_C_copied.2.1 119 = .ok (.dup, 1) := by decide +kernel
theorem d_C_copied_120 : decode u_C_copied.2.1 120 = .ok (.getfield 146, 3) := by decide +kernel
theorem d_C_copied_123 : decode u_C_copied.2.1 123 = .ok (.iconst 1, 1) := by decide +kernel
theorem d_C_copied_124 : decode u_C_copied.2.1 124 = .ok (.iadd, 1) := by decide +kernel
theorem d_C_copied_125 : decode u_C_copied.2.1 125 = .ok (.putfield 146, 3) := by decide +kernel
theorem d_C_copied_128 : decode u_C_copied.2.1 128 = .ok (.aload_n 0, 1) := by decide +kernel
theorem d_C_copied_129 : decode u_C_copied.2.1 129 = .ok (.getfield 146, 3) := by decide +kernel
theorem d_C_copied_132 : decode u_C_copied.2.1 132 = .ok (.iconst 1, 1) := by decide +kernel
theorem d_C_copied_133 : decode u_C_copied.2.1 133 = .ok (.isub, 1) := by decide +kernel
theorem d_C_copied_134 : decode u_C_copied.2.1 134 = .ok (.ireturn, 1) := by decide +kernel
theorem d_C_line_0 : decode u_C_line.2.1 0 = .ok (.aload_n 0, 1) := by decide +kernel
theorem d_C_line_1 : decode u_C_line.2.1 1 = .ok (.iload_n 1, 1) := by decide +kernel
theorem d_C_line_2 : decode u_C_line.2.1 2 = .ok (.invokevirtual 176, 3) := by decide +kernel
theorem d_C_line_5 : decode u_C_line.2.1 5 = .ok (.ifCond .eq 24, 3) := by decide +kernel
theorem d_C_line_8 : decode u_C_line.2.1 8 = .ok (.iload_n 2, 1) := by decide +kernel
theorem d_C_line_9 : decode u_C_line.2.1 9 = .ok (.invokestatic 82, 3) := by decide +kernel
theorem d_C_line_12 : decode u_C_line.2.1 12 = .ok (.ifCond .eq 17, 3) := by decide +kernel
theorem d_C_line_15 : decode u_C_line.2.1 15 = .ok (.aload_n 0, 1) := by decide +kernel
theorem d_C_line_16 : decode u_C_line.2.1 16 = .ok (.getfield 23, 3) := by decide +kernel
theorem d_C_line_19 : decode u_C_line.2.1 19 = .ok (.iload_n 1, 1) := by decide +kernel
theorem d_C_line_20 : decode u_C_line.2.1 20 = .ok (.aaload, 1) := by decide +kernel
theorem d_C_line_21 : decode u_C_line.2.1 21 = .ok (.getfield 185, 3) := by decide +kernel
theorem d_C_line_24 : decode u_C_line.2.1 24 = .ok (.iload_n 2, 1) := by decide +kernel
theorem d_C_line_25 : decode u_C_line.2.1 25 = .ok (.iaload, 1) := by decide +kernel
theorem d_C_line_26 : decode u_C_line.2.1 26 = .ok (.goto 6, 3) := by decide +kernel
theorem d_C_line_29 : decode u_C_line.2.1 29 = .ok (.sipush (-10002), 3) := by decide +kernel
theorem d_C_line_32 : decode u_C_line.2.1 32 = .ok (.ireturn, 1) := by decide +kernel
theorem d_C_about_0 : decode u_C_about.2.1 0 = .ok (.aload_n 0, 1) := by decide +kernel
theorem d_C_about_1 : decode u_C_about.2.1 1 = .ok (.iload_n 1, 1) := by decide +kernel
theorem d_C_about_2 : decode u_C_about.2.1 2 = .ok (.invokevirtual 176, 3) := by decide +kernel
theorem d_C_about_5 : decode u_C_about.2.1 5 = .ok (.ifCond .ne 6, 3) := by decide +kernel
theorem d_C_about_8 : decode u_C_about.2.1 8 = .ok (.bipush (-2), 2) := by decide +kernel
theorem d_C_about_10 : decode u_C_about.2.1 10 = .ok (.ireturn, 1) := by decide +kernel
theorem d_C_about_11 : decode u_C_about.2.1 11 = .ok (.aload_n 0, 1) := by decide +kernel
theorem d_C_about_12 : decode u_C_about.2.1 12 = .ok (.getfield 23, 3) := by decide +kernel
theorem d_C_about_15 : decode u_C_about.2.1 15 = .ok (.iload_n 1, 1) := by decide +kernel
theorem d_C_about_16 : decode u_C_about.2.1 16 = .ok (.aaload, 1) := by decide +kernel
theorem d_C_about_17 : decode u_C_about.2.1 17 = .ok (.astore_n 3, 1) := by decide +kernel
theorem d_C_about_18 : decode u_C_about.2.1 18 = .ok (.iload_n 2, 1) := by decide +kernel
theorem d_C_about_19 : decode u_C_about.2.1 19 = .ok (.tableswitch 100 0 7 #[45, 50, 55, 60, 77, 83, 89, 95], 45) := by decide +kernel
theorem d_C_about_64 : decode u_C_about.2.1 64 = .ok (.aload_n 3, 1) := by decide +kernel
theorem d_C_about_65 : decode u_C_about.2.1 65 = .ok (.getfield 160, 3) := by decide +kernel
theorem d_C_about_68 : decode u_C_about.2.1 68 = .ok (.ireturn, 1) := by decide +kernel
theorem d_C_about_69 : decode u_C_about.2.1 69 = .ok (.aload_n 3, 1) := by decide +kernel
theorem d_C_about_70 : decode u_C_about.2.1 70 = .ok (.getfield 163, 3) := by decide +kernel
theorem d_C_about_73 : decode u_C_about.2.1 73 = .ok (.ireturn, 1) := by decide +kernel
theorem d_C_about_74 : decode u_C_about.2.1 74 = .ok (.aload_n 3, 1) := by decide +kernel
theorem d_C_about_75 : decode u_C_about.2.1 75 = .ok (.getfield 173, 3) := by decide +kernel
theorem d_C_about_78 : decode u_C_about.2.1 78 = .ok (.ireturn, 1) := by decide +kernel
theorem d_C_about_79 : decode u_C_about.2.1 79 = .ok (.aload_n 3, 1) := by decide +kernel
theorem d_C_about_80 : decode u_C_about.2.1 80 = .ok (.aload_n 0, 1) := by decide +kernel
theorem d_C_about_81 : decode u_C_about.2.1 81 = .ok (.getfield 39, 3) := by decide +kernel
theorem d_C_about_84 : decode u_C_about.2.1 84 = .ok (.invokevirtual 188, 3) := by decide +kernel
theorem d_C_about_87 : decode u_C_about.2.1 87 = .ok (.ifCond .eq 7, 3) := by decide +kernel
theorem d_C_about_90 : decode u_C_about.2.1 90 = .ok (.iconst 1, 1) := by decide +kernel
theorem d_C_about_91 : decode u_C_about.2.1 91 = .ok (.goto 4, 3) := by decide +kernel
theorem d_C_about_94 : decode u_C_about.2.1 94 = .ok (.iconst 0, 1) := by decide +kernel
theorem d_C_about_95 : decode u_C_about.2.1 95 = .ok (.ireturn, 1) := by decide +kernel
theorem d_C_about_96 : decode u_C_about.2.1 96 = .ok (.aload_n 0, 1) := by decide +kernel
theorem d_C_about_97 : decode u_C_about.2.1 97 = .ok (.iload_n 1, 1) := by decide +kernel
theorem d_C_about_98 : decode u_C_about.2.1 98 = .ok (.invokevirtual 191, 3) := by decide +kernel
theorem d_C_about_101 : decode u_C_about.2.1 101 = .ok (.ireturn, 1) := by decide +kernel
theorem d_C_about_102 : decode u_C_about.2.1 102 = .ok (.aload_n 0, 1) := by decide +kernel
theorem d_C_about_103 : decode u_C_about.2.1 103 = .ok (.iload_n 1, 1) := by decide +kernel
theorem d_C_about_104 : decode u_C_about.2.1 104 = .ok (.invokevirtual 194, 3) := by decide +kernel
theorem d_C_about_107 : decode u_C_about.2.1 107 = .ok (.ireturn, 1) := by decide +kernel
theorem d_C_about_108 : decode u_C_about.2.1 108 = .ok (.aload_n 0, 1) := by decide +kernel
theorem d_C_about_109 : decode u_C_about.2.1 109 = .ok (.aload_n 3, 1) := by decide +kernel
theorem d_C_about_110 : decode u_C_about.2.1 110 = .ok (.invokevirtual 197, 3) := by decide +kernel
theorem d_C_about_113 : decode u_C_about.2.1 113 = .ok (.ireturn, 1) := by decide +kernel
theorem d_C_about_114 : decode u_C_about.2.1 114 = .ok (.aload_n 3, 1) := by decide +kernel
theorem d_C_about_115 : decode u_C_about.2.1 115 = .ok (.getfield 166, 3) := by decide +kernel
theorem d_C_about_118 : decode u_C_about.2.1 118 = .ok (.ireturn, 1) := by decide +kernel
theorem d_C_about_119 : decode u_C_about.2.1 119 = .ok (.bipush (-2), 2) := by decide +kernel
theorem d_C_about_121 : decode u_C_about.2.1 121 = .ok (.ireturn, 1) := by decide +kernel
theorem d_C_unlike_0 : decode u_C_unlike.2.1 0 = .ok (.aload_n 0, 1) := by decide +kernel
theorem d_C_unlike_1 : decode u_C_unlike.2.1 1 = .ok (.iload_n 1, 1) := by decide +kernel
theorem d_C_unlike_2 : decode u_C_unlike.2.1 2 = .ok (.invokevirtual 176, 3) := by decide +kernel
theorem d_C_unlike_5 : decode u_C_unlike.2.1 5 = .ok (.ifCond .eq 11, 3) := by decide +kernel
theorem d_C_unlike_8 : decode u_C_unlike.2.1 8 = .ok (.aload_n 0, 1) := by decide +kernel
theorem d_C_unlike_9 : decode u_C_unlike.2.1 9 = .ok (.iload_n 2, 1) := by decide +kernel
theorem d_C_unlike_10 : decode u_C_unlike.2.1 10 = .ok (.invokevirtual 176, 3) := by decide +kernel
theorem d_C_unlike_13 : decode u_C_unlike.2.1 13 = .ok (.ifCond .ne 6, 3) := by decide +kernel
theorem d_C_unlike_16 : decode u_C_unlike.2.1 16 = .ok (.bipush (-2), 2) := by decide +kernel
theorem d_C_unlike_18 : decode u_C_unlike.2.1 18 = .ok (.ireturn, 1) := by decide +kernel
theorem d_C_unlike_19 : decode u_C_unlike.2.1 19 = .ok (.aload_n 0, 1) := by decide +kernel
theorem d_C_unlike_20 : decode u_C_unlike.2.1 20 = .ok (.getfield 23, 3) := by decide +kernel
theorem d_C_unlike_23 : decode u_C_unlike.2.1 23 = .ok (.iload_n 1, 1) := by decide +kernel
theorem d_C_unlike_24 : decode u_C_unlike.2.1 24 = .ok (.aaload, 1) := by decide +kernel
theorem d_C_unlike_25 : decode u_C_unlike.2.1 25 = .ok (.aload_n 0, 1) := by decide +kernel
theorem d_C_unlike_26 : decode u_C_unlike.2.1 26 = .ok (.getfield 23, 3) := by decide +kernel
theorem d_C_unlike_29 : decode u_C_unlike.2.1 29 = .ok (.iload_n 2, 1) := by decide +kernel
theorem d_C_unlike_30 : decode u_C_unlike.2.1 30 = .ok (.aaload, 1) := by decide +kernel
theorem d_C_unlike_31 : decode u_C_unlike.2.1 31 = .ok (.aload_n 0, 1) := by decide +kernel
theorem d_C_unlike_32 : decode u_C_unlike.2.1 32 = .ok (.getfield 46, 3) := by decide +kernel
theorem d_C_unlike_35 : decode u_C_unlike.2.1 35 = .ok (.invokevirtual 201, 3) := by decide +kernel
theorem d_C_unlike_38 : decode u_C_unlike.2.1 38 = .ok (.ireturn, 1) := by decide +kernel
theorem d_C_knower_0 : decode u_C_knower.2.1 0 = .ok (.aload_n 0, 1) := by decide +kernel
theorem d_C_knower_1 : decode u_C_knower.2.1 1 = .ok (.iload_n 1, 1) := by decide +kernel
theorem d_C_knower_2 : decode u_C_knower.2.1 2 = .ok (.invokevirtual 114, 3) := by decide +kernel
theorem d_C_knower_5 : decode u_C_knower.2.1 5 = .ok (.ifCond .eq 15, 3) := by decide +kernel
theorem d_C_knower_8 : decode u_C_knower.2.1 8 = .ok (.iload_n 2, 1) := by decide +kernel
theorem d_C_knower_9 : decode u_C_knower.2.1 9 = .ok (.ifCond .eq 14, 3) := by decide +kernel
theorem d_C_knower_12 : decode u_C_knower.2.1 12 = .ok (.aload_n 0, 1) := by decide +kernel
theorem d_C_knower_13 : decode u_C_knower.2.1 13 = .ok (.iload_n 2, 1) := by decide +kernel
theorem d_C_knower_14 : decode u_C_knower.2.1 14 = .ok (.invokevirtual 114, 3) := by decide +kernel
theorem d_C_knower_17 : decode u_C_knower.2.1 17 = .ok (.ifCond .ne 6, 3) := by decide +kernel
theorem d_C_knower_20 : decode u_C_knower.2.1 20 = .ok (.bipush (-2), 2) := by decide +kernel
theorem d_C_knower_22 : decode u_C_knower.2.1 22 = .ok (.ireturn, 1) := by decide +kernel
theorem d_C_knower_23 : decode u_C_knower.2.1 23 = .ok (.aload_n 0, 1) := by decide +kernel
theorem d_C_knower_24 : decode u_C_knower.2.1 24 = .ok (.getfield 205, 3) := by decide +kernel
theorem d_C_knower_27 : decode u_C_knower.2.1 27 = .ok (.iconst 4, 1) := by decide +kernel
theorem d_C_knower_28 : decode u_C_knower.2.1 28 = .ok (.if_icmp .lt 6, 3) := by decide +kernel
theorem d_C_knower_31 : decode u_C_knower.2.1 31 = .ok (.bipush (-4), 2) := by decide +kernel
theorem d_C_knower_33 : decode u_C_knower.2.1 33 = .ok (.ireturn, 1) := by decide +kernel
theorem d_C_knower_34 : decode u_C_knower.2.1 34 = .ok (.aload_n 0, 1) := by decide +kernel
theorem d_C_knower_35 : decode u_C_knower.2.1 35 = .ok (.getfield 29, 3) := by decide +kernel
theorem d_C_knower_38 : decode u_C_knower.2.1 38 = .ok (.aload_n 0, 1) := by decide +kernel
theorem d_C_knower_39 : decode u_C_knower.2.1 39 = .ok (.getfield 205, 3) := by decide +kernel
theorem d_C_knower_42 : decode u_C_knower.2.1 42 = .ok (.aaload, 1) := by decide +kernel
theorem d_C_knower_43 : decode u_C_knower.2.1 43 = .ok (.astore_n 3, 1) := by decide +kernel
theorem d_C_knower_44 : decode u_C_knower.2.1 44 = .ok (.aload_n 3, 1) := by decide +kernel
theorem d_C_knower_45 : decode u_C_knower.2.1 45 = .ok (.iload_n 2, 1) := by decide +kernel
theorem d_C_knower_46 : decode u_C_knower.2.1 46 = .ok (.putfield 208, 3) := by decide +kernel
theorem d_C_knower_49 : decode u_C_knower.2.1 49 = .ok (.aload_n 0, 1) := by decide +kernel
theorem d_C_knower_50 : decode u_C_knower.2.1 50 = .ok (.iload_n 1, 1) := by decide +kernel
theorem d_C_knower_51 : decode u_C_knower.2.1 51 = .ok (.aload_n 3, 1) := by decide +kernel
theorem d_C_knower_52 : decode u_C_knower.2.1 52 = .ok (.getfield 211, 3) := by decide +kernel
theorem d_C_knower_55 : decode u_C_knower.2.1 55 = .ok (.invokevirtual 152, 3) := by decide +kernel
theorem d_C_knower_58 : decode u_C_knower.2.1 58 = .ok (.aload_n 0, 1) := by decide +kernel
theorem d_C_knower_59 : decode u_C_knower.2.1 59 = .ok (.dup, 1) := by decide +kernel
theorem d_C_knower_60 : decode u_C_knower.2.1 60 = .ok (.getfield 205, 3) := by decide +kernel
theorem d_C_knower_63 : decode u_C_knower.2.1 63 = .ok (.iconst 1, 1) := by decide +kernel
theorem d_C_knower_64 : decode u_C_knower.2.1 64 = .ok (.iadd, 1) := by decide +kernel
theorem d_C_knower_65 : decode u_C_knower.2.1 65 = .ok (.putfield 205, 3) := by decide +kernel
theorem d_C_knower_68 : decode u_C_knower.2.1 68 = .ok (.aload_n 0, 1) := by decide +kernel
theorem d_C_knower_69 : decode u_C_knower.2.1 69 = .ok (.getfield 205, 3) := by decide +kernel
theorem d_C_knower_72 : decode u_C_knower.2.1 72 = .ok (.iconst 1, 1) := by decide +kernel
theorem d_C_knower_73 : decode u_C_knower.2.1 73 = .ok (.isub, 1) := by decide +kernel
theorem d_C_knower_74 : decode u_C_knower.2.1 74 = .ok (.ireturn, 1) := by decide +kernel
theorem d_C_look_0 : decode u_C_look.2.1 0 = .ok (.aload_n 0, 1) := by decide +kernel
theorem d_C_look_1 : decode u_C_look.2.1 1 = .ok (.iload_n 1, 1) := by decide +kernel
theorem d_C_look_2 : decode u_C_look.2.1 2 = .ok (.invokevirtual 214, 3) := by decide +kernel
theorem d_C_look_5 : decode u_C_look.2.1 5 = .ok (.ifCond .eq 21, 3) := by decide +kernel
theorem d_C_look_8 : decode u_C_look.2.1 8 = .ok (.aload_n 0, 1) := by decide +kernel
theorem d_C_look_9 : decode u_C_look.2.1 9 = .ok (.iload_n 2, 1) := by decide +kernel
theorem d_C_look_10 : decode u_C_look.2.1 10 = .ok (.invokevirtual 176, 3) := by decide +kernel
theorem d_C_look_13 : decode u_C_look.2.1 13 = .ok (.ifCond .eq 13, 3) := by decide +kernel
theorem d_C_look_16 : decode u_C_look.2.1 16 = .ok (.iload_n 3, 1) := by decide +kernel
theorem d_C_look_17 : decode u_C_look.2.1 17 = .ok (.ifCond .lt 9, 3) := by decide +kernel
theorem d_C_look_20 : decode u_C_look.2.1 20 = .ok (.iload_n 3, 1) := by decide +kernel
theorem d_C_look_21 : decode u_C_look.2.1 21 = .ok (.bipush 60, 2) := by decide +kernel
theorem d_C_look_23 : decode u_C_look.2.1 23 = .ok (.if_icmp .le 6, 3) := by decide +kernel
theorem d_C_look_26 : decode u_C_look.2.1 26 = .ok (.bipush (-2), 2) := by decide +kernel
theorem d_C_look_28 : decode u_C_look.2.1 28 = .ok (.ireturn, 1) := by decide +kernel
theorem d_C_look_29 : decode u_C_look.2.1 29 = .ok (.aload_n 0, 1) := by decide +kernel
theorem d_C_look_30 : decode u_C_look.2.1 30 = .ok (.getfield 29, 3) := by decide +kernel
theorem d_C_look_33 : decode u_C_look.2.1 33 = .ok (.iload_n 1, 1) := by decide +kernel
theorem d_C_look_34 : decode u_C_look.2.1 34 = .ok (.aaload, 1) := by decide +kernel
theorem d_C_look_35 : decode u_C_look.2.1 35 = .ok (.aload_n 0, 1) := by decide +kernel
theorem d_C_look_36 : decode u_C_look.2.1 36 = .ok (.getfield 23, 3) := by decide +kernel
theorem d_C_look_39 : decode u_C_look.2.1 39 = .ok (.iload_n 2, 1) := by decide +kernel
theorem d_C_look_40 : decode u_C_look.2.1 40 = .ok (.aaload, 1) := by decide +kernel
theorem d_C_look_41 : decode u_C_look.2.1 41 = .ok (.iload_n 3, 1) := by decide +kernel
theorem d_C_look_42 : decode u_C_look.2.1 42 = .ok (.aload_n 0, 1) := by decide +kernel
theorem d_C_look_43 : decode u_C_look.2.1 43 = .ok (.getfield 43, 3) := by decide +kernel
theorem d_C_look_46 : decode u_C_look.2.1 46 = .ok (.invokevirtual 217, 3) := by decide +kernel
theorem d_C_look_49 : decode u_C_look.2.1 49 = .ok (.iconst 1, 1) := by decide +kernel
theorem d_C_look_50 : decode u_C_look.2.1 50 = .ok (.ireturn, 1) := by decide +kernel
theorem d_C_leans_0 : decode u_C_leans.2.1 0 = .ok (.aload_n 0, 1) := by decide +kernel
theorem d_C_leans_1 : decode u_C_leans.2.1 1 = .ok (.iload_n 1, 1) := by decide +kernel
theorem d_C_leans_2 : decode u_C_leans.2.1 2 = .ok (.invokevirtual 214, 3) := by decide +kernel
theorem d_C_leans_5 : decode u_C_leans.2.1 5 = .ok (.ifCond .eq 24, 3) := by decide +kernel
theorem d_C_leans_8 : decode u_C_leans.2.1 8 = .ok (.iload_n 2, 1) := by decide +kernel
theorem d_C_leans_9 : decode u_C_leans.2.1 9 = .ok (.invokestatic 82, 3) := by decide +kernel
theorem d_C_leans_12 : decode u_C_leans.2.1 12 = .ok (.ifCond .eq 17, 3) := by decide +kernel
theorem d_C_leans_15 : decode u_C_leans.2.1 15 = .ok (.aload_n 0, 1) := by decide +kernel
theorem d_C_leans_16 : decode u_C_leans.2.1 16 = .ok (.getfield 29, 3) := by decide +kernel
theorem d_C_leans_19 : decode u_C_leans.2.1 19 = .ok (.iload_n 1, 1) := by decide +kernel
theorem d_C_leans_20 : decode u_C_leans.2.1 20 = .ok (.aaload, 1) := by decide +kernel
theorem d_C_leans_21 : decode u_C_leans.2.1 21 = .ok (.getfield 211, 3) := by decide +kernel
theorem d_C_leans_24 : decode u_C_leans.2.1 24 = .ok (.iload_n 2, 1) := by decide +kernel
theorem d_C_leans_25 : decode u_C_leans.2.1 25 = .ok (.iaload, 1) := by decide +kernel
theorem d_C_leans_26 : decode u_C_leans.2.1 26 = .ok (.goto 6, 3) := by decide +kernel
theorem d_C_leans_29 : decode u_C_leans.2.1 29 = .ok (.sipush (-10002), 3) := by decide +kernel
theorem d_C_leans_32 : decode u_C_leans.2.1 32 = .ok (.ireturn, 1) := by decide +kernel
theorem d_C_score_0 : decode u_C_score.2.1 0 = .ok (.aload_n 0, 1) := by decide +kernel
theorem d_C_score_1 : decode u_C_score.2.1 1 = .ok (.iload_n 1, 1) := by decide +kernel
theorem d_C_score_2 : decode u_C_score.2.1 2 = .ok (.invokevirtual 214, 3) := by decide +kernel
theorem d_C_score_5 : decode u_C_score.2.1 5 = .ok (.ifCond .eq 30, 3) := by decide +kernel
theorem d_C_score_8 : decode u_C_score.2.1 8 = .ok (.aload_n 0, 1) := by decide +kernel
theorem d_C_score_9 : decode u_C_score.2.1 9 = .ok (.iload_n 2, 1) := by decide +kernel
theorem d_C_score_10 : decode u_C_score.2.1 10 = .ok (.invokevirtual 176, 3) := by decide +kernel
theorem d_C_score_13 : decode u_C_score.2.1 13 = .ok (.ifCond .eq 22, 3) := by decide +kernel
theorem d_C_score_16 : decode u_C_score.2.1 16 = .ok (.aload_n 0, 1) := by decide +kernel
theorem d_C_score_17 : decode u_C_score.2.1 17 = .ok (.iload_n 3, 1) := by decide +kernel
theorem d_C_score_18 : decode u_C_score.2.1 18 = .ok (.invokevirtual 78, 3) := by decide +kernel
theorem d_C_score_21 : decode u_C_score.2.1 21 = .ok (.ifCond .eq 14, 3) := by decide +kernel
theorem d_C_score_24 : decode u_C_score.2.1 24 = .ok (.iload 4, 2) := by decide +kernel
theorem d_C_score_26 : decode u_C_score.2.1 26 = .ok (.ifCond .lt 9, 3) := by decide +kernel
theorem d_C_score_29 : decode u_C_score.2.1 29 = .ok (.iload 4, 2) := by decide +kernel
theorem d_C_score_31 : decode u_C_score.2.1 31 = .ok (.iconst 1, 1) := by decide +kernel
theorem d_C_score_32 : decode u_C_score.2.1 32 = .ok (.if_icmp .le 7, 3) := by decide +kernel
theorem d_C_score_35 : decode u_C_score.2.1 35 = .ok (.ldc2_w 221, 3) := by decide +kernel
theorem d_C_score_38 : decode u_C_score.2.1 38 = .ok (.lreturn, 1) := by decide +kernel
theorem d_C_score_39 : decode u_C_score.2.1 39 = .ok (.aload_n 0, 1) := by decide +kernel
theorem d_C_score_40 : decode u_C_score.2.1 40 = .ok (.getfield 29, 3) := by decide +kernel
theorem d_C_score_43 : decode u_C_score.2.1 43 = .ok (.iload_n 1, 1) := by decide +kernel
theorem d_C_score_44 : decode u_C_score.2.1 44 = .ok (.aaload, 1) := by decide +kernel
theorem d_C_score_45 : decode u_C_score.2.1 45 = .ok (.iload_n 3, 1) := by decide +kernel
theorem d_C_score_46 : decode u_C_score.2.1 46 = .ok (.invokevirtual 223, 3) := by decide +kernel
theorem d_C_score_49 : decode u_C_score.2.1 49 = .ok (.ifCond .ne 7, 3) := by decide +kernel
theorem d_C_score_52 : decode u_C_score.2.1 52 = .ok (.ldc2_w 226, 3) := by decide +kernel
theorem d_C_score_55 : decode u_C_score.2.1 55 = .ok (.lreturn, 1) := by decide +kernel
theorem d_C_score_56 : decode u_C_score.2.1 56 = .ok (.aload_n 0, 1) := by decide +kernel
theorem d_C_score_57 : decode u_C_score.2.1 57 = .ok (.getfield 29, 3) := by decide +kernel
theorem d_C_score_60 : decode u_C_score.2.1 60 = .ok (.iload_n 1, 1) := by decide +kernel
theorem d_C_score_61 : decode u_C_score.2.1 61 = .ok (.aaload, 1) := by decide +kernel
theorem d_C_score_62 : decode u_C_score.2.1 62 = .ok (.aload_n 0, 1) := by decide +kernel
theorem d_C_score_63 : decode u_C_score.2.1 63 = .ok (.getfield 23, 3) := by decide +kernel
theorem d_C_score_66 : decode u_C_score.2.1 66 = .ok (.iload_n 2, 1) := by decide +kernel
theorem d_C_score_67 : decode u_C_score.2.1 67 = .ok (.aaload, 1) := by decide +kernel
theorem d_C_score_68 : decode u_C_score.2.1 68 = .ok (.aload_n 0, 1) := by decide +kernel
theorem d_C_score_69 : decode u_C_score.2.1 69 = .ok (.getfield 11, 3) := by decide +kernel
theorem d_C_score_72 : decode u_C_score.2.1 72 = .ok (.iload_n 3, 1) := by decide +kernel
theorem d_C_score_73 : decode u_C_score.2.1 73 = .ok (.aaload, 1) := by decide +kernel
theorem d_C_score_74 : decode u_C_score.2.1 74 = .ok (.aload_n 0, 1) := by decide +kernel
theorem d_C_score_75 : decode u_C_score.2.1 75 = .ok (.getfield 64, 3) := by decide +kernel
theorem d_C_score_78 : decode u_C_score.2.1 78 = .ok (.invokevirtual 228, 3) := by decide +kernel
theorem d_C_score_81 : decode u_C_score.2.1 81 = .ok (.aload_n 0, 1) := by decide +kernel
theorem d_C_score_82 : decode u_C_score.2.1 82 = .ok (.getfield 64, 3) := by decide +kernel
theorem d_C_score_85 : decode u_C_score.2.1 85 = .ok (.iload 4, 2) := by decide +kernel
theorem d_C_score_87 : decode u_C_score.2.1 87 = .ok (.invokevirtual 232, 3) := by decide +kernel
theorem d_C_score_90 : decode u_C_score.2.1 90 = .ok (.lreturn, 1) := by decide +kernel
theorem d_C_named_0 : decode u_C_named.2.1 0 = .ok (.aload_n 0, 1) := by decide +kernel
theorem d_C_named_1 : decode u_C_named.2.1 1 = .ok (.iload_n 1, 1) := by decide +kernel
theorem d_C_named_2 : decode u_C_named.2.1 2 = .ok (.invokevirtual 214, 3) := by decide +kernel
theorem d_C_named_5 : decode u_C_named.2.1 5 = .ok (.ifCond .eq 20, 3) := by decide +kernel
theorem d_C_named_8 : decode u_C_named.2.1 8 = .ok (.aload_n 0, 1) := by decide +kernel
theorem d_C_named_9 : decode u_C_named.2.1 9 = .ok (.iload_n 2, 1) := by decide +kernel
theorem d_C_named_10 : decode u_C_named.2.1 10 = .ok (.invokevirtual 176, 3) := by decide +kernel
theorem d_C_named_13 : decode u_C_named.2.1 13 = .ok (.ifCond .eq 12, 3) := by decide +kernel
theorem d_C_named_16 : decode u_C_named.2.1 16 = .ok (.iload_n 3, 1) := by decide +kernel
theorem d_C_named_17 : decode u_C_named.2.1 17 = .ok (.ifCond .lt 8, 3) := by decide +kernel
theorem d_C_named_20 : decode u_C_named.2.1 20 = .ok (.iload_n 3, 1) := by decide +kernel
theorem d_C_named_21 : decode u_C_named.2.1 21 = .ok (.iconst 1, 1) := by decide +kernel
theorem d_C_named_22 : decode u_C_named.2.1 22 = .ok (.if_icmp .le 6, 3) := by decide +kernel
theorem d_C_named_25 : decode u_C_named.2.1 25 = .ok (.bipush (-2), 2) := by decide +kernel
theorem d_C_named_27 : decode u_C_named.2.1 27 = .ok (.ireturn, 1) := by decide +kernel
theorem d_C_named_28 : decode u_C_named.2.1 28 = .ok (.aload_n 0, 1) := by decide +kernel
theorem d_C_named_29 : decode u_C_named.2.1 29 = .ok (.aload_n 0, 1) := by decide +kernel
theorem d_C_named_30 : decode u_C_named.2.1 30 = .ok (.getfield 29, 3) := by decide +kernel
theorem d_C_named_33 : decode u_C_named.2.1 33 = .ok (.iload_n 1, 1) := by decide +kernel
theorem d_C_named_34 : decode u_C_named.2.1 34 = .ok (.aaload, 1) := by decide +kernel
theorem d_C_named_35 : decode u_C_named.2.1 35 = .ok (.aload_n 0, 1) := by decide +kernel
theorem d_C_named_36 : decode u_C_named.2.1 36 = .ok (.getfield 23, 3) := by decide +kernel
theorem d_C_named_39 : decode u_C_named.2.1 39 = .ok (.iload_n 2, 1) := by decide +kernel
theorem d_C_named_40 : decode u_C_named.2.1 40 = .ok (.aaload, 1) := by decide +kernel
theorem d_C_named_41 : decode u_C_named.2.1 41 = .ok (.invokevirtual 236, 3) := by decide +kernel
theorem d_C_named_44 : decode u_C_named.2.1 44 = .ok (.istore 4, 2) := by decide +kernel
theorem d_C_named_46 : decode u_C_named.2.1 46 = .ok (.iload_n 3, 1) := by decide +kernel
theorem d_C_named_47 : decode u_C_named.2.1 47 = .ok (.ifCond .ne 6, 3) := by decide +kernel
theorem d_C_named_50 : decode u_C_named.2.1 50 = .ok (.iload 4, 2) := by decide +kernel
theorem d_C_named_52 : decode u_C_named.2.1 52 = .ok (.ireturn, 1) := by decide +kernel
theorem d_C_named_53 : decode u_C_named.2.1 53 = .ok (.iload 4, 2) := by decide +kernel
theorem d_C_named_55 : decode u_C_named.2.1 55 = .ok (.iconst (-1), 1) := by decide +kernel
theorem d_C_named_56 : decode u_C_named.2.1 56 = .ok (.if_icmp .ne 8, 3) := by decide +kernel
theorem d_C_named_59 : decode u_C_named.2.1 59 = .ok (.bipush (-3), 2) := by decide +kernel
theorem d_C_named_61 : decode u_C_named.2.1 61 = .ok (.goto 21, 3) := by decide +kernel
theorem d_C_named_64 : decode u_C_named.2.1 64 = .ok (.aload_n 0, 1) := by decide +kernel
theorem d_C_named_65 : decode u_C_named.2.1 65 = .ok (.aload_n 0, 1) := by decide +kernel
theorem d_C_named_66 : decode u_C_named.2.1 66 = .ok (.getfield 29, 3) := by decide +kernel
theorem d_C_named_69 : decode u_C_named.2.1 69 = .ok (.iload_n 1, 1) := by decide +kernel
theorem d_C_named_70 : decode u_C_named.2.1 70 = .ok (.aaload, 1) := by decide +kernel
theorem d_C_named_71 : decode u_C_named.2.1 71 = .ok (.aload_n 0, 1) := by decide +kernel
theorem d_C_named_72 : decode u_C_named.2.1 72 = .ok (.getfield 23, 3) := by decide +kernel
theorem d_C_named_75 : decode u_C_named.2.1 75 = .ok (.iload_n 2, 1) := by decide +kernel
theorem d_C_named_76 : decode u_C_named.2.1 76 = .ok (.aaload, 1) := by decide +kernel
theorem d_C_named_77 : decode u_C_named.2.1 77 = .ok (.iload 4, 2) := by decide +kernel
theorem d_C_named_79 : decode u_C_named.2.1 79 = .ok (.invokevirtual 240, 3) := by decide +kernel
theorem d_C_named_82 : decode u_C_named.2.1 82 = .ok (.ireturn, 1) := by decide +kernel
theorem d_C_much_0 : decode u_C_much.2.1 0 = .ok (.aload_n 0, 1) := by decide +kernel
theorem d_C_much_1 : decode u_C_much.2.1 1 = .ok (.iload_n 1, 1) := by decide +kernel
theorem d_C_much_2 : decode u_C_much.2.1 2 = .ok (.invokevirtual 214, 3) := by decide +kernel
theorem d_C_much_5 : decode u_C_much.2.1 5 = .ok (.ifCond .eq 30, 3) := by decide +kernel
theorem d_C_much_8 : decode u_C_much.2.1 8 = .ok (.aload_n 0, 1) := by decide +kernel
theorem d_C_much_9 : decode u_C_much.2.1 9 = .ok (.iload_n 2, 1) := by decide +kernel
theorem d_C_much_10 : decode u_C_much.2.1 10 = .ok (.invokevirtual 78, 3) := by decide +kernel
theorem d_C_much_13 : decode u_C_much.2.1 13 = .ok (.ifCond .eq 22, 3) := by decide +kernel
theorem d_C_much_16 : decode u_C_much.2.1 16 = .ok (.aload_n 0, 1) := by decide +kernel
theorem d_C_much_17 : decode u_C_much.2.1 17 = .ok (.iload_n 3, 1) := by decide +kernel
theorem d_C_much_18 : decode u_C_much.2.1 18 = .ok (.invokevirtual 114, 3) := by decide +kernel
theorem d_C_much_21 : decode u_C_much.2.1 21 = .ok (.ifCond .eq 14, 3) := by decide +kernel
theorem d_C_much_24 : decode u_C_much.2.1 24 = .ok (.iload 4, 2) := by decide +kernel
theorem d_C_much_26 : decode u_C_much.2.1 26 = .ok (.ifCond .lt 9, 3) := by decide +kernel
theorem d_C_much_29 : decode u_C_much.2.1 29 = .ok (.iload 4, 2) := by decide +kernel
theorem d_C_much_31 : decode u_C_much.2.1 31 = .ok (.iconst 2, 1) := by decide +kernel
theorem d_C_much_32 : decode u_C_much.2.1 32 = .ok (.if_icmp .le 6, 3) := by decide +kernel
theorem d_C_much_35 : decode u_C_much.2.1 35 = .ok (.bipush (-2), 2) := by decide +kernel
theorem d_C_much_37 : decode u_C_much.2.1 37 = .ok (.ireturn, 1) := by decide +kernel
theorem d_C_much_38 : decode u_C_much.2.1 38 = .ok (.iload 4, 2) := by decide +kernel
theorem d_C_much_40 : decode u_C_much.2.1 40 = .ok (.iconst 2, 1) := by decide +kernel
theorem d_C_much_41 : decode u_C_much.2.1 41 = .ok (.if_icmp .eq 19, 3) := by decide +kernel
theorem d_C_much_44 : decode u_C_much.2.1 44 = .ok (.aload_n 0, 1) := by decide +kernel
theorem d_C_much_45 : decode u_C_much.2.1 45 = .ok (.getfield 29, 3) := by decide +kernel
theorem d_C_much_48 : decode u_C_much.2.1 48 = .ok (.iload_n 1, 1) := by decide +kernel
theorem d_C_much_49 : decode u_C_much.2.1 49 = .ok (.aaload, 1) := by decide +kernel
theorem d_C_much_50 : decode u_C_much.2.1 50 = .ok (.iload_n 2, 1) := by decide +kernel
theorem d_C_much_51 : decode u_C_much.2.1 51 = .ok (.invokevirtual 223, 3) := by decide +kernel
theorem d_C_much_54 : decode u_C_much.2.1 54 = .ok (.ifCond .ne 6, 3) := by decide +kernel
theorem d_C_much_57 : decode u_C_much.2.1 57 = .ok (.bipush (-3), 2) := by decide +kernel
theorem d_C_much_59 : decode u_C_much.2.1 59 = .ok (.ireturn, 1) := by decide +kernel
theorem d_C_much_60 : decode u_C_much.2.1 60 = .ok (.aload_n 0, 1) := by decide +kernel
theorem d_C_much_61 : decode u_C_much.2.1 61 = .ok (.iload_n 3, 1) := by decide +kernel
theorem d_C_much_62 : decode u_C_much.2.1 62 = .ok (.aload_n 0, 1) := by decide +kernel
theorem d_C_much_63 : decode u_C_much.2.1 63 = .ok (.getfield 50, 3) := by decide +kernel
theorem d_C_much_66 : decode u_C_much.2.1 66 = .ok (.getfield 149, 3) := by decide +kernel
theorem d_C_much_69 : decode u_C_much.2.1 69 = .ok (.invokevirtual 152, 3) := by decide +kernel
theorem d_C_much_72 : decode u_C_much.2.1 72 = .ok (.iload 4, 2) := by decide +kernel
theorem d_C_much_74 : decode u_C_much.2.1 74 = .ok (.iconst 2, 1) := by decide +kernel
theorem d_C_much_75 : decode u_C_much.2.1 75 = .ok (.if_icmp .ne 9, 3) := by decide +kernel
theorem d_C_much_78 : decode u_C_much.2.1 78 = .ok (.aload_n 0, 1) := by decide +kernel
theorem d_C_much_79 : decode u_C_much.2.1 79 = .ok (.iload_n 2, 1) := by decide +kernel
theorem d_C_much_80 : decode u_C_much.2.1 80 = .ok (.invokevirtual 244, 3) := by decide +kernel
theorem d_C_much_83 : decode u_C_much.2.1 83 = .ok (.ireturn, 1) := by decide +kernel
theorem d_C_much_84 : decode u_C_much.2.1 84 = .ok (.iload 4, 2) := by decide +kernel
theorem d_C_much_86 : decode u_C_much.2.1 86 = .ok (.ifCond .ne 17, 3) := by decide +kernel
theorem d_C_much_89 : decode u_C_much.2.1 89 = .ok (.aload_n 0, 1) := by decide +kernel
theorem d_C_much_90 : decode u_C_much.2.1 90 = .ok (.aload_n 0, 1) := by decide +kernel
theorem d_C_much_91 : decode u_C_much.2.1 91 = .ok (.getfield 29, 3) := by decide +kernel
theorem d_C_much_94 : decode u_C_much.2.1 94 = .ok (.iload_n 1, 1) := by decide +kernel
theorem d_C_much_95 : decode u_C_much.2.1 95 = .ok (.aaload, 1) := by decide +kernel
theorem d_C_much_96 : decode u_C_much.2.1 96 = .ok (.iload_n 2, 1) := by decide +kernel
theorem d_C_much_97 : decode u_C_much.2.1 97 = .ok (.invokevirtual 247, 3) := by decide +kernel
theorem d_C_much_100 : decode u_C_much.2.1 100 = .ok (.goto 14, 3) := by decide +kernel
theorem d_C_much_103 : decode u_C_much.2.1 103 = .ok (.aload_n 0, 1) := by decide +kernel
theorem d_C_much_104 : decode u_C_much.2.1 104 = .ok (.aload_n 0, 1) := by decide +kernel
theorem d_C_much_105 : decode u_C_much.2.1 105 = .ok (.getfield 29, 3) := by decide +kernel
theorem d_C_much_108 : decode u_C_much.2.1 108 = .ok (.iload_n 1, 1) := by decide +kernel
theorem d_C_much_109 : decode u_C_much.2.1 109 = .ok (.aaload, 1) := by decide +kernel
theorem d_C_much_110 : decode u_C_much.2.1 110 = .ok (.iload_n 2, 1) := by decide +kernel
theorem d_C_much_111 : decode u_C_much.2.1 111 = .ok (.invokevirtual 251, 3) := by decide +kernel
theorem d_C_much_114 : decode u_C_much.2.1 114 = .ok (.ireturn, 1) := by decide +kernel
theorem d_C_few_0 : decode u_C_few.2.1 0 = .ok (.aload_n 0, 1) := by decide +kernel
theorem d_C_few_1 : decode u_C_few.2.1 1 = .ok (.iload_n 1, 1) := by decide +kernel
theorem d_C_few_2 : decode u_C_few.2.1 2 = .ok (.iload_n 2, 1) := by decide +kernel
theorem d_C_few_3 : decode u_C_few.2.1 3 = .ok (.iload_n 3, 1) := by decide +kernel
theorem d_C_few_4 : decode u_C_few.2.1 4 = .ok (.iload 4, 2) := by decide +kernel
theorem d_C_few_6 : decode u_C_few.2.1 6 = .ok (.invokevirtual 254, 3) := by decide +kernel
theorem d_C_few_9 : decode u_C_few.2.1 9 = .ok (.istore 5, 2) := by decide +kernel
theorem d_C_few_11 : decode u_C_few.2.1 11 = .ok (.iload 5, 2) := by decide +kernel
theorem d_C_few_13 : decode u_C_few.2.1 13 = .ok (.ifCond .eq 6, 3) := by decide +kernel
theorem d_C_few_16 : decode u_C_few.2.1 16 = .ok (.iload 5, 2) := by decide +kernel
theorem d_C_few_18 : decode u_C_few.2.1 18 = .ok (.ireturn, 1) := by decide +kernel
theorem d_C_few_19 : decode u_C_few.2.1 19 = .ok (.aload_n 0, 1) := by decide +kernel
theorem d_C_few_20 : decode u_C_few.2.1 20 = .ok (.iload_n 3, 1) := by decide +kernel
theorem d_C_few_21 : decode u_C_few.2.1 21 = .ok (.aload_n 0, 1) := by decide +kernel
theorem d_C_few_22 : decode u_C_few.2.1 22 = .ok (.getfield 50, 3) := by decide +kernel
theorem d_C_few_25 : decode u_C_few.2.1 25 = .ok (.getfield 149, 3) := by decide +kernel
theorem d_C_few_28 : decode u_C_few.2.1 28 = .ok (.invokevirtual 152, 3) := by decide +kernel
theorem d_C_few_31 : decode u_C_few.2.1 31 = .ok (.iconst 1, 1) := by decide +kernel
theorem d_C_few_32 : decode u_C_few.2.1 32 = .ok (.istore 6, 2) := by decide +kernel
theorem d_C_few_34 : decode u_C_few.2.1 34 = .ok (.iload 6, 2) := by decide +kernel
theorem d_C_few_36 : decode u_C_few.2.1 36 = .ok (.bipush 8, 2) := by decide +kernel
theorem d_C_few_38 : decode u_C_few.2.1 38 = .ok (.if_icmp .gt 57, 3) := by decide +kernel
theorem d_C_few_41 : decode u_C_few.2.1 41 = .ok (.iconst 1, 1) := by decide +kernel
theorem d_C_few_42 : decode u_C_few.2.1 42 = .ok (.istore 7, 2) := by decide +kernel
theorem d_C_few_44 : decode u_C_few.2.1 44 = .ok (.iload 7, 2) := by decide +kernel
theorem d_C_few_46 : decode u_C_few.2.1 46 = .ok (.sipush 256, 3) := by decide +kernel
theorem d_C_few_49 : decode u_C_few.2.1 49 = .ok (.if_icmp .ge 40, 3) := by decide +kernel
theorem d_C_few_52 : decode u_C_few.2.1 52 = .ok (.iload 7, 2) := by decide +kernel
theorem d_C_few_54 : decode u_C_few.2.1 54 = .ok (.invokestatic 258, 3) := by decide +kernel
theorem d_C_few_57 : decode u_C_few.2.1 57 = .ok (.iload 6, 2) := by decide +kernel
theorem d_C_few_59 : decode u_C_few.2.1 59 = .ok (.if_icmp .ne 24, 3) := by decide +kernel
theorem d_C_few_62 : decode u_C_few.2.1 62 = .ok (.aload_n 0, 1) := by decide +kernel
theorem d_C_few_63 : decode u_C_few.2.1 63 = .ok (.aload_n 0, 1) := by decide +kernel
theorem d_C_few_64 : decode u_C_few.2.1 64 = .ok (.getfield 29, 3) := by decide +kernel
theorem d_C_few_67 : decode u_C_few.2.1 67 = .ok (.iload_n 1, 1) := by decide +kernel
theorem d_C_few_68 : decode u_C_few.2.1 68 = .ok (.aaload, 1) := by decide +kernel
theorem d_C_few_69 : decode u_C_few.2.1 69 = .ok (.iload_n 2, 1) := by decide +kernel
theorem d_C_few_70 : decode u_C_few.2.1 70 = .ok (.iload 7, 2) := by decide +kernel
theorem d_C_few_72 : decode u_C_few.2.1 72 = .ok (.iload 4, 2) := by decide +kernel
theorem d_C_few_74 : decode u_C_few.2.1 74 = .ok (.invokevirtual 263, 3) := by decide +kernel
theorem d_C_few_77 : decode u_C_few.2.1 77 = .ok (.ifCond .eq 6, 3) := by decide +kernel
theorem d_C_few_80 : decode u_C_few.2.1 80 = .ok (.iload 7, 2) := by decide +kernel
theorem d_C_few_82 : decode u_C_few.2.1 82 = .ok (.ireturn, 1) := by decide +kernel
theorem d_C_few_83 : decode u_C_few.2.1 83 = .ok (.iinc 7 1, 3) := by decide +kernel
theorem d_C_few_86 : decode u_C_few.2.1 86 = .ok (.goto (-42), 3) := by decide +kernel
theorem d_C_few_89 : decode u_C_few.2.1 89 = .ok (.iinc 6 1, 3) := by decide +kernel
theorem d_C_few_92 : decode u_C_few.2.1 92 = .ok (.goto (-58), 3) := by decide +kernel
theorem d_C_few_95 : decode u_C_few.2.1 95 = .ok (.iconst (-1), 1) := by decide +kernel
theorem d_C_few_96 : decode u_C_few.2.1 96 = .ok (.ireturn, 1) := by decide +kernel
theorem d_C_stands_0 : decode u_C_stands.2.1 0 = .ok (.aload_n 0, 1) := by decide +kernel
theorem d_C_stands_1 : decode u_C_stands.2.1 1 = .ok (.iload_n 1, 1) := by decide +kernel
theorem d_C_stands_2 : decode u_C_stands.2.1 2 = .ok (.iload_n 2, 1) := by decide +kernel
theorem d_C_stands_3 : decode u_C_stands.2.1 3 = .ok (.iload_n 3, 1) := by decide +kernel
theorem d_C_stands_4 : decode u_C_stands.2.1 4 = .ok (.iload 4, 2) := by decide +kernel
theorem d_C_stands_6 : decode u_C_stands.2.1 6 = .ok (.invokevirtual 254, 3) := by decide +kernel
theorem d_C_stands_9 : decode u_C_stands.2.1 9 = .ok (.istore 5, 2) := by decide +kernel
theorem d_C_stands_11 : decode u_C_stands.2.1 11 = .ok (.iload 5, 2) := by decide +kernel
theorem d_C_stands_13 : decode u_C_stands.2.1 13 = .ok (.ifCond .eq 6, 3) := by decide +kernel
theorem d_C_stands_16 : decode u_C_stands.2.1 16 = .ok (.iload 5, 2) := by decide +kernel
theorem d_C_stands_18 : decode u_C_stands.2.1 18 = .ok (.ireturn, 1) := by decide +kernel
theorem d_C_stands_19 : decode u_C_stands.2.1 19 = .ok (.aload_n 0, 1) := by decide +kernel
theorem d_C_stands_20 : decode u_C_stands.2.1 20 = .ok (.iload_n 3, 1) := by decide +kernel
theorem d_C_stands_21 : decode u_C_stands.2.1 21 = .ok (.aload_n 0, 1) := by decide +kernel
theorem d_C_stands_22 : decode u_C_stands.2.1 22 = .ok (.getfield 50, 3) := by decide +kernel
theorem d_C_stands_25 : decode u_C_stands.2.1 25 = .ok (.getfield 149, 3) := by decide +kernel
theorem d_C_stands_28 : decode u_C_stands.2.1 28 = .ok (.invokevirtual 152, 3) := by decide +kernel
theorem d_C_stands_31 : decode u_C_stands.2.1 31 = .ok (.iconst 0, 1) := by decide +kernel
theorem d_C_stands_32 : decode u_C_stands.2.1 32 = .ok (.istore 6, 2) := by decide +kernel
theorem d_C_stands_34 : decode u_C_stands.2.1 34 = .ok (.iconst 0, 1) := by decide +kernel
theorem d_C_stands_35 : decode u_C_stands.2.1 35 = .ok (.istore 7, 2) := by decide +kernel
theorem d_C_stands_37 : decode u_C_stands.2.1 37 = .ok (.iload 7, 2) := by decide +kernel
theorem d_C_stands_39 : decode u_C_stands.2.1 39 = .ok (.bipush 8, 2) := by decide +kernel
theorem d_C_stands_41 : decode u_C_stands.2.1 41 = .ok (.if_icmp .ge 38, 3) := by decide +kernel
theorem d_C_stands_44 : decode u_C_stands.2.1 44 = .ok (.aload_n 0, 1) := by decide +kernel
theorem d_C_stands_45 : decode u_C_stands.2.1 45 = .ok (.aload_n 0, 1) := by decide +kernel
theorem d_C_stands_46 : decode u_C_stands.2.1 46 = .ok (.getfield 29, 3) := by decide +kernel
theorem d_C_stands_49 : decode u_C_stands.2.1 49 = .ok (.iload_n 1, 1) := by decide +kernel
theorem d_C_stands_50 : decode u_C_stands.2.1 50 = .ok (.aaload, 1) := by decide +kernel
theorem d_C_stands_51 : decode u_C_stands.2.1 51 = .ok (.iload_n 2, 1) := by decide +kernel
theorem d_C_stands_52 : decode u_C_stands.2.1 52 = .ok (.iconst 1, 1) := by decide +kernel
theorem d_C_stands_53 : decode u_C_stands.2.1 53 = .ok (.iload 7, 2) := by decide +kernel
theorem d_C_stands_55 : decode u_C_stands.2.1 55 = .ok (.ishl, 1) := by decide +kernel
theorem d_C_stands_56 : decode u_C_stands.2.1 56 = .ok (.iload 4, 2) := by decide +kernel
theorem d_C_stands_58 : decode u_C_stands.2.1 58 = .ok (.invokevirtual 263, 3) := by decide +kernel
theorem d_C_stands_61 : decode u_C_stands.2.1 61 = .ok (.ifCond .eq 12, 3) := by decide +kernel
theorem d_C_stands_64 : decode u_C_stands.2.1 64 = .ok (.iload 6, 2) := by decide +kernel
theorem d_C_stands_66 : decode u_C_stands.2.1 66 = .ok (.iconst 1, 1) := by decide +kernel
theorem d_C_stands_67 : decode u_C_stands.2.1 67 = .ok (.iload 7, 2) := by decide +kernel
theorem d_C_stands_69 : decode u_C_stands.2.1 69 = .ok (.ishl, 1) := by decide +kernel
theorem d_C_stands_70 : decode u_C_stands.2.1 70 = .ok (.ior, 1) := by decide +kernel
theorem d_C_stands_71 : decode u_C_stands.2.1 71 = .ok (.istore 6, 2) := by decide +kernel
theorem d_C_stands_73 : decode u_C_stands.2.1 73 = .ok (.iinc 7 1, 3) := by decide +kernel
theorem d_C_stands_76 : decode u_C_stands.2.1 76 = .ok (.goto (-39), 3) := by decide +kernel
theorem d_C_stands_79 : decode u_C_stands.2.1 79 = .ok (.iload 6, 2) := by decide +kernel
theorem d_C_stands_81 : decode u_C_stands.2.1 81 = .ok (.ireturn, 1) := by decide +kernel
theorem d_C_grows_0 : decode u_C_grows.2.1 0 = .ok (.aload_n 0, 1) := by decide +kernel
theorem d_C_grows_1 : decode u_C_grows.2.1 1 = .ok (.iload_n 1, 1) := by decide +kernel
theorem d_C_grows_2 : decode u_C_grows.2.1 2 = .ok (.invokevirtual 78, 3) := by decide +kernel
theorem d_C_grows_5 : decode u_C_grows.2.1 5 = .ok (.ifCond .eq 19, 3) := by decide +kernel
theorem d_C_grows_8 : decode u_C_grows.2.1 8 = .ok (.iload_n 2, 1) := by decide +kernel
theorem d_C_grows_9 : decode u_C_grows.2.1 9 = .ok (.invokestatic 82, 3) := by decide +kernel
theorem d_C_grows_12 : decode u_C_grows.2.1 12 = .ok (.ifCond .eq 12, 3) := by decide +kernel
theorem d_C_grows_15 : decode u_C_grows.2.1 15 = .ok (.iload_n 3, 1) := by decide +kernel
theorem d_C_grows_16 : decode u_C_grows.2.1 16 = .ok (.ifCond .lt 8, 3) := by decide +kernel
theorem d_C_grows_19 : decode u_C_grows.2.1 19 = .ok (.iload_n 3, 1) := by decide +kernel
theorem d_C_grows_20 : decode u_C_grows.2.1 20 = .ok (.iconst 1, 1) := by decide +kernel
theorem d_C_grows_21 : decode u_C_grows.2.1 21 = .ok (.if_icmp .le 7, 3) := by decide +kernel
theorem d_C_grows_24 : decode u_C_grows.2.1 24 = .ok (.ldc2_w 221, 3) := by decide +kernel
theorem d_C_grows_27 : decode u_C_grows.2.1 27 = .ok (.lreturn, 1) := by decide +kernel
theorem d_C_grows_28 : decode u_C_grows.2.1 28 = .ok (.lconst 0, 1) := by decide +kernel
theorem d_C_grows_29 : decode u_C_grows.2.1 29 = .ok (.lstore 4, 2) := by decide +kernel
theorem d_C_grows_31 : decode u_C_grows.2.1 31 = .ok (.lconst 0, 1) := by decide +kernel
theorem d_C_grows_32 : decode u_C_grows.2.1 32 = .ok (.lstore 6, 2) := by decide +kernel
theorem d_C_grows_34 : decode u_C_grows.2.1 34 = .ok (.lconst 0, 1) := by decide +kernel
theorem d_C_grows_35 : decode u_C_grows.2.1 35 = .ok (.lstore 8, 2) := by decide +kernel
theorem d_C_grows_37 : decode u_C_grows.2.1 37 = .ok (.lconst 0, 1) := by decide +kernel
theorem d_C_grows_38 : decode u_C_grows.2.1 38 = .ok (.lstore 10, 2) := by decide +kernel
theorem d_C_grows_40 : decode u_C_grows.2.1 40 = .ok (.lconst 0, 1) := by decide +kernel
theorem d_C_grows_41 : decode u_C_grows.2.1 41 = .ok (.lstore 12, 2) := by decide +kernel
theorem d_C_grows_43 : decode u_C_grows.2.1 43 = .ok (.iconst 0, 1) := by decide +kernel
theorem d_C_grows_44 : decode u_C_grows.2.1 44 = .ok (.istore 14, 2) := by decide +kernel
theorem d_C_grows_46 : decode u_C_grows.2.1 46 = .ok (.iload 14, 2) := by decide +kernel
theorem d_C_grows_48 : decode u_C_grows.2.1 48 = .ok (.aload_n 0, 1) := by decide +kernel
theorem d_C_grows_49 : decode u_C_grows.2.1 49 = .ok (.getfield 146, 3) := by decide +kernel
theorem d_C_grows_52 : decode u_C_grows.2.1 52 = .ok (.if_icmp .ge 102, 3) := by decide +kernel
theorem d_C_grows_55 : decode u_C_grows.2.1 55 = .ok (.aload_n 0, 1) := by decide +kernel
theorem d_C_grows_56 : decode u_C_grows.2.1 56 = .ok (.getfield 23, 3) := by decide +kernel
theorem d_C_grows_59 : decode u_C_grows.2.1 59 = .ok (.iload 14, 2) := by decide +kernel
theorem d_C_grows_61 : decode u_C_grows.2.1 61 = .ok (.aaload, 1) := by decide +kernel
theorem d_C_grows_62 : decode u_C_grows.2.1 62 = .ok (.astore 15, 2) := by decide +kernel
theorem d_C_grows_64 : decode u_C_grows.2.1 64 = .ok (.aload 15, 2) := by decide +kernel
theorem d_C_grows_66 : decode u_C_grows.2.1 66 = .ok (.getfield 160, 3) := by decide +kernel
theorem d_C_grows_69 : decode u_C_grows.2.1 69 = .ok (.iload_n 1, 1) := by decide +kernel
theorem d_C_grows_70 : decode u_C_grows.2.1 70 = .ok (.if_icmp .ne 78, 3) := by decide +kernel
theorem d_C_grows_73 : decode u_C_grows.2.1 73 = .ok (.aload 15, 2) := by decide +kernel
theorem d_C_grows_75 : decode u_C_grows.2.1 75 = .ok (.iload_n 2, 1) := by decide +kernel
theorem d_C_grows_76 : decode u_C_grows.2.1 76 = .ok (.invokevirtual 267, 3) := by decide +kernel
theorem d_C_grows_79 : decode u_C_grows.2.1 79 = .ok (.ifCond .eq 69, 3) := by decide +kernel
theorem d_C_grows_82 : decode u_C_grows.2.1 82 = .ok (.lload 4, 2) := by decide +kernel
theorem d_C_grows_84 : decode u_C_grows.2.1 84 = .ok (.lconst 1, 1) := by decide +kernel
theorem d_C_grows_85 : decode u_C_grows.2.1 85 = .ok (.ladd, 1) := by decide +kernel
theorem d_C_grows_86 : decode u_C_grows.2.1 86 = .ok (.lstore 4, 2) := by decide +kernel
theorem d_C_grows_88 : decode u_C_grows.2.1 88 = .ok (.lload 6, 2) := by decide +kernel
theorem d_C_grows_90 : decode u_C_grows.2.1 90 = .ok (.aload 15, 2) := by decide +kernel
theorem d_C_grows_92 : decode u_C_grows.2.1 92 = .ok (.getfield 163, 3) := by decide +kernel
theorem d_C_grows_95 : decode u_C_grows.2.1 95 = .ok (.i2l, 1) := by decide +kernel
theorem d_C_grows_96 : decode u_C_grows.2.1 96 = .ok (.ladd, 1) := by decide +kernel
theorem d_C_grows_97 : decode u_C_grows.2.1 97 = .ok (.lstore 6, 2) := by decide +kernel
theorem d_C_grows_99 : decode u_C_grows.2.1 99 = .ok (.lload 8, 2) := by decide +kernel
theorem d_C_grows_101 : decode u_C_grows.2.1 101 = .ok (.aload 15, 2) := by decide +kernel
theorem d_C_grows_103 : decode u_C_grows.2.1 103 = .ok (.getfield 163, 3) := by decide +kernel
theorem d_C_grows_106 : decode u_C_grows.2.1 106 = .ok (.aload 15, 2) := by decide +kernel
theorem d_C_grows_108 : decode u_C_grows.2.1 108 = .ok (.getfield 163, 3) := by decide +kernel
theorem d_C_grows_111 : decode u_C_grows.2.1 111 = .ok (.imul, 1) := by decide +kernel
theorem d_C_grows_112 : decode u_C_grows.2.1 112 = .ok (.i2l, 1) := by decide +kernel
theorem d_C_grows_113 : decode u_C_grows.2.1 113 = .ok (.ladd, 1) := by decide +kernel
theorem d_C_grows_114 : decode u_C_grows.2.1 114 = .ok (.lstore 8, 2) := by decide +kernel
theorem d_C_grows_116 : decode u_C_grows.2.1 116 = .ok (.lload 10, 2) := by decide +kernel
theorem d_C_grows_118 : decode u_C_grows.2.1 118 = .ok (.aload 15, 2) := by decide +kernel
theorem d_C_grows_120 : decode u_C_grows.2.1 120 = .ok (.getfield 185, 3) := by decide +kernel
theorem d_C_grows_123 : decode u_C_grows.2.1 123 = .ok (.iload_n 2, 1) := by decide +kernel
theorem d_C_grows_124 : decode u_C_grows.2.1 124 = .ok (.iaload, 1) := by decide +kernel
theorem d_C_grows_125 : decode u_C_grows.2.1 125 = .ok (.i2l, 1) := by decide +kernel
theorem d_C_grows_126 : decode u_C_grows.2.1 126 = .ok (.ladd, 1) := by decide +kernel
theorem d_C_grows_127 : decode u_C_grows.2.1 127 = .ok (.lstore 10, 2) := by decide +kernel
theorem d_C_grows_129 : decode u_C_grows.2.1 129 = .ok (.lload 12, 2) := by decide +kernel
theorem d_C_grows_131 : decode u_C_grows.2.1 131 = .ok (.aload 15, 2) := by decide +kernel
theorem d_C_grows_133 : decode u_C_grows.2.1 133 = .ok (.getfield 163, 3) := by decide +kernel
theorem d_C_grows_136 : decode u_C_grows.2.1 136 = .ok (.aload 15, 2) := by decide +kernel
theorem d_C_grows_138 : decode u_C_grows.2.1 138 = .ok (.getfield 185, 3) := by decide +kernel
theorem d_C_grows_141 : decode u_C_grows.2.1 141 = .ok (.iload_n 2, 1) := by decide +kernel
theorem d_C_grows_142 : decode u_C_grows.2.1 142 = .ok (.iaload, 1) := by decide +kernel
theorem d_C_grows_143 : decode u_C_grows.2.1 143 = .ok (.imul, 1) := by decide +kernel
theorem d_C_grows_144 : decode u_C_grows.2.1 144 = .ok (.i2l, 1) := by decide +kernel
theorem d_C_grows_145 : decode u_C_grows.2.1 145 = .ok (.ladd, 1) := by decide +kernel
theorem d_C_grows_146 : decode u_C_grows.2.1 146 = .ok (.lstore 12, 2) := by decide +kernel
theorem d_C_grows_148 : decode u_C_grows.2.1 148 = .ok (.iinc 14 1, 3) := by decide +kernel
theorem d_C_grows_151 : decode u_C_grows.2.1 151 = .ok (.goto (-105), 3) := by decide +kernel
theorem d_C_grows_154 : decode u_C_grows.2.1 154 = .ok (.lload 4, 2) := by decide +kernel
theorem d_C_grows_156 : decode u_C_grows.2.1 156 = .ok (.lload 8, 2) := by decide +kernel
theorem d_C_grows_158 : decode u_C_grows.2.1 158 = .ok (.lmul, 1) := by decide +kernel
theorem d_C_grows_159 : decode u_C_grows.2.1 159 = .ok (.lload 6, 2) := by decide +kernel
theorem d_C_grows_161 : decode u_C_grows.2.1 161 = .ok (.lload 6, 2) := by decide +kernel
theorem d_C_grows_163 : decode u_C_grows.2.1 163 = .ok (.lmul, 1) := by decide +kernel
theorem d_C_grows_164 : decode u_C_grows.2.1 164 = .ok (.lsub, 1) := by decide +kernel
theorem d_C_grows_165 : decode u_C_grows.2.1 165 = .ok (.lstore 14, 2) := by decide +kernel
theorem d_C_grows_167 : decode u_C_grows.2.1 167 = .ok (.lload 14, 2) := by decide +kernel
theorem d_C_grows_169 : decode u_C_grows.2.1 169 = .ok (.lconst 0, 1) := by decide +kernel
theorem d_C_grows_170 : decode u_C_grows.2.1 170 = .ok (.lcmp, 1) := by decide +kernel
theorem d_C_grows_171 : decode u_C_grows.2.1 171 = .ok (.ifCond .ne 7, 3) := by decide +kernel
theorem d_C_grows_174 : decode u_C_grows.2.1 174 = .ok (.ldc2_w 226, 3) := by decide +kernel
theorem d_C_grows_177 : decode u_C_grows.2.1 177 = .ok (.lreturn, 1) := by decide +kernel
theorem d_C_grows_178 : decode u_C_grows.2.1 178 = .ok (.aload_n 0, 1) := by decide +kernel
theorem d_C_grows_179 : decode u_C_grows.2.1 179 = .ok (.getfield 64, 3) := by decide +kernel
theorem d_C_grows_182 : decode u_C_grows.2.1 182 = .ok (.lload 4, 2) := by decide +kernel
theorem d_C_grows_184 : decode u_C_grows.2.1 184 = .ok (.lload 12, 2) := by decide +kernel
theorem d_C_grows_186 : decode u_C_grows.2.1 186 = .ok (.lmul, 1) := by decide +kernel
theorem d_C_grows_187 : decode u_C_grows.2.1 187 = .ok (.lload 6, 2) := by decide +kernel
theorem d_C_grows_189 : decode u_C_grows.2.1 189 = .ok (.lload 10, 2) := by decide +kernel
theorem d_C_grows_191 : decode u_C_grows.2.1 191 = .ok (.lmul, 1) := by decide +kernel
theorem d_C_grows_192 : decode u_C_grows.2.1 192 = .ok (.lsub, 1) := by decide +kernel
theorem d_C_grows_193 : decode u_C_grows.2.1 193 = .ok (.lload 14, 2) := by decide +kernel
theorem d_C_grows_195 : decode u_C_grows.2.1 195 = .ok (.invokevirtual 270, 3) := by decide +kernel
theorem d_C_grows_198 : decode u_C_grows.2.1 198 = .ok (.aload_n 0, 1) := by decide +kernel
theorem d_C_grows_199 : decode u_C_grows.2.1 199 = .ok (.getfield 64, 3) := by decide +kernel
theorem d_C_grows_202 : decode u_C_grows.2.1 202 = .ok (.iload_n 3, 1) := by decide +kernel
theorem d_C_grows_203 : decode u_C_grows.2.1 203 = .ok (.invokevirtual 232, 3) := by decide +kernel
theorem d_C_grows_206 : decode u_C_grows.2.1 206 = .ok (.lreturn, 1) := by decide +kernel
theorem d_C_back_0 : decode u_C_back.2.1 0 = .ok (.aload_n 0, 1) := by decide +kernel
theorem d_C_back_1 : decode u_C_back.2.1 1 = .ok (.iload_n 1, 1) := by decide +kernel
theorem d_C_back_2 : decode u_C_back.2.1 2 = .ok (.invokevirtual 78, 3) := by decide +kernel
theorem d_C_back_5 : decode u_C_back.2.1 5 = .ok (.ifCond .eq 27, 3) := by decide +kernel
theorem d_C_back_8 : decode u_C_back.2.1 8 = .ok (.iload_n 2, 1) := by decide +kernel
theorem d_C_back_9 : decode u_C_back.2.1 9 = .ok (.invokestatic 120, 3) := by decide +kernel
theorem d_C_back_12 : decode u_C_back.2.1 12 = .ok (.ifCond .eq 20, 3) := by decide +kernel
theorem d_C_back_15 : decode u_C_back.2.1 15 = .ok (.iload_n 3, 1) := by decide +kernel
theorem d_C_back_16 : decode u_C_back.2.1 16 = .ok (.invokestatic 82, 3) := by decide +kernel
theorem d_C_back_19 : decode u_C_back.2.1 19 = .ok (.ifCond .eq 13, 3) := by decide +kernel
theorem d_C_back_22 : decode u_C_back.2.1 22 = .ok (.aload_n 0, 1) := by decide +kernel
theorem d_C_back_23 : decode u_C_back.2.1 23 = .ok (.iload_n 1, 1) := by decide +kernel
theorem d_C_back_24 : decode u_C_back.2.1 24 = .ok (.iload_n 2, 1) := by decide +kernel
theorem d_C_back_25 : decode u_C_back.2.1 25 = .ok (.iload_n 3, 1) := by decide +kernel
theorem d_C_back_26 : decode u_C_back.2.1 26 = .ok (.invokevirtual 274, 3) := by decide +kernel
theorem d_C_back_29 : decode u_C_back.2.1 29 = .ok (.goto 6, 3) := by decide +kernel
theorem d_C_back_32 : decode u_C_back.2.1 32 = .ok (.sipush (-10002), 3) := by decide +kernel
theorem d_C_back_35 : decode u_C_back.2.1 35 = .ok (.ireturn, 1) := by decide +kernel
theorem d_C_near_0 : decode u_C_near.2.1 0 = .ok (.aload_n 0, 1) := by decide +kernel
theorem d_C_near_1 : decode u_C_near.2.1 1 = .ok (.iload_n 1, 1) := by decide +kernel
theorem d_C_near_2 : decode u_C_near.2.1 2 = .ok (.invokevirtual 78, 3) := by decide +kernel
theorem d_C_near_5 : decode u_C_near.2.1 5 = .ok (.ifCond .eq 10, 3) := by decide +kernel
theorem d_C_near_8 : decode u_C_near.2.1 8 = .ok (.iload_n 2, 1) := by decide +kernel
theorem d_C_near_9 : decode u_C_near.2.1 9 = .ok (.invokestatic 120, 3) := by decide +kernel
theorem d_C_near_12 : decode u_C_near.2.1 12 = .ok (.ifCond .ne 6, 3) := by decide +kernel
theorem d_C_near_15 : decode u_C_near.2.1 15 = .ok (.bipush (-2), 2) := by decide +kernel
theorem d_C_near_17 : decode u_C_near.2.1 17 = .ok (.ireturn, 1) := by decide +kernel
theorem d_C_near_18 : decode u_C_near.2.1 18 = .ok (.iconst 0, 1) := by decide +kernel
theorem d_C_near_19 : decode u_C_near.2.1 19 = .ok (.istore_n 3, 1) := by decide +kernel
theorem d_C_near_20 : decode u_C_near.2.1 20 = .ok (.iconst 0, 1) := by decide +kernel
theorem d_C_near_21 : decode u_C_near.2.1 21 = .ok (.istore 4, 2) := by decide +kernel
theorem d_C_near_23 : decode u_C_near.2.1 23 = .ok (.iload 4, 2) := by decide +kernel
theorem d_C_near_25 : decode u_C_near.2.1 25 = .ok (.bipush 8, 2) := by decide +kernel
theorem d_C_near_27 : decode u_C_near.2.1 27 = .ok (.if_icmp .ge 48, 3) := by decide +kernel
theorem d_C_near_30 : decode u_C_near.2.1 30 = .ok (.aload_n 0, 1) := by decide +kernel
theorem d_C_near_31 : decode u_C_near.2.1 31 = .ok (.iload_n 1, 1) := by decide +kernel
theorem d_C_near_32 : decode u_C_near.2.1 32 = .ok (.iload_n 2, 1) := by decide +kernel
theorem d_C_near_33 : decode u_C_near.2.1 33 = .ok (.iload 4, 2) := by decide +kernel
theorem d_C_near_35 : decode u_C_near.2.1 35 = .ok (.invokevirtual 274, 3) := by decide +kernel
theorem d_C_near_38 : decode u_C_near.2.1 38 = .ok (.istore 5, 2) := by decide +kernel
theorem d_C_near_40 : decode u_C_near.2.1 40 = .ok (.iload 5, 2) := by decide +kernel
theorem d_C_near_42 : decode u_C_near.2.1 42 = .ok (.sipush (-9999), 3) := by decide +kernel
theorem d_C_near_45 : decode u_C_near.2.1 45 = .ok (.if_icmp .eq 24, 3) := by decide +kernel
theorem d_C_near_48 : decode u_C_near.2.1 48 = .ok (.iload_n 3, 1) := by decide +kernel
theorem d_C_near_49 : decode u_C_near.2.1 49 = .ok (.iload 5, 2) := by decide +kernel
theorem d_C_near_51 : decode u_C_near.2.1 51 = .ok (.aload_n 0, 1) := by decide +kernel
theorem d_C_near_52 : decode u_C_near.2.1 52 = .ok (.getfield 11, 3) := by decide +kernel
theorem d_C_near_55 : decode u_C_near.2.1 55 = .ok (.iload_n 1, 1) := by decide +kernel
theorem d_C_near_56 : decode u_C_near.2.1 56 = .ok (.aaload, 1) := by decide +kernel
theorem d_C_near_57 : decode u_C_near.2.1 57 = .ok (.getfield 88, 3) := by decide +kernel
theorem d_C_near_60 : decode u_C_near.2.1 60 = .ok (.iload 4, 2) := by decide +kernel
theorem d_C_near_62 : decode u_C_near.2.1 62 = .ok (.iaload, 1) := by decide +kernel
theorem d_C_near_63 : decode u_C_near.2.1 63 = .ok (.isub, 1) := by decide +kernel
theorem d_C_near_64 : decode u_C_near.2.1 64 = .ok (.invokestatic 277, 3) := by decide +kernel
theorem d_C_near_67 : decode u_C_near.2.1 67 = .ok (.iadd, 1) := by decide +kernel
theorem d_C_near_68 : decode u_C_near.2.1 68 = .ok (.istore_n 3, 1) := by decide +kernel
theorem d_C_near_69 : decode u_C_near.2.1 69 = .ok (.iinc 4 1, 3) := by decide +kernel
theorem d_C_near_72 : decode u_C_near.2.1 72 = .ok (.goto (-49), 3) := by decide +kernel
theorem d_C_near_75 : decode u_C_near.2.1 75 = .ok (.iload_n 3, 1) := by decide +kernel
theorem d_C_near_76 : decode u_C_near.2.1 76 = .ok (.ireturn, 1) := by decide +kernel
theorem d_C_witness_0 : decode u_C_witness.2.1 0 = .ok (.aload_n 0, 1) := by decide +kernel
theorem d_C_witness_1 : decode u_C_witness.2.1 1 = .ok (.iload_n 1, 1) := by decide +kernel
theorem d_C_witness_2 : decode u_C_witness.2.1 2 = .ok (.invokevirtual 78, 3) := by decide +kernel
theorem d_C_witness_5 : decode u_C_witness.2.1 5 = .ok (.ifCond .eq 21, 3) := by decide +kernel
theorem d_C_witness_8 : decode u_C_witness.2.1 8 = .ok (.aload_n 0, 1) := by decide +kernel
theorem d_C_witness_9 : decode u_C_witness.2.1 9 = .ok (.iload_n 2, 1) := by decide +kernel
theorem d_C_witness_10 : decode u_C_witness.2.1 10 = .ok (.invokevirtual 114, 3) := by decide +kernel
theorem d_C_witness_13 : decode u_C_witness.2.1 13 = .ok (.ifCond .eq 13, 3) := by decide +kernel
theorem d_C_witness_16 : decode u_C_witness.2.1 16 = .ok (.iload_n 3, 1) := by decide +kernel
theorem d_C_witness_17 : decode u_C_witness.2.1 17 = .ok (.ifCond .lt 9, 3) := by decide +kernel
theorem d_C_witness_20 : decode u_C_witness.2.1 20 = .ok (.iload_n 3, 1) := by decide +kernel
theorem d_C_witness_21 : decode u_C_witness.2.1 21 = .ok (.bipush 99, 2) := by decide +kernel
theorem d_C_witness_23 : decode u_C_witness.2.1 23 = .ok (.if_icmp .le 6, 3) := by decide +kernel
theorem d_C_witness_26 : decode u_C_witness.2.1 26 = .ok (.bipush (-2), 2) := by decide +kernel
theorem d_C_witness_28 : decode u_C_witness.2.1 28 = .ok (.ireturn, 1) := by decide +kernel
theorem d_C_witness_29 : decode u_C_witness.2.1 29 = .ok (.iconst 0, 1) := by decide +kernel
theorem d_C_witness_30 : decode u_C_witness.2.1 30 = .ok (.istore 4, 2) := by decide +kernel
theorem d_C_witness_32 : decode u_C_witness.2.1 32 = .ok (.iload 4, 2) := by decide +kernel
theorem d_C_witness_34 : decode u_C_witness.2.1 34 = .ok (.bipush 8, 2) := by decide +kernel
theorem d_C_witness_36 : decode u_C_witness.2.1 36 = .ok (.if_icmp .ge 39, 3) := by decide +kernel
theorem d_C_witness_39 : decode u_C_witness.2.1 39 = .ok (.aload_n 0, 1) := by decide +kernel
theorem d_C_witness_40 : decode u_C_witness.2.1 40 = .ok (.getfield 58, 3) := by decide +kernel
theorem d_C_witness_43 : decode u_C_witness.2.1 43 = .ok (.iload 4, 2) := by decide +kernel
theorem d_C_witness_45 : decode u_C_witness.2.1 45 = .ok (.aload_n 0, 1) := by decide +kernel
theorem d_C_witness_46 : decode u_C_witness.2.1 46 = .ok (.getfield 11, 3) := by decide +kernel
theorem d_C_witness_49 : decode u_C_witness.2.1 49 = .ok (.iload_n 1, 1) := by decide +kernel
theorem d_C_witness_50 : decode u_C_witness.2.1 50 = .ok (.aaload, 1) := by decide +kernel
theorem d_C_witness_51 : decode u_C_witness.2.1 51 = .ok (.getfield 88, 3) := by decide +kernel
theorem d_C_witness_54 : decode u_C_witness.2.1 54 = .ok (.iload 4, 2) := by decide +kernel
theorem d_C_witness_56 : decode u_C_witness.2.1 56 = .ok (.iaload, 1) := by decide +kernel
theorem d_C_witness_57 : decode u_C_witness.2.1 57 = .ok (.aload_n 0, 1) := by decide +kernel
theorem d_C_witness_58 : decode u_C_witness.2.1 58 = .ok (.iload_n 2, 1) := by decide +kernel
theorem d_C_witness_59 : decode u_C_witness.2.1 59 = .ok (.iload 4, 2) := by decide +kernel
theorem d_C_witness_61 : decode u_C_witness.2.1 61 = .ok (.invokevirtual 117, 3) := by decide +kernel
theorem d_C_witness_64 : decode u_C_witness.2.1 64 = .ok (.isub, 1) := by decide +kernel
theorem d_C_witness_65 : decode u_C_witness.2.1 65 = .ok (.invokestatic 277, 3) := by decide +kernel
theorem d_C_witness_68 : decode u_C_witness.2.1 68 = .ok (.iastore, 1) := by decide +kernel
theorem d_C_witness_69 : decode u_C_witness.2.1 69 = .ok (.iinc 4 1, 3) := by decide +kernel
theorem d_C_witness_72 : decode u_C_witness.2.1 72 = .ok (.goto (-40), 3) := by decide +kernel
theorem d_C_witness_75 : decode u_C_witness.2.1 75 = .ok (.iconst 0, 1) := by decide +kernel
theorem d_C_witness_76 : decode u_C_witness.2.1 76 = .ok (.istore 4, 2) := by decide +kernel
theorem d_C_witness_78 : decode u_C_witness.2.1 78 = .ok (.iload 4, 2) := by decide +kernel
theorem d_C_witness_80 : decode u_C_witness.2.1 80 = .ok (.bipush 56, 2) := by decide +kernel
theorem d_C_witness_82 : decode u_C_witness.2.1 82 = .ok (.if_icmp .ge 50, 3) := by decide +kernel
theorem d_C_witness_85 : decode u_C_witness.2.1 85 = .ok (.aload_n 0, 1) := by decide +kernel
theorem d_C_witness_86 : decode u_C_witness.2.1 86 = .ok (.invokevirtual 280, 3) := by decide +kernel
theorem d_C_witness_89 : decode u_C_witness.2.1 89 = .ok (.istore 5, 2) := by decide +kernel
theorem d_C_witness_91 : decode u_C_witness.2.1 91 = .ok (.aload_n 0, 1) := by decide +kernel
theorem d_C_witness_92 : decode u_C_witness.2.1 92 = .ok (.getfield 58, 3) := by decide +kernel
theorem d_C_witness_95 : decode u_C_witness.2.1 95 = .ok (.iload 5, 2) := by decide +kernel
theorem d_C_witness_97 : decode u_C_witness.2.1 97 = .ok (.iaload, 1) := by decide +kernel
theorem d_C_witness_98 : decode u_C_witness.2.1 98 = .ok (.iload_n 3, 1) := by decide +kernel
theorem d_C_witness_99 : decode u_C_witness.2.1 99 = .ok (.if_icmp .gt 6, 3) := by decide +kernel
theorem d_C_witness_102 : decode u_C_witness.2.1 102 = .ok (.iload 4, 2) := by decide +kernel
theorem d_C_witness_104 : decode u_C_witness.2.1 104 = .ok (.ireturn, 1) := by decide +kernel
theorem d_C_witness_105 : decode u_C_witness.2.1 105 = .ok (.aload_n 0, 1) := by decide +kernel
theorem d_C_witness_106 : decode u_C_witness.2.1 106 = .ok (.getfield 58, 3) := by decide +kernel
theorem d_C_witness_109 : decode u_C_witness.2.1 109 = .ok (.iload 5, 2) := by decide +kernel
theorem d_C_witness_111 : decode u_C_witness.2.1 111 = .ok (.dup2, 1) := by decide +kernel
theorem d_C_witness_112 : decode u_C_witness.2.1 112 = .ok (.iaload, 1) := by decide +kernel
theorem d_C_witness_113 : decode u_C_witness.2.1 113 = .ok (.aload_n 0, 1) := by decide +kernel
theorem d_C_witness_114 : decode u_C_witness.2.1 114 = .ok (.getfield 58, 3) := by decide +kernel
theorem d_C_witness_117 : decode u_C_witness.2.1 117 = .ok (.iload 5, 2) := by decide +kernel
theorem d_C_witness_119 : decode u_C_witness.2.1 119 = .ok (.iaload, 1) := by decide +kernel
theorem d_C_witness_120 : decode u_C_witness.2.1 120 = .ok (.iconst 1, 1) := by decide +kernel
theorem d_C_witness_121 : decode u_C_witness.2.1 121 = .ok (.iadd, 1) := by decide +kernel
theorem d_C_witness_122 : decode u_C_witness.2.1 122 = .ok (.iconst 2, 1) := by decide +kernel
theorem d_C_witness_123 : decode u_C_witness.2.1 123 = .ok (.idiv, 1) := by decide +kernel
theorem d_C_witness_124 : decode u_C_witness.2.1 124 = .ok (.isub, 1) := by decide +kernel
theorem d_C_witness_125 : decode u_C_witness.2.1 125 = .ok (.iastore, 1) := by decide +kernel
theorem d_C_witness_126 : decode u_C_witness.2.1 126 = .ok (.iinc 4 1, 3) := by decide +kernel
theorem d_C_witness_129 : decode u_C_witness.2.1 129 = .ok (.goto (-51), 3) := by decide +kernel
theorem d_C_witness_132 : decode u_C_witness.2.1 132 = .ok (.bipush 56, 2) := by decide +kernel
theorem d_C_witness_134 : decode u_C_witness.2.1 134 = .ok (.ireturn, 1) := by decide +kernel
theorem d_C_plainest_0 : decode u_C_plainest.2.1 0 = .ok (.aload_n 0, 1) := by decide +kernel
theorem d_C_plainest_1 : decode u_C_plainest.2.1 1 = .ok (.iload_n 1, 1) := by decide +kernel
theorem d_C_plainest_2 : decode u_C_plainest.2.1 2 = .ok (.invokevirtual 114, 3) := by decide +kernel
theorem d_C_plainest_5 : decode u_C_plainest.2.1 5 = .ok (.ifCond .ne 6, 3) := by decide +kernel
theorem d_C_plainest_8 : decode u_C_plainest.2.1 8 = .ok (.bipush (-2), 2) := by decide +kernel
theorem d_C_plainest_10 : decode u_C_plainest.2.1 10 = .ok (.ireturn, 1) := by decide +kernel
theorem d_C_plainest_11 : decode u_C_plainest.2.1 11 = .ok (.aload_n 0, 1) := by decide +kernel
theorem d_C_plainest_12 : decode u_C_plainest.2.1 12 = .ok (.iload_n 1, 1) := by decide +kernel
theorem d_C_plainest_13 : decode u_C_plainest.2.1 13 = .ok (.aload_n 0, 1) := by decide +kernel
theorem d_C_plainest_14 : decode u_C_plainest.2.1 14 = .ok (.getfield 54, 3) := by decide +kernel
theorem d_C_plainest_17 : decode u_C_plainest.2.1 17 = .ok (.invokevirtual 152, 3) := by decide +kernel
theorem d_C_plainest_20 : decode u_C_plainest.2.1 20 = .ok (.iconst (-1), 1) := by decide +kernel
theorem d_C_plainest_21 : decode u_C_plainest.2.1 21 = .ok (.istore_n 2, 1) := by decide +kernel
theorem d_C_plainest_22 : decode u_C_plainest.2.1 22 = .ok (.iconst 0, 1) := by decide +kernel
theorem d_C_plainest_23 : decode u_C_plainest.2.1 23 = .ok (.istore_n 3, 1) := by decide +kernel
theorem d_C_plainest_24 : decode u_C_plainest.2.1 24 = .ok (.iconst 0, 1) := by decide +kernel
theorem d_C_plainest_25 : decode u_C_plainest.2.1 25 = .ok (.istore 4, 2) := by decide +kernel
theorem d_C_plainest_27 : decode u_C_plainest.2.1 27 = .ok (.iload 4, 2) := by decide +kernel
theorem d_C_plainest_29 : decode u_C_plainest.2.1 29 = .ok (.aload_n 0, 1) := by decide +kernel
theorem d_C_plainest_30 : decode u_C_plainest.2.1 30 = .ok (.getfield 75, 3) := by decide +kernel
theorem d_C_plainest_33 : decode u_C_plainest.2.1 33 = .ok (.if_icmp .ge 52, 3) := by decide +kernel
theorem d_C_plainest_36 : decode u_C_plainest.2.1 36 = .ok (.iload_n 1, 1) := by decide +kernel
theorem d_C_plainest_37 : decode u_C_plainest.2.1 37 = .ok (.iload 4, 2) := by decide +kernel
theorem d_C_plainest_39 : decode u_C_plainest.2.1 39 = .ok (.ishr, 1) := by decide +kernel
theorem d_C_plainest_40 : decode u_C_plainest.2.1 40 = .ok (.iconst 1, 1) := by decide +kernel
theorem d_C_plainest_41 : decode u_C_plainest.2.1 41 = .ok (.iand, 1) := by decide +kernel
theorem d_C_plainest_42 : decode u_C_plainest.2.1 42 = .ok (.iconst 1, 1) := by decide +kernel
theorem d_C_plainest_43 : decode u_C_plainest.2.1 43 = .ok (.if_icmp .ne 36, 3) := by decide +kernel
theorem d_C_plainest_46 : decode u_C_plainest.2.1 46 = .ok (.aload_n 0, 1) := by decide +kernel
theorem d_C_plainest_47 : decode u_C_plainest.2.1 47 = .ok (.getfield 11, 3) := by decide +kernel
theorem d_C_plainest_50 : decode u_C_plainest.2.1 50 = .ok (.iload 4, 2) := by decide +kernel
theorem d_C_plainest_52 : decode u_C_plainest.2.1 52 = .ok (.aaload, 1) := by decide +kernel
theorem d_C_plainest_53 : decode u_C_plainest.2.1 53 = .ok (.aload_n 0, 1) := by decide +kernel
theorem d_C_plainest_54 : decode u_C_plainest.2.1 54 = .ok (.getfield 54, 3) := by decide +kernel
theorem d_C_plainest_57 : decode u_C_plainest.2.1 57 = .ok (.invokevirtual 284, 3) := by decide +kernel
theorem d_C_plainest_60 : decode u_C_plainest.2.1 60 = .ok (.istore 5, 2) := by decide +kernel
theorem d_C_plainest_62 : decode u_C_plainest.2.1 62 = .ok (.iload_n 2, 1) := by decide +kernel
theorem d_C_plainest_63 : decode u_C_plainest.2.1 63 = .ok (.iconst (-1), 1) := by decide +kernel
theorem d_C_plainest_64 : decode u_C_plainest.2.1 64 = .ok (.if_icmp .eq 9, 3) := by decide +kernel
theorem d_C_plainest_67 : decode u_C_plainest.2.1 67 = .ok (.iload 5, 2) := by decide +kernel
theorem d_C_plainest_69 : decode u_C_plainest.2.1 69 = .ok (.iload_n 3, 1) := by decide +kernel
theorem d_C_plainest_70 : decode u_C_plainest.2.1 70 = .ok (.if_icmp .ge 9, 3) := by decide +kernel
theorem d_C_plainest_73 : decode u_C_plainest.2.1 73 = .ok (.iload 4, 2) := by decide +kernel
theorem d_C_plainest_75 : decode u_C_plainest.2.1 75 = .ok (.istore_n 2, 1) := by decide +kernel
theorem d_C_plainest_76 : decode u_C_plainest.2.1 76 = .ok (.iload 5, 2) := by decide +kernel
theorem d_C_plainest_78 : decode u_C_plainest.2.1 78 = .ok (.istore_n 3, 1) := by decide +kernel
theorem d_C_plainest_79 : decode u_C_plainest.2.1 79 = .ok (.iinc 4 1, 3) := by decide +kernel
theorem d_C_plainest_82 : decode u_C_plainest.2.1 82 = .ok (.goto (-55), 3) := by decide +kernel
theorem d_C_plainest_85 : decode u_C_plainest.2.1 85 = .ok (.iload_n 2, 1) := by decide +kernel
theorem d_C_plainest_86 : decode u_C_plainest.2.1 86 = .ok (.ireturn, 1) := by decide +kernel
theorem d_C_sheet_0 : decode u_C_sheet.2.1 0 = .ok (.iload_n 1, 1) := by decide +kernel
end
section
theorem d_C_sheet_1 : decode u_C_sheet.2.1 1 = .ok (.invokestatic 91, 3) := by decide +kernel
theorem d_C_sheet_4 : decode u_C_sheet.2.1 4 = .ok (.ifCond .eq 16, 3) := by decide +kernel
theorem d_C_sheet_7 : decode u_C_sheet.2.1 7 = .ok (.iload_n 2, 1) := by decide +kernel
theorem d_C_sheet_8 : decode u_C_sheet.2.1 8 = .ok (.invokestatic 288, 3) := by decide +kernel
theorem d_C_sheet_11 : decode u_C_sheet.2.1 11 = .ok (.ifCond .eq 9, 3) := by decide +kernel
theorem d_C_sheet_14 : decode u_C_sheet.2.1 14 = .ok (.iload_n 3, 1) := by decide +kernel
theorem d_C_sheet_15 : decode u_C_sheet.2.1 15 = .ok (.bipush 60, 2) := by decide +kernel
theorem d_C_sheet_17 : decode u_C_sheet.2.1 17 = .ok (.if_icmp .le 6, 3) := by decide +kernel
theorem d_C_sheet_20 : decode u_C_sheet.2.1 20 = .ok (.bipush (-2), 2) := by decide +kernel
theorem d_C_sheet_22 : decode u_C_sheet.2.1 22 = .ok (.ireturn, 1) := by decide +kernel
theorem d_C_sheet_23 : decode u_C_sheet.2.1 23 = .ok (.iload_n 3, 1) := by decide +kernel
theorem d_C_sheet_24 : decode u_C_sheet.2.1 24 = .ok (.ifCond .ge 9, 3) := by decide +kernel
theorem d_C_sheet_27 : decode u_C_sheet.2.1 27 = .ok (.aload_n 0, 1) := by decide +kernel
theorem d_C_sheet_28 : decode u_C_sheet.2.1 28 = .ok (.iconst 5, 1) := by decide +kernel
theorem d_C_sheet_29 : decode u_C_sheet.2.1 29 = .ok (.invokevirtual 98, 3) := by decide +kernel
theorem d_C_sheet_32 : decode u_C_sheet.2.1 32 = .ok (.ireturn, 1) := by decide +kernel
theorem d_C_sheet_33 : decode u_C_sheet.2.1 33 = .ok (.aload_n 0, 1) := by decide +kernel
theorem d_C_sheet_34 : decode u_C_sheet.2.1 34 = .ok (.getfield 35, 3) := by decide +kernel
theorem d_C_sheet_37 : decode u_C_sheet.2.1 37 = .ok (.iload_n 1, 1) := by decide +kernel
theorem d_C_sheet_38 : decode u_C_sheet.2.1 38 = .ok (.aaload, 1) := by decide +kernel
theorem d_C_sheet_39 : decode u_C_sheet.2.1 39 = .ok (.iload_n 2, 1) := by decide +kernel
theorem d_C_sheet_40 : decode u_C_sheet.2.1 40 = .ok (.iload_n 3, 1) := by decide +kernel
theorem d_C_sheet_41 : decode u_C_sheet.2.1 41 = .ok (.invokevirtual 291, 3) := by decide +kernel
theorem d_C_sheet_44 : decode u_C_sheet.2.1 44 = .ok (.iload_n 3, 1) := by decide +kernel
theorem d_C_sheet_45 : decode u_C_sheet.2.1 45 = .ok (.ireturn, 1) := by decide +kernel
theorem d_C_lose_0 : decode u_C_lose.2.1 0 = .ok (.iload_n 1, 1) := by decide +kernel
theorem d_C_lose_1 : decode u_C_lose.2.1 1 = .ok (.invokestatic 91, 3) := by decide +kernel
theorem d_C_lose_4 : decode u_C_lose.2.1 4 = .ok (.ifCond .ne 6, 3) := by decide +kernel
theorem d_C_lose_7 : decode u_C_lose.2.1 7 = .ok (.bipush (-2), 2) := by decide +kernel
theorem d_C_lose_9 : decode u_C_lose.2.1 9 = .ok (.ireturn, 1) := by decide +kernel
theorem d_C_lose_10 : decode u_C_lose.2.1 10 = .ok (.aload_n 0, 1) := by decide +kernel
theorem d_C_lose_11 : decode u_C_lose.2.1 11 = .ok (.getfield 35, 3) := by decide +kernel
theorem d_C_lose_14 : decode u_C_lose.2.1 14 = .ok (.iload_n 1, 1) := by decide +kernel
theorem d_C_lose_15 : decode u_C_lose.2.1 15 = .ok (.aaload, 1) := by decide +kernel
theorem d_C_lose_16 : decode u_C_lose.2.1 16 = .ok (.invokevirtual 94, 3) := by decide +kernel
theorem d_C_lose_19 : decode u_C_lose.2.1 19 = .ok (.ifCond .eq 9, 3) := by decide +kernel
theorem d_C_lose_22 : decode u_C_lose.2.1 22 = .ok (.aload_n 0, 1) := by decide +kernel
theorem d_C_lose_23 : decode u_C_lose.2.1 23 = .ok (.iconst 1, 1) := by decide +kernel
theorem d_C_lose_24 : decode u_C_lose.2.1 24 = .ok (.invokevirtual 98, 3) := by decide +kernel
theorem d_C_lose_27 : decode u_C_lose.2.1 27 = .ok (.ireturn, 1) := by decide +kernel
theorem d_C_lose_28 : decode u_C_lose.2.1 28 = .ok (.aload_n 0, 1) := by decide +kernel
theorem d_C_lose_29 : decode u_C_lose.2.1 29 = .ok (.getfield 35, 3) := by decide +kernel
theorem d_C_lose_32 : decode u_C_lose.2.1 32 = .ok (.iload_n 1, 1) := by decide +kernel
theorem d_C_lose_33 : decode u_C_lose.2.1 33 = .ok (.aaload, 1) := by decide +kernel
theorem d_C_lose_34 : decode u_C_lose.2.1 34 = .ok (.getfield 102, 3) := by decide +kernel
theorem d_C_lose_37 : decode u_C_lose.2.1 37 = .ok (.istore_n 2, 1) := by decide +kernel
theorem d_C_lose_38 : decode u_C_lose.2.1 38 = .ok (.aload_n 0, 1) := by decide +kernel
theorem d_C_lose_39 : decode u_C_lose.2.1 39 = .ok (.getfield 35, 3) := by decide +kernel
theorem d_C_lose_42 : decode u_C_lose.2.1 42 = .ok (.iload_n 1, 1) := by decide +kernel
theorem d_C_lose_43 : decode u_C_lose.2.1 43 = .ok (.aaload, 1) := by decide +kernel
theorem d_C_lose_44 : decode u_C_lose.2.1 44 = .ok (.iconst (-1), 1) := by decide +kernel
theorem d_C_lose_45 : decode u_C_lose.2.1 45 = .ok (.iconst 0, 1) := by decide +kernel
theorem d_C_lose_46 : decode u_C_lose.2.1 46 = .ok (.invokevirtual 291, 3) := by decide +kernel
theorem d_C_lose_49 : decode u_C_lose.2.1 49 = .ok (.iload_n 2, 1) := by decide +kernel
theorem d_C_lose_50 : decode u_C_lose.2.1 50 = .ok (.ireturn, 1) := by decide +kernel
theorem d_C_lay_0 : decode u_C_lay.2.1 0 = .ok (.iload_n 1, 1) := by decide +kernel
theorem d_C_lay_1 : decode u_C_lay.2.1 1 = .ok (.invokestatic 91, 3) := by decide +kernel
theorem d_C_lay_4 : decode u_C_lay.2.1 4 = .ok (.ifCond .eq 10, 3) := by decide +kernel
theorem d_C_lay_7 : decode u_C_lay.2.1 7 = .ok (.iload_n 2, 1) := by decide +kernel
theorem d_C_lay_8 : decode u_C_lay.2.1 8 = .ok (.invokestatic 288, 3) := by decide +kernel
theorem d_C_lay_11 : decode u_C_lay.2.1 11 = .ok (.ifCond .ne 6, 3) := by decide +kernel
theorem d_C_lay_14 : decode u_C_lay.2.1 14 = .ok (.bipush (-2), 2) := by decide +kernel
theorem d_C_lay_16 : decode u_C_lay.2.1 16 = .ok (.ireturn, 1) := by decide +kernel
theorem d_C_lay_17 : decode u_C_lay.2.1 17 = .ok (.aload_n 0, 1) := by decide +kernel
theorem d_C_lay_18 : decode u_C_lay.2.1 18 = .ok (.getfield 35, 3) := by decide +kernel
theorem d_C_lay_21 : decode u_C_lay.2.1 21 = .ok (.iload_n 1, 1) := by decide +kernel
theorem d_C_lay_22 : decode u_C_lay.2.1 22 = .ok (.aaload, 1) := by decide +kernel
theorem d_C_lay_23 : decode u_C_lay.2.1 23 = .ok (.iload_n 2, 1) := by decide +kernel
theorem d_C_lay_24 : decode u_C_lay.2.1 24 = .ok (.iload_n 3, 1) := by decide +kernel
theorem d_C_lay_25 : decode u_C_lay.2.1 25 = .ok (.invokestatic 295, 3) := by decide +kernel
theorem d_C_lay_28 : decode u_C_lay.2.1 28 = .ok (.istore 5, 2) := by decide +kernel
theorem d_C_lay_30 : decode u_C_lay.2.1 30 = .ok (.iload 5, 2) := by decide +kernel
theorem d_C_lay_32 : decode u_C_lay.2.1 32 = .ok (.ifCond .eq 10, 3) := by decide +kernel
theorem d_C_lay_35 : decode u_C_lay.2.1 35 = .ok (.aload_n 0, 1) := by decide +kernel
theorem d_C_lay_36 : decode u_C_lay.2.1 36 = .ok (.iload 5, 2) := by decide +kernel
theorem d_C_lay_38 : decode u_C_lay.2.1 38 = .ok (.invokevirtual 98, 3) := by decide +kernel
theorem d_C_lay_41 : decode u_C_lay.2.1 41 = .ok (.ireturn, 1) := by decide +kernel
theorem d_C_lay_42 : decode u_C_lay.2.1 42 = .ok (.aload_n 0, 1) := by decide +kernel
theorem d_C_lay_43 : decode u_C_lay.2.1 43 = .ok (.getfield 35, 3) := by decide +kernel
theorem d_C_lay_46 : decode u_C_lay.2.1 46 = .ok (.iload_n 1, 1) := by decide +kernel
theorem d_C_lay_47 : decode u_C_lay.2.1 47 = .ok (.aaload, 1) := by decide +kernel
theorem d_C_lay_48 : decode u_C_lay.2.1 48 = .ok (.iload_n 3, 1) := by decide +kernel
theorem d_C_lay_49 : decode u_C_lay.2.1 49 = .ok (.iload 4, 2) := by decide +kernel
theorem d_C_lay_51 : decode u_C_lay.2.1 51 = .ok (.invokevirtual 299, 3) := by decide +kernel
theorem d_C_lay_54 : decode u_C_lay.2.1 54 = .ok (.iconst 1, 1) := by decide +kernel
theorem d_C_lay_55 : decode u_C_lay.2.1 55 = .ok (.ireturn, 1) := by decide +kernel
theorem d_C_get_0 : decode u_C_get.2.1 0 = .ok (.iload_n 1, 1) := by decide +kernel
theorem d_C_get_1 : decode u_C_get.2.1 1 = .ok (.invokestatic 91, 3) := by decide +kernel
theorem d_C_get_4 : decode u_C_get.2.1 4 = .ok (.ifCond .eq 10, 3) := by decide +kernel
theorem d_C_get_7 : decode u_C_get.2.1 7 = .ok (.iload_n 2, 1) := by decide +kernel
theorem d_C_get_8 : decode u_C_get.2.1 8 = .ok (.invokestatic 288, 3) := by decide +kernel
theorem d_C_get_11 : decode u_C_get.2.1 11 = .ok (.ifCond .ne 7, 3) := by decide +kernel
theorem d_C_get_14 : decode u_C_get.2.1 14 = .ok (.ldc_w 302, 3) := by decide +kernel
theorem d_C_get_17 : decode u_C_get.2.1 17 = .ok (.ireturn, 1) := by decide +kernel
theorem d_C_get_18 : decode u_C_get.2.1 18 = .ok (.aload_n 0, 1) := by decide +kernel
theorem d_C_get_19 : decode u_C_get.2.1 19 = .ok (.getfield 35, 3) := by decide +kernel
theorem d_C_get_22 : decode u_C_get.2.1 22 = .ok (.iload_n 1, 1) := by decide +kernel
theorem d_C_get_23 : decode u_C_get.2.1 23 = .ok (.aaload, 1) := by decide +kernel
theorem d_C_get_24 : decode u_C_get.2.1 24 = .ok (.iload_n 2, 1) := by decide +kernel
theorem d_C_get_25 : decode u_C_get.2.1 25 = .ok (.iload_n 3, 1) := by decide +kernel
theorem d_C_get_26 : decode u_C_get.2.1 26 = .ok (.invokestatic 295, 3) := by decide +kernel
theorem d_C_get_29 : decode u_C_get.2.1 29 = .ok (.istore 4, 2) := by decide +kernel
theorem d_C_get_31 : decode u_C_get.2.1 31 = .ok (.iload 4, 2) := by decide +kernel
theorem d_C_get_33 : decode u_C_get.2.1 33 = .ok (.ifCond .eq 14, 3) := by decide +kernel
theorem d_C_get_36 : decode u_C_get.2.1 36 = .ok (.aload_n 0, 1) := by decide +kernel
theorem d_C_get_37 : decode u_C_get.2.1 37 = .ok (.iload 4, 2) := by decide +kernel
theorem d_C_get_39 : decode u_C_get.2.1 39 = .ok (.invokevirtual 98, 3) := by decide +kernel
theorem d_C_get_42 : decode u_C_get.2.1 42 = .ok (.pop, 1) := by decide +kernel
theorem d_C_get_43 : decode u_C_get.2.1 43 = .ok (.ldc_w 302, 3) := by decide +kernel
theorem d_C_get_46 : decode u_C_get.2.1 46 = .ok (.ireturn, 1) := by decide +kernel
theorem d_C_get_47 : decode u_C_get.2.1 47 = .ok (.aload_n 0, 1) := by decide +kernel
theorem d_C_get_48 : decode u_C_get.2.1 48 = .ok (.getfield 35, 3) := by decide +kernel
theorem d_C_get_51 : decode u_C_get.2.1 51 = .ok (.iload_n 1, 1) := by decide +kernel
theorem d_C_get_52 : decode u_C_get.2.1 52 = .ok (.aaload, 1) := by decide +kernel
theorem d_C_get_53 : decode u_C_get.2.1 53 = .ok (.getfield 111, 3) := by decide +kernel
theorem d_C_get_56 : decode u_C_get.2.1 56 = .ok (.iload_n 3, 1) := by decide +kernel
theorem d_C_get_57 : decode u_C_get.2.1 57 = .ok (.iaload, 1) := by decide +kernel
theorem d_C_get_58 : decode u_C_get.2.1 58 = .ok (.ireturn, 1) := by decide +kernel
theorem d_C_copy_0 : decode u_C_copy.2.1 0 = .ok (.iload_n 1, 1) := by decide +kernel
theorem d_C_copy_1 : decode u_C_copy.2.1 1 = .ok (.invokestatic 91, 3) := by decide +kernel
theorem d_C_copy_4 : decode u_C_copy.2.1 4 = .ok (.ifCond .eq 10, 3) := by decide +kernel
theorem d_C_copy_7 : decode u_C_copy.2.1 7 = .ok (.iload_n 3, 1) := by decide +kernel
theorem d_C_copy_8 : decode u_C_copy.2.1 8 = .ok (.invokestatic 91, 3) := by decide +kernel
theorem d_C_copy_11 : decode u_C_copy.2.1 11 = .ok (.ifCond .ne 6, 3) := by decide +kernel
theorem d_C_copy_14 : decode u_C_copy.2.1 14 = .ok (.bipush (-2), 2) := by decide +kernel
theorem d_C_copy_16 : decode u_C_copy.2.1 16 = .ok (.ireturn, 1) := by decide +kernel
theorem d_C_copy_17 : decode u_C_copy.2.1 17 = .ok (.aload_n 0, 1) := by decide +kernel
theorem d_C_copy_18 : decode u_C_copy.2.1 18 = .ok (.getfield 35, 3) := by decide +kernel
theorem d_C_copy_21 : decode u_C_copy.2.1 21 = .ok (.iload_n 1, 1) := by decide +kernel
theorem d_C_copy_22 : decode u_C_copy.2.1 22 = .ok (.aaload, 1) := by decide +kernel
theorem d_C_copy_23 : decode u_C_copy.2.1 23 = .ok (.astore 6, 2) := by decide +kernel
theorem d_C_copy_25 : decode u_C_copy.2.1 25 = .ok (.aload_n 0, 1) := by decide +kernel
theorem d_C_copy_26 : decode u_C_copy.2.1 26 = .ok (.getfield 35, 3) := by decide +kernel
theorem d_C_copy_29 : decode u_C_copy.2.1 29 = .ok (.iload_n 3, 1) := by decide +kernel
theorem d_C_copy_30 : decode u_C_copy.2.1 30 = .ok (.aaload, 1) := by decide +kernel
theorem d_C_copy_31 : decode u_C_copy.2.1 31 = .ok (.astore 7, 2) := by decide +kernel
theorem d_C_copy_33 : decode u_C_copy.2.1 33 = .ok (.aload 6, 2) := by decide +kernel
theorem d_C_copy_35 : decode u_C_copy.2.1 35 = .ok (.invokevirtual 94, 3) := by decide +kernel
theorem d_C_copy_38 : decode u_C_copy.2.1 38 = .ok (.ifCond .ne 11, 3) := by decide +kernel
theorem d_C_copy_41 : decode u_C_copy.2.1 41 = .ok (.aload 7, 2) := by decide +kernel
theorem d_C_copy_43 : decode u_C_copy.2.1 43 = .ok (.invokevirtual 94, 3) := by decide +kernel
theorem d_C_copy_46 : decode u_C_copy.2.1 46 = .ok (.ifCond .eq 9, 3) := by decide +kernel
theorem d_C_copy_49 : decode u_C_copy.2.1 49 = .ok (.aload_n 0, 1) := by decide +kernel
theorem d_C_copy_50 : decode u_C_copy.2.1 50 = .ok (.iconst 1, 1) := by decide +kernel
theorem d_C_copy_51 : decode u_C_copy.2.1 51 = .ok (.invokevirtual 98, 3) := by decide +kernel
theorem d_C_copy_54 : decode u_C_copy.2.1 54 = .ok (.ireturn, 1) := by decide +kernel
theorem d_C_copy_55 : decode u_C_copy.2.1 55 = .ok (.aload 6, 2) := by decide +kernel
theorem d_C_copy_57 : decode u_C_copy.2.1 57 = .ok (.getfield 303, 3) := by decide +kernel
theorem d_C_copy_60 : decode u_C_copy.2.1 60 = .ok (.aload 7, 2) := by decide +kernel
theorem d_C_copy_62 : decode u_C_copy.2.1 62 = .ok (.getfield 303, 3) := by decide +kernel
theorem d_C_copy_65 : decode u_C_copy.2.1 65 = .ok (.if_icmp .eq 9, 3) := by decide +kernel
theorem d_C_copy_68 : decode u_C_copy.2.1 68 = .ok (.aload_n 0, 1) := by decide +kernel
theorem d_C_copy_69 : decode u_C_copy.2.1 69 = .ok (.iconst 4, 1) := by decide +kernel
theorem d_C_copy_70 : decode u_C_copy.2.1 70 = .ok (.invokevirtual 98, 3) := by decide +kernel
theorem d_C_copy_73 : decode u_C_copy.2.1 73 = .ok (.ireturn, 1) := by decide +kernel
theorem d_C_copy_74 : decode u_C_copy.2.1 74 = .ok (.aload 6, 2) := by decide +kernel
theorem d_C_copy_76 : decode u_C_copy.2.1 76 = .ok (.iload_n 2, 1) := by decide +kernel
theorem d_C_copy_77 : decode u_C_copy.2.1 77 = .ok (.iload 5, 2) := by decide +kernel
theorem d_C_copy_79 : decode u_C_copy.2.1 79 = .ok (.invokevirtual 306, 3) := by decide +kernel
theorem d_C_copy_82 : decode u_C_copy.2.1 82 = .ok (.ifCond .eq 15, 3) := by decide +kernel
theorem d_C_copy_85 : decode u_C_copy.2.1 85 = .ok (.aload 7, 2) := by decide +kernel
theorem d_C_copy_87 : decode u_C_copy.2.1 87 = .ok (.iload 4, 2) := by decide +kernel
theorem d_C_copy_89 : decode u_C_copy.2.1 89 = .ok (.iload 5, 2) := by decide +kernel
theorem d_C_copy_91 : decode u_C_copy.2.1 91 = .ok (.invokevirtual 306, 3) := by decide +kernel
theorem d_C_copy_94 : decode u_C_copy.2.1 94 = .ok (.ifCond .ne 9, 3) := by decide +kernel
theorem d_C_copy_97 : decode u_C_copy.2.1 97 = .ok (.aload_n 0, 1) := by decide +kernel
theorem d_C_copy_98 : decode u_C_copy.2.1 98 = .ok (.iconst 2, 1) := by decide +kernel
theorem d_C_copy_99 : decode u_C_copy.2.1 99 = .ok (.invokevirtual 98, 3) := by decide +kernel
theorem d_C_copy_102 : decode u_C_copy.2.1 102 = .ok (.ireturn, 1) := by decide +kernel
theorem d_C_copy_103 : decode u_C_copy.2.1 103 = .ok (.aload 6, 2) := by decide +kernel
theorem d_C_copy_105 : decode u_C_copy.2.1 105 = .ok (.getfield 111, 3) := by decide +kernel
theorem d_C_copy_108 : decode u_C_copy.2.1 108 = .ok (.iload_n 2, 1) := by decide +kernel
theorem d_C_copy_109 : decode u_C_copy.2.1 109 = .ok (.aload 7, 2) := by decide +kernel
theorem d_C_copy_111 : decode u_C_copy.2.1 111 = .ok (.getfield 111, 3) := by decide +kernel
theorem d_C_copy_114 : decode u_C_copy.2.1 114 = .ok (.iload 4, 2) := by decide +kernel
theorem d_C_copy_116 : decode u_C_copy.2.1 116 = .ok (.iload 5, 2) := by decide +kernel
theorem d_C_copy_118 : decode u_C_copy.2.1 118 = .ok (.invokestatic 179, 3) := by decide +kernel
theorem d_C_copy_121 : decode u_C_copy.2.1 121 = .ok (.iconst 1, 1) := by decide +kernel
theorem d_C_copy_122 : decode u_C_copy.2.1 122 = .ok (.ireturn, 1) := by decide +kernel
theorem d_C_write_0 : decode u_C_write.2.1 0 = .ok (.aload_n 0, 1) := by decide +kernel
theorem d_C_write_1 : decode u_C_write.2.1 1 = .ok (.iload_n 1, 1) := by decide +kernel
theorem d_C_write_2 : decode u_C_write.2.1 2 = .ok (.invokevirtual 176, 3) := by decide +kernel
theorem d_C_write_5 : decode u_C_write.2.1 5 = .ok (.ifCond .eq 10, 3) := by decide +kernel
theorem d_C_write_8 : decode u_C_write.2.1 8 = .ok (.iload_n 2, 1) := by decide +kernel
theorem d_C_write_9 : decode u_C_write.2.1 9 = .ok (.invokestatic 91, 3) := by decide +kernel
theorem d_C_write_12 : decode u_C_write.2.1 12 = .ok (.ifCond .ne 6, 3) := by decide +kernel
theorem d_C_write_15 : decode u_C_write.2.1 15 = .ok (.bipush (-2), 2) := by decide +kernel
theorem d_C_write_17 : decode u_C_write.2.1 17 = .ok (.ireturn, 1) := by decide +kernel
theorem d_C_write_18 : decode u_C_write.2.1 18 = .ok (.aload_n 0, 1) := by decide +kernel
theorem d_C_write_19 : decode u_C_write.2.1 19 = .ok (.getfield 35, 3) := by decide +kernel
theorem d_C_write_22 : decode u_C_write.2.1 22 = .ok (.iload_n 2, 1) := by decide +kernel
theorem d_C_write_23 : decode u_C_write.2.1 23 = .ok (.aaload, 1) := by decide +kernel
theorem d_C_write_24 : decode u_C_write.2.1 24 = .ok (.astore_n 3, 1) := by decide +kernel
theorem d_C_write_25 : decode u_C_write.2.1 25 = .ok (.aload_n 3, 1) := by decide +kernel
theorem d_C_write_26 : decode u_C_write.2.1 26 = .ok (.invokevirtual 94, 3) := by decide +kernel
theorem d_C_write_29 : decode u_C_write.2.1 29 = .ok (.ifCond .eq 9, 3) := by decide +kernel
theorem d_C_write_32 : decode u_C_write.2.1 32 = .ok (.aload_n 0, 1) := by decide +kernel
theorem d_C_write_33 : decode u_C_write.2.1 33 = .ok (.iconst 1, 1) := by decide +kernel
theorem d_C_write_34 : decode u_C_write.2.1 34 = .ok (.invokevirtual 98, 3) := by decide +kernel
theorem d_C_write_37 : decode u_C_write.2.1 37 = .ok (.ireturn, 1) := by decide +kernel
theorem d_C_write_38 : decode u_C_write.2.1 38 = .ok (.aload_n 3, 1) := by decide +kernel
theorem d_C_write_39 : decode u_C_write.2.1 39 = .ok (.getfield 102, 3) := by decide +kernel
theorem d_C_write_42 : decode u_C_write.2.1 42 = .ok (.bipush 8, 2) := by decide +kernel
theorem d_C_write_44 : decode u_C_write.2.1 44 = .ok (.invokestatic 105, 3) := by decide +kernel
theorem d_C_write_47 : decode u_C_write.2.1 47 = .ok (.istore 4, 2) := by decide +kernel
theorem d_C_write_49 : decode u_C_write.2.1 49 = .ok (.iconst 0, 1) := by decide +kernel
theorem d_C_write_50 : decode u_C_write.2.1 50 = .ok (.istore 5, 2) := by decide +kernel
theorem d_C_write_52 : decode u_C_write.2.1 52 = .ok (.iload 5, 2) := by decide +kernel
theorem d_C_write_54 : decode u_C_write.2.1 54 = .ok (.iload 4, 2) := by decide +kernel
theorem d_C_write_56 : decode u_C_write.2.1 56 = .ok (.if_icmp .ge 27, 3) := by decide +kernel
theorem d_C_write_59 : decode u_C_write.2.1 59 = .ok (.aload_n 3, 1) := by decide +kernel
theorem d_C_write_60 : decode u_C_write.2.1 60 = .ok (.iload 5, 2) := by decide +kernel
theorem d_C_write_62 : decode u_C_write.2.1 62 = .ok (.aload_n 0, 1) := by decide +kernel
theorem d_C_write_63 : decode u_C_write.2.1 63 = .ok (.getfield 23, 3) := by decide +kernel
theorem d_C_write_66 : decode u_C_write.2.1 66 = .ok (.iload_n 1, 1) := by decide +kernel
theorem d_C_write_67 : decode u_C_write.2.1 67 = .ok (.aaload, 1) := by decide +kernel
theorem d_C_write_68 : decode u_C_write.2.1 68 = .ok (.getfield 185, 3) := by decide +kernel
theorem d_C_write_71 : decode u_C_write.2.1 71 = .ok (.iload 5, 2) := by decide +kernel
theorem d_C_write_73 : decode u_C_write.2.1 73 = .ok (.iaload, 1) := by decide +kernel
theorem d_C_write_74 : decode u_C_write.2.1 74 = .ok (.invokevirtual 299, 3) := by decide +kernel
theorem d_C_write_77 : decode u_C_write.2.1 77 = .ok (.iinc 5 1, 3) := by decide +kernel
theorem d_C_write_80 : decode u_C_write.2.1 80 = .ok (.goto (-28), 3) := by decide +kernel
theorem d_C_write_83 : decode u_C_write.2.1 83 = .ok (.iload 4, 2) := by decide +kernel
theorem d_C_write_85 : decode u_C_write.2.1 85 = .ok (.ireturn, 1) := by decide +kernel
theorem d_C_count_0 : decode u_C_count.2.1 0 = .ok (.iload_n 1, 1) := by decide +kernel
theorem d_C_count_1 : decode u_C_count.2.1 1 = .ok (.tableswitch 88 0 8 #[51, 56, 61, 66, 66, 66, 66, 78, 83], 51) := by decide +kernel
theorem d_C_count_52 : decode u_C_count.2.1 52 = .ok (.aload_n 0, 1) := by decide +kernel
theorem d_C_count_53 : decode u_C_count.2.1 53 = .ok (.getfield 75, 3) := by decide +kernel
theorem d_C_count_56 : decode u_C_count.2.1 56 = .ok (.ireturn, 1) := by decide +kernel
theorem d_C_count_57 : decode u_C_count.2.1 57 = .ok (.aload_n 0, 1) := by decide +kernel
theorem d_C_count_58 : decode u_C_count.2.1 58 = .ok (.getfield 146, 3) := by decide +kernel
theorem d_C_count_61 : decode u_C_count.2.1 61 = .ok (.ireturn, 1) := by decide +kernel
theorem d_C_count_62 : decode u_C_count.2.1 62 = .ok (.aload_n 0, 1) := by decide +kernel
theorem d_C_count_63 : decode u_C_count.2.1 63 = .ok (.getfield 205, 3) := by decide +kernel
theorem d_C_count_66 : decode u_C_count.2.1 66 = .ok (.ireturn, 1) := by decide +kernel
theorem d_C_count_67 : decode u_C_count.2.1 67 = .ok (.aload_n 0, 1) := by decide +kernel
theorem d_C_count_68 : decode u_C_count.2.1 68 = .ok (.getfield 17, 3) := by decide +kernel
theorem d_C_count_71 : decode u_C_count.2.1 71 = .ok (.iload_n 1, 1) := by decide +kernel
theorem d_C_count_72 : decode u_C_count.2.1 72 = .ok (.iconst 3, 1) := by decide +kernel
theorem d_C_count_73 : decode u_C_count.2.1 73 = .ok (.isub, 1) := by decide +kernel
theorem d_C_count_74 : decode u_C_count.2.1 74 = .ok (.aaload, 1) := by decide +kernel
theorem d_C_count_75 : decode u_C_count.2.1 75 = .ok (.getfield 123, 3) := by decide +kernel
theorem d_C_count_78 : decode u_C_count.2.1 78 = .ok (.ireturn, 1) := by decide +kernel
theorem d_C_count_79 : decode u_C_count.2.1 79 = .ok (.aload_n 0, 1) := by decide +kernel
theorem d_C_count_80 : decode u_C_count.2.1 80 = .ok (.invokevirtual 310, 3) := by decide +kernel
theorem d_C_count_83 : decode u_C_count.2.1 83 = .ok (.ireturn, 1) := by decide +kernel
theorem d_C_count_84 : decode u_C_count.2.1 84 = .ok (.aload_n 0, 1) := by decide +kernel
theorem d_C_count_85 : decode u_C_count.2.1 85 = .ok (.getfield 313, 3) := by decide +kernel
theorem d_C_count_88 : decode u_C_count.2.1 88 = .ok (.ireturn, 1) := by decide +kernel
theorem d_C_count_89 : decode u_C_count.2.1 89 = .ok (.bipush (-2), 2) := by decide +kernel
theorem d_C_count_91 : decode u_C_count.2.1 91 = .ok (.ireturn, 1) := by decide +kernel
theorem d_C_digest_0 : decode u_C_digest.2.1 0 = .ok (.ldc2_w 316, 3) := by decide +kernel
theorem d_C_digest_3 : decode u_C_digest.2.1 3 = .ok (.lstore_n 1, 1) := by decide +kernel
theorem d_C_digest_4 : decode u_C_digest.2.1 4 = .ok (.iconst 0, 1) := by decide +kernel
theorem d_C_digest_5 : decode u_C_digest.2.1 5 = .ok (.istore_n 3, 1) := by decide +kernel
theorem d_C_digest_6 : decode u_C_digest.2.1 6 = .ok (.iload_n 3, 1) := by decide +kernel
theorem d_C_digest_7 : decode u_C_digest.2.1 7 = .ok (.bipush 7, 2) := by decide +kernel
theorem d_C_digest_9 : decode u_C_digest.2.1 9 = .ok (.if_icmp .gt 22, 3) := by decide +kernel
theorem d_C_digest_12 : decode u_C_digest.2.1 12 = .ok (.ldc2_w 318, 3) := by decide +kernel
theorem d_C_digest_15 : decode u_C_digest.2.1 15 = .ok (.lload_n 1, 1) := by decide +kernel
theorem d_C_digest_16 : decode u_C_digest.2.1 16 = .ok (.lmul, 1) := by decide +kernel
theorem d_C_digest_17 : decode u_C_digest.2.1 17 = .ok (.aload_n 0, 1) := by decide +kernel
theorem d_C_digest_18 : decode u_C_digest.2.1 18 = .ok (.iload_n 3, 1) := by decide +kernel
theorem d_C_digest_19 : decode u_C_digest.2.1 19 = .ok (.invokevirtual 320, 3) := by decide +kernel
theorem d_C_digest_22 : decode u_C_digest.2.1 22 = .ok (.i2l, 1) := by decide +kernel
theorem d_C_digest_23 : decode u_C_digest.2.1 23 = .ok (.ladd, 1) := by decide +kernel
theorem d_C_digest_24 : decode u_C_digest.2.1 24 = .ok (.lstore_n 1, 1) := by decide +kernel
theorem d_C_digest_25 : decode u_C_digest.2.1 25 = .ok (.iinc 3 1, 3) := by decide +kernel
theorem d_C_digest_28 : decode u_C_digest.2.1 28 = .ok (.goto (-22), 3) := by decide +kernel
theorem d_C_digest_31 : decode u_C_digest.2.1 31 = .ok (.iconst 0, 1) := by decide +kernel
theorem d_C_digest_32 : decode u_C_digest.2.1 32 = .ok (.istore_n 3, 1) := by decide +kernel
theorem d_C_digest_33 : decode u_C_digest.2.1 33 = .ok (.iload_n 3, 1) := by decide +kernel
theorem d_C_digest_34 : decode u_C_digest.2.1 34 = .ok (.iconst 4, 1) := by decide +kernel
theorem d_C_digest_35 : decode u_C_digest.2.1 35 = .ok (.if_icmp .ge 53, 3) := by decide +kernel
theorem d_C_digest_38 : decode u_C_digest.2.1 38 = .ok (.ldc2_w 318, 3) := by decide +kernel
theorem d_C_digest_41 : decode u_C_digest.2.1 41 = .ok (.lload_n 1, 1) := by decide +kernel
theorem d_C_digest_42 : decode u_C_digest.2.1 42 = .ok (.lmul, 1) := by decide +kernel
theorem d_C_digest_43 : decode u_C_digest.2.1 43 = .ok (.aload_n 0, 1) := by decide +kernel
theorem d_C_digest_44 : decode u_C_digest.2.1 44 = .ok (.iload_n 3, 1) := by decide +kernel
theorem d_C_digest_45 : decode u_C_digest.2.1 45 = .ok (.invokevirtual 323, 3) := by decide +kernel
theorem d_C_digest_48 : decode u_C_digest.2.1 48 = .ok (.i2l, 1) := by decide +kernel
theorem d_C_digest_49 : decode u_C_digest.2.1 49 = .ok (.ladd, 1) := by decide +kernel
theorem d_C_digest_50 : decode u_C_digest.2.1 50 = .ok (.lstore_n 1, 1) := by decide +kernel
theorem d_C_digest_51 : decode u_C_digest.2.1 51 = .ok (.iconst 0, 1) := by decide +kernel
theorem d_C_digest_52 : decode u_C_digest.2.1 52 = .ok (.istore 4, 2) := by decide +kernel
theorem d_C_digest_54 : decode u_C_digest.2.1 54 = .ok (.iload 4, 2) := by decide +kernel
theorem d_C_digest_56 : decode u_C_digest.2.1 56 = .ok (.bipush 8, 2) := by decide +kernel
theorem d_C_digest_58 : decode u_C_digest.2.1 58 = .ok (.if_icmp .ge 24, 3) := by decide +kernel
theorem d_C_digest_61 : decode u_C_digest.2.1 61 = .ok (.ldc2_w 318, 3) := by decide +kernel
theorem d_C_digest_64 : decode u_C_digest.2.1 64 = .ok (.lload_n 1, 1) := by decide +kernel
theorem d_C_digest_65 : decode u_C_digest.2.1 65 = .ok (.lmul, 1) := by decide +kernel
theorem d_C_digest_66 : decode u_C_digest.2.1 66 = .ok (.aload_n 0, 1) := by decide +kernel
theorem d_C_digest_67 : decode u_C_digest.2.1 67 = .ok (.iload_n 3, 1) := by decide +kernel
theorem d_C_digest_68 : decode u_C_digest.2.1 68 = .ok (.iload 4, 2) := by decide +kernel
theorem d_C_digest_70 : decode u_C_digest.2.1 70 = .ok (.invokevirtual 325, 3) := by decide +kernel
theorem d_C_digest_73 : decode u_C_digest.2.1 73 = .ok (.i2l, 1) := by decide +kernel
theorem d_C_digest_74 : decode u_C_digest.2.1 74 = .ok (.ladd, 1) := by decide +kernel
theorem d_C_digest_75 : decode u_C_digest.2.1 75 = .ok (.lstore_n 1, 1) := by decide +kernel
theorem d_C_digest_76 : decode u_C_digest.2.1 76 = .ok (.iinc 4 1, 3) := by decide +kernel
theorem d_C_digest_79 : decode u_C_digest.2.1 79 = .ok (.goto (-25), 3) := by decide +kernel
theorem d_C_digest_82 : decode u_C_digest.2.1 82 = .ok (.iinc 3 1, 3) := by decide +kernel
theorem d_C_digest_85 : decode u_C_digest.2.1 85 = .ok (.goto (-52), 3) := by decide +kernel
theorem d_C_digest_88 : decode u_C_digest.2.1 88 = .ok (.iconst 0, 1) := by decide +kernel
theorem d_C_digest_89 : decode u_C_digest.2.1 89 = .ok (.istore_n 3, 1) := by decide +kernel
theorem d_C_digest_90 : decode u_C_digest.2.1 90 = .ok (.iload_n 3, 1) := by decide +kernel
theorem d_C_digest_91 : decode u_C_digest.2.1 91 = .ok (.aload_n 0, 1) := by decide +kernel
theorem d_C_digest_92 : decode u_C_digest.2.1 92 = .ok (.getfield 75, 3) := by decide +kernel
theorem d_C_digest_95 : decode u_C_digest.2.1 95 = .ok (.if_icmp .ge 39, 3) := by decide +kernel
theorem d_C_digest_98 : decode u_C_digest.2.1 98 = .ok (.ldc2_w 318, 3) := by decide +kernel
theorem d_C_digest_101 : decode u_C_digest.2.1 101 = .ok (.lload_n 1, 1) := by decide +kernel
theorem d_C_digest_102 : decode u_C_digest.2.1 102 = .ok (.lmul, 1) := by decide +kernel
theorem d_C_digest_103 : decode u_C_digest.2.1 103 = .ok (.aload_n 0, 1) := by decide +kernel
theorem d_C_digest_104 : decode u_C_digest.2.1 104 = .ok (.iload_n 3, 1) := by decide +kernel
theorem d_C_digest_105 : decode u_C_digest.2.1 105 = .ok (.iconst 0, 1) := by decide +kernel
theorem d_C_digest_106 : decode u_C_digest.2.1 106 = .ok (.invokevirtual 327, 3) := by decide +kernel
theorem d_C_digest_109 : decode u_C_digest.2.1 109 = .ok (.i2l, 1) := by decide +kernel
theorem d_C_digest_110 : decode u_C_digest.2.1 110 = .ok (.ladd, 1) := by decide +kernel
theorem d_C_digest_111 : decode u_C_digest.2.1 111 = .ok (.lstore_n 1, 1) := by decide +kernel
theorem d_C_digest_112 : decode u_C_digest.2.1 112 = .ok (.ldc2_w 318, 3) := by decide +kernel
theorem d_C_digest_115 : decode u_C_digest.2.1 115 = .ok (.lload_n 1, 1) := by decide +kernel
theorem d_C_digest_116 : decode u_C_digest.2.1 116 = .ok (.lmul, 1) := by decide +kernel
theorem d_C_digest_117 : decode u_C_digest.2.1 117 = .ok (.aload_n 0, 1) := by decide +kernel
theorem d_C_digest_118 : decode u_C_digest.2.1 118 = .ok (.iload_n 3, 1) := by decide +kernel
theorem d_C_digest_119 : decode u_C_digest.2.1 119 = .ok (.iconst 1, 1) := by decide +kernel
theorem d_C_digest_120 : decode u_C_digest.2.1 120 = .ok (.bipush 9, 2) := by decide +kernel
theorem d_C_digest_122 : decode u_C_digest.2.1 122 = .ok (.invokevirtual 330, 3) := by decide +kernel
theorem d_C_digest_125 : decode u_C_digest.2.1 125 = .ok (.i2l, 1) := by decide +kernel
theorem d_C_digest_126 : decode u_C_digest.2.1 126 = .ok (.ladd, 1) := by decide +kernel
theorem d_C_digest_127 : decode u_C_digest.2.1 127 = .ok (.lstore_n 1, 1) := by decide +kernel
theorem d_C_digest_128 : decode u_C_digest.2.1 128 = .ok (.iinc 3 1, 3) := by decide +kernel
theorem d_C_digest_131 : decode u_C_digest.2.1 131 = .ok (.goto (-41), 3) := by decide +kernel
theorem d_C_digest_134 : decode u_C_digest.2.1 134 = .ok (.iconst 0, 1) := by decide +kernel
theorem d_C_digest_135 : decode u_C_digest.2.1 135 = .ok (.istore_n 3, 1) := by decide +kernel
theorem d_C_digest_136 : decode u_C_digest.2.1 136 = .ok (.iload_n 3, 1) := by decide +kernel
theorem d_C_digest_137 : decode u_C_digest.2.1 137 = .ok (.aload_n 0, 1) := by decide +kernel
theorem d_C_digest_138 : decode u_C_digest.2.1 138 = .ok (.getfield 146, 3) := by decide +kernel
theorem d_C_digest_141 : decode u_C_digest.2.1 141 = .ok (.if_icmp .ge 16, 3) := by decide +kernel
theorem d_C_digest_144 : decode u_C_digest.2.1 144 = .ok (.aload_n 0, 1) := by decide +kernel
theorem d_C_digest_145 : decode u_C_digest.2.1 145 = .ok (.lload_n 1, 1) := by decide +kernel
theorem d_C_digest_146 : decode u_C_digest.2.1 146 = .ok (.iload_n 3, 1) := by decide +kernel
theorem d_C_digest_147 : decode u_C_digest.2.1 147 = .ok (.invokevirtual 333, 3) := by decide +kernel
theorem d_C_digest_150 : decode u_C_digest.2.1 150 = .ok (.lstore_n 1, 1) := by decide +kernel
theorem d_C_digest_151 : decode u_C_digest.2.1 151 = .ok (.iinc 3 1, 3) := by decide +kernel
theorem d_C_digest_154 : decode u_C_digest.2.1 154 = .ok (.goto (-18), 3) := by decide +kernel
theorem d_C_digest_157 : decode u_C_digest.2.1 157 = .ok (.iconst 0, 1) := by decide +kernel
theorem d_C_digest_158 : decode u_C_digest.2.1 158 = .ok (.istore_n 3, 1) := by decide +kernel
theorem d_C_digest_159 : decode u_C_digest.2.1 159 = .ok (.iload_n 3, 1) := by decide +kernel
theorem d_C_digest_160 : decode u_C_digest.2.1 160 = .ok (.aload_n 0, 1) := by decide +kernel
theorem d_C_digest_161 : decode u_C_digest.2.1 161 = .ok (.getfield 205, 3) := by decide +kernel
theorem d_C_digest_164 : decode u_C_digest.2.1 164 = .ok (.if_icmp .ge 16, 3) := by decide +kernel
theorem d_C_digest_167 : decode u_C_digest.2.1 167 = .ok (.aload_n 0, 1) := by decide +kernel
theorem d_C_digest_168 : decode u_C_digest.2.1 168 = .ok (.lload_n 1, 1) := by decide +kernel
theorem d_C_digest_169 : decode u_C_digest.2.1 169 = .ok (.iload_n 3, 1) := by decide +kernel
theorem d_C_digest_170 : decode u_C_digest.2.1 170 = .ok (.invokevirtual 337, 3) := by decide +kernel
theorem d_C_digest_173 : decode u_C_digest.2.1 173 = .ok (.lstore_n 1, 1) := by decide +kernel
theorem d_C_digest_174 : decode u_C_digest.2.1 174 = .ok (.iinc 3 1, 3) := by decide +kernel
theorem d_C_digest_177 : decode u_C_digest.2.1 177 = .ok (.goto (-18), 3) := by decide +kernel
theorem d_C_digest_180 : decode u_C_digest.2.1 180 = .ok (.lload_n 1, 1) := by decide +kernel
theorem d_C_digest_181 : decode u_C_digest.2.1 181 = .ok (.lreturn, 1) := by decide +kernel
theorem d_C_isHead_0 : decode u_C_isHead.2.1 0 = .ok (.iload_n 1, 1) := by decide +kernel
theorem d_C_isHead_1 : decode u_C_isHead.2.1 1 = .ok (.ifCond .lt 15, 3) := by decide +kernel
theorem d_C_isHead_4 : decode u_C_isHead.2.1 4 = .ok (.iload_n 1, 1) := by decide +kernel
theorem d_C_isHead_5 : decode u_C_isHead.2.1 5 = .ok (.aload_n 0, 1) := by decide +kernel
theorem d_C_isHead_6 : decode u_C_isHead.2.1 6 = .ok (.getfield 75, 3) := by decide +kernel
theorem d_C_isHead_9 : decode u_C_isHead.2.1 9 = .ok (.if_icmp .ge 7, 3) := by decide +kernel
theorem d_C_isHead_12 : decode u_C_isHead.2.1 12 = .ok (.iconst 1, 1) := by decide +kernel
theorem d_C_isHead_13 : decode u_C_isHead.2.1 13 = .ok (.goto 4, 3) := by decide +kernel
theorem d_C_isHead_16 : decode u_C_isHead.2.1 16 = .ok (.iconst 0, 1) := by decide +kernel
theorem d_C_isHead_17 : decode u_C_isHead.2.1 17 = .ok (.ireturn, 1) := by decide +kernel
theorem d_C_isDrawing_0 : decode u_C_isDrawing.2.1 0 = .ok (.iload_n 1, 1) := by decide +kernel
theorem d_C_isDrawing_1 : decode u_C_isDrawing.2.1 1 = .ok (.ifCond .lt 15, 3) := by decide +kernel
theorem d_C_isDrawing_4 : decode u_C_isDrawing.2.1 4 = .ok (.iload_n 1, 1) := by decide +kernel
theorem d_C_isDrawing_5 : decode u_C_isDrawing.2.1 5 = .ok (.aload_n 0, 1) := by decide +kernel
theorem d_C_isDrawing_6 : decode u_C_isDrawing.2.1 6 = .ok (.getfield 146, 3) := by decide +kernel
theorem d_C_isDrawing_9 : decode u_C_isDrawing.2.1 9 = .ok (.if_icmp .ge 7, 3) := by decide +kernel
theorem d_C_isDrawing_12 : decode u_C_isDrawing.2.1 12 = .ok (.iconst 1, 1) := by decide +kernel
theorem d_C_isDrawing_13 : decode u_C_isDrawing.2.1 13 = .ok (.goto 4, 3) := by decide +kernel
theorem d_C_isDrawing_16 : decode u_C_isDrawing.2.1 16 = .ok (.iconst 0, 1) := by decide +kernel
theorem d_C_isDrawing_17 : decode u_C_isDrawing.2.1 17 = .ok (.ireturn, 1) := by decide +kernel
theorem d_C_isKnower_0 : decode u_C_isKnower.2.1 0 = .ok (.iload_n 1, 1) := by decide +kernel
theorem d_C_isKnower_1 : decode u_C_isKnower.2.1 1 = .ok (.ifCond .lt 15, 3) := by decide +kernel
theorem d_C_isKnower_4 : decode u_C_isKnower.2.1 4 = .ok (.iload_n 1, 1) := by decide +kernel
theorem d_C_isKnower_5 : decode u_C_isKnower.2.1 5 = .ok (.aload_n 0, 1) := by decide +kernel
theorem d_C_isKnower_6 : decode u_C_isKnower.2.1 6 = .ok (.getfield 205, 3) := by decide +kernel
theorem d_C_isKnower_9 : decode u_C_isKnower.2.1 9 = .ok (.if_icmp .ge 7, 3) := by decide +kernel
theorem d_C_isKnower_12 : decode u_C_isKnower.2.1 12 = .ok (.iconst 1, 1) := by decide +kernel
theorem d_C_isKnower_13 : decode u_C_isKnower.2.1 13 = .ok (.goto 4, 3) := by decide +kernel
theorem d_C_isKnower_16 : decode u_C_isKnower.2.1 16 = .ok (.iconst 0, 1) := by decide +kernel
theorem d_C_isKnower_17 : decode u_C_isKnower.2.1 17 = .ok (.ireturn, 1) := by decide +kernel
theorem d_C_isSet_0 : decode u_C_isSet.2.1 0 = .ok (.iload_n 1, 1) := by decide +kernel
theorem d_C_isSet_1 : decode u_C_isSet.2.1 1 = .ok (.ifCond .le 17, 3) := by decide +kernel
theorem d_C_isSet_4 : decode u_C_isSet.2.1 4 = .ok (.iload_n 1, 1) := by decide +kernel
theorem d_C_isSet_5 : decode u_C_isSet.2.1 5 = .ok (.iconst 1, 1) := by decide +kernel
theorem d_C_isSet_6 : decode u_C_isSet.2.1 6 = .ok (.aload_n 0, 1) := by decide +kernel
theorem d_C_isSet_7 : decode u_C_isSet.2.1 7 = .ok (.getfield 75, 3) := by decide +kernel
theorem d_C_isSet_10 : decode u_C_isSet.2.1 10 = .ok (.ishl, 1) := by decide +kernel
theorem d_C_isSet_11 : decode u_C_isSet.2.1 11 = .ok (.if_icmp .ge 7, 3) := by decide +kernel
theorem d_C_isSet_14 : decode u_C_isSet.2.1 14 = .ok (.iconst 1, 1) := by decide +kernel
theorem d_C_isSet_15 : decode u_C_isSet.2.1 15 = .ok (.goto 4, 3) := by decide +kernel
theorem d_C_isSet_18 : decode u_C_isSet.2.1 18 = .ok (.iconst 0, 1) := by decide +kernel
theorem d_C_isSet_19 : decode u_C_isSet.2.1 19 = .ok (.ireturn, 1) := by decide +kernel
theorem d_C_isNextYear_0 : decode u_C_isNextYear.2.1 0 = .ok (.aload_n 0, 1) := by decide +kernel
theorem d_C_isNextYear_1 : decode u_C_isNextYear.2.1 1 = .ok (.getfield 146, 3) := by decide +kernel
theorem d_C_isNextYear_4 : decode u_C_isNextYear.2.1 4 = .ok (.ifCond .le 20, 3) := by decide +kernel
theorem d_C_isNextYear_7 : decode u_C_isNextYear.2.1 7 = .ok (.aload_n 0, 1) := by decide +kernel
theorem d_C_isNextYear_8 : decode u_C_isNextYear.2.1 8 = .ok (.getfield 23, 3) := by decide +kernel
theorem d_C_isNextYear_11 : decode u_C_isNextYear.2.1 11 = .ok (.aload_n 0, 1) := by decide +kernel
theorem d_C_isNextYear_12 : decode u_C_isNextYear.2.1 12 = .ok (.getfield 146, 3) := by decide +kernel
theorem d_C_isNextYear_15 : decode u_C_isNextYear.2.1 15 = .ok (.iconst 1, 1) := by decide +kernel
theorem d_C_isNextYear_16 : decode u_C_isNextYear.2.1 16 = .ok (.isub, 1) := by decide +kernel
theorem d_C_isNextYear_17 : decode u_C_isNextYear.2.1 17 = .ok (.aaload, 1) := by decide +kernel
theorem d_C_isNextYear_18 : decode u_C_isNextYear.2.1 18 = .ok (.getfield 163, 3) := by decide +kernel
theorem d_C_isNextYear_21 : decode u_C_isNextYear.2.1 21 = .ok (.goto 4, 3) := by decide +kernel
theorem d_C_isNextYear_24 : decode u_C_isNextYear.2.1 24 = .ok (.iconst 0, 1) := by decide +kernel
theorem d_C_isNextYear_25 : decode u_C_isNextYear.2.1 25 = .ok (.istore_n 2, 1) := by decide +kernel
theorem d_C_isNextYear_26 : decode u_C_isNextYear.2.1 26 = .ok (.iload_n 1, 1) := by decide +kernel
theorem d_C_isNextYear_27 : decode u_C_isNextYear.2.1 27 = .ok (.iload_n 2, 1) := by decide +kernel
theorem d_C_isNextYear_28 : decode u_C_isNextYear.2.1 28 = .ok (.if_icmp .lt 13, 3) := by decide +kernel
theorem d_C_isNextYear_31 : decode u_C_isNextYear.2.1 31 = .ok (.iload_n 1, 1) := by decide +kernel
theorem d_C_isNextYear_32 : decode u_C_isNextYear.2.1 32 = .ok (.bipush 99, 2) := by decide +kernel
theorem d_C_isNextYear_34 : decode u_C_isNextYear.2.1 34 = .ok (.if_icmp .gt 7, 3) := by decide +kernel
theorem d_C_isNextYear_37 : decode u_C_isNextYear.2.1 37 = .ok (.iconst 1, 1) := by decide +kernel
theorem d_C_isNextYear_38 : decode u_C_isNextYear.2.1 38 = .ok (.goto 4, 3) := by decide +kernel
theorem d_C_isNextYear_41 : decode u_C_isNextYear.2.1 41 = .ok (.iconst 0, 1) := by decide +kernel
theorem d_C_isNextYear_42 : decode u_C_isNextYear.2.1 42 = .ok (.ireturn, 1) := by decide +kernel
theorem d_C_isPart_0 : decode u_C_isPart.2.1 0 = .ok (.iload_n 0, 1) := by decide +kernel
theorem d_C_isPart_1 : decode u_C_isPart.2.1 1 = .ok (.ifCond .lt 13, 3) := by decide +kernel
theorem d_C_isPart_4 : decode u_C_isPart.2.1 4 = .ok (.iload_n 0, 1) := by decide +kernel
theorem d_C_isPart_5 : decode u_C_isPart.2.1 5 = .ok (.bipush 8, 2) := by decide +kernel
theorem d_C_isPart_7 : decode u_C_isPart.2.1 7 = .ok (.if_icmp .ge 7, 3) := by decide +kernel
theorem d_C_isPart_10 : decode u_C_isPart.2.1 10 = .ok (.iconst 1, 1) := by decide +kernel
theorem d_C_isPart_11 : decode u_C_isPart.2.1 11 = .ok (.goto 4, 3) := by decide +kernel
theorem d_C_isPart_14 : decode u_C_isPart.2.1 14 = .ok (.iconst 0, 1) := by decide +kernel
theorem d_C_isPart_15 : decode u_C_isPart.2.1 15 = .ok (.ireturn, 1) := by decide +kernel
theorem d_C_isPlace_0 : decode u_C_isPlace.2.1 0 = .ok (.iload_n 0, 1) := by decide +kernel
theorem d_C_isPlace_1 : decode u_C_isPlace.2.1 1 = .ok (.ifCond .lt 13, 3) := by decide +kernel
theorem d_C_isPlace_4 : decode u_C_isPlace.2.1 4 = .ok (.iload_n 0, 1) := by decide +kernel
theorem d_C_isPlace_5 : decode u_C_isPlace.2.1 5 = .ok (.bipush 99, 2) := by decide +kernel
theorem d_C_isPlace_7 : decode u_C_isPlace.2.1 7 = .ok (.if_icmp .gt 7, 3) := by decide +kernel
theorem d_C_isPlace_10 : decode u_C_isPlace.2.1 10 = .ok (.iconst 1, 1) := by decide +kernel
theorem d_C_isPlace_11 : decode u_C_isPlace.2.1 11 = .ok (.goto 4, 3) := by decide +kernel
theorem d_C_isPlace_14 : decode u_C_isPlace.2.1 14 = .ok (.iconst 0, 1) := by decide +kernel
theorem d_C_isPlace_15 : decode u_C_isPlace.2.1 15 = .ok (.ireturn, 1) := by decide +kernel
theorem d_C_isHand_0 : decode u_C_isHand.2.1 0 = .ok (.iload_n 0, 1) := by decide +kernel
theorem d_C_isHand_1 : decode u_C_isHand.2.1 1 = .ok (.ifCond .lt 12, 3) := by decide +kernel
theorem d_C_isHand_4 : decode u_C_isHand.2.1 4 = .ok (.iload_n 0, 1) := by decide +kernel
theorem d_C_isHand_5 : decode u_C_isHand.2.1 5 = .ok (.iconst 4, 1) := by decide +kernel
theorem d_C_isHand_6 : decode u_C_isHand.2.1 6 = .ok (.if_icmp .ge 7, 3) := by decide +kernel
theorem d_C_isHand_9 : decode u_C_isHand.2.1 9 = .ok (.iconst 1, 1) := by decide +kernel
theorem d_C_isHand_10 : decode u_C_isHand.2.1 10 = .ok (.goto 4, 3) := by decide +kernel
theorem d_C_isHand_13 : decode u_C_isHand.2.1 13 = .ok (.iconst 0, 1) := by decide +kernel
theorem d_C_isHand_14 : decode u_C_isHand.2.1 14 = .ok (.ireturn, 1) := by decide +kernel
theorem d_C_isSheet_0 : decode u_C_isSheet.2.1 0 = .ok (.iload_n 0, 1) := by decide +kernel
theorem d_C_isSheet_1 : decode u_C_isSheet.2.1 1 = .ok (.ifCond .lt 12, 3) := by decide +kernel
theorem d_C_isSheet_4 : decode u_C_isSheet.2.1 4 = .ok (.iload_n 0, 1) := by decide +kernel
theorem d_C_isSheet_5 : decode u_C_isSheet.2.1 5 = .ok (.iconst 4, 1) := by decide +kernel
theorem d_C_isSheet_6 : decode u_C_isSheet.2.1 6 = .ok (.if_icmp .ge 7, 3) := by decide +kernel
theorem d_C_isSheet_9 : decode u_C_isSheet.2.1 9 = .ok (.iconst 1, 1) := by decide +kernel
theorem d_C_isSheet_10 : decode u_C_isSheet.2.1 10 = .ok (.goto 4, 3) := by decide +kernel
theorem d_C_isSheet_13 : decode u_C_isSheet.2.1 13 = .ok (.iconst 0, 1) := by decide +kernel
theorem d_C_isSheet_14 : decode u_C_isSheet.2.1 14 = .ok (.ireturn, 1) := by decide +kernel
theorem d_C_isForm_0 : decode u_C_isForm.2.1 0 = .ok (.iload_n 0, 1) := by decide +kernel
theorem d_C_isForm_1 : decode u_C_isForm.2.1 1 = .ok (.ifCond .lt 12, 3) := by decide +kernel
theorem d_C_isForm_4 : decode u_C_isForm.2.1 4 = .ok (.iload_n 0, 1) := by decide +kernel
theorem d_C_isForm_5 : decode u_C_isForm.2.1 5 = .ok (.iconst 2, 1) := by decide +kernel
theorem d_C_isForm_6 : decode u_C_isForm.2.1 6 = .ok (.if_icmp .gt 7, 3) := by decide +kernel
theorem d_C_isForm_9 : decode u_C_isForm.2.1 9 = .ok (.iconst 1, 1) := by decide +kernel
theorem d_C_isForm_10 : decode u_C_isForm.2.1 10 = .ok (.goto 4, 3) := by decide +kernel
theorem d_C_isForm_13 : decode u_C_isForm.2.1 13 = .ok (.iconst 0, 1) := by decide +kernel
theorem d_C_isForm_14 : decode u_C_isForm.2.1 14 = .ok (.ireturn, 1) := by decide +kernel
theorem d_C_refusalOfParts_0 : decode u_C_refusalOfParts.2.1 0 = .ok (.aload_n 0, 1) := by decide +kernel
theorem d_C_refusalOfParts_1 : decode u_C_refusalOfParts.2.1 1 = .ok (.iload_n 1, 1) := by decide +kernel
theorem d_C_refusalOfParts_2 : decode u_C_refusalOfParts.2.1 2 = .ok (.invokevirtual 214, 3) := by decide +kernel
theorem d_C_refusalOfParts_5 : decode u_C_refusalOfParts.2.1 5 = .ok (.ifCond .eq 31, 3) := by decide +kernel
theorem d_C_refusalOfParts_8 : decode u_C_refusalOfParts.2.1 8 = .ok (.aload_n 0, 1) := by decide +kernel
theorem d_C_refusalOfParts_9 : decode u_C_refusalOfParts.2.1 9 = .ok (.iload_n 2, 1) := by decide +kernel
theorem d_C_refusalOfParts_10 : decode u_C_refusalOfParts.2.1 10 = .ok (.invokevirtual 78, 3) := by decide +kernel
theorem d_C_refusalOfParts_13 : decode u_C_refusalOfParts.2.1 13 = .ok (.ifCond .eq 23, 3) := by decide +kernel
theorem d_C_refusalOfParts_16 : decode u_C_refusalOfParts.2.1 16 = .ok (.aload_n 0, 1) := by decide +kernel
theorem d_C_refusalOfParts_17 : decode u_C_refusalOfParts.2.1 17 = .ok (.iload_n 3, 1) := by decide +kernel
theorem d_C_refusalOfParts_18 : decode u_C_refusalOfParts.2.1 18 = .ok (.invokevirtual 114, 3) := by decide +kernel
theorem d_C_refusalOfParts_21 : decode u_C_refusalOfParts.2.1 21 = .ok (.ifCond .eq 15, 3) := by decide +kernel
theorem d_C_refusalOfParts_24 : decode u_C_refusalOfParts.2.1 24 = .ok (.iload 4, 2) := by decide +kernel
theorem d_C_refusalOfParts_26 : decode u_C_refusalOfParts.2.1 26 = .ok (.ifCond .lt 10, 3) := by decide +kernel
theorem d_C_refusalOfParts_29 : decode u_C_refusalOfParts.2.1 29 = .ok (.iload 4, 2) := by decide +kernel
theorem d_C_refusalOfParts_31 : decode u_C_refusalOfParts.2.1 31 = .ok (.bipush 60, 2) := by decide +kernel
theorem d_C_refusalOfParts_33 : decode u_C_refusalOfParts.2.1 33 = .ok (.if_icmp .le 6, 3) := by decide +kernel
theorem d_C_refusalOfParts_36 : decode u_C_refusalOfParts.2.1 36 = .ok (.bipush (-2), 2) := by decide +kernel
theorem d_C_refusalOfParts_38 : decode u_C_refusalOfParts.2.1 38 = .ok (.ireturn, 1) := by decide +kernel
theorem d_C_refusalOfParts_39 : decode u_C_refusalOfParts.2.1 39 = .ok (.aload_n 0, 1) := by decide +kernel
theorem d_C_refusalOfParts_40 : decode u_C_refusalOfParts.2.1 40 = .ok (.getfield 29, 3) := by decide +kernel
theorem d_C_refusalOfParts_43 : decode u_C_refusalOfParts.2.1 43 = .ok (.iload_n 1, 1) := by decide +kernel
theorem d_C_refusalOfParts_44 : decode u_C_refusalOfParts.2.1 44 = .ok (.aaload, 1) := by decide +kernel
theorem d_C_refusalOfParts_45 : decode u_C_refusalOfParts.2.1 45 = .ok (.iload_n 2, 1) := by decide +kernel
theorem d_C_refusalOfParts_46 : decode u_C_refusalOfParts.2.1 46 = .ok (.invokevirtual 223, 3) := by decide +kernel
theorem d_C_refusalOfParts_49 : decode u_C_refusalOfParts.2.1 49 = .ok (.ifCond .eq 7, 3) := by decide +kernel
theorem d_C_refusalOfParts_52 : decode u_C_refusalOfParts.2.1 52 = .ok (.iconst 0, 1) := by decide +kernel
theorem d_C_refusalOfParts_53 : decode u_C_refusalOfParts.2.1 53 = .ok (.goto 5, 3) := by decide +kernel
theorem d_C_refusalOfParts_56 : decode u_C_refusalOfParts.2.1 56 = .ok (.bipush (-3), 2) := by decide +kernel
theorem d_C_refusalOfParts_58 : decode u_C_refusalOfParts.2.1 58 = .ok (.ireturn, 1) := by decide +kernel
theorem d_C_found_0 : decode u_C_found.2.1 0 = .ok (.aload_n 0, 1) := by decide +kernel
theorem d_C_found_1 : decode u_C_found.2.1 1 = .ok (.iload_n 1, 1) := by decide +kernel
theorem d_C_found_2 : decode u_C_found.2.1 2 = .ok (.putfield 313, 3) := by decide +kernel
theorem d_C_found_5 : decode u_C_found.2.1 5 = .ok (.bipush (-10), 2) := by decide +kernel
theorem d_C_found_7 : decode u_C_found.2.1 7 = .ok (.iload_n 1, 1) := by decide +kernel
theorem d_C_found_8 : decode u_C_found.2.1 8 = .ok (.isub, 1) := by decide +kernel
theorem d_C_found_9 : decode u_C_found.2.1 9 = .ok (.ireturn, 1) := by decide +kernel
theorem d_C_findingAt_0 : decode u_C_findingAt.2.1 0 = .ok (.aload_n 0, 1) := by decide +kernel
theorem d_C_findingAt_1 : decode u_C_findingAt.2.1 1 = .ok (.invokevirtual 94, 3) := by decide +kernel
theorem d_C_findingAt_4 : decode u_C_findingAt.2.1 4 = .ok (.ifCond .eq 5, 3) := by decide +kernel
theorem d_C_findingAt_7 : decode u_C_findingAt.2.1 7 = .ok (.iconst 1, 1) := by decide +kernel
theorem d_C_findingAt_8 : decode u_C_findingAt.2.1 8 = .ok (.ireturn, 1) := by decide +kernel
theorem d_C_findingAt_9 : decode u_C_findingAt.2.1 9 = .ok (.aload_n 0, 1) := by decide +kernel
theorem d_C_findingAt_10 : decode u_C_findingAt.2.1 10 = .ok (.getfield 303, 3) := by decide +kernel
theorem d_C_findingAt_13 : decode u_C_findingAt.2.1 13 = .ok (.iload_n 1, 1) := by decide +kernel
theorem d_C_findingAt_14 : decode u_C_findingAt.2.1 14 = .ok (.if_icmp .eq 5, 3) := by decide +kernel
theorem d_C_findingAt_17 : decode u_C_findingAt.2.1 17 = .ok (.iconst 3, 1) := by decide +kernel
theorem d_C_findingAt_18 : decode u_C_findingAt.2.1 18 = .ok (.ireturn, 1) := by decide +kernel
theorem d_C_findingAt_19 : decode u_C_findingAt.2.1 19 = .ok (.iload_n 2, 1) := by decide +kernel
theorem d_C_findingAt_20 : decode u_C_findingAt.2.1 20 = .ok (.ifCond .lt 11, 3) := by decide +kernel
theorem d_C_findingAt_23 : decode u_C_findingAt.2.1 23 = .ok (.iload_n 2, 1) := by decide +kernel
theorem d_C_findingAt_24 : decode u_C_findingAt.2.1 24 = .ok (.aload_n 0, 1) := by decide +kernel
theorem d_C_findingAt_25 : decode u_C_findingAt.2.1 25 = .ok (.getfield 102, 3) := by decide +kernel
theorem d_C_findingAt_28 : decode u_C_findingAt.2.1 28 = .ok (.if_icmp .lt 7, 3) := by decide +kernel
theorem d_C_findingAt_31 : decode u_C_findingAt.2.1 31 = .ok (.iconst 2, 1) := by decide +kernel
theorem d_C_findingAt_32 : decode u_C_findingAt.2.1 32 = .ok (.goto 4, 3) := by decide +kernel
theorem d_C_findingAt_35 : decode u_C_findingAt.2.1 35 = .ok (.iconst 0, 1) := by decide +kernel
theorem d_C_findingAt_36 : decode u_C_findingAt.2.1 36 = .ok (.ireturn, 1) := by decide +kernel
theorem d_C_meanOf_0 : decode u_C_meanOf.2.1 0 = .ok (.iconst 0, 1) := by decide +kernel
theorem d_C_meanOf_1 : decode u_C_meanOf.2.1 1 = .ok (.istore_n 3, 1) := by decide +kernel
theorem d_C_meanOf_2 : decode u_C_meanOf.2.1 2 = .ok (.iconst 0, 1) := by decide +kernel
theorem d_C_meanOf_3 : decode u_C_meanOf.2.1 3 = .ok (.istore 4, 2) := by decide +kernel
theorem d_C_meanOf_5 : decode u_C_meanOf.2.1 5 = .ok (.iconst 0, 1) := by decide +kernel
theorem d_C_meanOf_6 : decode u_C_meanOf.2.1 6 = .ok (.istore 5, 2) := by decide +kernel
theorem d_C_meanOf_8 : decode u_C_meanOf.2.1 8 = .ok (.iload 5, 2) := by decide +kernel
theorem d_C_meanOf_10 : decode u_C_meanOf.2.1 10 = .ok (.aload_n 0, 1) := by decide +kernel
theorem d_C_meanOf_11 : decode u_C_meanOf.2.1 11 = .ok (.getfield 75, 3) := by decide +kernel
theorem d_C_meanOf_14 : decode u_C_meanOf.2.1 14 = .ok (.if_icmp .ge 37, 3) := by decide +kernel
theorem d_C_meanOf_17 : decode u_C_meanOf.2.1 17 = .ok (.iload_n 1, 1) := by decide +kernel
theorem d_C_meanOf_18 : decode u_C_meanOf.2.1 18 = .ok (.iload 5, 2) := by decide +kernel
theorem d_C_meanOf_20 : decode u_C_meanOf.2.1 20 = .ok (.ishr, 1) := by decide +kernel
theorem d_C_meanOf_21 : decode u_C_meanOf.2.1 21 = .ok (.iconst 1, 1) := by decide +kernel
theorem d_C_meanOf_22 : decode u_C_meanOf.2.1 22 = .ok (.iand, 1) := by decide +kernel
theorem d_C_meanOf_23 : decode u_C_meanOf.2.1 23 = .ok (.iconst 1, 1) := by decide +kernel
theorem d_C_meanOf_24 : decode u_C_meanOf.2.1 24 = .ok (.if_icmp .ne 21, 3) := by decide +kernel
theorem d_C_meanOf_27 : decode u_C_meanOf.2.1 27 = .ok (.iload_n 3, 1) := by decide +kernel
theorem d_C_meanOf_28 : decode u_C_meanOf.2.1 28 = .ok (.aload_n 0, 1) := by decide +kernel
theorem d_C_meanOf_29 : decode u_C_meanOf.2.1 29 = .ok (.getfield 11, 3) := by decide +kernel
theorem d_C_meanOf_32 : decode u_C_meanOf.2.1 32 = .ok (.iload 5, 2) := by decide +kernel
theorem d_C_meanOf_34 : decode u_C_meanOf.2.1 34 = .ok (.aaload, 1) := by decide +kernel
theorem d_C_meanOf_35 : decode u_C_meanOf.2.1 35 = .ok (.getfield 88, 3) := by decide +kernel
theorem d_C_meanOf_38 : decode u_C_meanOf.2.1 38 = .ok (.iload_n 2, 1) := by decide +kernel
theorem d_C_meanOf_39 : decode u_C_meanOf.2.1 39 = .ok (.iaload, 1) := by decide +kernel
theorem d_C_meanOf_40 : decode u_C_meanOf.2.1 40 = .ok (.iadd, 1) := by decide +kernel
theorem d_C_meanOf_41 : decode u_C_meanOf.2.1 41 = .ok (.istore_n 3, 1) := by decide +kernel
theorem d_C_meanOf_42 : decode u_C_meanOf.2.1 42 = .ok (.iinc 4 1, 3) := by decide +kernel
theorem d_C_meanOf_45 : decode u_C_meanOf.2.1 45 = .ok (.iinc 5 1, 3) := by decide +kernel
theorem d_C_meanOf_48 : decode u_C_meanOf.2.1 48 = .ok (.goto (-40), 3) := by decide +kernel
theorem d_C_meanOf_51 : decode u_C_meanOf.2.1 51 = .ok (.iload 4, 2) := by decide +kernel
theorem d_C_meanOf_53 : decode u_C_meanOf.2.1 53 = .ok (.ifCond .ne 7, 3) := by decide +kernel
theorem d_C_meanOf_56 : decode u_C_meanOf.2.1 56 = .ok (.iconst 0, 1) := by decide +kernel
theorem d_C_meanOf_57 : decode u_C_meanOf.2.1 57 = .ok (.goto 7, 3) := by decide +kernel
theorem d_C_meanOf_60 : decode u_C_meanOf.2.1 60 = .ok (.iload_n 3, 1) := by decide +kernel
theorem d_C_meanOf_61 : decode u_C_meanOf.2.1 61 = .ok (.iload 4, 2) := by decide +kernel
theorem d_C_meanOf_63 : decode u_C_meanOf.2.1 63 = .ok (.idiv, 1) := by decide +kernel
theorem d_C_meanOf_64 : decode u_C_meanOf.2.1 64 = .ok (.ireturn, 1) := by decide +kernel
theorem d_C_fillMean_0 : decode u_C_fillMean.2.1 0 = .ok (.iconst 0, 1) := by decide +kernel
theorem d_C_fillMean_1 : decode u_C_fillMean.2.1 1 = .ok (.istore_n 3, 1) := by decide +kernel
theorem d_C_fillMean_2 : decode u_C_fillMean.2.1 2 = .ok (.iload_n 3, 1) := by decide +kernel
theorem d_C_fillMean_3 : decode u_C_fillMean.2.1 3 = .ok (.bipush 8, 2) := by decide +kernel
theorem d_C_fillMean_5 : decode u_C_fillMean.2.1 5 = .ok (.if_icmp .ge 18, 3) := by decide +kernel
theorem d_C_fillMean_8 : decode u_C_fillMean.2.1 8 = .ok (.aload_n 2, 1) := by decide +kernel
theorem d_C_fillMean_9 : decode u_C_fillMean.2.1 9 = .ok (.iload_n 3, 1) := by decide +kernel
theorem d_C_fillMean_10 : decode u_C_fillMean.2.1 10 = .ok (.aload_n 0, 1) := by decide +kernel
theorem d_C_fillMean_11 : decode u_C_fillMean.2.1 11 = .ok (.iload_n 1, 1) := by decide +kernel
theorem d_C_fillMean_12 : decode u_C_fillMean.2.1 12 = .ok (.iload_n 3, 1) := by decide +kernel
theorem d_C_fillMean_13 : decode u_C_fillMean.2.1 13 = .ok (.invokevirtual 117, 3) := by decide +kernel
theorem d_C_fillMean_16 : decode u_C_fillMean.2.1 16 = .ok (.iastore, 1) := by decide +kernel
theorem d_C_fillMean_17 : decode u_C_fillMean.2.1 17 = .ok (.iinc 3 1, 3) := by decide +kernel
theorem d_C_fillMean_20 : decode u_C_fillMean.2.1 20 = .ok (.goto (-18), 3) := by decide +kernel
theorem d_C_fillMean_23 : decode u_C_fillMean.2.1 23 = .ok (.return_, 1) := by decide +kernel
theorem d_C_drawnAt_0 : decode u_C_drawnAt.2.1 0 = .ok (.iload_n 1, 1) := by decide +kernel
theorem d_C_drawnAt_1 : decode u_C_drawnAt.2.1 1 = .ok (.sipush (-9999), 3) := by decide +kernel
theorem d_C_drawnAt_4 : decode u_C_drawnAt.2.1 4 = .ok (.if_icmp .eq 10, 3) := by decide +kernel
theorem d_C_drawnAt_7 : decode u_C_drawnAt.2.1 7 = .ok (.iload_n 2, 1) := by decide +kernel
theorem d_C_drawnAt_8 : decode u_C_drawnAt.2.1 8 = .ok (.sipush (-9999), 3) := by decide +kernel
theorem d_C_drawnAt_11 : decode u_C_drawnAt.2.1 11 = .ok (.if_icmp .ne 7, 3) := by decide +kernel
theorem d_C_drawnAt_14 : decode u_C_drawnAt.2.1 14 = .ok (.sipush (-9999), 3) := by decide +kernel
theorem d_C_drawnAt_17 : decode u_C_drawnAt.2.1 17 = .ok (.ireturn, 1) := by decide +kernel
theorem d_C_drawnAt_18 : decode u_C_drawnAt.2.1 18 = .ok (.iload_n 0, 1) := by decide +kernel
theorem d_C_drawnAt_19 : decode u_C_drawnAt.2.1 19 = .ok (.iload_n 1, 1) := by decide +kernel
theorem d_C_drawnAt_20 : decode u_C_drawnAt.2.1 20 = .ok (.iload_n 0, 1) := by decide +kernel
theorem d_C_drawnAt_21 : decode u_C_drawnAt.2.1 21 = .ok (.isub, 1) := by decide +kernel
theorem d_C_drawnAt_22 : decode u_C_drawnAt.2.1 22 = .ok (.iload_n 2, 1) := by decide +kernel
theorem d_C_drawnAt_23 : decode u_C_drawnAt.2.1 23 = .ok (.imul, 1) := by decide +kernel
theorem d_C_drawnAt_24 : decode u_C_drawnAt.2.1 24 = .ok (.bipush 10, 2) := by decide +kernel
theorem d_C_drawnAt_26 : decode u_C_drawnAt.2.1 26 = .ok (.idiv, 1) := by decide +kernel
theorem d_C_drawnAt_27 : decode u_C_drawnAt.2.1 27 = .ok (.iadd, 1) := by decide +kernel
theorem d_C_drawnAt_28 : decode u_C_drawnAt.2.1 28 = .ok (.istore_n 3, 1) := by decide +kernel
theorem d_C_drawnAt_29 : decode u_C_drawnAt.2.1 29 = .ok (.sipush (-7000), 3) := by decide +kernel
theorem d_C_drawnAt_32 : decode u_C_drawnAt.2.1 32 = .ok (.sipush 7000, 3) := by decide +kernel
theorem d_C_drawnAt_35 : decode u_C_drawnAt.2.1 35 = .ok (.iload_n 3, 1) := by decide +kernel
theorem d_C_drawnAt_36 : decode u_C_drawnAt.2.1 36 = .ok (.invokestatic 105, 3) := by decide +kernel
theorem d_C_drawnAt_39 : decode u_C_drawnAt.2.1 39 = .ok (.invokestatic 340, 3) := by decide +kernel
theorem d_C_drawnAt_42 : decode u_C_drawnAt.2.1 42 = .ok (.ireturn, 1) := by decide +kernel
theorem d_C_outline_0 : decode u_C_outline.2.1 0 = .ok (.iconst 0, 1) := by decide +kernel
theorem d_C_outline_1 : decode u_C_outline.2.1 1 = .ok (.istore_n 3, 1) := by decide +kernel
theorem d_C_outline_2 : decode u_C_outline.2.1 2 = .ok (.iload_n 3, 1) := by decide +kernel
theorem d_C_outline_3 : decode u_C_outline.2.1 3 = .ok (.bipush 8, 2) := by decide +kernel
theorem d_C_outline_5 : decode u_C_outline.2.1 5 = .ok (.if_icmp .ge 33, 3) := by decide +kernel
theorem d_C_outline_8 : decode u_C_outline.2.1 8 = .ok (.aload_n 0, 1) := by decide +kernel
theorem d_C_outline_9 : decode u_C_outline.2.1 9 = .ok (.getfield 185, 3) := by decide +kernel
theorem d_C_outline_12 : decode u_C_outline.2.1 12 = .ok (.iload_n 3, 1) := by decide +kernel
theorem d_C_outline_13 : decode u_C_outline.2.1 13 = .ok (.aload_n 0, 1) := by decide +kernel
theorem d_C_outline_14 : decode u_C_outline.2.1 14 = .ok (.getfield 149, 3) := by decide +kernel
theorem d_C_outline_17 : decode u_C_outline.2.1 17 = .ok (.iload_n 3, 1) := by decide +kernel
theorem d_C_outline_18 : decode u_C_outline.2.1 18 = .ok (.iaload, 1) := by decide +kernel
theorem d_C_outline_19 : decode u_C_outline.2.1 19 = .ok (.aload_n 1, 1) := by decide +kernel
theorem d_C_outline_20 : decode u_C_outline.2.1 20 = .ok (.iload_n 3, 1) := by decide +kernel
theorem d_C_outline_21 : decode u_C_outline.2.1 21 = .ok (.iaload, 1) := by decide +kernel
theorem d_C_outline_22 : decode u_C_outline.2.1 22 = .ok (.aload_n 2, 1) := by decide +kernel
theorem d_C_outline_23 : decode u_C_outline.2.1 23 = .ok (.getfield 136, 3) := by decide +kernel
theorem d_C_outline_26 : decode u_C_outline.2.1 26 = .ok (.iload_n 3, 1) := by decide +kernel
theorem d_C_outline_27 : decode u_C_outline.2.1 27 = .ok (.iaload, 1) := by decide +kernel
theorem d_C_outline_28 : decode u_C_outline.2.1 28 = .ok (.invokestatic 139, 3) := by decide +kernel
theorem d_C_outline_31 : decode u_C_outline.2.1 31 = .ok (.iastore, 1) := by decide +kernel
theorem d_C_outline_32 : decode u_C_outline.2.1 32 = .ok (.iinc 3 1, 3) := by decide +kernel
theorem d_C_outline_35 : decode u_C_outline.2.1 35 = .ok (.goto (-33), 3) := by decide +kernel
theorem d_C_outline_38 : decode u_C_outline.2.1 38 = .ok (.return_, 1) := by decide +kernel
theorem d_C_kindOf_0 : decode u_C_kindOf.2.1 0 = .ok (.iconst 1, 1) := by decide +kernel
theorem d_C_kindOf_1 : decode u_C_kindOf.2.1 1 = .ok (.istore_n 3, 1) := by decide +kernel
theorem d_C_kindOf_2 : decode u_C_kindOf.2.1 2 = .ok (.iconst 0, 1) := by decide +kernel
theorem d_C_kindOf_3 : decode u_C_kindOf.2.1 3 = .ok (.istore 4, 2) := by decide +kernel
theorem d_C_kindOf_5 : decode u_C_kindOf.2.1 5 = .ok (.iconst 0, 1) := by decide +kernel
theorem d_C_kindOf_6 : decode u_C_kindOf.2.1 6 = .ok (.istore 5, 2) := by decide +kernel
theorem d_C_kindOf_8 : decode u_C_kindOf.2.1 8 = .ok (.iload 5, 2) := by decide +kernel
theorem d_C_kindOf_10 : decode u_C_kindOf.2.1 10 = .ok (.bipush 8, 2) := by decide +kernel
theorem d_C_kindOf_12 : decode u_C_kindOf.2.1 12 = .ok (.if_icmp .ge 63, 3) := by decide +kernel
theorem d_C_kindOf_15 : decode u_C_kindOf.2.1 15 = .ok (.aload_n 0, 1) := by decide +kernel
theorem d_C_kindOf_16 : decode u_C_kindOf.2.1 16 = .ok (.iload 5, 2) := by decide +kernel
theorem d_C_kindOf_18 : decode u_C_kindOf.2.1 18 = .ok (.invokevirtual 267, 3) := by decide +kernel
theorem d_C_kindOf_21 : decode u_C_kindOf.2.1 21 = .ok (.ifCond .ne 5, 3) := by decide +kernel
theorem d_C_kindOf_24 : decode u_C_kindOf.2.1 24 = .ok (.iconst 3, 1) := by decide +kernel
theorem d_C_kindOf_25 : decode u_C_kindOf.2.1 25 = .ok (.ireturn, 1) := by decide +kernel
theorem d_C_kindOf_26 : decode u_C_kindOf.2.1 26 = .ok (.aload_n 0, 1) := by decide +kernel
theorem d_C_kindOf_27 : decode u_C_kindOf.2.1 27 = .ok (.getfield 185, 3) := by decide +kernel
theorem d_C_kindOf_30 : decode u_C_kindOf.2.1 30 = .ok (.iload 5, 2) := by decide +kernel
theorem d_C_kindOf_32 : decode u_C_kindOf.2.1 32 = .ok (.iaload, 1) := by decide +kernel
theorem d_C_kindOf_33 : decode u_C_kindOf.2.1 33 = .ok (.aload_n 1, 1) := by decide +kernel
theorem d_C_kindOf_34 : decode u_C_kindOf.2.1 34 = .ok (.iload 5, 2) := by decide +kernel
theorem d_C_kindOf_36 : decode u_C_kindOf.2.1 36 = .ok (.iaload, 1) := by decide +kernel
theorem d_C_kindOf_37 : decode u_C_kindOf.2.1 37 = .ok (.if_icmp .eq 5, 3) := by decide +kernel
theorem d_C_kindOf_40 : decode u_C_kindOf.2.1 40 = .ok (.iconst 0, 1) := by decide +kernel
theorem d_C_kindOf_41 : decode u_C_kindOf.2.1 41 = .ok (.istore_n 3, 1) := by decide +kernel
theorem d_C_kindOf_42 : decode u_C_kindOf.2.1 42 = .ok (.aload_n 1, 1) := by decide +kernel
theorem d_C_kindOf_43 : decode u_C_kindOf.2.1 43 = .ok (.iload 5, 2) := by decide +kernel
theorem d_C_kindOf_45 : decode u_C_kindOf.2.1 45 = .ok (.iaload, 1) := by decide +kernel
theorem d_C_kindOf_46 : decode u_C_kindOf.2.1 46 = .ok (.aload_n 0, 1) := by decide +kernel
theorem d_C_kindOf_47 : decode u_C_kindOf.2.1 47 = .ok (.getfield 149, 3) := by decide +kernel
theorem d_C_kindOf_50 : decode u_C_kindOf.2.1 50 = .ok (.iload 5, 2) := by decide +kernel
theorem d_C_kindOf_52 : decode u_C_kindOf.2.1 52 = .ok (.iaload, 1) := by decide +kernel
theorem d_C_kindOf_53 : decode u_C_kindOf.2.1 53 = .ok (.if_icmp .eq 16, 3) := by decide +kernel
theorem d_C_kindOf_56 : decode u_C_kindOf.2.1 56 = .ok (.aload_n 2, 1) := by decide +kernel
theorem d_C_kindOf_57 : decode u_C_kindOf.2.1 57 = .ok (.getfield 136, 3) := by decide +kernel
theorem d_C_kindOf_60 : decode u_C_kindOf.2.1 60 = .ok (.iload 5, 2) := by decide +kernel
theorem d_C_kindOf_62 : decode u_C_kindOf.2.1 62 = .ok (.iaload, 1) := by decide +kernel
theorem d_C_kindOf_63 : decode u_C_kindOf.2.1 63 = .ok (.ifCond .ge 6, 3) := by decide +kernel
theorem d_C_kindOf_66 : decode u_C_kindOf.2.1 66 = .ok (.iconst 1, 1) := by decide +kernel
theorem d_C_kindOf_67 : decode u_C_kindOf.2.1 67 = .ok (.istore 4, 2) := by decide +kernel
theorem d_C_kindOf_69 : decode u_C_kindOf.2.1 69 = .ok (.iinc 5 1, 3) := by decide +kernel
theorem d_C_kindOf_72 : decode u_C_kindOf.2.1 72 = .ok (.goto (-64), 3) := by decide +kernel
theorem d_C_kindOf_75 : decode u_C_kindOf.2.1 75 = .ok (.iload_n 3, 1) := by decide +kernel
theorem d_C_kindOf_76 : decode u_C_kindOf.2.1 76 = .ok (.ifCond .eq 5, 3) := by decide +kernel
theorem d_C_kindOf_79 : decode u_C_kindOf.2.1 79 = .ok (.iconst 0, 1) := by decide +kernel
theorem d_C_kindOf_80 : decode u_C_kindOf.2.1 80 = .ok (.ireturn, 1) := by decide +kernel
theorem d_C_kindOf_81 : decode u_C_kindOf.2.1 81 = .ok (.iload 4, 2) := by decide +kernel
theorem d_C_kindOf_83 : decode u_C_kindOf.2.1 83 = .ok (.ifCond .eq 7, 3) := by decide +kernel
theorem d_C_kindOf_86 : decode u_C_kindOf.2.1 86 = .ok (.iconst 2, 1) := by decide +kernel
theorem d_C_kindOf_87 : decode u_C_kindOf.2.1 87 = .ok (.goto 4, 3) := by decide +kernel
theorem d_C_kindOf_90 : decode u_C_kindOf.2.1 90 = .ok (.iconst 1, 1) := by decide +kernel
theorem d_C_kindOf_91 : decode u_C_kindOf.2.1 91 = .ok (.ireturn, 1) := by decide +kernel
theorem d_C_monsters_0 : decode u_C_monsters.2.1 0 = .ok (.iconst 0, 1) := by decide +kernel
theorem d_C_monsters_1 : decode u_C_monsters.2.1 1 = .ok (.istore_n 1, 1) := by decide +kernel
theorem d_C_monsters_2 : decode u_C_monsters.2.1 2 = .ok (.iconst 0, 1) := by decide +kernel
theorem d_C_monsters_3 : decode u_C_monsters.2.1 3 = .ok (.istore_n 2, 1) := by decide +kernel
theorem d_C_monsters_4 : decode u_C_monsters.2.1 4 = .ok (.iload_n 2, 1) := by decide +kernel
theorem d_C_monsters_5 : decode u_C_monsters.2.1 5 = .ok (.aload_n 0, 1) := by decide +kernel
theorem d_C_monsters_6 : decode u_C_monsters.2.1 6 = .ok (.getfield 146, 3) := by decide +kernel
theorem d_C_monsters_9 : decode u_C_monsters.2.1 9 = .ok (.if_icmp .ge 28, 3) := by decide +kernel
theorem d_C_monsters_12 : decode u_C_monsters.2.1 12 = .ok (.aload_n 0, 1) := by decide +kernel
theorem d_C_monsters_13 : decode u_C_monsters.2.1 13 = .ok (.getfield 23, 3) := by decide +kernel
theorem d_C_monsters_16 : decode u_C_monsters.2.1 16 = .ok (.iload_n 2, 1) := by decide +kernel
theorem d_C_monsters_17 : decode u_C_monsters.2.1 17 = .ok (.aaload, 1) := by decide +kernel
theorem d_C_monsters_18 : decode u_C_monsters.2.1 18 = .ok (.aload_n 0, 1) := by decide +kernel
theorem d_C_monsters_19 : decode u_C_monsters.2.1 19 = .ok (.getfield 39, 3) := by decide +kernel
theorem d_C_monsters_22 : decode u_C_monsters.2.1 22 = .ok (.invokevirtual 188, 3) := by decide +kernel
theorem d_C_monsters_25 : decode u_C_monsters.2.1 25 = .ok (.ifCond .eq 6, 3) := by decide +kernel
theorem d_C_monsters_28 : decode u_C_monsters.2.1 28 = .ok (.iinc 1 1, 3) := by decide +kernel
theorem d_C_monsters_31 : decode u_C_monsters.2.1 31 = .ok (.iinc 2 1, 3) := by decide +kernel
theorem d_C_monsters_34 : decode u_C_monsters.2.1 34 = .ok (.goto (-30), 3) := by decide +kernel
theorem d_C_monsters_37 : decode u_C_monsters.2.1 37 = .ok (.iload_n 1, 1) := by decide +kernel
theorem d_C_monsters_38 : decode u_C_monsters.2.1 38 = .ok (.ireturn, 1) := by decide +kernel
theorem d_C_fromOf_0 : decode u_C_fromOf.2.1 0 = .ok (.iconst (-1), 1) := by decide +kernel
theorem d_C_fromOf_1 : decode u_C_fromOf.2.1 1 = .ok (.istore_n 2, 1) := by decide +kernel
theorem d_C_fromOf_2 : decode u_C_fromOf.2.1 2 = .ok (.iconst 0, 1) := by decide +kernel
theorem d_C_fromOf_3 : decode u_C_fromOf.2.1 3 = .ok (.istore_n 3, 1) := by decide +kernel
theorem d_C_fromOf_4 : decode u_C_fromOf.2.1 4 = .ok (.iconst 0, 1) := by decide +kernel
theorem d_C_fromOf_5 : decode u_C_fromOf.2.1 5 = .ok (.istore 4, 2) := by decide +kernel
theorem d_C_fromOf_7 : decode u_C_fromOf.2.1 7 = .ok (.iload 4, 2) := by decide +kernel
theorem d_C_fromOf_9 : decode u_C_fromOf.2.1 9 = .ok (.iload_n 1, 1) := by decide +kernel
theorem d_C_fromOf_10 : decode u_C_fromOf.2.1 10 = .ok (.if_icmp .ge 70, 3) := by decide +kernel
theorem d_C_fromOf_13 : decode u_C_fromOf.2.1 13 = .ok (.aload_n 0, 1) := by decide +kernel
theorem d_C_fromOf_14 : decode u_C_fromOf.2.1 14 = .ok (.getfield 23, 3) := by decide +kernel
theorem d_C_fromOf_17 : decode u_C_fromOf.2.1 17 = .ok (.iload 4, 2) := by decide +kernel
theorem d_C_fromOf_19 : decode u_C_fromOf.2.1 19 = .ok (.aaload, 1) := by decide +kernel
theorem d_C_fromOf_20 : decode u_C_fromOf.2.1 20 = .ok (.getfield 160, 3) := by decide +kernel
theorem d_C_fromOf_23 : decode u_C_fromOf.2.1 23 = .ok (.aload_n 0, 1) := by decide +kernel
theorem d_C_fromOf_24 : decode u_C_fromOf.2.1 24 = .ok (.getfield 23, 3) := by decide +kernel
theorem d_C_fromOf_27 : decode u_C_fromOf.2.1 27 = .ok (.iload_n 1, 1) := by decide +kernel
theorem d_C_fromOf_28 : decode u_C_fromOf.2.1 28 = .ok (.aaload, 1) := by decide +kernel
theorem d_C_fromOf_29 : decode u_C_fromOf.2.1 29 = .ok (.getfield 160, 3) := by decide +kernel
theorem d_C_fromOf_32 : decode u_C_fromOf.2.1 32 = .ok (.if_icmp .ne 42, 3) := by decide +kernel
theorem d_C_fromOf_35 : decode u_C_fromOf.2.1 35 = .ok (.aload_n 0, 1) := by decide +kernel
theorem d_C_fromOf_36 : decode u_C_fromOf.2.1 36 = .ok (.getfield 23, 3) := by decide +kernel
theorem d_C_fromOf_39 : decode u_C_fromOf.2.1 39 = .ok (.iload 4, 2) := by decide +kernel
theorem d_C_fromOf_41 : decode u_C_fromOf.2.1 41 = .ok (.aaload, 1) := by decide +kernel
theorem d_C_fromOf_42 : decode u_C_fromOf.2.1 42 = .ok (.aload_n 0, 1) := by decide +kernel
theorem d_C_fromOf_43 : decode u_C_fromOf.2.1 43 = .ok (.getfield 23, 3) := by decide +kernel
theorem d_C_fromOf_46 : decode u_C_fromOf.2.1 46 = .ok (.iload_n 1, 1) := by decide +kernel
theorem d_C_fromOf_47 : decode u_C_fromOf.2.1 47 = .ok (.aaload, 1) := by decide +kernel
theorem d_C_fromOf_48 : decode u_C_fromOf.2.1 48 = .ok (.aload_n 0, 1) := by decide +kernel
theorem d_C_fromOf_49 : decode u_C_fromOf.2.1 49 = .ok (.getfield 46, 3) := by decide +kernel
theorem d_C_fromOf_52 : decode u_C_fromOf.2.1 52 = .ok (.invokevirtual 201, 3) := by decide +kernel
theorem d_C_fromOf_55 : decode u_C_fromOf.2.1 55 = .ok (.istore 5, 2) := by decide +kernel
theorem d_C_fromOf_57 : decode u_C_fromOf.2.1 57 = .ok (.iload_n 2, 1) := by decide +kernel
theorem d_C_fromOf_58 : decode u_C_fromOf.2.1 58 = .ok (.iconst (-1), 1) := by decide +kernel
theorem d_C_fromOf_59 : decode u_C_fromOf.2.1 59 = .ok (.if_icmp .eq 9, 3) := by decide +kernel
theorem d_C_fromOf_62 : decode u_C_fromOf.2.1 62 = .ok (.iload 5, 2) := by decide +kernel
theorem d_C_fromOf_64 : decode u_C_fromOf.2.1 64 = .ok (.iload_n 3, 1) := by decide +kernel
theorem d_C_fromOf_65 : decode u_C_fromOf.2.1 65 = .ok (.if_icmp .ge 9, 3) := by decide +kernel
theorem d_C_fromOf_68 : decode u_C_fromOf.2.1 68 = .ok (.iload 4, 2) := by decide +kernel
theorem d_C_fromOf_70 : decode u_C_fromOf.2.1 70 = .ok (.istore_n 2, 1) := by decide +kernel
theorem d_C_fromOf_71 : decode u_C_fromOf.2.1 71 = .ok (.iload 5, 2) := by decide +kernel
theorem d_C_fromOf_73 : decode u_C_fromOf.2.1 73 = .ok (.istore_n 3, 1) := by decide +kernel
theorem d_C_fromOf_74 : decode u_C_fromOf.2.1 74 = .ok (.iinc 4 1, 3) := by decide +kernel
theorem d_C_fromOf_77 : decode u_C_fromOf.2.1 77 = .ok (.goto (-70), 3) := by decide +kernel
theorem d_C_fromOf_80 : decode u_C_fromOf.2.1 80 = .ok (.iload_n 2, 1) := by decide +kernel
theorem d_C_fromOf_81 : decode u_C_fromOf.2.1 81 = .ok (.ireturn, 1) := by decide +kernel
theorem d_C_agesOf_0 : decode u_C_agesOf.2.1 0 = .ok (.iconst 0, 1) := by decide +kernel
theorem d_C_agesOf_1 : decode u_C_agesOf.2.1 1 = .ok (.istore_n 2, 1) := by decide +kernel
theorem d_C_agesOf_2 : decode u_C_agesOf.2.1 2 = .ok (.aload_n 0, 1) := by decide +kernel
theorem d_C_agesOf_3 : decode u_C_agesOf.2.1 3 = .ok (.iload_n 1, 1) := by decide +kernel
theorem d_C_agesOf_4 : decode u_C_agesOf.2.1 4 = .ok (.invokevirtual 191, 3) := by decide +kernel
theorem d_C_agesOf_7 : decode u_C_agesOf.2.1 7 = .ok (.istore_n 3, 1) := by decide +kernel
theorem d_C_agesOf_8 : decode u_C_agesOf.2.1 8 = .ok (.iload_n 3, 1) := by decide +kernel
theorem d_C_agesOf_9 : decode u_C_agesOf.2.1 9 = .ok (.iconst (-1), 1) := by decide +kernel
theorem d_C_agesOf_10 : decode u_C_agesOf.2.1 10 = .ok (.if_icmp .eq 21, 3) := by decide +kernel
theorem d_C_agesOf_13 : decode u_C_agesOf.2.1 13 = .ok (.iload_n 2, 1) := by decide +kernel
theorem d_C_agesOf_14 : decode u_C_agesOf.2.1 14 = .ok (.bipush 30, 2) := by decide +kernel
theorem d_C_agesOf_16 : decode u_C_agesOf.2.1 16 = .ok (.if_icmp .ge 15, 3) := by decide +kernel
theorem d_C_agesOf_19 : decode u_C_agesOf.2.1 19 = .ok (.iinc 2 1, 3) := by decide +kernel
theorem d_C_agesOf_22 : decode u_C_agesOf.2.1 22 = .ok (.aload_n 0, 1) := by decide +kernel
theorem d_C_agesOf_23 : decode u_C_agesOf.2.1 23 = .ok (.iload_n 3, 1) := by decide +kernel
theorem d_C_agesOf_24 : decode u_C_agesOf.2.1 24 = .ok (.invokevirtual 191, 3) := by decide +kernel
theorem d_C_agesOf_27 : decode u_C_agesOf.2.1 27 = .ok (.istore_n 3, 1) := by decide +kernel
theorem d_C_agesOf_28 : decode u_C_agesOf.2.1 28 = .ok (.goto (-20), 3) := by decide +kernel
theorem d_C_agesOf_31 : decode u_C_agesOf.2.1 31 = .ok (.iload_n 2, 1) := by decide +kernel
theorem d_C_agesOf_32 : decode u_C_agesOf.2.1 32 = .ok (.ireturn, 1) := by decide +kernel
theorem d_C_whoseIs_0 : decode u_C_whoseIs.2.1 0 = .ok (.aload_n 1, 1) := by decide +kernel
theorem d_C_whoseIs_1 : decode u_C_whoseIs.2.1 1 = .ok (.getfield 149, 3) := by decide +kernel
theorem d_C_whoseIs_4 : decode u_C_whoseIs.2.1 4 = .ok (.iconst 0, 1) := by decide +kernel
theorem d_C_whoseIs_5 : decode u_C_whoseIs.2.1 5 = .ok (.aload_n 0, 1) := by decide +kernel
theorem d_C_whoseIs_6 : decode u_C_whoseIs.2.1 6 = .ok (.getfield 50, 3) := by decide +kernel
theorem d_C_whoseIs_9 : decode u_C_whoseIs.2.1 9 = .ok (.getfield 149, 3) := by decide +kernel
theorem d_C_whoseIs_12 : decode u_C_whoseIs.2.1 12 = .ok (.iconst 0, 1) := by decide +kernel
theorem d_C_whoseIs_13 : decode u_C_whoseIs.2.1 13 = .ok (.bipush 8, 2) := by decide +kernel
theorem d_C_whoseIs_15 : decode u_C_whoseIs.2.1 15 = .ok (.invokestatic 179, 3) := by decide +kernel
theorem d_C_whoseIs_18 : decode u_C_whoseIs.2.1 18 = .ok (.iconst 0, 1) := by decide +kernel
theorem d_C_whoseIs_19 : decode u_C_whoseIs.2.1 19 = .ok (.istore_n 2, 1) := by decide +kernel
theorem d_C_whoseIs_20 : decode u_C_whoseIs.2.1 20 = .ok (.iconst 0, 1) := by decide +kernel
theorem d_C_whoseIs_21 : decode u_C_whoseIs.2.1 21 = .ok (.istore_n 3, 1) := by decide +kernel
theorem d_C_whoseIs_22 : decode u_C_whoseIs.2.1 22 = .ok (.iconst 0, 1) := by decide +kernel
theorem d_C_whoseIs_23 : decode u_C_whoseIs.2.1 23 = .ok (.istore 4, 2) := by decide +kernel
theorem d_C_whoseIs_25 : decode u_C_whoseIs.2.1 25 = .ok (.iload 4, 2) := by decide +kernel
theorem d_C_whoseIs_27 : decode u_C_whoseIs.2.1 27 = .ok (.iconst 4, 1) := by decide +kernel
theorem d_C_whoseIs_28 : decode u_C_whoseIs.2.1 28 = .ok (.if_icmp .ge 66, 3) := by decide +kernel
theorem d_C_whoseIs_31 : decode u_C_whoseIs.2.1 31 = .ok (.aload_n 0, 1) := by decide +kernel
theorem d_C_whoseIs_32 : decode u_C_whoseIs.2.1 32 = .ok (.getfield 50, 3) := by decide +kernel
theorem d_C_whoseIs_35 : decode u_C_whoseIs.2.1 35 = .ok (.aload_n 0, 1) := by decide +kernel
theorem d_C_whoseIs_36 : decode u_C_whoseIs.2.1 36 = .ok (.getfield 11, 3) := by decide +kernel
theorem d_C_whoseIs_39 : decode u_C_whoseIs.2.1 39 = .ok (.aload_n 1, 1) := by decide +kernel
theorem d_C_whoseIs_40 : decode u_C_whoseIs.2.1 40 = .ok (.getfield 160, 3) := by decide +kernel
theorem d_C_whoseIs_43 : decode u_C_whoseIs.2.1 43 = .ok (.aaload, 1) := by decide +kernel
theorem d_C_whoseIs_44 : decode u_C_whoseIs.2.1 44 = .ok (.getfield 88, 3) := by decide +kernel
theorem d_C_whoseIs_47 : decode u_C_whoseIs.2.1 47 = .ok (.aload_n 0, 1) := by decide +kernel
theorem d_C_whoseIs_48 : decode u_C_whoseIs.2.1 48 = .ok (.getfield 17, 3) := by decide +kernel
theorem d_C_whoseIs_51 : decode u_C_whoseIs.2.1 51 = .ok (.iload 4, 2) := by decide +kernel
theorem d_C_whoseIs_53 : decode u_C_whoseIs.2.1 53 = .ok (.aaload, 1) := by decide +kernel
theorem d_C_whoseIs_54 : decode u_C_whoseIs.2.1 54 = .ok (.invokestatic 156, 3) := by decide +kernel
theorem d_C_whoseIs_57 : decode u_C_whoseIs.2.1 57 = .ok (.aload_n 0, 1) := by decide +kernel
theorem d_C_whoseIs_58 : decode u_C_whoseIs.2.1 58 = .ok (.getfield 50, 3) := by decide +kernel
theorem d_C_whoseIs_61 : decode u_C_whoseIs.2.1 61 = .ok (.aload_n 1, 1) := by decide +kernel
theorem d_C_whoseIs_62 : decode u_C_whoseIs.2.1 62 = .ok (.aload_n 0, 1) := by decide +kernel
theorem d_C_whoseIs_63 : decode u_C_whoseIs.2.1 63 = .ok (.getfield 46, 3) := by decide +kernel
theorem d_C_whoseIs_66 : decode u_C_whoseIs.2.1 66 = .ok (.invokevirtual 201, 3) := by decide +kernel
theorem d_C_whoseIs_69 : decode u_C_whoseIs.2.1 69 = .ok (.istore 5, 2) := by decide +kernel
theorem d_C_whoseIs_71 : decode u_C_whoseIs.2.1 71 = .ok (.iload 4, 2) := by decide +kernel
theorem d_C_whoseIs_73 : decode u_C_whoseIs.2.1 73 = .ok (.ifCond .eq 9, 3) := by decide +kernel
theorem d_C_whoseIs_76 : decode u_C_whoseIs.2.1 76 = .ok (.iload 5, 2) := by decide +kernel
theorem d_C_whoseIs_78 : decode u_C_whoseIs.2.1 78 = .ok (.iload_n 3, 1) := by decide +kernel
theorem d_C_whoseIs_79 : decode u_C_whoseIs.2.1 79 = .ok (.if_icmp .ge 9, 3) := by decide +kernel
theorem d_C_whoseIs_82 : decode u_C_whoseIs.2.1 82 = .ok (.iload 4, 2) := by decide +kernel
theorem d_C_whoseIs_84 : decode u_C_whoseIs.2.1 84 = .ok (.istore_n 2, 1) := by decide +kernel
theorem d_C_whoseIs_85 : decode u_C_whoseIs.2.1 85 = .ok (.iload 5, 2) := by decide +kernel
theorem d_C_whoseIs_87 : decode u_C_whoseIs.2.1 87 = .ok (.istore_n 3, 1) := by decide +kernel
theorem d_C_whoseIs_88 : decode u_C_whoseIs.2.1 88 = .ok (.iinc 4 1, 3) := by decide +kernel
theorem d_C_whoseIs_91 : decode u_C_whoseIs.2.1 91 = .ok (.goto (-66), 3) := by decide +kernel
theorem d_C_whoseIs_94 : decode u_C_whoseIs.2.1 94 = .ok (.iload_n 2, 1) := by decide +kernel
theorem d_C_whoseIs_95 : decode u_C_whoseIs.2.1 95 = .ok (.ireturn, 1) := by decide +kernel
theorem d_C_nameFor_0 : decode u_C_nameFor.2.1 0 = .ok (.iconst (-1), 1) := by decide +kernel
theorem d_C_nameFor_1 : decode u_C_nameFor.2.1 1 = .ok (.istore_n 3, 1) := by decide +kernel
theorem d_C_nameFor_2 : decode u_C_nameFor.2.1 2 = .ok (.aload_n 2, 1) := by decide +kernel
theorem d_C_nameFor_3 : decode u_C_nameFor.2.1 3 = .ok (.aload_n 0, 1) := by decide +kernel
theorem d_C_nameFor_4 : decode u_C_nameFor.2.1 4 = .ok (.getfield 39, 3) := by decide +kernel
theorem d_C_nameFor_7 : decode u_C_nameFor.2.1 7 = .ok (.invokevirtual 188, 3) := by decide +kernel
theorem d_C_nameFor_10 : decode u_C_nameFor.2.1 10 = .ok (.ifCond .eq 5, 3) := by decide +kernel
theorem d_C_nameFor_13 : decode u_C_nameFor.2.1 13 = .ok (.iload_n 3, 1) := by decide +kernel
theorem d_C_nameFor_14 : decode u_C_nameFor.2.1 14 = .ok (.ireturn, 1) := by decide +kernel
theorem d_C_nameFor_15 : decode u_C_nameFor.2.1 15 = .ok (.aload_n 0, 1) := by decide +kernel
theorem d_C_nameFor_16 : decode u_C_nameFor.2.1 16 = .ok (.getfield 68, 3) := by decide +kernel
theorem d_C_nameFor_19 : decode u_C_nameFor.2.1 19 = .ok (.lconst 0, 1) := by decide +kernel
theorem d_C_nameFor_20 : decode u_C_nameFor.2.1 20 = .ok (.lconst 1, 1) := by decide +kernel
theorem d_C_nameFor_21 : decode u_C_nameFor.2.1 21 = .ok (.invokevirtual 270, 3) := by decide +kernel
theorem d_C_nameFor_24 : decode u_C_nameFor.2.1 24 = .ok (.iconst 0, 1) := by decide +kernel
theorem d_C_nameFor_25 : decode u_C_nameFor.2.1 25 = .ok (.istore 4, 2) := by decide +kernel
theorem d_C_nameFor_27 : decode u_C_nameFor.2.1 27 = .ok (.iload 4, 2) := by decide +kernel
theorem d_C_nameFor_29 : decode u_C_nameFor.2.1 29 = .ok (.aload_n 0, 1) := by decide +kernel
theorem d_C_nameFor_30 : decode u_C_nameFor.2.1 30 = .ok (.getfield 75, 3) := by decide +kernel
theorem d_C_nameFor_33 : decode u_C_nameFor.2.1 33 = .ok (.if_icmp .ge 72, 3) := by decide +kernel
theorem d_C_nameFor_36 : decode u_C_nameFor.2.1 36 = .ok (.aload_n 1, 1) := by decide +kernel
theorem d_C_nameFor_37 : decode u_C_nameFor.2.1 37 = .ok (.iload 4, 2) := by decide +kernel
theorem d_C_nameFor_39 : decode u_C_nameFor.2.1 39 = .ok (.invokevirtual 223, 3) := by decide +kernel
theorem d_C_nameFor_42 : decode u_C_nameFor.2.1 42 = .ok (.ifCond .eq 57, 3) := by decide +kernel
theorem d_C_nameFor_45 : decode u_C_nameFor.2.1 45 = .ok (.aload_n 1, 1) := by decide +kernel
theorem d_C_nameFor_46 : decode u_C_nameFor.2.1 46 = .ok (.aload_n 2, 1) := by decide +kernel
theorem d_C_nameFor_47 : decode u_C_nameFor.2.1 47 = .ok (.aload_n 0, 1) := by decide +kernel
theorem d_C_nameFor_48 : decode u_C_nameFor.2.1 48 = .ok (.getfield 11, 3) := by decide +kernel
theorem d_C_nameFor_51 : decode u_C_nameFor.2.1 51 = .ok (.iload 4, 2) := by decide +kernel
theorem d_C_nameFor_53 : decode u_C_nameFor.2.1 53 = .ok (.aaload, 1) := by decide +kernel
theorem d_C_nameFor_54 : decode u_C_nameFor.2.1 54 = .ok (.aload_n 0, 1) := by decide +kernel
theorem d_C_nameFor_55 : decode u_C_nameFor.2.1 55 = .ok (.getfield 64, 3) := by decide +kernel
theorem d_C_nameFor_58 : decode u_C_nameFor.2.1 58 = .ok (.invokevirtual 228, 3) := by decide +kernel
theorem d_C_nameFor_61 : decode u_C_nameFor.2.1 61 = .ok (.aload_n 0, 1) := by decide +kernel
theorem d_C_nameFor_62 : decode u_C_nameFor.2.1 62 = .ok (.getfield 64, 3) := by decide +kernel
theorem d_C_nameFor_65 : decode u_C_nameFor.2.1 65 = .ok (.aload_n 0, 1) := by decide +kernel
theorem d_C_nameFor_66 : decode u_C_nameFor.2.1 66 = .ok (.getfield 68, 3) := by decide +kernel
theorem d_C_nameFor_69 : decode u_C_nameFor.2.1 69 = .ok (.invokevirtual 343, 3) := by decide +kernel
theorem d_C_nameFor_72 : decode u_C_nameFor.2.1 72 = .ok (.ifCond .eq 27, 3) := by decide +kernel
theorem d_C_nameFor_75 : decode u_C_nameFor.2.1 75 = .ok (.aload_n 0, 1) := by decide +kernel
theorem d_C_nameFor_76 : decode u_C_nameFor.2.1 76 = .ok (.getfield 68, 3) := by decide +kernel
theorem d_C_nameFor_79 : decode u_C_nameFor.2.1 79 = .ok (.aload_n 0, 1) := by decide +kernel
theorem d_C_nameFor_80 : decode u_C_nameFor.2.1 80 = .ok (.getfield 64, 3) := by decide +kernel
theorem d_C_nameFor_83 : decode u_C_nameFor.2.1 83 = .ok (.getfield 347, 3) := by decide +kernel
theorem d_C_nameFor_86 : decode u_C_nameFor.2.1 86 = .ok (.aload_n 0, 1) := by decide +kernel
theorem d_C_nameFor_87 : decode u_C_nameFor.2.1 87 = .ok (.getfield 64, 3) := by decide +kernel
theorem d_C_nameFor_90 : decode u_C_nameFor.2.1 90 = .ok (.getfield 351, 3) := by decide +kernel
theorem d_C_nameFor_93 : decode u_C_nameFor.2.1 93 = .ok (.invokevirtual 270, 3) := by decide +kernel
theorem d_C_nameFor_96 : decode u_C_nameFor.2.1 96 = .ok (.iload 4, 2) := by decide +kernel
theorem d_C_nameFor_98 : decode u_C_nameFor.2.1 98 = .ok (.istore_n 3, 1) := by decide +kernel
theorem d_C_nameFor_99 : decode u_C_nameFor.2.1 99 = .ok (.iinc 4 1, 3) := by decide +kernel
theorem d_C_nameFor_102 : decode u_C_nameFor.2.1 102 = .ok (.goto (-75), 3) := by decide +kernel
theorem d_C_nameFor_105 : decode u_C_nameFor.2.1 105 = .ok (.iload_n 3, 1) := by decide +kernel
theorem d_C_nameFor_106 : decode u_C_nameFor.2.1 106 = .ok (.ireturn, 1) := by decide +kernel
theorem d_C_marginOf_0 : decode u_C_marginOf.2.1 0 = .ok (.lconst 0, 1) := by decide +kernel
theorem d_C_marginOf_1 : decode u_C_marginOf.2.1 1 = .ok (.lstore 4, 2) := by decide +kernel
theorem d_C_marginOf_3 : decode u_C_marginOf.2.1 3 = .ok (.lconst 0, 1) := by decide +kernel
theorem d_C_marginOf_4 : decode u_C_marginOf.2.1 4 = .ok (.lstore 6, 2) := by decide +kernel
theorem d_C_marginOf_6 : decode u_C_marginOf.2.1 6 = .ok (.iconst 0, 1) := by decide +kernel
theorem d_C_marginOf_7 : decode u_C_marginOf.2.1 7 = .ok (.istore 8, 2) := by decide +kernel
theorem d_C_marginOf_9 : decode u_C_marginOf.2.1 9 = .ok (.iload 8, 2) := by decide +kernel
theorem d_C_marginOf_11 : decode u_C_marginOf.2.1 11 = .ok (.aload_n 0, 1) := by decide +kernel
theorem d_C_marginOf_12 : decode u_C_marginOf.2.1 12 = .ok (.getfield 75, 3) := by decide +kernel
theorem d_C_marginOf_15 : decode u_C_marginOf.2.1 15 = .ok (.if_icmp .ge 66, 3) := by decide +kernel
theorem d_C_marginOf_18 : decode u_C_marginOf.2.1 18 = .ok (.aload_n 1, 1) := by decide +kernel
theorem d_C_marginOf_19 : decode u_C_marginOf.2.1 19 = .ok (.iload 8, 2) := by decide +kernel
theorem d_C_marginOf_21 : decode u_C_marginOf.2.1 21 = .ok (.invokevirtual 223, 3) := by decide +kernel
theorem d_C_marginOf_24 : decode u_C_marginOf.2.1 24 = .ok (.ifCond .eq 51, 3) := by decide +kernel
theorem d_C_marginOf_27 : decode u_C_marginOf.2.1 27 = .ok (.aload_n 1, 1) := by decide +kernel
theorem d_C_marginOf_28 : decode u_C_marginOf.2.1 28 = .ok (.aload_n 2, 1) := by decide +kernel
theorem d_C_marginOf_29 : decode u_C_marginOf.2.1 29 = .ok (.aload_n 0, 1) := by decide +kernel
theorem d_C_marginOf_30 : decode u_C_marginOf.2.1 30 = .ok (.getfield 11, 3) := by decide +kernel
theorem d_C_marginOf_33 : decode u_C_marginOf.2.1 33 = .ok (.iload 8, 2) := by decide +kernel
theorem d_C_marginOf_35 : decode u_C_marginOf.2.1 35 = .ok (.aaload, 1) := by decide +kernel
theorem d_C_marginOf_36 : decode u_C_marginOf.2.1 36 = .ok (.aload_n 0, 1) := by decide +kernel
theorem d_C_marginOf_37 : decode u_C_marginOf.2.1 37 = .ok (.getfield 64, 3) := by decide +kernel
theorem d_C_marginOf_40 : decode u_C_marginOf.2.1 40 = .ok (.invokevirtual 228, 3) := by decide +kernel
theorem d_C_marginOf_43 : decode u_C_marginOf.2.1 43 = .ok (.iload 8, 2) := by decide +kernel
theorem d_C_marginOf_45 : decode u_C_marginOf.2.1 45 = .ok (.iload_n 3, 1) := by decide +kernel
theorem d_C_marginOf_46 : decode u_C_marginOf.2.1 46 = .ok (.if_icmp .ne 15, 3) := by decide +kernel
theorem d_C_marginOf_49 : decode u_C_marginOf.2.1 49 = .ok (.aload_n 0, 1) := by decide +kernel
theorem d_C_marginOf_50 : decode u_C_marginOf.2.1 50 = .ok (.getfield 64, 3) := by decide +kernel
theorem d_C_marginOf_53 : decode u_C_marginOf.2.1 53 = .ok (.invokevirtual 354, 3) := by decide +kernel
theorem d_C_marginOf_56 : decode u_C_marginOf.2.1 56 = .ok (.lstore 4, 2) := by decide +kernel
theorem d_C_marginOf_58 : decode u_C_marginOf.2.1 58 = .ok (.goto 17, 3) := by decide +kernel
theorem d_C_marginOf_61 : decode u_C_marginOf.2.1 61 = .ok (.lload 6, 2) := by decide +kernel
theorem d_C_marginOf_63 : decode u_C_marginOf.2.1 63 = .ok (.aload_n 0, 1) := by decide +kernel
theorem d_C_marginOf_64 : decode u_C_marginOf.2.1 64 = .ok (.getfield 64, 3) := by decide +kernel
theorem d_C_marginOf_67 : decode u_C_marginOf.2.1 67 = .ok (.invokevirtual 354, 3) := by decide +kernel
theorem d_C_marginOf_70 : decode u_C_marginOf.2.1 70 = .ok (.invokestatic 358, 3) := by decide +kernel
theorem d_C_marginOf_73 : decode u_C_marginOf.2.1 73 = .ok (.lstore 6, 2) := by decide +kernel
theorem d_C_marginOf_75 : decode u_C_marginOf.2.1 75 = .ok (.iinc 8 1, 3) := by decide +kernel
theorem d_C_marginOf_78 : decode u_C_marginOf.2.1 78 = .ok (.goto (-69), 3) := by decide +kernel
theorem d_C_marginOf_81 : decode u_C_marginOf.2.1 81 = .ok (.lload 4, 2) := by decide +kernel
theorem d_C_marginOf_83 : decode u_C_marginOf.2.1 83 = .ok (.lload 6, 2) := by decide +kernel
theorem d_C_marginOf_85 : decode u_C_marginOf.2.1 85 = .ok (.lsub, 1) := by decide +kernel
theorem d_C_marginOf_86 : decode u_C_marginOf.2.1 86 = .ok (.l2i, 1) := by decide +kernel
theorem d_C_marginOf_87 : decode u_C_marginOf.2.1 87 = .ok (.ireturn, 1) := by decide +kernel
theorem d_C_tryParts_0 : decode u_C_tryParts.2.1 0 = .ok (.iconst 0, 1) := by decide +kernel
theorem d_C_tryParts_1 : decode u_C_tryParts.2.1 1 = .ok (.istore 4, 2) := by decide +kernel
theorem d_C_tryParts_3 : decode u_C_tryParts.2.1 3 = .ok (.iload 4, 2) := by decide +kernel
theorem d_C_tryParts_5 : decode u_C_tryParts.2.1 5 = .ok (.bipush 8, 2) := by decide +kernel
theorem d_C_tryParts_7 : decode u_C_tryParts.2.1 7 = .ok (.if_icmp .ge 65, 3) := by decide +kernel
theorem d_C_tryParts_10 : decode u_C_tryParts.2.1 10 = .ok (.iload_n 2, 1) := by decide +kernel
theorem d_C_tryParts_11 : decode u_C_tryParts.2.1 11 = .ok (.iload 4, 2) := by decide +kernel
theorem d_C_tryParts_13 : decode u_C_tryParts.2.1 13 = .ok (.ishr, 1) := by decide +kernel
theorem d_C_tryParts_14 : decode u_C_tryParts.2.1 14 = .ok (.iconst 1, 1) := by decide +kernel
theorem d_C_tryParts_15 : decode u_C_tryParts.2.1 15 = .ok (.iand, 1) := by decide +kernel
theorem d_C_tryParts_16 : decode u_C_tryParts.2.1 16 = .ok (.iconst 1, 1) := by decide +kernel
theorem d_C_tryParts_17 : decode u_C_tryParts.2.1 17 = .ok (.if_icmp .ne 7, 3) := by decide +kernel
theorem d_C_tryParts_20 : decode u_C_tryParts.2.1 20 = .ok (.iload_n 3, 1) := by decide +kernel
theorem d_C_tryParts_21 : decode u_C_tryParts.2.1 21 = .ok (.goto 6, 3) := by decide +kernel
theorem d_C_tryParts_24 : decode u_C_tryParts.2.1 24 = .ok (.sipush (-9999), 3) := by decide +kernel
theorem d_C_tryParts_27 : decode u_C_tryParts.2.1 27 = .ok (.istore 5, 2) := by decide +kernel
theorem d_C_tryParts_29 : decode u_C_tryParts.2.1 29 = .ok (.aload_n 0, 1) := by decide +kernel
theorem d_C_tryParts_30 : decode u_C_tryParts.2.1 30 = .ok (.getfield 50, 3) := by decide +kernel
theorem d_C_tryParts_33 : decode u_C_tryParts.2.1 33 = .ok (.getfield 185, 3) := by decide +kernel
theorem d_C_tryParts_36 : decode u_C_tryParts.2.1 36 = .ok (.iload 4, 2) := by decide +kernel
theorem d_C_tryParts_38 : decode u_C_tryParts.2.1 38 = .ok (.aload_n 0, 1) := by decide +kernel
theorem d_C_tryParts_39 : decode u_C_tryParts.2.1 39 = .ok (.getfield 50, 3) := by decide +kernel
theorem d_C_tryParts_42 : decode u_C_tryParts.2.1 42 = .ok (.getfield 149, 3) := by decide +kernel
theorem d_C_tryParts_45 : decode u_C_tryParts.2.1 45 = .ok (.iload 4, 2) := by decide +kernel
theorem d_C_tryParts_47 : decode u_C_tryParts.2.1 47 = .ok (.iaload, 1) := by decide +kernel
theorem d_C_tryParts_48 : decode u_C_tryParts.2.1 48 = .ok (.aload_n 0, 1) := by decide +kernel
theorem d_C_tryParts_49 : decode u_C_tryParts.2.1 49 = .ok (.getfield 11, 3) := by decide +kernel
theorem d_C_tryParts_52 : decode u_C_tryParts.2.1 52 = .ok (.iload_n 1, 1) := by decide +kernel
theorem d_C_tryParts_53 : decode u_C_tryParts.2.1 53 = .ok (.aaload, 1) := by decide +kernel
theorem d_C_tryParts_54 : decode u_C_tryParts.2.1 54 = .ok (.getfield 88, 3) := by decide +kernel
theorem d_C_tryParts_57 : decode u_C_tryParts.2.1 57 = .ok (.iload 4, 2) := by decide +kernel
theorem d_C_tryParts_59 : decode u_C_tryParts.2.1 59 = .ok (.iaload, 1) := by decide +kernel
theorem d_C_tryParts_60 : decode u_C_tryParts.2.1 60 = .ok (.iload 5, 2) := by decide +kernel
theorem d_C_tryParts_62 : decode u_C_tryParts.2.1 62 = .ok (.invokestatic 139, 3) := by decide +kernel
theorem d_C_tryParts_65 : decode u_C_tryParts.2.1 65 = .ok (.iastore, 1) := by decide +kernel
theorem d_C_tryParts_66 : decode u_C_tryParts.2.1 66 = .ok (.iinc 4 1, 3) := by decide +kernel
theorem d_C_tryParts_69 : decode u_C_tryParts.2.1 69 = .ok (.goto (-66), 3) := by decide +kernel
theorem d_C_tryParts_72 : decode u_C_tryParts.2.1 72 = .ok (.return_, 1) := by decide +kernel
theorem d_C_isNamedBy_0 : decode u_C_isNamedBy.2.1 0 = .ok (.aload_n 0, 1) := by decide +kernel
theorem d_C_isNamedBy_1 : decode u_C_isNamedBy.2.1 1 = .ok (.iload_n 2, 1) := by decide +kernel
theorem d_C_isNamedBy_2 : decode u_C_isNamedBy.2.1 2 = .ok (.iload_n 3, 1) := by decide +kernel
theorem d_C_isNamedBy_3 : decode u_C_isNamedBy.2.1 3 = .ok (.iload 4, 2) := by decide +kernel
theorem d_C_isNamedBy_5 : decode u_C_isNamedBy.2.1 5 = .ok (.invokevirtual 361, 3) := by decide +kernel
theorem d_C_isNamedBy_8 : decode u_C_isNamedBy.2.1 8 = .ok (.aload_n 0, 1) := by decide +kernel
theorem d_C_isNamedBy_9 : decode u_C_isNamedBy.2.1 9 = .ok (.aload_n 1, 1) := by decide +kernel
theorem d_C_isNamedBy_10 : decode u_C_isNamedBy.2.1 10 = .ok (.aload_n 0, 1) := by decide +kernel
theorem d_C_isNamedBy_11 : decode u_C_isNamedBy.2.1 11 = .ok (.getfield 50, 3) := by decide +kernel
theorem d_C_isNamedBy_14 : decode u_C_isNamedBy.2.1 14 = .ok (.invokevirtual 236, 3) := by decide +kernel
theorem d_C_isNamedBy_17 : decode u_C_isNamedBy.2.1 17 = .ok (.iload_n 2, 1) := by decide +kernel
theorem d_C_isNamedBy_18 : decode u_C_isNamedBy.2.1 18 = .ok (.if_icmp .ne 7, 3) := by decide +kernel
theorem d_C_isNamedBy_21 : decode u_C_isNamedBy.2.1 21 = .ok (.iconst 1, 1) := by decide +kernel
theorem d_C_isNamedBy_22 : decode u_C_isNamedBy.2.1 22 = .ok (.goto 4, 3) := by decide +kernel
theorem d_C_isNamedBy_25 : decode u_C_isNamedBy.2.1 25 = .ok (.iconst 0, 1) := by decide +kernel
theorem d_C_isNamedBy_26 : decode u_C_isNamedBy.2.1 26 = .ok (.ireturn, 1) := by decide +kernel
theorem d_C_leastNamed_0 : decode u_C_leastNamed.2.1 0 = .ok (.iconst 0, 1) := by decide +kernel
theorem d_C_leastNamed_1 : decode u_C_leastNamed.2.1 1 = .ok (.istore_n 3, 1) := by decide +kernel
theorem d_C_leastNamed_2 : decode u_C_leastNamed.2.1 2 = .ok (.iload_n 3, 1) := by decide +kernel
theorem d_C_leastNamed_3 : decode u_C_leastNamed.2.1 3 = .ok (.bipush 60, 2) := by decide +kernel
theorem d_C_leastNamed_5 : decode u_C_leastNamed.2.1 5 = .ok (.if_icmp .gt 24, 3) := by decide +kernel
theorem d_C_leastNamed_8 : decode u_C_leastNamed.2.1 8 = .ok (.aload_n 0, 1) := by decide +kernel
theorem d_C_leastNamed_9 : decode u_C_leastNamed.2.1 9 = .ok (.aload_n 1, 1) := by decide +kernel
theorem d_C_leastNamed_10 : decode u_C_leastNamed.2.1 10 = .ok (.iload_n 2, 1) := by decide +kernel
theorem d_C_leastNamed_11 : decode u_C_leastNamed.2.1 11 = .ok (.sipush 255, 3) := by decide +kernel
theorem d_C_leastNamed_14 : decode u_C_leastNamed.2.1 14 = .ok (.iload_n 3, 1) := by decide +kernel
theorem d_C_leastNamed_15 : decode u_C_leastNamed.2.1 15 = .ok (.invokevirtual 263, 3) := by decide +kernel
theorem d_C_leastNamed_18 : decode u_C_leastNamed.2.1 18 = .ok (.ifCond .eq 5, 3) := by decide +kernel
theorem d_C_leastNamed_21 : decode u_C_leastNamed.2.1 21 = .ok (.iload_n 3, 1) := by decide +kernel
theorem d_C_leastNamed_22 : decode u_C_leastNamed.2.1 22 = .ok (.ireturn, 1) := by decide +kernel
theorem d_C_leastNamed_23 : decode u_C_leastNamed.2.1 23 = .ok (.iinc 3 1, 3) := by decide +kernel
theorem d_C_leastNamed_26 : decode u_C_leastNamed.2.1 26 = .ok (.goto (-24), 3) := by decide +kernel
theorem d_C_leastNamed_29 : decode u_C_leastNamed.2.1 29 = .ok (.iconst (-1), 1) := by decide +kernel
theorem d_C_leastNamed_30 : decode u_C_leastNamed.2.1 30 = .ok (.ireturn, 1) := by decide +kernel
theorem d_C_bestNamed_0 : decode u_C_bestNamed.2.1 0 = .ok (.iconst (-1), 1) := by decide +kernel
theorem d_C_bestNamed_1 : decode u_C_bestNamed.2.1 1 = .ok (.istore_n 3, 1) := by decide +kernel
theorem d_C_bestNamed_2 : decode u_C_bestNamed.2.1 2 = .ok (.iconst 0, 1) := by decide +kernel
theorem d_C_bestNamed_3 : decode u_C_bestNamed.2.1 3 = .ok (.istore 4, 2) := by decide +kernel
theorem d_C_bestNamed_5 : decode u_C_bestNamed.2.1 5 = .ok (.iconst 0, 1) := by decide +kernel
theorem d_C_bestNamed_6 : decode u_C_bestNamed.2.1 6 = .ok (.istore 5, 2) := by decide +kernel
theorem d_C_bestNamed_8 : decode u_C_bestNamed.2.1 8 = .ok (.iload 5, 2) := by decide +kernel
theorem d_C_bestNamed_10 : decode u_C_bestNamed.2.1 10 = .ok (.bipush 60, 2) := by decide +kernel
theorem d_C_bestNamed_12 : decode u_C_bestNamed.2.1 12 = .ok (.if_icmp .gt 54, 3) := by decide +kernel
theorem d_C_bestNamed_15 : decode u_C_bestNamed.2.1 15 = .ok (.aload_n 0, 1) := by decide +kernel
theorem d_C_bestNamed_16 : decode u_C_bestNamed.2.1 16 = .ok (.aload_n 1, 1) := by decide +kernel
end
section
theorem d_C_bestNamed_17 : decode u_C_bestNamed.2.1 17 = .ok (.iload_n 2, 1) := by decide +kernel
theorem d_C_bestNamed_18 : decode u_C_bestNamed.2.1 18 = .ok (.sipush 255, 3) := by decide +kernel
theorem d_C_bestNamed_21 : decode u_C_bestNamed.2.1 21 = .ok (.iload 5, 2) := by decide +kernel
theorem d_C_bestNamed_23 : decode u_C_bestNamed.2.1 23 = .ok (.invokevirtual 263, 3) := by decide +kernel
theorem d_C_bestNamed_26 : decode u_C_bestNamed.2.1 26 = .ok (.ifCond .eq 34, 3) := by decide +kernel
theorem d_C_bestNamed_29 : decode u_C_bestNamed.2.1 29 = .ok (.aload_n 0, 1) := by decide +kernel
theorem d_C_bestNamed_30 : decode u_C_bestNamed.2.1 30 = .ok (.aload_n 1, 1) := by decide +kernel
theorem d_C_bestNamed_31 : decode u_C_bestNamed.2.1 31 = .ok (.aload_n 0, 1) := by decide +kernel
theorem d_C_bestNamed_32 : decode u_C_bestNamed.2.1 32 = .ok (.getfield 50, 3) := by decide +kernel
theorem d_C_bestNamed_35 : decode u_C_bestNamed.2.1 35 = .ok (.iload_n 2, 1) := by decide +kernel
theorem d_C_bestNamed_36 : decode u_C_bestNamed.2.1 36 = .ok (.invokevirtual 240, 3) := by decide +kernel
theorem d_C_bestNamed_39 : decode u_C_bestNamed.2.1 39 = .ok (.istore 6, 2) := by decide +kernel
theorem d_C_bestNamed_41 : decode u_C_bestNamed.2.1 41 = .ok (.iload_n 3, 1) := by decide +kernel
theorem d_C_bestNamed_42 : decode u_C_bestNamed.2.1 42 = .ok (.iconst (-1), 1) := by decide +kernel
theorem d_C_bestNamed_43 : decode u_C_bestNamed.2.1 43 = .ok (.if_icmp .eq 10, 3) := by decide +kernel
theorem d_C_bestNamed_46 : decode u_C_bestNamed.2.1 46 = .ok (.iload 6, 2) := by decide +kernel
theorem d_C_bestNamed_48 : decode u_C_bestNamed.2.1 48 = .ok (.iload 4, 2) := by decide +kernel
theorem d_C_bestNamed_50 : decode u_C_bestNamed.2.1 50 = .ok (.if_icmp .le 10, 3) := by decide +kernel
theorem d_C_bestNamed_53 : decode u_C_bestNamed.2.1 53 = .ok (.iload 5, 2) := by decide +kernel
theorem d_C_bestNamed_55 : decode u_C_bestNamed.2.1 55 = .ok (.istore_n 3, 1) := by decide +kernel
theorem d_C_bestNamed_56 : decode u_C_bestNamed.2.1 56 = .ok (.iload 6, 2) := by decide +kernel
theorem d_C_bestNamed_58 : decode u_C_bestNamed.2.1 58 = .ok (.istore 4, 2) := by decide +kernel
theorem d_C_bestNamed_60 : decode u_C_bestNamed.2.1 60 = .ok (.iinc 5 1, 3) := by decide +kernel
theorem d_C_bestNamed_63 : decode u_C_bestNamed.2.1 63 = .ok (.goto (-55), 3) := by decide +kernel
theorem d_C_bestNamed_66 : decode u_C_bestNamed.2.1 66 = .ok (.iload_n 3, 1) := by decide +kernel
theorem d_C_bestNamed_67 : decode u_C_bestNamed.2.1 67 = .ok (.ireturn, 1) := by decide +kernel
theorem d_C_leastMonster_0 : decode u_C_leastMonster.2.1 0 = .ok (.iconst 0, 1) := by decide +kernel
theorem d_C_leastMonster_1 : decode u_C_leastMonster.2.1 1 = .ok (.istore_n 2, 1) := by decide +kernel
theorem d_C_leastMonster_2 : decode u_C_leastMonster.2.1 2 = .ok (.iload_n 2, 1) := by decide +kernel
theorem d_C_leastMonster_3 : decode u_C_leastMonster.2.1 3 = .ok (.bipush 60, 2) := by decide +kernel
theorem d_C_leastMonster_5 : decode u_C_leastMonster.2.1 5 = .ok (.if_icmp .gt 34, 3) := by decide +kernel
theorem d_C_leastMonster_8 : decode u_C_leastMonster.2.1 8 = .ok (.aload_n 0, 1) := by decide +kernel
theorem d_C_leastMonster_9 : decode u_C_leastMonster.2.1 9 = .ok (.iload_n 1, 1) := by decide +kernel
theorem d_C_leastMonster_10 : decode u_C_leastMonster.2.1 10 = .ok (.sipush 255, 3) := by decide +kernel
theorem d_C_leastMonster_13 : decode u_C_leastMonster.2.1 13 = .ok (.iload_n 2, 1) := by decide +kernel
theorem d_C_leastMonster_14 : decode u_C_leastMonster.2.1 14 = .ok (.invokevirtual 361, 3) := by decide +kernel
theorem d_C_leastMonster_17 : decode u_C_leastMonster.2.1 17 = .ok (.aload_n 0, 1) := by decide +kernel
theorem d_C_leastMonster_18 : decode u_C_leastMonster.2.1 18 = .ok (.getfield 50, 3) := by decide +kernel
theorem d_C_leastMonster_21 : decode u_C_leastMonster.2.1 21 = .ok (.aload_n 0, 1) := by decide +kernel
theorem d_C_leastMonster_22 : decode u_C_leastMonster.2.1 22 = .ok (.getfield 39, 3) := by decide +kernel
theorem d_C_leastMonster_25 : decode u_C_leastMonster.2.1 25 = .ok (.invokevirtual 188, 3) := by decide +kernel
theorem d_C_leastMonster_28 : decode u_C_leastMonster.2.1 28 = .ok (.ifCond .eq 5, 3) := by decide +kernel
theorem d_C_leastMonster_31 : decode u_C_leastMonster.2.1 31 = .ok (.iload_n 2, 1) := by decide +kernel
theorem d_C_leastMonster_32 : decode u_C_leastMonster.2.1 32 = .ok (.ireturn, 1) := by decide +kernel
theorem d_C_leastMonster_33 : decode u_C_leastMonster.2.1 33 = .ok (.iinc 2 1, 3) := by decide +kernel
theorem d_C_leastMonster_36 : decode u_C_leastMonster.2.1 36 = .ok (.goto (-34), 3) := by decide +kernel
theorem d_C_leastMonster_39 : decode u_C_leastMonster.2.1 39 = .ok (.iconst (-1), 1) := by decide +kernel
theorem d_C_leastMonster_40 : decode u_C_leastMonster.2.1 40 = .ok (.ireturn, 1) := by decide +kernel
theorem d_C_putBack_0 : decode u_C_putBack.2.1 0 = .ok (.aload_n 0, 1) := by decide +kernel
theorem d_C_putBack_1 : decode u_C_putBack.2.1 1 = .ok (.getfield 17, 3) := by decide +kernel
theorem d_C_putBack_4 : decode u_C_putBack.2.1 4 = .ok (.iload_n 2, 1) := by decide +kernel
theorem d_C_putBack_5 : decode u_C_putBack.2.1 5 = .ok (.aaload, 1) := by decide +kernel
theorem d_C_putBack_6 : decode u_C_putBack.2.1 6 = .ok (.getfield 136, 3) := by decide +kernel
theorem d_C_putBack_9 : decode u_C_putBack.2.1 9 = .ok (.iload_n 3, 1) := by decide +kernel
theorem d_C_putBack_10 : decode u_C_putBack.2.1 10 = .ok (.iaload, 1) := by decide +kernel
theorem d_C_putBack_11 : decode u_C_putBack.2.1 11 = .ok (.istore 4, 2) := by decide +kernel
theorem d_C_putBack_13 : decode u_C_putBack.2.1 13 = .ok (.iload 4, 2) := by decide +kernel
theorem d_C_putBack_15 : decode u_C_putBack.2.1 15 = .ok (.sipush (-9999), 3) := by decide +kernel
theorem d_C_putBack_18 : decode u_C_putBack.2.1 18 = .ok (.if_icmp .eq 8, 3) := by decide +kernel
theorem d_C_putBack_21 : decode u_C_putBack.2.1 21 = .ok (.iload 4, 2) := by decide +kernel
theorem d_C_putBack_23 : decode u_C_putBack.2.1 23 = .ok (.ifCond .ne 7, 3) := by decide +kernel
theorem d_C_putBack_26 : decode u_C_putBack.2.1 26 = .ok (.sipush (-9999), 3) := by decide +kernel
theorem d_C_putBack_29 : decode u_C_putBack.2.1 29 = .ok (.ireturn, 1) := by decide +kernel
theorem d_C_putBack_30 : decode u_C_putBack.2.1 30 = .ok (.iconst 0, 1) := by decide +kernel
theorem d_C_putBack_31 : decode u_C_putBack.2.1 31 = .ok (.istore 5, 2) := by decide +kernel
theorem d_C_putBack_33 : decode u_C_putBack.2.1 33 = .ok (.iconst 0, 1) := by decide +kernel
theorem d_C_putBack_34 : decode u_C_putBack.2.1 34 = .ok (.istore 6, 2) := by decide +kernel
theorem d_C_putBack_36 : decode u_C_putBack.2.1 36 = .ok (.iconst 0, 1) := by decide +kernel
theorem d_C_putBack_37 : decode u_C_putBack.2.1 37 = .ok (.istore 7, 2) := by decide +kernel
theorem d_C_putBack_39 : decode u_C_putBack.2.1 39 = .ok (.iload 7, 2) := by decide +kernel
theorem d_C_putBack_41 : decode u_C_putBack.2.1 41 = .ok (.aload_n 0, 1) := by decide +kernel
theorem d_C_putBack_42 : decode u_C_putBack.2.1 42 = .ok (.getfield 146, 3) := by decide +kernel
theorem d_C_putBack_45 : decode u_C_putBack.2.1 45 = .ok (.if_icmp .ge 82, 3) := by decide +kernel
theorem d_C_putBack_48 : decode u_C_putBack.2.1 48 = .ok (.aload_n 0, 1) := by decide +kernel
theorem d_C_putBack_49 : decode u_C_putBack.2.1 49 = .ok (.getfield 23, 3) := by decide +kernel
theorem d_C_putBack_52 : decode u_C_putBack.2.1 52 = .ok (.iload 7, 2) := by decide +kernel
theorem d_C_putBack_54 : decode u_C_putBack.2.1 54 = .ok (.aaload, 1) := by decide +kernel
theorem d_C_putBack_55 : decode u_C_putBack.2.1 55 = .ok (.astore 8, 2) := by decide +kernel
theorem d_C_putBack_57 : decode u_C_putBack.2.1 57 = .ok (.aload 8, 2) := by decide +kernel
theorem d_C_putBack_59 : decode u_C_putBack.2.1 59 = .ok (.getfield 160, 3) := by decide +kernel
theorem d_C_putBack_62 : decode u_C_putBack.2.1 62 = .ok (.iload_n 1, 1) := by decide +kernel
theorem d_C_putBack_63 : decode u_C_putBack.2.1 63 = .ok (.if_icmp .ne 58, 3) := by decide +kernel
theorem d_C_putBack_66 : decode u_C_putBack.2.1 66 = .ok (.aload 8, 2) := by decide +kernel
theorem d_C_putBack_68 : decode u_C_putBack.2.1 68 = .ok (.getfield 173, 3) := by decide +kernel
theorem d_C_putBack_71 : decode u_C_putBack.2.1 71 = .ok (.iconst 4, 1) := by decide +kernel
theorem d_C_putBack_72 : decode u_C_putBack.2.1 72 = .ok (.if_icmp .eq 49, 3) := by decide +kernel
theorem d_C_putBack_75 : decode u_C_putBack.2.1 75 = .ok (.aload 8, 2) := by decide +kernel
theorem d_C_putBack_77 : decode u_C_putBack.2.1 77 = .ok (.iload_n 3, 1) := by decide +kernel
theorem d_C_putBack_78 : decode u_C_putBack.2.1 78 = .ok (.invokevirtual 267, 3) := by decide +kernel
theorem d_C_putBack_81 : decode u_C_putBack.2.1 81 = .ok (.ifCond .eq 40, 3) := by decide +kernel
theorem d_C_putBack_84 : decode u_C_putBack.2.1 84 = .ok (.iload 5, 2) := by decide +kernel
theorem d_C_putBack_86 : decode u_C_putBack.2.1 86 = .ok (.aload 8, 2) := by decide +kernel
theorem d_C_putBack_88 : decode u_C_putBack.2.1 88 = .ok (.getfield 149, 3) := by decide +kernel
theorem d_C_putBack_91 : decode u_C_putBack.2.1 91 = .ok (.iload_n 3, 1) := by decide +kernel
theorem d_C_putBack_92 : decode u_C_putBack.2.1 92 = .ok (.iaload, 1) := by decide +kernel
theorem d_C_putBack_93 : decode u_C_putBack.2.1 93 = .ok (.aload 8, 2) := by decide +kernel
theorem d_C_putBack_95 : decode u_C_putBack.2.1 95 = .ok (.getfield 185, 3) := by decide +kernel
theorem d_C_putBack_98 : decode u_C_putBack.2.1 98 = .ok (.iload_n 3, 1) := by decide +kernel
theorem d_C_putBack_99 : decode u_C_putBack.2.1 99 = .ok (.iaload, 1) := by decide +kernel
theorem d_C_putBack_100 : decode u_C_putBack.2.1 100 = .ok (.aload 8, 2) := by decide +kernel
theorem d_C_putBack_102 : decode u_C_putBack.2.1 102 = .ok (.getfield 149, 3) := by decide +kernel
theorem d_C_putBack_105 : decode u_C_putBack.2.1 105 = .ok (.iload_n 3, 1) := by decide +kernel
theorem d_C_putBack_106 : decode u_C_putBack.2.1 106 = .ok (.iaload, 1) := by decide +kernel
theorem d_C_putBack_107 : decode u_C_putBack.2.1 107 = .ok (.isub, 1) := by decide +kernel
theorem d_C_putBack_108 : decode u_C_putBack.2.1 108 = .ok (.bipush 10, 2) := by decide +kernel
theorem d_C_putBack_110 : decode u_C_putBack.2.1 110 = .ok (.imul, 1) := by decide +kernel
theorem d_C_putBack_111 : decode u_C_putBack.2.1 111 = .ok (.iload 4, 2) := by decide +kernel
theorem d_C_putBack_113 : decode u_C_putBack.2.1 113 = .ok (.idiv, 1) := by decide +kernel
theorem d_C_putBack_114 : decode u_C_putBack.2.1 114 = .ok (.iadd, 1) := by decide +kernel
theorem d_C_putBack_115 : decode u_C_putBack.2.1 115 = .ok (.iadd, 1) := by decide +kernel
theorem d_C_putBack_116 : decode u_C_putBack.2.1 116 = .ok (.istore 5, 2) := by decide +kernel
theorem d_C_putBack_118 : decode u_C_putBack.2.1 118 = .ok (.iinc 6 1, 3) := by decide +kernel
theorem d_C_putBack_121 : decode u_C_putBack.2.1 121 = .ok (.iinc 7 1, 3) := by decide +kernel
theorem d_C_putBack_124 : decode u_C_putBack.2.1 124 = .ok (.goto (-85), 3) := by decide +kernel
theorem d_C_putBack_127 : decode u_C_putBack.2.1 127 = .ok (.iload 6, 2) := by decide +kernel
theorem d_C_putBack_129 : decode u_C_putBack.2.1 129 = .ok (.ifCond .ne 9, 3) := by decide +kernel
theorem d_C_putBack_132 : decode u_C_putBack.2.1 132 = .ok (.sipush (-9999), 3) := by decide +kernel
theorem d_C_putBack_135 : decode u_C_putBack.2.1 135 = .ok (.goto 8, 3) := by decide +kernel
theorem d_C_putBack_138 : decode u_C_putBack.2.1 138 = .ok (.iload 5, 2) := by decide +kernel
theorem d_C_putBack_140 : decode u_C_putBack.2.1 140 = .ok (.iload 6, 2) := by decide +kernel
theorem d_C_putBack_142 : decode u_C_putBack.2.1 142 = .ok (.idiv, 1) := by decide +kernel
theorem d_C_putBack_143 : decode u_C_putBack.2.1 143 = .ok (.ireturn, 1) := by decide +kernel
theorem d_C_furthestOff_0 : decode u_C_furthestOff.2.1 0 = .ok (.iconst 0, 1) := by decide +kernel
theorem d_C_furthestOff_1 : decode u_C_furthestOff.2.1 1 = .ok (.istore_n 1, 1) := by decide +kernel
theorem d_C_furthestOff_2 : decode u_C_furthestOff.2.1 2 = .ok (.iconst 1, 1) := by decide +kernel
theorem d_C_furthestOff_3 : decode u_C_furthestOff.2.1 3 = .ok (.istore_n 2, 1) := by decide +kernel
theorem d_C_furthestOff_4 : decode u_C_furthestOff.2.1 4 = .ok (.iload_n 2, 1) := by decide +kernel
theorem d_C_furthestOff_5 : decode u_C_furthestOff.2.1 5 = .ok (.bipush 8, 2) := by decide +kernel
theorem d_C_furthestOff_7 : decode u_C_furthestOff.2.1 7 = .ok (.if_icmp .ge 26, 3) := by decide +kernel
theorem d_C_furthestOff_10 : decode u_C_furthestOff.2.1 10 = .ok (.aload_n 0, 1) := by decide +kernel
theorem d_C_furthestOff_11 : decode u_C_furthestOff.2.1 11 = .ok (.getfield 58, 3) := by decide +kernel
theorem d_C_furthestOff_14 : decode u_C_furthestOff.2.1 14 = .ok (.iload_n 2, 1) := by decide +kernel
theorem d_C_furthestOff_15 : decode u_C_furthestOff.2.1 15 = .ok (.iaload, 1) := by decide +kernel
theorem d_C_furthestOff_16 : decode u_C_furthestOff.2.1 16 = .ok (.aload_n 0, 1) := by decide +kernel
theorem d_C_furthestOff_17 : decode u_C_furthestOff.2.1 17 = .ok (.getfield 58, 3) := by decide +kernel
theorem d_C_furthestOff_20 : decode u_C_furthestOff.2.1 20 = .ok (.iload_n 1, 1) := by decide +kernel
theorem d_C_furthestOff_21 : decode u_C_furthestOff.2.1 21 = .ok (.iaload, 1) := by decide +kernel
theorem d_C_furthestOff_22 : decode u_C_furthestOff.2.1 22 = .ok (.if_icmp .le 5, 3) := by decide +kernel
theorem d_C_furthestOff_25 : decode u_C_furthestOff.2.1 25 = .ok (.iload_n 2, 1) := by decide +kernel
theorem d_C_furthestOff_26 : decode u_C_furthestOff.2.1 26 = .ok (.istore_n 1, 1) := by decide +kernel
theorem d_C_furthestOff_27 : decode u_C_furthestOff.2.1 27 = .ok (.iinc 2 1, 3) := by decide +kernel
theorem d_C_furthestOff_30 : decode u_C_furthestOff.2.1 30 = .ok (.goto (-26), 3) := by decide +kernel
theorem d_C_furthestOff_33 : decode u_C_furthestOff.2.1 33 = .ok (.iload_n 1, 1) := by decide +kernel
theorem d_C_furthestOff_34 : decode u_C_furthestOff.2.1 34 = .ok (.ireturn, 1) := by decide +kernel
theorem d_C_digestOfDrawing_0 : decode u_C_digestOfDrawing.2.1 0 = .ok (.lload_n 1, 1) := by decide +kernel
theorem d_C_digestOfDrawing_1 : decode u_C_digestOfDrawing.2.1 1 = .ok (.lstore 4, 2) := by decide +kernel
theorem d_C_digestOfDrawing_3 : decode u_C_digestOfDrawing.2.1 3 = .ok (.iconst 0, 1) := by decide +kernel
theorem d_C_digestOfDrawing_4 : decode u_C_digestOfDrawing.2.1 4 = .ok (.istore 6, 2) := by decide +kernel
theorem d_C_digestOfDrawing_6 : decode u_C_digestOfDrawing.2.1 6 = .ok (.iload 6, 2) := by decide +kernel
theorem d_C_digestOfDrawing_8 : decode u_C_digestOfDrawing.2.1 8 = .ok (.bipush 7, 2) := by decide +kernel
theorem d_C_digestOfDrawing_10 : decode u_C_digestOfDrawing.2.1 10 = .ok (.if_icmp .gt 26, 3) := by decide +kernel
theorem d_C_digestOfDrawing_13 : decode u_C_digestOfDrawing.2.1 13 = .ok (.ldc2_w 318, 3) := by decide +kernel
theorem d_C_digestOfDrawing_16 : decode u_C_digestOfDrawing.2.1 16 = .ok (.lload 4, 2) := by decide +kernel
theorem d_C_digestOfDrawing_18 : decode u_C_digestOfDrawing.2.1 18 = .ok (.lmul, 1) := by decide +kernel
theorem d_C_digestOfDrawing_19 : decode u_C_digestOfDrawing.2.1 19 = .ok (.aload_n 0, 1) := by decide +kernel
theorem d_C_digestOfDrawing_20 : decode u_C_digestOfDrawing.2.1 20 = .ok (.iload_n 3, 1) := by decide +kernel
theorem d_C_digestOfDrawing_21 : decode u_C_digestOfDrawing.2.1 21 = .ok (.iload 6, 2) := by decide +kernel
theorem d_C_digestOfDrawing_23 : decode u_C_digestOfDrawing.2.1 23 = .ok (.invokevirtual 365, 3) := by decide +kernel
theorem d_C_digestOfDrawing_26 : decode u_C_digestOfDrawing.2.1 26 = .ok (.i2l, 1) := by decide +kernel
theorem d_C_digestOfDrawing_27 : decode u_C_digestOfDrawing.2.1 27 = .ok (.ladd, 1) := by decide +kernel
theorem d_C_digestOfDrawing_28 : decode u_C_digestOfDrawing.2.1 28 = .ok (.lstore 4, 2) := by decide +kernel
theorem d_C_digestOfDrawing_30 : decode u_C_digestOfDrawing.2.1 30 = .ok (.iinc 6 1, 3) := by decide +kernel
theorem d_C_digestOfDrawing_33 : decode u_C_digestOfDrawing.2.1 33 = .ok (.goto (-27), 3) := by decide +kernel
theorem d_C_digestOfDrawing_36 : decode u_C_digestOfDrawing.2.1 36 = .ok (.iconst 0, 1) := by decide +kernel
theorem d_C_digestOfDrawing_37 : decode u_C_digestOfDrawing.2.1 37 = .ok (.istore 6, 2) := by decide +kernel
theorem d_C_digestOfDrawing_39 : decode u_C_digestOfDrawing.2.1 39 = .ok (.iload 6, 2) := by decide +kernel
theorem d_C_digestOfDrawing_41 : decode u_C_digestOfDrawing.2.1 41 = .ok (.bipush 8, 2) := by decide +kernel
theorem d_C_digestOfDrawing_43 : decode u_C_digestOfDrawing.2.1 43 = .ok (.if_icmp .ge 26, 3) := by decide +kernel
theorem d_C_digestOfDrawing_46 : decode u_C_digestOfDrawing.2.1 46 = .ok (.ldc2_w 318, 3) := by decide +kernel
theorem d_C_digestOfDrawing_49 : decode u_C_digestOfDrawing.2.1 49 = .ok (.lload 4, 2) := by decide +kernel
theorem d_C_digestOfDrawing_51 : decode u_C_digestOfDrawing.2.1 51 = .ok (.lmul, 1) := by decide +kernel
theorem d_C_digestOfDrawing_52 : decode u_C_digestOfDrawing.2.1 52 = .ok (.aload_n 0, 1) := by decide +kernel
theorem d_C_digestOfDrawing_53 : decode u_C_digestOfDrawing.2.1 53 = .ok (.iload_n 3, 1) := by decide +kernel
theorem d_C_digestOfDrawing_54 : decode u_C_digestOfDrawing.2.1 54 = .ok (.iload 6, 2) := by decide +kernel
theorem d_C_digestOfDrawing_56 : decode u_C_digestOfDrawing.2.1 56 = .ok (.invokevirtual 368, 3) := by decide +kernel
theorem d_C_digestOfDrawing_59 : decode u_C_digestOfDrawing.2.1 59 = .ok (.i2l, 1) := by decide +kernel
theorem d_C_digestOfDrawing_60 : decode u_C_digestOfDrawing.2.1 60 = .ok (.ladd, 1) := by decide +kernel
theorem d_C_digestOfDrawing_61 : decode u_C_digestOfDrawing.2.1 61 = .ok (.lstore 4, 2) := by decide +kernel
theorem d_C_digestOfDrawing_63 : decode u_C_digestOfDrawing.2.1 63 = .ok (.iinc 6 1, 3) := by decide +kernel
theorem d_C_digestOfDrawing_66 : decode u_C_digestOfDrawing.2.1 66 = .ok (.goto (-27), 3) := by decide +kernel
theorem d_C_digestOfDrawing_69 : decode u_C_digestOfDrawing.2.1 69 = .ok (.lload 4, 2) := by decide +kernel
theorem d_C_digestOfDrawing_71 : decode u_C_digestOfDrawing.2.1 71 = .ok (.lreturn, 1) := by decide +kernel
theorem d_C_digestOfKnower_0 : decode u_C_digestOfKnower.2.1 0 = .ok (.lload_n 1, 1) := by decide +kernel
theorem d_C_digestOfKnower_1 : decode u_C_digestOfKnower.2.1 1 = .ok (.lstore 4, 2) := by decide +kernel
theorem d_C_digestOfKnower_3 : decode u_C_digestOfKnower.2.1 3 = .ok (.iconst 0, 1) := by decide +kernel
theorem d_C_digestOfKnower_4 : decode u_C_digestOfKnower.2.1 4 = .ok (.istore 6, 2) := by decide +kernel
theorem d_C_digestOfKnower_6 : decode u_C_digestOfKnower.2.1 6 = .ok (.iload 6, 2) := by decide +kernel
theorem d_C_digestOfKnower_8 : decode u_C_digestOfKnower.2.1 8 = .ok (.bipush 8, 2) := by decide +kernel
theorem d_C_digestOfKnower_10 : decode u_C_digestOfKnower.2.1 10 = .ok (.if_icmp .ge 26, 3) := by decide +kernel
theorem d_C_digestOfKnower_13 : decode u_C_digestOfKnower.2.1 13 = .ok (.ldc2_w 318, 3) := by decide +kernel
theorem d_C_digestOfKnower_16 : decode u_C_digestOfKnower.2.1 16 = .ok (.lload 4, 2) := by decide +kernel
theorem d_C_digestOfKnower_18 : decode u_C_digestOfKnower.2.1 18 = .ok (.lmul, 1) := by decide +kernel
theorem d_C_digestOfKnower_19 : decode u_C_digestOfKnower.2.1 19 = .ok (.aload_n 0, 1) := by decide +kernel
theorem d_C_digestOfKnower_20 : decode u_C_digestOfKnower.2.1 20 = .ok (.iload_n 3, 1) := by decide +kernel
theorem d_C_digestOfKnower_21 : decode u_C_digestOfKnower.2.1 21 = .ok (.iload 6, 2) := by decide +kernel
theorem d_C_digestOfKnower_23 : decode u_C_digestOfKnower.2.1 23 = .ok (.invokevirtual 371, 3) := by decide +kernel
theorem d_C_digestOfKnower_26 : decode u_C_digestOfKnower.2.1 26 = .ok (.i2l, 1) := by decide +kernel
theorem d_C_digestOfKnower_27 : decode u_C_digestOfKnower.2.1 27 = .ok (.ladd, 1) := by decide +kernel
theorem d_C_digestOfKnower_28 : decode u_C_digestOfKnower.2.1 28 = .ok (.lstore 4, 2) := by decide +kernel
theorem d_C_digestOfKnower_30 : decode u_C_digestOfKnower.2.1 30 = .ok (.iinc 6 1, 3) := by decide +kernel
theorem d_C_digestOfKnower_33 : decode u_C_digestOfKnower.2.1 33 = .ok (.goto (-27), 3) := by decide +kernel
theorem d_C_digestOfKnower_36 : decode u_C_digestOfKnower.2.1 36 = .ok (.iconst 0, 1) := by decide +kernel
theorem d_C_digestOfKnower_37 : decode u_C_digestOfKnower.2.1 37 = .ok (.istore 6, 2) := by decide +kernel
theorem d_C_digestOfKnower_39 : decode u_C_digestOfKnower.2.1 39 = .ok (.iload 6, 2) := by decide +kernel
theorem d_C_digestOfKnower_41 : decode u_C_digestOfKnower.2.1 41 = .ok (.aload_n 0, 1) := by decide +kernel
theorem d_C_digestOfKnower_42 : decode u_C_digestOfKnower.2.1 42 = .ok (.getfield 146, 3) := by decide +kernel
theorem d_C_digestOfKnower_45 : decode u_C_digestOfKnower.2.1 45 = .ok (.if_icmp .ge 45, 3) := by decide +kernel
theorem d_C_digestOfKnower_48 : decode u_C_digestOfKnower.2.1 48 = .ok (.ldc2_w 318, 3) := by decide +kernel
theorem d_C_digestOfKnower_51 : decode u_C_digestOfKnower.2.1 51 = .ok (.lload 4, 2) := by decide +kernel
theorem d_C_digestOfKnower_53 : decode u_C_digestOfKnower.2.1 53 = .ok (.lmul, 1) := by decide +kernel
theorem d_C_digestOfKnower_54 : decode u_C_digestOfKnower.2.1 54 = .ok (.aload_n 0, 1) := by decide +kernel
theorem d_C_digestOfKnower_55 : decode u_C_digestOfKnower.2.1 55 = .ok (.iload_n 3, 1) := by decide +kernel
theorem d_C_digestOfKnower_56 : decode u_C_digestOfKnower.2.1 56 = .ok (.iload 6, 2) := by decide +kernel
theorem d_C_digestOfKnower_58 : decode u_C_digestOfKnower.2.1 58 = .ok (.iconst 0, 1) := by decide +kernel
theorem d_C_digestOfKnower_59 : decode u_C_digestOfKnower.2.1 59 = .ok (.invokevirtual 374, 3) := by decide +kernel
theorem d_C_digestOfKnower_62 : decode u_C_digestOfKnower.2.1 62 = .ok (.i2l, 1) := by decide +kernel
theorem d_C_digestOfKnower_63 : decode u_C_digestOfKnower.2.1 63 = .ok (.ladd, 1) := by decide +kernel
theorem d_C_digestOfKnower_64 : decode u_C_digestOfKnower.2.1 64 = .ok (.lstore 4, 2) := by decide +kernel
theorem d_C_digestOfKnower_66 : decode u_C_digestOfKnower.2.1 66 = .ok (.ldc2_w 318, 3) := by decide +kernel
theorem d_C_digestOfKnower_69 : decode u_C_digestOfKnower.2.1 69 = .ok (.lload 4, 2) := by decide +kernel
theorem d_C_digestOfKnower_71 : decode u_C_digestOfKnower.2.1 71 = .ok (.lmul, 1) := by decide +kernel
theorem d_C_digestOfKnower_72 : decode u_C_digestOfKnower.2.1 72 = .ok (.aload_n 0, 1) := by decide +kernel
theorem d_C_digestOfKnower_73 : decode u_C_digestOfKnower.2.1 73 = .ok (.iload_n 3, 1) := by decide +kernel
theorem d_C_digestOfKnower_74 : decode u_C_digestOfKnower.2.1 74 = .ok (.iload 6, 2) := by decide +kernel
theorem d_C_digestOfKnower_76 : decode u_C_digestOfKnower.2.1 76 = .ok (.iconst 1, 1) := by decide +kernel
theorem d_C_digestOfKnower_77 : decode u_C_digestOfKnower.2.1 77 = .ok (.invokevirtual 374, 3) := by decide +kernel
theorem d_C_digestOfKnower_80 : decode u_C_digestOfKnower.2.1 80 = .ok (.i2l, 1) := by decide +kernel
theorem d_C_digestOfKnower_81 : decode u_C_digestOfKnower.2.1 81 = .ok (.ladd, 1) := by decide +kernel
theorem d_C_digestOfKnower_82 : decode u_C_digestOfKnower.2.1 82 = .ok (.lstore 4, 2) := by decide +kernel
theorem d_C_digestOfKnower_84 : decode u_C_digestOfKnower.2.1 84 = .ok (.iinc 6 1, 3) := by decide +kernel
theorem d_C_digestOfKnower_87 : decode u_C_digestOfKnower.2.1 87 = .ok (.goto (-48), 3) := by decide +kernel
theorem d_C_digestOfKnower_90 : decode u_C_digestOfKnower.2.1 90 = .ok (.lload 4, 2) := by decide +kernel
theorem d_C_digestOfKnower_92 : decode u_C_digestOfKnower.2.1 92 = .ok (.lreturn, 1) := by decide +kernel
theorem d_M_init_0 : decode u_M_init.2.1 0 = .ok (.aload_n 0, 1) := by decide +kernel
theorem d_M_init_1 : decode u_M_init.2.1 1 = .ok (.invokespecial 1, 3) := by decide +kernel
theorem d_M_init_4 : decode u_M_init.2.1 4 = .ok (.aload_n 0, 1) := by decide +kernel
theorem d_M_init_5 : decode u_M_init.2.1 5 = .ok (.iconst 4, 1) := by decide +kernel
theorem d_M_init_6 : decode u_M_init.2.1 6 = .ok (.newarray .int, 2) := by decide +kernel
theorem d_M_init_8 : decode u_M_init.2.1 8 = .ok (.putfield 7, 3) := by decide +kernel
theorem d_M_init_11 : decode u_M_init.2.1 11 = .ok (.aload_n 0, 1) := by decide +kernel
theorem d_M_init_12 : decode u_M_init.2.1 12 = .ok (.iconst 4, 1) := by decide +kernel
theorem d_M_init_13 : decode u_M_init.2.1 13 = .ok (.newarray .int, 2) := by decide +kernel
theorem d_M_init_15 : decode u_M_init.2.1 15 = .ok (.putfield 13, 3) := by decide +kernel
theorem d_M_init_18 : decode u_M_init.2.1 18 = .ok (.aload_n 0, 1) := by decide +kernel
theorem d_M_init_19 : decode u_M_init.2.1 19 = .ok (.sipush 240, 3) := by decide +kernel
theorem d_M_init_22 : decode u_M_init.2.1 22 = .ok (.newarray .int, 2) := by decide +kernel
theorem d_M_init_24 : decode u_M_init.2.1 24 = .ok (.putfield 16, 3) := by decide +kernel
theorem d_M_init_27 : decode u_M_init.2.1 27 = .ok (.aload_n 0, 1) := by decide +kernel
theorem d_M_init_28 : decode u_M_init.2.1 28 = .ok (.bipush 60, 2) := by decide +kernel
theorem d_M_init_30 : decode u_M_init.2.1 30 = .ok (.newarray .int, 2) := by decide +kernel
theorem d_M_init_32 : decode u_M_init.2.1 32 = .ok (.putfield 19, 3) := by decide +kernel
theorem d_M_init_35 : decode u_M_init.2.1 35 = .ok (.aload_n 0, 1) := by decide +kernel
theorem d_M_init_36 : decode u_M_init.2.1 36 = .ok (.bipush 64, 2) := by decide +kernel
theorem d_M_init_38 : decode u_M_init.2.1 38 = .ok (.newarray .int, 2) := by decide +kernel
theorem d_M_init_40 : decode u_M_init.2.1 40 = .ok (.putfield 22, 3) := by decide +kernel
theorem d_M_init_43 : decode u_M_init.2.1 43 = .ok (.aload_n 0, 1) := by decide +kernel
theorem d_M_init_44 : decode u_M_init.2.1 44 = .ok (.sipush 160, 3) := by decide +kernel
theorem d_M_init_47 : decode u_M_init.2.1 47 = .ok (.newarray .int, 2) := by decide +kernel
theorem d_M_init_49 : decode u_M_init.2.1 49 = .ok (.putfield 25, 3) := by decide +kernel
theorem d_M_init_52 : decode u_M_init.2.1 52 = .ok (.aload_n 0, 1) := by decide +kernel
theorem d_M_init_53 : decode u_M_init.2.1 53 = .ok (.iconst 4, 1) := by decide +kernel
theorem d_M_init_54 : decode u_M_init.2.1 54 = .ok (.newarray .int, 2) := by decide +kernel
theorem d_M_init_56 : decode u_M_init.2.1 56 = .ok (.putfield 28, 3) := by decide +kernel
theorem d_M_init_59 : decode u_M_init.2.1 59 = .ok (.aload_n 0, 1) := by decide +kernel
theorem d_M_init_60 : decode u_M_init.2.1 60 = .ok (.bipush 8, 2) := by decide +kernel
theorem d_M_init_62 : decode u_M_init.2.1 62 = .ok (.newarray .int, 2) := by decide +kernel
theorem d_M_init_64 : decode u_M_init.2.1 64 = .ok (.putfield 31, 3) := by decide +kernel
theorem d_M_init_67 : decode u_M_init.2.1 67 = .ok (.aload_n 0, 1) := by decide +kernel
theorem d_M_init_68 : decode u_M_init.2.1 68 = .ok (.iconst 3, 1) := by decide +kernel
theorem d_M_init_69 : decode u_M_init.2.1 69 = .ok (.newarray .int, 2) := by decide +kernel
theorem d_M_init_71 : decode u_M_init.2.1 71 = .ok (.putfield 34, 3) := by decide +kernel
theorem d_M_init_74 : decode u_M_init.2.1 74 = .ok (.aload_n 0, 1) := by decide +kernel
theorem d_M_init_75 : decode u_M_init.2.1 75 = .ok (.bipush 30, 2) := by decide +kernel
theorem d_M_init_77 : decode u_M_init.2.1 77 = .ok (.newarray .int, 2) := by decide +kernel
theorem d_M_init_79 : decode u_M_init.2.1 79 = .ok (.putfield 37, 3) := by decide +kernel
theorem d_M_init_82 : decode u_M_init.2.1 82 = .ok (.aload_n 0, 1) := by decide +kernel
theorem d_M_init_83 : decode u_M_init.2.1 83 = .ok (.bipush 30, 2) := by decide +kernel
theorem d_M_init_85 : decode u_M_init.2.1 85 = .ok (.newarray .int, 2) := by decide +kernel
theorem d_M_init_87 : decode u_M_init.2.1 87 = .ok (.putfield 40, 3) := by decide +kernel
theorem d_M_init_90 : decode u_M_init.2.1 90 = .ok (.aload_n 0, 1) := by decide +kernel
theorem d_M_init_91 : decode u_M_init.2.1 91 = .ok (.bipush 30, 2) := by decide +kernel
theorem d_M_init_93 : decode u_M_init.2.1 93 = .ok (.newarray .int, 2) := by decide +kernel
theorem d_M_init_95 : decode u_M_init.2.1 95 = .ok (.putfield 43, 3) := by decide +kernel
theorem d_M_init_98 : decode u_M_init.2.1 98 = .ok (.aload_n 0, 1) := by decide +kernel
theorem d_M_init_99 : decode u_M_init.2.1 99 = .ok (.bipush 30, 2) := by decide +kernel
theorem d_M_init_101 : decode u_M_init.2.1 101 = .ok (.newarray .int, 2) := by decide +kernel
theorem d_M_init_103 : decode u_M_init.2.1 103 = .ok (.putfield 46, 3) := by decide +kernel
theorem d_M_init_106 : decode u_M_init.2.1 106 = .ok (.aload_n 0, 1) := by decide +kernel
theorem d_M_init_107 : decode u_M_init.2.1 107 = .ok (.sipush 240, 3) := by decide +kernel
theorem d_M_init_110 : decode u_M_init.2.1 110 = .ok (.newarray .int, 2) := by decide +kernel
theorem d_M_init_112 : decode u_M_init.2.1 112 = .ok (.putfield 49, 3) := by decide +kernel
theorem d_M_init_115 : decode u_M_init.2.1 115 = .ok (.aload_n 0, 1) := by decide +kernel
theorem d_M_init_116 : decode u_M_init.2.1 116 = .ok (.sipush 240, 3) := by decide +kernel
theorem d_M_init_119 : decode u_M_init.2.1 119 = .ok (.newarray .int, 2) := by decide +kernel
theorem d_M_init_121 : decode u_M_init.2.1 121 = .ok (.putfield 52, 3) := by decide +kernel
theorem d_M_init_124 : decode u_M_init.2.1 124 = .ok (.aload_n 0, 1) := by decide +kernel
theorem d_M_init_125 : decode u_M_init.2.1 125 = .ok (.iconst 4, 1) := by decide +kernel
theorem d_M_init_126 : decode u_M_init.2.1 126 = .ok (.newarray .int, 2) := by decide +kernel
theorem d_M_init_128 : decode u_M_init.2.1 128 = .ok (.putfield 55, 3) := by decide +kernel
theorem d_M_init_131 : decode u_M_init.2.1 131 = .ok (.aload_n 0, 1) := by decide +kernel
theorem d_M_init_132 : decode u_M_init.2.1 132 = .ok (.bipush 32, 2) := by decide +kernel
theorem d_M_init_134 : decode u_M_init.2.1 134 = .ok (.newarray .int, 2) := by decide +kernel
theorem d_M_init_136 : decode u_M_init.2.1 136 = .ok (.putfield 58, 3) := by decide +kernel
theorem d_M_init_139 : decode u_M_init.2.1 139 = .ok (.aload_n 0, 1) := by decide +kernel
theorem d_M_init_140 : decode u_M_init.2.1 140 = .ok (.bipush 8, 2) := by decide +kernel
theorem d_M_init_142 : decode u_M_init.2.1 142 = .ok (.newarray .int, 2) := by decide +kernel
theorem d_M_init_144 : decode u_M_init.2.1 144 = .ok (.putfield 61, 3) := by decide +kernel
theorem d_M_init_147 : decode u_M_init.2.1 147 = .ok (.aload_n 0, 1) := by decide +kernel
theorem d_M_init_148 : decode u_M_init.2.1 148 = .ok (.bipush 8, 2) := by decide +kernel
theorem d_M_init_150 : decode u_M_init.2.1 150 = .ok (.newarray .int, 2) := by decide +kernel
theorem d_M_init_152 : decode u_M_init.2.1 152 = .ok (.putfield 64, 3) := by decide +kernel
theorem d_M_init_155 : decode u_M_init.2.1 155 = .ok (.iconst 0, 1) := by decide +kernel
theorem d_M_init_156 : decode u_M_init.2.1 156 = .ok (.istore_n 1, 1) := by decide +kernel
theorem d_M_init_157 : decode u_M_init.2.1 157 = .ok (.iload_n 1, 1) := by decide +kernel
theorem d_M_init_158 : decode u_M_init.2.1 158 = .ok (.iconst 4, 1) := by decide +kernel
theorem d_M_init_159 : decode u_M_init.2.1 159 = .ok (.if_icmp .ge 16, 3) := by decide +kernel
theorem d_M_init_162 : decode u_M_init.2.1 162 = .ok (.aload_n 0, 1) := by decide +kernel
theorem d_M_init_163 : decode u_M_init.2.1 163 = .ok (.getfield 7, 3) := by decide +kernel
theorem d_M_init_166 : decode u_M_init.2.1 166 = .ok (.iload_n 1, 1) := by decide +kernel
theorem d_M_init_167 : decode u_M_init.2.1 167 = .ok (.iconst (-1), 1) := by decide +kernel
theorem d_M_init_168 : decode u_M_init.2.1 168 = .ok (.iastore, 1) := by decide +kernel
theorem d_M_init_169 : decode u_M_init.2.1 169 = .ok (.iinc 1 1, 3) := by decide +kernel
theorem d_M_init_172 : decode u_M_init.2.1 172 = .ok (.goto (-15), 3) := by decide +kernel
theorem d_M_init_175 : decode u_M_init.2.1 175 = .ok (.aload_n 0, 1) := by decide +kernel
theorem d_M_init_176 : decode u_M_init.2.1 176 = .ok (.getfield 34, 3) := by decide +kernel
theorem d_M_init_179 : decode u_M_init.2.1 179 = .ok (.iconst 0, 1) := by decide +kernel
theorem d_M_init_180 : decode u_M_init.2.1 180 = .ok (.bipush 60, 2) := by decide +kernel
theorem d_M_init_182 : decode u_M_init.2.1 182 = .ok (.iastore, 1) := by decide +kernel
theorem d_M_init_183 : decode u_M_init.2.1 183 = .ok (.aload_n 0, 1) := by decide +kernel
theorem d_M_init_184 : decode u_M_init.2.1 184 = .ok (.getfield 34, 3) := by decide +kernel
theorem d_M_init_187 : decode u_M_init.2.1 187 = .ok (.iconst 1, 1) := by decide +kernel
theorem d_M_init_188 : decode u_M_init.2.1 188 = .ok (.bipush 10, 2) := by decide +kernel
theorem d_M_init_190 : decode u_M_init.2.1 190 = .ok (.iastore, 1) := by decide +kernel
theorem d_M_init_191 : decode u_M_init.2.1 191 = .ok (.aload_n 0, 1) := by decide +kernel
theorem d_M_init_192 : decode u_M_init.2.1 192 = .ok (.getfield 34, 3) := by decide +kernel
theorem d_M_init_195 : decode u_M_init.2.1 195 = .ok (.iconst 2, 1) := by decide +kernel
theorem d_M_init_196 : decode u_M_init.2.1 196 = .ok (.bipush 20, 2) := by decide +kernel
theorem d_M_init_198 : decode u_M_init.2.1 198 = .ok (.iastore, 1) := by decide +kernel
theorem d_M_init_199 : decode u_M_init.2.1 199 = .ok (.return_, 1) := by decide +kernel
theorem d_M_in_0 : decode u_M_in.2.1 0 = .ok (.lload_n 0, 1) := by decide +kernel
theorem d_M_in_1 : decode u_M_in.2.1 1 = .ok (.lload_n 2, 1) := by decide +kernel
theorem d_M_in_2 : decode u_M_in.2.1 2 = .ok (.lcmp, 1) := by decide +kernel
theorem d_M_in_3 : decode u_M_in.2.1 3 = .ok (.ifCond .lt 14, 3) := by decide +kernel
theorem d_M_in_6 : decode u_M_in.2.1 6 = .ok (.lload_n 0, 1) := by decide +kernel
theorem d_M_in_7 : decode u_M_in.2.1 7 = .ok (.lload 4, 2) := by decide +kernel
theorem d_M_in_9 : decode u_M_in.2.1 9 = .ok (.lcmp, 1) := by decide +kernel
theorem d_M_in_10 : decode u_M_in.2.1 10 = .ok (.ifCond .gt 7, 3) := by decide +kernel
theorem d_M_in_13 : decode u_M_in.2.1 13 = .ok (.iconst 1, 1) := by decide +kernel
theorem d_M_in_14 : decode u_M_in.2.1 14 = .ok (.goto 4, 3) := by decide +kernel
theorem d_M_in_17 : decode u_M_in.2.1 17 = .ok (.iconst 0, 1) := by decide +kernel
theorem d_M_in_18 : decode u_M_in.2.1 18 = .ok (.ireturn, 1) := by decide +kernel
theorem d_M_no_0 : decode u_M_no.2.1 0 = .ok (.ldc2_w 67, 3) := by decide +kernel
theorem d_M_no_3 : decode u_M_no.2.1 3 = .ok (.iload_n 0, 1) := by decide +kernel
theorem d_M_no_4 : decode u_M_no.2.1 4 = .ok (.i2l, 1) := by decide +kernel
theorem d_M_no_5 : decode u_M_no.2.1 5 = .ok (.lsub, 1) := by decide +kernel
theorem d_M_no_6 : decode u_M_no.2.1 6 = .ok (.lreturn, 1) := by decide +kernel
theorem d_M_dear_0 : decode u_M_dear.2.1 0 = .ok (.sipush (-10000), 3) := by decide +kernel
theorem d_M_dear_3 : decode u_M_dear.2.1 3 = .ok (.iload_n 0, 1) := by decide +kernel
theorem d_M_dear_4 : decode u_M_dear.2.1 4 = .ok (.iadd, 1) := by decide +kernel
theorem d_M_dear_5 : decode u_M_dear.2.1 5 = .ok (.ireturn, 1) := by decide +kernel
theorem d_M_isTwo_0 : decode u_M_isTwo.2.1 0 = .ok (.iload_n 0, 1) := by decide +kernel
theorem d_M_isTwo_1 : decode u_M_isTwo.2.1 1 = .ok (.i2l, 1) := by decide +kernel
theorem d_M_isTwo_2 : decode u_M_isTwo.2.1 2 = .ok (.lconst 0, 1) := by decide +kernel
theorem d_M_isTwo_3 : decode u_M_isTwo.2.1 3 = .ok (.lconst 1, 1) := by decide +kernel
theorem d_M_isTwo_4 : decode u_M_isTwo.2.1 4 = .ok (.invokestatic 69, 3) := by decide +kernel
theorem d_M_isTwo_7 : decode u_M_isTwo.2.1 7 = .ok (.ireturn, 1) := by decide +kernel
theorem d_M_amount_0 : decode u_M_amount.2.1 0 = .ok (.iload_n 0, 1) := by decide +kernel
theorem d_M_amount_1 : decode u_M_amount.2.1 1 = .ok (.ifCond .ge 8, 3) := by decide +kernel
theorem d_M_amount_4 : decode u_M_amount.2.1 4 = .ok (.iload_n 0, 1) := by decide +kernel
theorem d_M_amount_5 : decode u_M_amount.2.1 5 = .ok (.ineg, 1) := by decide +kernel
theorem d_M_amount_6 : decode u_M_amount.2.1 6 = .ok (.goto 4, 3) := by decide +kernel
theorem d_M_amount_9 : decode u_M_amount.2.1 9 = .ok (.iload_n 0, 1) := by decide +kernel
theorem d_M_amount_10 : decode u_M_amount.2.1 10 = .ok (.ireturn, 1) := by decide +kernel
theorem d_M_met_0 : decode u_M_met.2.1 0 = .ok (.aload_n 0, 1) := by decide +kernel
theorem d_M_met_1 : decode u_M_met.2.1 1 = .ok (.iload_n 1, 1) := by decide +kernel
theorem d_M_met_2 : decode u_M_met.2.1 2 = .ok (.putfield 73, 3) := by decide +kernel
theorem d_M_met_5 : decode u_M_met.2.1 5 = .ok (.bipush (-10), 2) := by decide +kernel
theorem d_M_met_7 : decode u_M_met.2.1 7 = .ok (.iload_n 1, 1) := by decide +kernel
theorem d_M_met_8 : decode u_M_met.2.1 8 = .ok (.isub, 1) := by decide +kernel
theorem d_M_met_9 : decode u_M_met.2.1 9 = .ok (.ireturn, 1) := by decide +kernel
theorem d_M_isSheet_0 : decode u_M_isSheet.2.1 0 = .ok (.iload_n 0, 1) := by decide +kernel
theorem d_M_isSheet_1 : decode u_M_isSheet.2.1 1 = .ok (.i2l, 1) := by decide +kernel
theorem d_M_isSheet_2 : decode u_M_isSheet.2.1 2 = .ok (.lconst 0, 1) := by decide +kernel
theorem d_M_isSheet_3 : decode u_M_isSheet.2.1 3 = .ok (.ldc2_w 77, 3) := by decide +kernel
theorem d_M_isSheet_6 : decode u_M_isSheet.2.1 6 = .ok (.invokestatic 69, 3) := by decide +kernel
theorem d_M_isSheet_9 : decode u_M_isSheet.2.1 9 = .ok (.ireturn, 1) := by decide +kernel
theorem d_M_sheet_0 : decode u_M_sheet.2.1 0 = .ok (.iload_n 1, 1) := by decide +kernel
theorem d_M_sheet_1 : decode u_M_sheet.2.1 1 = .ok (.invokestatic 79, 3) := by decide +kernel
theorem d_M_sheet_4 : decode u_M_sheet.2.1 4 = .ok (.ifCond .eq 21, 3) := by decide +kernel
theorem d_M_sheet_7 : decode u_M_sheet.2.1 7 = .ok (.iload_n 2, 1) := by decide +kernel
theorem d_M_sheet_8 : decode u_M_sheet.2.1 8 = .ok (.i2l, 1) := by decide +kernel
theorem d_M_sheet_9 : decode u_M_sheet.2.1 9 = .ok (.lconst 0, 1) := by decide +kernel
theorem d_M_sheet_10 : decode u_M_sheet.2.1 10 = .ok (.ldc2_w 83, 3) := by decide +kernel
theorem d_M_sheet_13 : decode u_M_sheet.2.1 13 = .ok (.invokestatic 69, 3) := by decide +kernel
theorem d_M_sheet_16 : decode u_M_sheet.2.1 16 = .ok (.ifCond .eq 9, 3) := by decide +kernel
theorem d_M_sheet_19 : decode u_M_sheet.2.1 19 = .ok (.iload_n 3, 1) := by decide +kernel
theorem d_M_sheet_20 : decode u_M_sheet.2.1 20 = .ok (.bipush 60, 2) := by decide +kernel
theorem d_M_sheet_22 : decode u_M_sheet.2.1 22 = .ok (.if_icmp .le 6, 3) := by decide +kernel
theorem d_M_sheet_25 : decode u_M_sheet.2.1 25 = .ok (.bipush (-2), 2) := by decide +kernel
theorem d_M_sheet_27 : decode u_M_sheet.2.1 27 = .ok (.ireturn, 1) := by decide +kernel
theorem d_M_sheet_28 : decode u_M_sheet.2.1 28 = .ok (.iload_n 3, 1) := by decide +kernel
theorem d_M_sheet_29 : decode u_M_sheet.2.1 29 = .ok (.ifCond .ge 9, 3) := by decide +kernel
theorem d_M_sheet_32 : decode u_M_sheet.2.1 32 = .ok (.aload_n 0, 1) := by decide +kernel
theorem d_M_sheet_33 : decode u_M_sheet.2.1 33 = .ok (.iconst 5, 1) := by decide +kernel
theorem d_M_sheet_34 : decode u_M_sheet.2.1 34 = .ok (.invokevirtual 85, 3) := by decide +kernel
theorem d_M_sheet_37 : decode u_M_sheet.2.1 37 = .ok (.ireturn, 1) := by decide +kernel
theorem d_M_sheet_38 : decode u_M_sheet.2.1 38 = .ok (.aload_n 0, 1) := by decide +kernel
theorem d_M_sheet_39 : decode u_M_sheet.2.1 39 = .ok (.getfield 7, 3) := by decide +kernel
theorem d_M_sheet_42 : decode u_M_sheet.2.1 42 = .ok (.iload_n 1, 1) := by decide +kernel
theorem d_M_sheet_43 : decode u_M_sheet.2.1 43 = .ok (.iload_n 2, 1) := by decide +kernel
theorem d_M_sheet_44 : decode u_M_sheet.2.1 44 = .ok (.iastore, 1) := by decide +kernel
theorem d_M_sheet_45 : decode u_M_sheet.2.1 45 = .ok (.aload_n 0, 1) := by decide +kernel
theorem d_M_sheet_46 : decode u_M_sheet.2.1 46 = .ok (.getfield 13, 3) := by decide +kernel
theorem d_M_sheet_49 : decode u_M_sheet.2.1 49 = .ok (.iload_n 1, 1) := by decide +kernel
theorem d_M_sheet_50 : decode u_M_sheet.2.1 50 = .ok (.iload_n 3, 1) := by decide +kernel
theorem d_M_sheet_51 : decode u_M_sheet.2.1 51 = .ok (.iastore, 1) := by decide +kernel
theorem d_M_sheet_52 : decode u_M_sheet.2.1 52 = .ok (.iconst 0, 1) := by decide +kernel
theorem d_M_sheet_53 : decode u_M_sheet.2.1 53 = .ok (.istore 4, 2) := by decide +kernel
theorem d_M_sheet_55 : decode u_M_sheet.2.1 55 = .ok (.iload 4, 2) := by decide +kernel
theorem d_M_sheet_57 : decode u_M_sheet.2.1 57 = .ok (.iload_n 3, 1) := by decide +kernel
theorem d_M_sheet_58 : decode u_M_sheet.2.1 58 = .ok (.if_icmp .ge 22, 3) := by decide +kernel
theorem d_M_sheet_61 : decode u_M_sheet.2.1 61 = .ok (.aload_n 0, 1) := by decide +kernel
theorem d_M_sheet_62 : decode u_M_sheet.2.1 62 = .ok (.getfield 16, 3) := by decide +kernel
theorem d_M_sheet_65 : decode u_M_sheet.2.1 65 = .ok (.bipush 60, 2) := by decide +kernel
theorem d_M_sheet_67 : decode u_M_sheet.2.1 67 = .ok (.iload_n 1, 1) := by decide +kernel
theorem d_M_sheet_68 : decode u_M_sheet.2.1 68 = .ok (.imul, 1) := by decide +kernel
theorem d_M_sheet_69 : decode u_M_sheet.2.1 69 = .ok (.iload 4, 2) := by decide +kernel
theorem d_M_sheet_71 : decode u_M_sheet.2.1 71 = .ok (.iadd, 1) := by decide +kernel
theorem d_M_sheet_72 : decode u_M_sheet.2.1 72 = .ok (.iconst 0, 1) := by decide +kernel
theorem d_M_sheet_73 : decode u_M_sheet.2.1 73 = .ok (.iastore, 1) := by decide +kernel
theorem d_M_sheet_74 : decode u_M_sheet.2.1 74 = .ok (.iinc 4 1, 3) := by decide +kernel
theorem d_M_sheet_77 : decode u_M_sheet.2.1 77 = .ok (.goto (-22), 3) := by decide +kernel
theorem d_M_sheet_80 : decode u_M_sheet.2.1 80 = .ok (.iload_n 3, 1) := by decide +kernel
theorem d_M_sheet_81 : decode u_M_sheet.2.1 81 = .ok (.ireturn, 1) := by decide +kernel
theorem d_M_lose_0 : decode u_M_lose.2.1 0 = .ok (.iload_n 1, 1) := by decide +kernel
theorem d_M_lose_1 : decode u_M_lose.2.1 1 = .ok (.invokestatic 79, 3) := by decide +kernel
theorem d_M_lose_4 : decode u_M_lose.2.1 4 = .ok (.ifCond .ne 6, 3) := by decide +kernel
theorem d_M_lose_7 : decode u_M_lose.2.1 7 = .ok (.bipush (-2), 2) := by decide +kernel
theorem d_M_lose_9 : decode u_M_lose.2.1 9 = .ok (.ireturn, 1) := by decide +kernel
theorem d_M_lose_10 : decode u_M_lose.2.1 10 = .ok (.aload_n 0, 1) := by decide +kernel
theorem d_M_lose_11 : decode u_M_lose.2.1 11 = .ok (.getfield 7, 3) := by decide +kernel
theorem d_M_lose_14 : decode u_M_lose.2.1 14 = .ok (.iload_n 1, 1) := by decide +kernel
theorem d_M_lose_15 : decode u_M_lose.2.1 15 = .ok (.iaload, 1) := by decide +kernel
theorem d_M_lose_16 : decode u_M_lose.2.1 16 = .ok (.ifCond .ge 9, 3) := by decide +kernel
theorem d_M_lose_19 : decode u_M_lose.2.1 19 = .ok (.aload_n 0, 1) := by decide +kernel
theorem d_M_lose_20 : decode u_M_lose.2.1 20 = .ok (.iconst 1, 1) := by decide +kernel
theorem d_M_lose_21 : decode u_M_lose.2.1 21 = .ok (.invokevirtual 85, 3) := by decide +kernel
theorem d_M_lose_24 : decode u_M_lose.2.1 24 = .ok (.ireturn, 1) := by decide +kernel
theorem d_M_lose_25 : decode u_M_lose.2.1 25 = .ok (.aload_n 0, 1) := by decide +kernel
theorem d_M_lose_26 : decode u_M_lose.2.1 26 = .ok (.getfield 7, 3) := by decide +kernel
theorem d_M_lose_29 : decode u_M_lose.2.1 29 = .ok (.iload_n 1, 1) := by decide +kernel
theorem d_M_lose_30 : decode u_M_lose.2.1 30 = .ok (.iconst (-1), 1) := by decide +kernel
theorem d_M_lose_31 : decode u_M_lose.2.1 31 = .ok (.iastore, 1) := by decide +kernel
theorem d_M_lose_32 : decode u_M_lose.2.1 32 = .ok (.aload_n 0, 1) := by decide +kernel
theorem d_M_lose_33 : decode u_M_lose.2.1 33 = .ok (.getfield 13, 3) := by decide +kernel
theorem d_M_lose_36 : decode u_M_lose.2.1 36 = .ok (.iload_n 1, 1) := by decide +kernel
theorem d_M_lose_37 : decode u_M_lose.2.1 37 = .ok (.iaload, 1) := by decide +kernel
theorem d_M_lose_38 : decode u_M_lose.2.1 38 = .ok (.ireturn, 1) := by decide +kernel
theorem d_M_lacks_0 : decode u_M_lacks.2.1 0 = .ok (.aload_n 0, 1) := by decide +kernel
theorem d_M_lacks_1 : decode u_M_lacks.2.1 1 = .ok (.getfield 7, 3) := by decide +kernel
theorem d_M_lacks_4 : decode u_M_lacks.2.1 4 = .ok (.iload_n 1, 1) := by decide +kernel
theorem d_M_lacks_5 : decode u_M_lacks.2.1 5 = .ok (.iaload, 1) := by decide +kernel
theorem d_M_lacks_6 : decode u_M_lacks.2.1 6 = .ok (.ifCond .ge 9, 3) := by decide +kernel
theorem d_M_lacks_9 : decode u_M_lacks.2.1 9 = .ok (.aload_n 0, 1) := by decide +kernel
theorem d_M_lacks_10 : decode u_M_lacks.2.1 10 = .ok (.iconst 1, 1) := by decide +kernel
theorem d_M_lacks_11 : decode u_M_lacks.2.1 11 = .ok (.invokevirtual 85, 3) := by decide +kernel
theorem d_M_lacks_14 : decode u_M_lacks.2.1 14 = .ok (.ireturn, 1) := by decide +kernel
theorem d_M_lacks_15 : decode u_M_lacks.2.1 15 = .ok (.aload_n 0, 1) := by decide +kernel
theorem d_M_lacks_16 : decode u_M_lacks.2.1 16 = .ok (.getfield 7, 3) := by decide +kernel
theorem d_M_lacks_19 : decode u_M_lacks.2.1 19 = .ok (.iload_n 1, 1) := by decide +kernel
theorem d_M_lacks_20 : decode u_M_lacks.2.1 20 = .ok (.iaload, 1) := by decide +kernel
theorem d_M_lacks_21 : decode u_M_lacks.2.1 21 = .ok (.iload_n 2, 1) := by decide +kernel
theorem d_M_lacks_22 : decode u_M_lacks.2.1 22 = .ok (.if_icmp .eq 9, 3) := by decide +kernel
theorem d_M_lacks_25 : decode u_M_lacks.2.1 25 = .ok (.aload_n 0, 1) := by decide +kernel
theorem d_M_lacks_26 : decode u_M_lacks.2.1 26 = .ok (.iconst 3, 1) := by decide +kernel
theorem d_M_lacks_27 : decode u_M_lacks.2.1 27 = .ok (.invokevirtual 85, 3) := by decide +kernel
theorem d_M_lacks_30 : decode u_M_lacks.2.1 30 = .ok (.ireturn, 1) := by decide +kernel
theorem d_M_lacks_31 : decode u_M_lacks.2.1 31 = .ok (.iload_n 3, 1) := by decide +kernel
theorem d_M_lacks_32 : decode u_M_lacks.2.1 32 = .ok (.i2l, 1) := by decide +kernel
theorem d_M_lacks_33 : decode u_M_lacks.2.1 33 = .ok (.lconst 0, 1) := by decide +kernel
theorem d_M_lacks_34 : decode u_M_lacks.2.1 34 = .ok (.aload_n 0, 1) := by decide +kernel
theorem d_M_lacks_35 : decode u_M_lacks.2.1 35 = .ok (.getfield 13, 3) := by decide +kernel
theorem d_M_lacks_38 : decode u_M_lacks.2.1 38 = .ok (.iload_n 1, 1) := by decide +kernel
theorem d_M_lacks_39 : decode u_M_lacks.2.1 39 = .ok (.iaload, 1) := by decide +kernel
theorem d_M_lacks_40 : decode u_M_lacks.2.1 40 = .ok (.iconst 1, 1) := by decide +kernel
theorem d_M_lacks_41 : decode u_M_lacks.2.1 41 = .ok (.isub, 1) := by decide +kernel
theorem d_M_lacks_42 : decode u_M_lacks.2.1 42 = .ok (.i2l, 1) := by decide +kernel
theorem d_M_lacks_43 : decode u_M_lacks.2.1 43 = .ok (.invokestatic 69, 3) := by decide +kernel
theorem d_M_lacks_46 : decode u_M_lacks.2.1 46 = .ok (.ifCond .eq 7, 3) := by decide +kernel
theorem d_M_lacks_49 : decode u_M_lacks.2.1 49 = .ok (.iconst 0, 1) := by decide +kernel
theorem d_M_lacks_50 : decode u_M_lacks.2.1 50 = .ok (.goto 8, 3) := by decide +kernel
theorem d_M_lacks_53 : decode u_M_lacks.2.1 53 = .ok (.aload_n 0, 1) := by decide +kernel
theorem d_M_lacks_54 : decode u_M_lacks.2.1 54 = .ok (.iconst 2, 1) := by decide +kernel
theorem d_M_lacks_55 : decode u_M_lacks.2.1 55 = .ok (.invokevirtual 85, 3) := by decide +kernel
theorem d_M_lacks_58 : decode u_M_lacks.2.1 58 = .ok (.ireturn, 1) := by decide +kernel
theorem d_M_cut_0 : decode u_M_cut.2.1 0 = .ok (.iload_n 0, 1) := by decide +kernel
theorem d_M_cut_1 : decode u_M_cut.2.1 1 = .ok (.ifCond .ne 8, 3) := by decide +kernel
theorem d_M_cut_4 : decode u_M_cut.2.1 4 = .ok (.iload_n 1, 1) := by decide +kernel
theorem d_M_cut_5 : decode u_M_cut.2.1 5 = .ok (.i2b, 1) := by decide +kernel
theorem d_M_cut_6 : decode u_M_cut.2.1 6 = .ok (.goto 14, 3) := by decide +kernel
theorem d_M_cut_9 : decode u_M_cut.2.1 9 = .ok (.iload_n 0, 1) := by decide +kernel
theorem d_M_cut_10 : decode u_M_cut.2.1 10 = .ok (.iconst 1, 1) := by decide +kernel
theorem d_M_cut_11 : decode u_M_cut.2.1 11 = .ok (.if_icmp .ne 8, 3) := by decide +kernel
theorem d_M_cut_14 : decode u_M_cut.2.1 14 = .ok (.iload_n 1, 1) := by decide +kernel
theorem d_M_cut_15 : decode u_M_cut.2.1 15 = .ok (.i2s, 1) := by decide +kernel
theorem d_M_cut_16 : decode u_M_cut.2.1 16 = .ok (.goto 4, 3) := by decide +kernel
theorem d_M_cut_19 : decode u_M_cut.2.1 19 = .ok (.iload_n 1, 1) := by decide +kernel
theorem d_M_cut_20 : decode u_M_cut.2.1 20 = .ok (.ireturn, 1) := by decide +kernel
theorem d_M_lay_0 : decode u_M_lay.2.1 0 = .ok (.iload_n 1, 1) := by decide +kernel
theorem d_M_lay_1 : decode u_M_lay.2.1 1 = .ok (.invokestatic 79, 3) := by decide +kernel
theorem d_M_lay_4 : decode u_M_lay.2.1 4 = .ok (.ifCond .eq 15, 3) := by decide +kernel
theorem d_M_lay_7 : decode u_M_lay.2.1 7 = .ok (.iload_n 2, 1) := by decide +kernel
theorem d_M_lay_8 : decode u_M_lay.2.1 8 = .ok (.i2l, 1) := by decide +kernel
theorem d_M_lay_9 : decode u_M_lay.2.1 9 = .ok (.lconst 0, 1) := by decide +kernel
theorem d_M_lay_10 : decode u_M_lay.2.1 10 = .ok (.ldc2_w 83, 3) := by decide +kernel
theorem d_M_lay_13 : decode u_M_lay.2.1 13 = .ok (.invokestatic 69, 3) := by decide +kernel
theorem d_M_lay_16 : decode u_M_lay.2.1 16 = .ok (.ifCond .ne 6, 3) := by decide +kernel
theorem d_M_lay_19 : decode u_M_lay.2.1 19 = .ok (.bipush (-2), 2) := by decide +kernel
theorem d_M_lay_21 : decode u_M_lay.2.1 21 = .ok (.ireturn, 1) := by decide +kernel
theorem d_M_lay_22 : decode u_M_lay.2.1 22 = .ok (.aload_n 0, 1) := by decide +kernel
theorem d_M_lay_23 : decode u_M_lay.2.1 23 = .ok (.iload_n 1, 1) := by decide +kernel
theorem d_M_lay_24 : decode u_M_lay.2.1 24 = .ok (.iload_n 2, 1) := by decide +kernel
theorem d_M_lay_25 : decode u_M_lay.2.1 25 = .ok (.iload_n 3, 1) := by decide +kernel
theorem d_M_lay_26 : decode u_M_lay.2.1 26 = .ok (.invokevirtual 89, 3) := by decide +kernel
theorem d_M_lay_29 : decode u_M_lay.2.1 29 = .ok (.istore 5, 2) := by decide +kernel
theorem d_M_lay_31 : decode u_M_lay.2.1 31 = .ok (.iload 5, 2) := by decide +kernel
theorem d_M_lay_33 : decode u_M_lay.2.1 33 = .ok (.ifCond .eq 6, 3) := by decide +kernel
theorem d_M_lay_36 : decode u_M_lay.2.1 36 = .ok (.iload 5, 2) := by decide +kernel
theorem d_M_lay_38 : decode u_M_lay.2.1 38 = .ok (.ireturn, 1) := by decide +kernel
theorem d_M_lay_39 : decode u_M_lay.2.1 39 = .ok (.aload_n 0, 1) := by decide +kernel
theorem d_M_lay_40 : decode u_M_lay.2.1 40 = .ok (.getfield 16, 3) := by decide +kernel
theorem d_M_lay_43 : decode u_M_lay.2.1 43 = .ok (.bipush 60, 2) := by decide +kernel
theorem d_M_lay_45 : decode u_M_lay.2.1 45 = .ok (.iload_n 1, 1) := by decide +kernel
theorem d_M_lay_46 : decode u_M_lay.2.1 46 = .ok (.imul, 1) := by decide +kernel
theorem d_M_lay_47 : decode u_M_lay.2.1 47 = .ok (.iload_n 3, 1) := by decide +kernel
theorem d_M_lay_48 : decode u_M_lay.2.1 48 = .ok (.iadd, 1) := by decide +kernel
theorem d_M_lay_49 : decode u_M_lay.2.1 49 = .ok (.iload_n 2, 1) := by decide +kernel
theorem d_M_lay_50 : decode u_M_lay.2.1 50 = .ok (.iload 4, 2) := by decide +kernel
theorem d_M_lay_52 : decode u_M_lay.2.1 52 = .ok (.invokestatic 93, 3) := by decide +kernel
theorem d_M_lay_55 : decode u_M_lay.2.1 55 = .ok (.iastore, 1) := by decide +kernel
theorem d_M_lay_56 : decode u_M_lay.2.1 56 = .ok (.iconst 1, 1) := by decide +kernel
theorem d_M_lay_57 : decode u_M_lay.2.1 57 = .ok (.ireturn, 1) := by decide +kernel
theorem d_M_get_0 : decode u_M_get.2.1 0 = .ok (.iload_n 1, 1) := by decide +kernel
theorem d_M_get_1 : decode u_M_get.2.1 1 = .ok (.invokestatic 79, 3) := by decide +kernel
theorem d_M_get_4 : decode u_M_get.2.1 4 = .ok (.ifCond .eq 25, 3) := by decide +kernel
theorem d_M_get_7 : decode u_M_get.2.1 7 = .ok (.iload_n 2, 1) := by decide +kernel
theorem d_M_get_8 : decode u_M_get.2.1 8 = .ok (.i2l, 1) := by decide +kernel
theorem d_M_get_9 : decode u_M_get.2.1 9 = .ok (.lconst 0, 1) := by decide +kernel
theorem d_M_get_10 : decode u_M_get.2.1 10 = .ok (.ldc2_w 83, 3) := by decide +kernel
theorem d_M_get_13 : decode u_M_get.2.1 13 = .ok (.invokestatic 69, 3) := by decide +kernel
theorem d_M_get_16 : decode u_M_get.2.1 16 = .ok (.ifCond .eq 13, 3) := by decide +kernel
theorem d_M_get_19 : decode u_M_get.2.1 19 = .ok (.aload_n 0, 1) := by decide +kernel
theorem d_M_get_20 : decode u_M_get.2.1 20 = .ok (.iload_n 1, 1) := by decide +kernel
theorem d_M_get_21 : decode u_M_get.2.1 21 = .ok (.iload_n 2, 1) := by decide +kernel
theorem d_M_get_22 : decode u_M_get.2.1 22 = .ok (.iload_n 3, 1) := by decide +kernel
theorem d_M_get_23 : decode u_M_get.2.1 23 = .ok (.invokevirtual 89, 3) := by decide +kernel
theorem d_M_get_26 : decode u_M_get.2.1 26 = .ok (.ifCond .eq 6, 3) := by decide +kernel
theorem d_M_get_29 : decode u_M_get.2.1 29 = .ok (.ldc 97, 2) := by decide +kernel
theorem d_M_get_31 : decode u_M_get.2.1 31 = .ok (.ireturn, 1) := by decide +kernel
theorem d_M_get_32 : decode u_M_get.2.1 32 = .ok (.aload_n 0, 1) := by decide +kernel
theorem d_M_get_33 : decode u_M_get.2.1 33 = .ok (.getfield 16, 3) := by decide +kernel
theorem d_M_get_36 : decode u_M_get.2.1 36 = .ok (.bipush 60, 2) := by decide +kernel
theorem d_M_get_38 : decode u_M_get.2.1 38 = .ok (.iload_n 1, 1) := by decide +kernel
theorem d_M_get_39 : decode u_M_get.2.1 39 = .ok (.imul, 1) := by decide +kernel
theorem d_M_get_40 : decode u_M_get.2.1 40 = .ok (.iload_n 3, 1) := by decide +kernel
theorem d_M_get_41 : decode u_M_get.2.1 41 = .ok (.iadd, 1) := by decide +kernel
theorem d_M_get_42 : decode u_M_get.2.1 42 = .ok (.iaload, 1) := by decide +kernel
theorem d_M_get_43 : decode u_M_get.2.1 43 = .ok (.ireturn, 1) := by decide +kernel
theorem d_M_copy_0 : decode u_M_copy.2.1 0 = .ok (.iload_n 1, 1) := by decide +kernel
theorem d_M_copy_1 : decode u_M_copy.2.1 1 = .ok (.invokestatic 79, 3) := by decide +kernel
theorem d_M_copy_4 : decode u_M_copy.2.1 4 = .ok (.ifCond .eq 10, 3) := by decide +kernel
theorem d_M_copy_7 : decode u_M_copy.2.1 7 = .ok (.iload_n 3, 1) := by decide +kernel
theorem d_M_copy_8 : decode u_M_copy.2.1 8 = .ok (.invokestatic 79, 3) := by decide +kernel
theorem d_M_copy_11 : decode u_M_copy.2.1 11 = .ok (.ifCond .ne 6, 3) := by decide +kernel
theorem d_M_copy_14 : decode u_M_copy.2.1 14 = .ok (.bipush (-2), 2) := by decide +kernel
theorem d_M_copy_16 : decode u_M_copy.2.1 16 = .ok (.ireturn, 1) := by decide +kernel
theorem d_M_copy_17 : decode u_M_copy.2.1 17 = .ok (.aload_n 0, 1) := by decide +kernel
theorem d_M_copy_18 : decode u_M_copy.2.1 18 = .ok (.getfield 7, 3) := by decide +kernel
theorem d_M_copy_21 : decode u_M_copy.2.1 21 = .ok (.iload_n 1, 1) := by decide +kernel
theorem d_M_copy_22 : decode u_M_copy.2.1 22 = .ok (.iaload, 1) := by decide +kernel
theorem d_M_copy_23 : decode u_M_copy.2.1 23 = .ok (.ifCond .lt 12, 3) := by decide +kernel
theorem d_M_copy_26 : decode u_M_copy.2.1 26 = .ok (.aload_n 0, 1) := by decide +kernel
theorem d_M_copy_27 : decode u_M_copy.2.1 27 = .ok (.getfield 7, 3) := by decide +kernel
theorem d_M_copy_30 : decode u_M_copy.2.1 30 = .ok (.iload_n 3, 1) := by decide +kernel
theorem d_M_copy_31 : decode u_M_copy.2.1 31 = .ok (.iaload, 1) := by decide +kernel
theorem d_M_copy_32 : decode u_M_copy.2.1 32 = .ok (.ifCond .ge 9, 3) := by decide +kernel
theorem d_M_copy_35 : decode u_M_copy.2.1 35 = .ok (.aload_n 0, 1) := by decide +kernel
theorem d_M_copy_36 : decode u_M_copy.2.1 36 = .ok (.iconst 1, 1) := by decide +kernel
theorem d_M_copy_37 : decode u_M_copy.2.1 37 = .ok (.invokevirtual 85, 3) := by decide +kernel
theorem d_M_copy_40 : decode u_M_copy.2.1 40 = .ok (.ireturn, 1) := by decide +kernel
theorem d_M_copy_41 : decode u_M_copy.2.1 41 = .ok (.aload_n 0, 1) := by decide +kernel
theorem d_M_copy_42 : decode u_M_copy.2.1 42 = .ok (.getfield 7, 3) := by decide +kernel
theorem d_M_copy_45 : decode u_M_copy.2.1 45 = .ok (.iload_n 1, 1) := by decide +kernel
theorem d_M_copy_46 : decode u_M_copy.2.1 46 = .ok (.iaload, 1) := by decide +kernel
theorem d_M_copy_47 : decode u_M_copy.2.1 47 = .ok (.aload_n 0, 1) := by decide +kernel
theorem d_M_copy_48 : decode u_M_copy.2.1 48 = .ok (.getfield 7, 3) := by decide +kernel
theorem d_M_copy_51 : decode u_M_copy.2.1 51 = .ok (.iload_n 3, 1) := by decide +kernel
theorem d_M_copy_52 : decode u_M_copy.2.1 52 = .ok (.iaload, 1) := by decide +kernel
theorem d_M_copy_53 : decode u_M_copy.2.1 53 = .ok (.if_icmp .eq 9, 3) := by decide +kernel
theorem d_M_copy_56 : decode u_M_copy.2.1 56 = .ok (.aload_n 0, 1) := by decide +kernel
theorem d_M_copy_57 : decode u_M_copy.2.1 57 = .ok (.iconst 4, 1) := by decide +kernel
theorem d_M_copy_58 : decode u_M_copy.2.1 58 = .ok (.invokevirtual 85, 3) := by decide +kernel
theorem d_M_copy_61 : decode u_M_copy.2.1 61 = .ok (.ireturn, 1) := by decide +kernel
theorem d_M_copy_62 : decode u_M_copy.2.1 62 = .ok (.iload_n 2, 1) := by decide +kernel
theorem d_M_copy_63 : decode u_M_copy.2.1 63 = .ok (.ifCond .lt 48, 3) := by decide +kernel
theorem d_M_copy_66 : decode u_M_copy.2.1 66 = .ok (.iload 4, 2) := by decide +kernel
theorem d_M_copy_68 : decode u_M_copy.2.1 68 = .ok (.ifCond .lt 43, 3) := by decide +kernel
theorem d_M_copy_71 : decode u_M_copy.2.1 71 = .ok (.iload 5, 2) := by decide +kernel
theorem d_M_copy_73 : decode u_M_copy.2.1 73 = .ok (.ifCond .lt 38, 3) := by decide +kernel
theorem d_M_copy_76 : decode u_M_copy.2.1 76 = .ok (.iload_n 2, 1) := by decide +kernel
theorem d_M_copy_77 : decode u_M_copy.2.1 77 = .ok (.i2l, 1) := by decide +kernel
theorem d_M_copy_78 : decode u_M_copy.2.1 78 = .ok (.iload 5, 2) := by decide +kernel
theorem d_M_copy_80 : decode u_M_copy.2.1 80 = .ok (.i2l, 1) := by decide +kernel
theorem d_M_copy_81 : decode u_M_copy.2.1 81 = .ok (.ladd, 1) := by decide +kernel
theorem d_M_copy_82 : decode u_M_copy.2.1 82 = .ok (.aload_n 0, 1) := by decide +kernel
theorem d_M_copy_83 : decode u_M_copy.2.1 83 = .ok (.getfield 13, 3) := by decide +kernel
theorem d_M_copy_86 : decode u_M_copy.2.1 86 = .ok (.iload_n 1, 1) := by decide +kernel
theorem d_M_copy_87 : decode u_M_copy.2.1 87 = .ok (.iaload, 1) := by decide +kernel
theorem d_M_copy_88 : decode u_M_copy.2.1 88 = .ok (.i2l, 1) := by decide +kernel
theorem d_M_copy_89 : decode u_M_copy.2.1 89 = .ok (.lcmp, 1) := by decide +kernel
theorem d_M_copy_90 : decode u_M_copy.2.1 90 = .ok (.ifCond .gt 21, 3) := by decide +kernel
theorem d_M_copy_93 : decode u_M_copy.2.1 93 = .ok (.iload 4, 2) := by decide +kernel
theorem d_M_copy_95 : decode u_M_copy.2.1 95 = .ok (.i2l, 1) := by decide +kernel
theorem d_M_copy_96 : decode u_M_copy.2.1 96 = .ok (.iload 5, 2) := by decide +kernel
theorem d_M_copy_98 : decode u_M_copy.2.1 98 = .ok (.i2l, 1) := by decide +kernel
theorem d_M_copy_99 : decode u_M_copy.2.1 99 = .ok (.ladd, 1) := by decide +kernel
theorem d_M_copy_100 : decode u_M_copy.2.1 100 = .ok (.aload_n 0, 1) := by decide +kernel
theorem d_M_copy_101 : decode u_M_copy.2.1 101 = .ok (.getfield 13, 3) := by decide +kernel
theorem d_M_copy_104 : decode u_M_copy.2.1 104 = .ok (.iload_n 3, 1) := by decide +kernel
theorem d_M_copy_105 : decode u_M_copy.2.1 105 = .ok (.iaload, 1) := by decide +kernel
theorem d_M_copy_106 : decode u_M_copy.2.1 106 = .ok (.i2l, 1) := by decide +kernel
theorem d_M_copy_107 : decode u_M_copy.2.1 107 = .ok (.lcmp, 1) := by decide +kernel
theorem d_M_copy_108 : decode u_M_copy.2.1 108 = .ok (.ifCond .le 9, 3) := by decide +kernel
theorem d_M_copy_111 : decode u_M_copy.2.1 111 = .ok (.aload_n 0, 1) := by decide +kernel
theorem d_M_copy_112 : decode u_M_copy.2.1 112 = .ok (.iconst 2, 1) := by decide +kernel
theorem d_M_copy_113 : decode u_M_copy.2.1 113 = .ok (.invokevirtual 85, 3) := by decide +kernel
theorem d_M_copy_116 : decode u_M_copy.2.1 116 = .ok (.ireturn, 1) := by decide +kernel
theorem d_M_copy_117 : decode u_M_copy.2.1 117 = .ok (.iconst 0, 1) := by decide +kernel
theorem d_M_copy_118 : decode u_M_copy.2.1 118 = .ok (.istore 6, 2) := by decide +kernel
theorem d_M_copy_120 : decode u_M_copy.2.1 120 = .ok (.iload 6, 2) := by decide +kernel
theorem d_M_copy_122 : decode u_M_copy.2.1 122 = .ok (.iload 5, 2) := by decide +kernel
theorem d_M_copy_124 : decode u_M_copy.2.1 124 = .ok (.if_icmp .ge 30, 3) := by decide +kernel
theorem d_M_copy_127 : decode u_M_copy.2.1 127 = .ok (.aload_n 0, 1) := by decide +kernel
theorem d_M_copy_128 : decode u_M_copy.2.1 128 = .ok (.getfield 19, 3) := by decide +kernel
theorem d_M_copy_131 : decode u_M_copy.2.1 131 = .ok (.iload 6, 2) := by decide +kernel
theorem d_M_copy_133 : decode u_M_copy.2.1 133 = .ok (.aload_n 0, 1) := by decide +kernel
theorem d_M_copy_134 : decode u_M_copy.2.1 134 = .ok (.getfield 16, 3) := by decide +kernel
theorem d_M_copy_137 : decode u_M_copy.2.1 137 = .ok (.bipush 60, 2) := by decide +kernel
theorem d_M_copy_139 : decode u_M_copy.2.1 139 = .ok (.iload_n 1, 1) := by decide +kernel
theorem d_M_copy_140 : decode u_M_copy.2.1 140 = .ok (.imul, 1) := by decide +kernel
theorem d_M_copy_141 : decode u_M_copy.2.1 141 = .ok (.iload_n 2, 1) := by decide +kernel
theorem d_M_copy_142 : decode u_M_copy.2.1 142 = .ok (.iadd, 1) := by decide +kernel
theorem d_M_copy_143 : decode u_M_copy.2.1 143 = .ok (.iload 6, 2) := by decide +kernel
theorem d_M_copy_145 : decode u_M_copy.2.1 145 = .ok (.iadd, 1) := by decide +kernel
theorem d_M_copy_146 : decode u_M_copy.2.1 146 = .ok (.iaload, 1) := by decide +kernel
theorem d_M_copy_147 : decode u_M_copy.2.1 147 = .ok (.iastore, 1) := by decide +kernel
theorem d_M_copy_148 : decode u_M_copy.2.1 148 = .ok (.iinc 6 1, 3) := by decide +kernel
theorem d_M_copy_151 : decode u_M_copy.2.1 151 = .ok (.goto (-31), 3) := by decide +kernel
theorem d_M_copy_154 : decode u_M_copy.2.1 154 = .ok (.iconst 0, 1) := by decide +kernel
theorem d_M_copy_155 : decode u_M_copy.2.1 155 = .ok (.istore 6, 2) := by decide +kernel
theorem d_M_copy_157 : decode u_M_copy.2.1 157 = .ok (.iload 6, 2) := by decide +kernel
theorem d_M_copy_159 : decode u_M_copy.2.1 159 = .ok (.iload 5, 2) := by decide +kernel
theorem d_M_copy_161 : decode u_M_copy.2.1 161 = .ok (.if_icmp .ge 31, 3) := by decide +kernel
theorem d_M_copy_164 : decode u_M_copy.2.1 164 = .ok (.aload_n 0, 1) := by decide +kernel
theorem d_M_copy_165 : decode u_M_copy.2.1 165 = .ok (.getfield 16, 3) := by decide +kernel
theorem d_M_copy_168 : decode u_M_copy.2.1 168 = .ok (.bipush 60, 2) := by decide +kernel
theorem d_M_copy_170 : decode u_M_copy.2.1 170 = .ok (.iload_n 3, 1) := by decide +kernel
theorem d_M_copy_171 : decode u_M_copy.2.1 171 = .ok (.imul, 1) := by decide +kernel
theorem d_M_copy_172 : decode u_M_copy.2.1 172 = .ok (.iload 4, 2) := by decide +kernel
theorem d_M_copy_174 : decode u_M_copy.2.1 174 = .ok (.iadd, 1) := by decide +kernel
theorem d_M_copy_175 : decode u_M_copy.2.1 175 = .ok (.iload 6, 2) := by decide +kernel
theorem d_M_copy_177 : decode u_M_copy.2.1 177 = .ok (.iadd, 1) := by decide +kernel
theorem d_M_copy_178 : decode u_M_copy.2.1 178 = .ok (.aload_n 0, 1) := by decide +kernel
theorem d_M_copy_179 : decode u_M_copy.2.1 179 = .ok (.getfield 19, 3) := by decide +kernel
theorem d_M_copy_182 : decode u_M_copy.2.1 182 = .ok (.iload 6, 2) := by decide +kernel
theorem d_M_copy_184 : decode u_M_copy.2.1 184 = .ok (.iaload, 1) := by decide +kernel
theorem d_M_copy_185 : decode u_M_copy.2.1 185 = .ok (.iastore, 1) := by decide +kernel
theorem d_M_copy_186 : decode u_M_copy.2.1 186 = .ok (.iinc 6 1, 3) := by decide +kernel
theorem d_M_copy_189 : decode u_M_copy.2.1 189 = .ok (.goto (-32), 3) := by decide +kernel
theorem d_M_copy_192 : decode u_M_copy.2.1 192 = .ok (.iconst 1, 1) := by decide +kernel
theorem d_M_copy_193 : decode u_M_copy.2.1 193 = .ok (.ireturn, 1) := by decide +kernel
theorem d_M_isHead_0 : decode u_M_isHead.2.1 0 = .ok (.iload_n 1, 1) := by decide +kernel
theorem d_M_isHead_1 : decode u_M_isHead.2.1 1 = .ok (.i2l, 1) := by decide +kernel
theorem d_M_isHead_2 : decode u_M_isHead.2.1 2 = .ok (.lconst 0, 1) := by decide +kernel
theorem d_M_isHead_3 : decode u_M_isHead.2.1 3 = .ok (.aload_n 0, 1) := by decide +kernel
theorem d_M_isHead_4 : decode u_M_isHead.2.1 4 = .ok (.getfield 98, 3) := by decide +kernel
theorem d_M_isHead_7 : decode u_M_isHead.2.1 7 = .ok (.iconst 1, 1) := by decide +kernel
theorem d_M_isHead_8 : decode u_M_isHead.2.1 8 = .ok (.isub, 1) := by decide +kernel
theorem d_M_isHead_9 : decode u_M_isHead.2.1 9 = .ok (.i2l, 1) := by decide +kernel
theorem d_M_isHead_10 : decode u_M_isHead.2.1 10 = .ok (.invokestatic 69, 3) := by decide +kernel
theorem d_M_isHead_13 : decode u_M_isHead.2.1 13 = .ok (.ireturn, 1) := by decide +kernel
theorem d_M_isPart_0 : decode u_M_isPart.2.1 0 = .ok (.iload_n 0, 1) := by decide +kernel
theorem d_M_isPart_1 : decode u_M_isPart.2.1 1 = .ok (.i2l, 1) := by decide +kernel
theorem d_M_isPart_2 : decode u_M_isPart.2.1 2 = .ok (.lconst 0, 1) := by decide +kernel
theorem d_M_isPart_3 : decode u_M_isPart.2.1 3 = .ok (.ldc2_w 101, 3) := by decide +kernel
theorem d_M_isPart_6 : decode u_M_isPart.2.1 6 = .ok (.invokestatic 69, 3) := by decide +kernel
theorem d_M_isPart_9 : decode u_M_isPart.2.1 9 = .ok (.ireturn, 1) := by decide +kernel
theorem d_M_isHand_0 : decode u_M_isHand.2.1 0 = .ok (.iload_n 0, 1) := by decide +kernel
theorem d_M_isHand_1 : decode u_M_isHand.2.1 1 = .ok (.i2l, 1) := by decide +kernel
theorem d_M_isHand_2 : decode u_M_isHand.2.1 2 = .ok (.lconst 0, 1) := by decide +kernel
theorem d_M_isHand_3 : decode u_M_isHand.2.1 3 = .ok (.ldc2_w 77, 3) := by decide +kernel
theorem d_M_isHand_6 : decode u_M_isHand.2.1 6 = .ok (.invokestatic 69, 3) := by decide +kernel
theorem d_M_isHand_9 : decode u_M_isHand.2.1 9 = .ok (.ireturn, 1) := by decide +kernel
theorem d_M_isSet_0 : decode u_M_isSet.2.1 0 = .ok (.iload_n 1, 1) := by decide +kernel
theorem d_M_isSet_1 : decode u_M_isSet.2.1 1 = .ok (.i2l, 1) := by decide +kernel
theorem d_M_isSet_2 : decode u_M_isSet.2.1 2 = .ok (.lconst 1, 1) := by decide +kernel
theorem d_M_isSet_3 : decode u_M_isSet.2.1 3 = .ok (.iconst 1, 1) := by decide +kernel
theorem d_M_isSet_4 : decode u_M_isSet.2.1 4 = .ok (.aload_n 0, 1) := by decide +kernel
theorem d_M_isSet_5 : decode u_M_isSet.2.1 5 = .ok (.getfield 98, 3) := by decide +kernel
theorem d_M_isSet_8 : decode u_M_isSet.2.1 8 = .ok (.ishl, 1) := by decide +kernel
theorem d_M_isSet_9 : decode u_M_isSet.2.1 9 = .ok (.iconst 1, 1) := by decide +kernel
theorem d_M_isSet_10 : decode u_M_isSet.2.1 10 = .ok (.isub, 1) := by decide +kernel
theorem d_M_isSet_11 : decode u_M_isSet.2.1 11 = .ok (.i2l, 1) := by decide +kernel
theorem d_M_isSet_12 : decode u_M_isSet.2.1 12 = .ok (.invokestatic 69, 3) := by decide +kernel
theorem d_M_isSet_15 : decode u_M_isSet.2.1 15 = .ok (.ireturn, 1) := by decide +kernel
theorem d_M_head_0 : decode u_M_head.2.1 0 = .ok (.aload_n 0, 1) := by decide +kernel
theorem d_M_head_1 : decode u_M_head.2.1 1 = .ok (.getfield 98, 3) := by decide +kernel
theorem d_M_head_4 : decode u_M_head.2.1 4 = .ok (.bipush 8, 2) := by decide +kernel
theorem d_M_head_6 : decode u_M_head.2.1 6 = .ok (.if_icmp .ne 6, 3) := by decide +kernel
theorem d_M_head_9 : decode u_M_head.2.1 9 = .ok (.bipush (-4), 2) := by decide +kernel
theorem d_M_head_11 : decode u_M_head.2.1 11 = .ok (.ireturn, 1) := by decide +kernel
theorem d_M_head_12 : decode u_M_head.2.1 12 = .ok (.iconst 0, 1) := by decide +kernel
theorem d_M_head_13 : decode u_M_head.2.1 13 = .ok (.istore_n 1, 1) := by decide +kernel
theorem d_M_head_14 : decode u_M_head.2.1 14 = .ok (.iload_n 1, 1) := by decide +kernel
theorem d_M_head_15 : decode u_M_head.2.1 15 = .ok (.bipush 8, 2) := by decide +kernel
theorem d_M_head_17 : decode u_M_head.2.1 17 = .ok (.if_icmp .ge 25, 3) := by decide +kernel
theorem d_M_head_20 : decode u_M_head.2.1 20 = .ok (.aload_n 0, 1) := by decide +kernel
theorem d_M_head_21 : decode u_M_head.2.1 21 = .ok (.getfield 22, 3) := by decide +kernel
theorem d_M_head_24 : decode u_M_head.2.1 24 = .ok (.bipush 8, 2) := by decide +kernel
theorem d_M_head_26 : decode u_M_head.2.1 26 = .ok (.aload_n 0, 1) := by decide +kernel
theorem d_M_head_27 : decode u_M_head.2.1 27 = .ok (.getfield 98, 3) := by decide +kernel
theorem d_M_head_30 : decode u_M_head.2.1 30 = .ok (.imul, 1) := by decide +kernel
theorem d_M_head_31 : decode u_M_head.2.1 31 = .ok (.iload_n 1, 1) := by decide +kernel
theorem d_M_head_32 : decode u_M_head.2.1 32 = .ok (.iadd, 1) := by decide +kernel
theorem d_M_head_33 : decode u_M_head.2.1 33 = .ok (.bipush 50, 2) := by decide +kernel
theorem d_M_head_35 : decode u_M_head.2.1 35 = .ok (.iastore, 1) := by decide +kernel
theorem d_M_head_36 : decode u_M_head.2.1 36 = .ok (.iinc 1 1, 3) := by decide +kernel
theorem d_M_head_39 : decode u_M_head.2.1 39 = .ok (.goto (-25), 3) := by decide +kernel
theorem d_M_head_42 : decode u_M_head.2.1 42 = .ok (.aload_n 0, 1) := by decide +kernel
theorem d_M_head_43 : decode u_M_head.2.1 43 = .ok (.dup, 1) := by decide +kernel
theorem d_M_head_44 : decode u_M_head.2.1 44 = .ok (.getfield 98, 3) := by decide +kernel
theorem d_M_head_47 : decode u_M_head.2.1 47 = .ok (.iconst 1, 1) := by decide +kernel
theorem d_M_head_48 : decode u_M_head.2.1 48 = .ok (.iadd, 1) := by decide +kernel
theorem d_M_head_49 : decode u_M_head.2.1 49 = .ok (.putfield 98, 3) := by decide +kernel
theorem d_M_head_52 : decode u_M_head.2.1 52 = .ok (.aload_n 0, 1) := by decide +kernel
theorem d_M_head_53 : decode u_M_head.2.1 53 = .ok (.getfield 98, 3) := by decide +kernel
theorem d_M_head_56 : decode u_M_head.2.1 56 = .ok (.iconst 1, 1) := by decide +kernel
theorem d_M_head_57 : decode u_M_head.2.1 57 = .ok (.isub, 1) := by decide +kernel
theorem d_M_head_58 : decode u_M_head.2.1 58 = .ok (.ireturn, 1) := by decide +kernel
theorem d_M_place_0 : decode u_M_place.2.1 0 = .ok (.aload_n 0, 1) := by decide +kernel
theorem d_M_place_1 : decode u_M_place.2.1 1 = .ok (.iload_n 1, 1) := by decide +kernel
theorem d_M_place_2 : decode u_M_place.2.1 2 = .ok (.invokevirtual 103, 3) := by decide +kernel
theorem d_M_place_5 : decode u_M_place.2.1 5 = .ok (.ifCond .eq 22, 3) := by decide +kernel
theorem d_M_place_8 : decode u_M_place.2.1 8 = .ok (.iload_n 2, 1) := by decide +kernel
theorem d_M_place_9 : decode u_M_place.2.1 9 = .ok (.invokestatic 106, 3) := by decide +kernel
theorem d_M_place_12 : decode u_M_place.2.1 12 = .ok (.ifCond .eq 15, 3) := by decide +kernel
theorem d_M_place_15 : decode u_M_place.2.1 15 = .ok (.iload_n 3, 1) := by decide +kernel
theorem d_M_place_16 : decode u_M_place.2.1 16 = .ok (.i2l, 1) := by decide +kernel
theorem d_M_place_17 : decode u_M_place.2.1 17 = .ok (.lconst 0, 1) := by decide +kernel
theorem d_M_place_18 : decode u_M_place.2.1 18 = .ok (.ldc2_w 109, 3) := by decide +kernel
theorem d_M_place_21 : decode u_M_place.2.1 21 = .ok (.invokestatic 69, 3) := by decide +kernel
theorem d_M_place_24 : decode u_M_place.2.1 24 = .ok (.ifCond .ne 6, 3) := by decide +kernel
theorem d_M_place_27 : decode u_M_place.2.1 27 = .ok (.bipush (-2), 2) := by decide +kernel
theorem d_M_place_29 : decode u_M_place.2.1 29 = .ok (.ireturn, 1) := by decide +kernel
theorem d_M_place_30 : decode u_M_place.2.1 30 = .ok (.aload_n 0, 1) := by decide +kernel
theorem d_M_place_31 : decode u_M_place.2.1 31 = .ok (.getfield 22, 3) := by decide +kernel
theorem d_M_place_34 : decode u_M_place.2.1 34 = .ok (.bipush 8, 2) := by decide +kernel
theorem d_M_place_36 : decode u_M_place.2.1 36 = .ok (.iload_n 1, 1) := by decide +kernel
theorem d_M_place_37 : decode u_M_place.2.1 37 = .ok (.imul, 1) := by decide +kernel
theorem d_M_place_38 : decode u_M_place.2.1 38 = .ok (.iload_n 2, 1) := by decide +kernel
theorem d_M_place_39 : decode u_M_place.2.1 39 = .ok (.iadd, 1) := by decide +kernel
theorem d_M_place_40 : decode u_M_place.2.1 40 = .ok (.iaload, 1) := by decide +kernel
theorem d_M_place_41 : decode u_M_place.2.1 41 = .ok (.istore 4, 2) := by decide +kernel
theorem d_M_place_43 : decode u_M_place.2.1 43 = .ok (.aload_n 0, 1) := by decide +kernel
theorem d_M_place_44 : decode u_M_place.2.1 44 = .ok (.getfield 22, 3) := by decide +kernel
theorem d_M_place_47 : decode u_M_place.2.1 47 = .ok (.bipush 8, 2) := by decide +kernel
theorem d_M_place_49 : decode u_M_place.2.1 49 = .ok (.iload_n 1, 1) := by decide +kernel
theorem d_M_place_50 : decode u_M_place.2.1 50 = .ok (.imul, 1) := by decide +kernel
theorem d_M_place_51 : decode u_M_place.2.1 51 = .ok (.iload_n 2, 1) := by decide +kernel
theorem d_M_place_52 : decode u_M_place.2.1 52 = .ok (.iadd, 1) := by decide +kernel
theorem d_M_place_53 : decode u_M_place.2.1 53 = .ok (.iload_n 3, 1) := by decide +kernel
theorem d_M_place_54 : decode u_M_place.2.1 54 = .ok (.iastore, 1) := by decide +kernel
theorem d_M_place_55 : decode u_M_place.2.1 55 = .ok (.iload 4, 2) := by decide +kernel
theorem d_M_place_57 : decode u_M_place.2.1 57 = .ok (.ireturn, 1) := by decide +kernel
theorem d_M_read_0 : decode u_M_read.2.1 0 = .ok (.iload_n 1, 1) := by decide +kernel
theorem d_M_read_1 : decode u_M_read.2.1 1 = .ok (.invokestatic 79, 3) := by decide +kernel
theorem d_M_read_4 : decode u_M_read.2.1 4 = .ok (.ifCond .eq 11, 3) := by decide +kernel
theorem d_M_read_7 : decode u_M_read.2.1 7 = .ok (.aload_n 0, 1) := by decide +kernel
theorem d_M_read_8 : decode u_M_read.2.1 8 = .ok (.iload_n 2, 1) := by decide +kernel
theorem d_M_read_9 : decode u_M_read.2.1 9 = .ok (.invokevirtual 103, 3) := by decide +kernel
theorem d_M_read_12 : decode u_M_read.2.1 12 = .ok (.ifCond .ne 6, 3) := by decide +kernel
theorem d_M_read_15 : decode u_M_read.2.1 15 = .ok (.bipush (-2), 2) := by decide +kernel
theorem d_M_read_17 : decode u_M_read.2.1 17 = .ok (.ireturn, 1) := by decide +kernel
theorem d_M_read_18 : decode u_M_read.2.1 18 = .ok (.aload_n 0, 1) := by decide +kernel
theorem d_M_read_19 : decode u_M_read.2.1 19 = .ok (.getfield 7, 3) := by decide +kernel
theorem d_M_read_22 : decode u_M_read.2.1 22 = .ok (.iload_n 1, 1) := by decide +kernel
theorem d_M_read_23 : decode u_M_read.2.1 23 = .ok (.iaload, 1) := by decide +kernel
theorem d_M_read_24 : decode u_M_read.2.1 24 = .ok (.ifCond .ge 9, 3) := by decide +kernel
theorem d_M_read_27 : decode u_M_read.2.1 27 = .ok (.aload_n 0, 1) := by decide +kernel
theorem d_M_read_28 : decode u_M_read.2.1 28 = .ok (.iconst 1, 1) := by decide +kernel
theorem d_M_read_29 : decode u_M_read.2.1 29 = .ok (.invokevirtual 85, 3) := by decide +kernel
theorem d_M_read_32 : decode u_M_read.2.1 32 = .ok (.ireturn, 1) := by decide +kernel
theorem d_M_read_33 : decode u_M_read.2.1 33 = .ok (.iconst 0, 1) := by decide +kernel
theorem d_M_read_34 : decode u_M_read.2.1 34 = .ok (.istore_n 3, 1) := by decide +kernel
theorem d_M_read_35 : decode u_M_read.2.1 35 = .ok (.iload_n 3, 1) := by decide +kernel
theorem d_M_read_36 : decode u_M_read.2.1 36 = .ok (.aload_n 0, 1) := by decide +kernel
theorem d_M_read_37 : decode u_M_read.2.1 37 = .ok (.getfield 13, 3) := by decide +kernel
theorem d_M_read_40 : decode u_M_read.2.1 40 = .ok (.iload_n 1, 1) := by decide +kernel
theorem d_M_read_41 : decode u_M_read.2.1 41 = .ok (.iaload, 1) := by decide +kernel
theorem d_M_read_42 : decode u_M_read.2.1 42 = .ok (.if_icmp .ge 29, 3) := by decide +kernel
theorem d_M_read_45 : decode u_M_read.2.1 45 = .ok (.aload_n 0, 1) := by decide +kernel
theorem d_M_read_46 : decode u_M_read.2.1 46 = .ok (.iload_n 2, 1) := by decide +kernel
theorem d_M_read_47 : decode u_M_read.2.1 47 = .ok (.iload_n 3, 1) := by decide +kernel
theorem d_M_read_48 : decode u_M_read.2.1 48 = .ok (.aload_n 0, 1) := by decide +kernel
theorem d_M_read_49 : decode u_M_read.2.1 49 = .ok (.getfield 16, 3) := by decide +kernel
theorem d_M_read_52 : decode u_M_read.2.1 52 = .ok (.bipush 60, 2) := by decide +kernel
theorem d_M_read_54 : decode u_M_read.2.1 54 = .ok (.iload_n 1, 1) := by decide +kernel
theorem d_M_read_55 : decode u_M_read.2.1 55 = .ok (.imul, 1) := by decide +kernel
theorem d_M_read_56 : decode u_M_read.2.1 56 = .ok (.iload_n 3, 1) := by decide +kernel
theorem d_M_read_57 : decode u_M_read.2.1 57 = .ok (.iadd, 1) := by decide +kernel
theorem d_M_read_58 : decode u_M_read.2.1 58 = .ok (.iaload, 1) := by decide +kernel
theorem d_M_read_59 : decode u_M_read.2.1 59 = .ok (.invokevirtual 111, 3) := by decide +kernel
theorem d_M_read_62 : decode u_M_read.2.1 62 = .ok (.ifCond .lt 9, 3) := by decide +kernel
theorem d_M_read_65 : decode u_M_read.2.1 65 = .ok (.iinc 3 1, 3) := by decide +kernel
theorem d_M_read_68 : decode u_M_read.2.1 68 = .ok (.goto (-33), 3) := by decide +kernel
theorem d_M_read_71 : decode u_M_read.2.1 71 = .ok (.iload_n 3, 1) := by decide +kernel
theorem d_M_read_72 : decode u_M_read.2.1 72 = .ok (.ireturn, 1) := by decide +kernel
theorem d_M_meanOf_0 : decode u_M_meanOf.2.1 0 = .ok (.iconst 0, 1) := by decide +kernel
theorem d_M_meanOf_1 : decode u_M_meanOf.2.1 1 = .ok (.istore_n 3, 1) := by decide +kernel
theorem d_M_meanOf_2 : decode u_M_meanOf.2.1 2 = .ok (.iconst 0, 1) := by decide +kernel
theorem d_M_meanOf_3 : decode u_M_meanOf.2.1 3 = .ok (.istore 4, 2) := by decide +kernel
theorem d_M_meanOf_5 : decode u_M_meanOf.2.1 5 = .ok (.iconst 0, 1) := by decide +kernel
theorem d_M_meanOf_6 : decode u_M_meanOf.2.1 6 = .ok (.istore 5, 2) := by decide +kernel
theorem d_M_meanOf_8 : decode u_M_meanOf.2.1 8 = .ok (.iload 5, 2) := by decide +kernel
theorem d_M_meanOf_10 : decode u_M_meanOf.2.1 10 = .ok (.aload_n 0, 1) := by decide +kernel
theorem d_M_meanOf_11 : decode u_M_meanOf.2.1 11 = .ok (.getfield 98, 3) := by decide +kernel
theorem d_M_meanOf_14 : decode u_M_meanOf.2.1 14 = .ok (.if_icmp .ge 65, 3) := by decide +kernel
theorem d_M_meanOf_17 : decode u_M_meanOf.2.1 17 = .ok (.iload_n 1, 1) := by decide +kernel
theorem d_M_meanOf_18 : decode u_M_meanOf.2.1 18 = .ok (.iload 5, 2) := by decide +kernel
theorem d_M_meanOf_20 : decode u_M_meanOf.2.1 20 = .ok (.ishr, 1) := by decide +kernel
theorem d_M_meanOf_21 : decode u_M_meanOf.2.1 21 = .ok (.iconst 1, 1) := by decide +kernel
theorem d_M_meanOf_22 : decode u_M_meanOf.2.1 22 = .ok (.iand, 1) := by decide +kernel
theorem d_M_meanOf_23 : decode u_M_meanOf.2.1 23 = .ok (.iconst 1, 1) := by decide +kernel
theorem d_M_meanOf_24 : decode u_M_meanOf.2.1 24 = .ok (.if_icmp .ne 7, 3) := by decide +kernel
theorem d_M_meanOf_27 : decode u_M_meanOf.2.1 27 = .ok (.iconst 1, 1) := by decide +kernel
theorem d_M_meanOf_28 : decode u_M_meanOf.2.1 28 = .ok (.goto 4, 3) := by decide +kernel
theorem d_M_meanOf_31 : decode u_M_meanOf.2.1 31 = .ok (.iconst 0, 1) := by decide +kernel
theorem d_M_meanOf_32 : decode u_M_meanOf.2.1 32 = .ok (.istore 6, 2) := by decide +kernel
theorem d_M_meanOf_34 : decode u_M_meanOf.2.1 34 = .ok (.iload_n 3, 1) := by decide +kernel
theorem d_M_meanOf_35 : decode u_M_meanOf.2.1 35 = .ok (.iload 6, 2) := by decide +kernel
theorem d_M_meanOf_37 : decode u_M_meanOf.2.1 37 = .ok (.ifCond .eq 18, 3) := by decide +kernel
theorem d_M_meanOf_40 : decode u_M_meanOf.2.1 40 = .ok (.aload_n 0, 1) := by decide +kernel
theorem d_M_meanOf_41 : decode u_M_meanOf.2.1 41 = .ok (.getfield 22, 3) := by decide +kernel
theorem d_M_meanOf_44 : decode u_M_meanOf.2.1 44 = .ok (.bipush 8, 2) := by decide +kernel
theorem d_M_meanOf_46 : decode u_M_meanOf.2.1 46 = .ok (.iload 5, 2) := by decide +kernel
theorem d_M_meanOf_48 : decode u_M_meanOf.2.1 48 = .ok (.imul, 1) := by decide +kernel
theorem d_M_meanOf_49 : decode u_M_meanOf.2.1 49 = .ok (.iload_n 2, 1) := by decide +kernel
theorem d_M_meanOf_50 : decode u_M_meanOf.2.1 50 = .ok (.iadd, 1) := by decide +kernel
theorem d_M_meanOf_51 : decode u_M_meanOf.2.1 51 = .ok (.iaload, 1) := by decide +kernel
theorem d_M_meanOf_52 : decode u_M_meanOf.2.1 52 = .ok (.goto 4, 3) := by decide +kernel
theorem d_M_meanOf_55 : decode u_M_meanOf.2.1 55 = .ok (.iconst 0, 1) := by decide +kernel
theorem d_M_meanOf_56 : decode u_M_meanOf.2.1 56 = .ok (.iadd, 1) := by decide +kernel
theorem d_M_meanOf_57 : decode u_M_meanOf.2.1 57 = .ok (.istore_n 3, 1) := by decide +kernel
theorem d_M_meanOf_58 : decode u_M_meanOf.2.1 58 = .ok (.iload 4, 2) := by decide +kernel
theorem d_M_meanOf_60 : decode u_M_meanOf.2.1 60 = .ok (.iload 6, 2) := by decide +kernel
theorem d_M_meanOf_62 : decode u_M_meanOf.2.1 62 = .ok (.ifCond .eq 7, 3) := by decide +kernel
theorem d_M_meanOf_65 : decode u_M_meanOf.2.1 65 = .ok (.iconst 1, 1) := by decide +kernel
theorem d_M_meanOf_66 : decode u_M_meanOf.2.1 66 = .ok (.goto 4, 3) := by decide +kernel
theorem d_M_meanOf_69 : decode u_M_meanOf.2.1 69 = .ok (.iconst 0, 1) := by decide +kernel
theorem d_M_meanOf_70 : decode u_M_meanOf.2.1 70 = .ok (.iadd, 1) := by decide +kernel
theorem d_M_meanOf_71 : decode u_M_meanOf.2.1 71 = .ok (.istore 4, 2) := by decide +kernel
theorem d_M_meanOf_73 : decode u_M_meanOf.2.1 73 = .ok (.iinc 5 1, 3) := by decide +kernel
theorem d_M_meanOf_76 : decode u_M_meanOf.2.1 76 = .ok (.goto (-68), 3) := by decide +kernel
theorem d_M_meanOf_79 : decode u_M_meanOf.2.1 79 = .ok (.iload_n 3, 1) := by decide +kernel
theorem d_M_meanOf_80 : decode u_M_meanOf.2.1 80 = .ok (.iload 4, 2) := by decide +kernel
theorem d_M_meanOf_82 : decode u_M_meanOf.2.1 82 = .ok (.idiv, 1) := by decide +kernel
theorem d_M_meanOf_83 : decode u_M_meanOf.2.1 83 = .ok (.ireturn, 1) := by decide +kernel
theorem d_M_mean_0 : decode u_M_mean.2.1 0 = .ok (.aload_n 0, 1) := by decide +kernel
theorem d_M_mean_1 : decode u_M_mean.2.1 1 = .ok (.iload_n 1, 1) := by decide +kernel
theorem d_M_mean_2 : decode u_M_mean.2.1 2 = .ok (.invokevirtual 114, 3) := by decide +kernel
theorem d_M_mean_5 : decode u_M_mean.2.1 5 = .ok (.ifCond .eq 19, 3) := by decide +kernel
theorem d_M_mean_8 : decode u_M_mean.2.1 8 = .ok (.iload_n 2, 1) := by decide +kernel
theorem d_M_mean_9 : decode u_M_mean.2.1 9 = .ok (.invokestatic 106, 3) := by decide +kernel
theorem d_M_mean_12 : decode u_M_mean.2.1 12 = .ok (.ifCond .eq 12, 3) := by decide +kernel
theorem d_M_mean_15 : decode u_M_mean.2.1 15 = .ok (.aload_n 0, 1) := by decide +kernel
theorem d_M_mean_16 : decode u_M_mean.2.1 16 = .ok (.iload_n 1, 1) := by decide +kernel
theorem d_M_mean_17 : decode u_M_mean.2.1 17 = .ok (.iload_n 2, 1) := by decide +kernel
theorem d_M_mean_18 : decode u_M_mean.2.1 18 = .ok (.invokevirtual 117, 3) := by decide +kernel
theorem d_M_mean_21 : decode u_M_mean.2.1 21 = .ok (.goto 5, 3) := by decide +kernel
theorem d_M_mean_24 : decode u_M_mean.2.1 24 = .ok (.bipush (-2), 2) := by decide +kernel
theorem d_M_mean_26 : decode u_M_mean.2.1 26 = .ok (.ireturn, 1) := by decide +kernel
theorem d_M_type_0 : decode u_M_type.2.1 0 = .ok (.iload_n 1, 1) := by decide +kernel
theorem d_M_type_1 : decode u_M_type.2.1 1 = .ok (.invokestatic 120, 3) := by decide +kernel
theorem d_M_type_4 : decode u_M_type.2.1 4 = .ok (.ifCond .eq 15, 3) := by decide +kernel
theorem d_M_type_7 : decode u_M_type.2.1 7 = .ok (.iload_n 2, 1) := by decide +kernel
theorem d_M_type_8 : decode u_M_type.2.1 8 = .ok (.i2l, 1) := by decide +kernel
theorem d_M_type_9 : decode u_M_type.2.1 9 = .ok (.lconst 0, 1) := by decide +kernel
theorem d_M_type_10 : decode u_M_type.2.1 10 = .ok (.ldc2_w 123, 3) := by decide +kernel
theorem d_M_type_13 : decode u_M_type.2.1 13 = .ok (.invokestatic 69, 3) := by decide +kernel
theorem d_M_type_16 : decode u_M_type.2.1 16 = .ok (.ifCond .ne 6, 3) := by decide +kernel
theorem d_M_type_19 : decode u_M_type.2.1 19 = .ok (.bipush (-2), 2) := by decide +kernel
theorem d_M_type_21 : decode u_M_type.2.1 21 = .ok (.ireturn, 1) := by decide +kernel
theorem d_M_type_22 : decode u_M_type.2.1 22 = .ok (.aload_n 0, 1) := by decide +kernel
theorem d_M_type_23 : decode u_M_type.2.1 23 = .ok (.getfield 28, 3) := by decide +kernel
theorem d_M_type_26 : decode u_M_type.2.1 26 = .ok (.iload_n 1, 1) := by decide +kernel
theorem d_M_type_27 : decode u_M_type.2.1 27 = .ok (.iaload, 1) := by decide +kernel
theorem d_M_type_28 : decode u_M_type.2.1 28 = .ok (.bipush 40, 2) := by decide +kernel
theorem d_M_type_30 : decode u_M_type.2.1 30 = .ok (.if_icmp .ne 6, 3) := by decide +kernel
theorem d_M_type_33 : decode u_M_type.2.1 33 = .ok (.bipush (-4), 2) := by decide +kernel
theorem d_M_type_35 : decode u_M_type.2.1 35 = .ok (.ireturn, 1) := by decide +kernel
theorem d_M_type_36 : decode u_M_type.2.1 36 = .ok (.aload_n 0, 1) := by decide +kernel
theorem d_M_type_37 : decode u_M_type.2.1 37 = .ok (.getfield 25, 3) := by decide +kernel
theorem d_M_type_40 : decode u_M_type.2.1 40 = .ok (.bipush 40, 2) := by decide +kernel
theorem d_M_type_42 : decode u_M_type.2.1 42 = .ok (.iload_n 1, 1) := by decide +kernel
theorem d_M_type_43 : decode u_M_type.2.1 43 = .ok (.imul, 1) := by decide +kernel
theorem d_M_type_44 : decode u_M_type.2.1 44 = .ok (.aload_n 0, 1) := by decide +kernel
theorem d_M_type_45 : decode u_M_type.2.1 45 = .ok (.getfield 28, 3) := by decide +kernel
theorem d_M_type_48 : decode u_M_type.2.1 48 = .ok (.iload_n 1, 1) := by decide +kernel
theorem d_M_type_49 : decode u_M_type.2.1 49 = .ok (.iaload, 1) := by decide +kernel
theorem d_M_type_50 : decode u_M_type.2.1 50 = .ok (.iadd, 1) := by decide +kernel
theorem d_M_type_51 : decode u_M_type.2.1 51 = .ok (.iload_n 2, 1) := by decide +kernel
theorem d_M_type_52 : decode u_M_type.2.1 52 = .ok (.iastore, 1) := by decide +kernel
theorem d_M_type_53 : decode u_M_type.2.1 53 = .ok (.aload_n 0, 1) := by decide +kernel
theorem d_M_type_54 : decode u_M_type.2.1 54 = .ok (.getfield 28, 3) := by decide +kernel
theorem d_M_type_57 : decode u_M_type.2.1 57 = .ok (.iload_n 1, 1) := by decide +kernel
theorem d_M_type_58 : decode u_M_type.2.1 58 = .ok (.dup2, 1) := by decide +kernel
theorem d_M_type_59 : decode u_M_type.2.1 59 = .ok (.iaload, 1) := by decide +kernel
theorem d_M_type_60 : decode u_M_type.2.1 60 = .ok (.iconst 1, 1) := by decide +kernel
theorem d_M_type_61 : decode u_M_type.2.1 61 = .ok (.iadd, 1) := by decide +kernel
theorem d_M_type_62 : decode u_M_type.2.1 62 = .ok (.iastore, 1) := by decide +kernel
theorem d_M_type_63 : decode u_M_type.2.1 63 = .ok (.aload_n 0, 1) := by decide +kernel
theorem d_M_type_64 : decode u_M_type.2.1 64 = .ok (.getfield 28, 3) := by decide +kernel
theorem d_M_type_67 : decode u_M_type.2.1 67 = .ok (.iload_n 1, 1) := by decide +kernel
theorem d_M_type_68 : decode u_M_type.2.1 68 = .ok (.iaload, 1) := by decide +kernel
theorem d_M_type_69 : decode u_M_type.2.1 69 = .ok (.ireturn, 1) := by decide +kernel
theorem d_M_wipe_0 : decode u_M_wipe.2.1 0 = .ok (.iload_n 1, 1) := by decide +kernel
theorem d_M_wipe_1 : decode u_M_wipe.2.1 1 = .ok (.invokestatic 120, 3) := by decide +kernel
theorem d_M_wipe_4 : decode u_M_wipe.2.1 4 = .ok (.ifCond .ne 6, 3) := by decide +kernel
theorem d_M_wipe_7 : decode u_M_wipe.2.1 7 = .ok (.bipush (-2), 2) := by decide +kernel
theorem d_M_wipe_9 : decode u_M_wipe.2.1 9 = .ok (.ireturn, 1) := by decide +kernel
theorem d_M_wipe_10 : decode u_M_wipe.2.1 10 = .ok (.aload_n 0, 1) := by decide +kernel
theorem d_M_wipe_11 : decode u_M_wipe.2.1 11 = .ok (.getfield 28, 3) := by decide +kernel
theorem d_M_wipe_14 : decode u_M_wipe.2.1 14 = .ok (.iload_n 1, 1) := by decide +kernel
theorem d_M_wipe_15 : decode u_M_wipe.2.1 15 = .ok (.iaload, 1) := by decide +kernel
theorem d_M_wipe_16 : decode u_M_wipe.2.1 16 = .ok (.istore_n 2, 1) := by decide +kernel
theorem d_M_wipe_17 : decode u_M_wipe.2.1 17 = .ok (.aload_n 0, 1) := by decide +kernel
theorem d_M_wipe_18 : decode u_M_wipe.2.1 18 = .ok (.getfield 28, 3) := by decide +kernel
theorem d_M_wipe_21 : decode u_M_wipe.2.1 21 = .ok (.iload_n 1, 1) := by decide +kernel
theorem d_M_wipe_22 : decode u_M_wipe.2.1 22 = .ok (.iconst 0, 1) := by decide +kernel
theorem d_M_wipe_23 : decode u_M_wipe.2.1 23 = .ok (.iastore, 1) := by decide +kernel
theorem d_M_wipe_24 : decode u_M_wipe.2.1 24 = .ok (.iload_n 2, 1) := by decide +kernel
theorem d_M_wipe_25 : decode u_M_wipe.2.1 25 = .ok (.ireturn, 1) := by decide +kernel
theorem d_M_here_0 : decode u_M_here.2.1 0 = .ok (.aload_n 0, 1) := by decide +kernel
theorem d_M_here_1 : decode u_M_here.2.1 1 = .ok (.getfield 125, 3) := by decide +kernel
theorem d_M_here_4 : decode u_M_here.2.1 4 = .ok (.aload_n 0, 1) := by decide +kernel
theorem d_M_here_5 : decode u_M_here.2.1 5 = .ok (.getfield 28, 3) := by decide +kernel
theorem d_M_here_8 : decode u_M_here.2.1 8 = .ok (.iload_n 1, 1) := by decide +kernel
theorem d_M_here_9 : decode u_M_here.2.1 9 = .ok (.iaload, 1) := by decide +kernel
theorem d_M_here_10 : decode u_M_here.2.1 10 = .ok (.if_icmp .ge 20, 3) := by decide +kernel
theorem d_M_here_13 : decode u_M_here.2.1 13 = .ok (.aload_n 0, 1) := by decide +kernel
theorem d_M_here_14 : decode u_M_here.2.1 14 = .ok (.getfield 25, 3) := by decide +kernel
theorem d_M_here_17 : decode u_M_here.2.1 17 = .ok (.bipush 40, 2) := by decide +kernel
theorem d_M_here_19 : decode u_M_here.2.1 19 = .ok (.iload_n 1, 1) := by decide +kernel
theorem d_M_here_20 : decode u_M_here.2.1 20 = .ok (.imul, 1) := by decide +kernel
theorem d_M_here_21 : decode u_M_here.2.1 21 = .ok (.aload_n 0, 1) := by decide +kernel
theorem d_M_here_22 : decode u_M_here.2.1 22 = .ok (.getfield 125, 3) := by decide +kernel
theorem d_M_here_25 : decode u_M_here.2.1 25 = .ok (.iadd, 1) := by decide +kernel
theorem d_M_here_26 : decode u_M_here.2.1 26 = .ok (.iaload, 1) := by decide +kernel
theorem d_M_here_27 : decode u_M_here.2.1 27 = .ok (.goto 4, 3) := by decide +kernel
theorem d_M_here_30 : decode u_M_here.2.1 30 = .ok (.iconst (-1), 1) := by decide +kernel
theorem d_M_here_31 : decode u_M_here.2.1 31 = .ok (.ireturn, 1) := by decide +kernel
theorem d_M_number_0 : decode u_M_number.2.1 0 = .ok (.aload_n 0, 1) := by decide +kernel
theorem d_M_number_1 : decode u_M_number.2.1 1 = .ok (.getfield 125, 3) := by decide +kernel
theorem d_M_number_4 : decode u_M_number.2.1 4 = .ok (.istore_n 2, 1) := by decide +kernel
theorem d_M_number_5 : decode u_M_number.2.1 5 = .ok (.iconst 0, 1) := by decide +kernel
theorem d_M_number_6 : decode u_M_number.2.1 6 = .ok (.istore_n 3, 1) := by decide +kernel
theorem d_M_number_7 : decode u_M_number.2.1 7 = .ok (.aload_n 0, 1) := by decide +kernel
theorem d_M_number_8 : decode u_M_number.2.1 8 = .ok (.getfield 125, 3) := by decide +kernel
theorem d_M_number_11 : decode u_M_number.2.1 11 = .ok (.iload_n 2, 1) := by decide +kernel
theorem d_M_number_12 : decode u_M_number.2.1 12 = .ok (.iconst 2, 1) := by decide +kernel
theorem d_M_number_13 : decode u_M_number.2.1 13 = .ok (.iadd, 1) := by decide +kernel
theorem d_M_number_14 : decode u_M_number.2.1 14 = .ok (.if_icmp .ge 48, 3) := by decide +kernel
theorem d_M_number_17 : decode u_M_number.2.1 17 = .ok (.aload_n 0, 1) := by decide +kernel
theorem d_M_number_18 : decode u_M_number.2.1 18 = .ok (.iload_n 1, 1) := by decide +kernel
theorem d_M_number_19 : decode u_M_number.2.1 19 = .ok (.invokevirtual 128, 3) := by decide +kernel
theorem d_M_number_22 : decode u_M_number.2.1 22 = .ok (.i2l, 1) := by decide +kernel
theorem d_M_number_23 : decode u_M_number.2.1 23 = .ok (.ldc2_w 131, 3) := by decide +kernel
theorem d_M_number_26 : decode u_M_number.2.1 26 = .ok (.ldc2_w 133, 3) := by decide +kernel
theorem d_M_number_29 : decode u_M_number.2.1 29 = .ok (.invokestatic 69, 3) := by decide +kernel
theorem d_M_number_32 : decode u_M_number.2.1 32 = .ok (.ifCond .eq 30, 3) := by decide +kernel
theorem d_M_number_35 : decode u_M_number.2.1 35 = .ok (.bipush 10, 2) := by decide +kernel
theorem d_M_number_37 : decode u_M_number.2.1 37 = .ok (.iload_n 3, 1) := by decide +kernel
theorem d_M_number_38 : decode u_M_number.2.1 38 = .ok (.imul, 1) := by decide +kernel
theorem d_M_number_39 : decode u_M_number.2.1 39 = .ok (.aload_n 0, 1) := by decide +kernel
theorem d_M_number_40 : decode u_M_number.2.1 40 = .ok (.iload_n 1, 1) := by decide +kernel
theorem d_M_number_41 : decode u_M_number.2.1 41 = .ok (.invokevirtual 128, 3) := by decide +kernel
theorem d_M_number_44 : decode u_M_number.2.1 44 = .ok (.iadd, 1) := by decide +kernel
theorem d_M_number_45 : decode u_M_number.2.1 45 = .ok (.bipush 48, 2) := by decide +kernel
theorem d_M_number_47 : decode u_M_number.2.1 47 = .ok (.isub, 1) := by decide +kernel
theorem d_M_number_48 : decode u_M_number.2.1 48 = .ok (.istore_n 3, 1) := by decide +kernel
end
section
theorem d_M_number_49 : decode u_M_number.2.1 49 = .ok (.aload_n 0, 1) := by decide +kernel
theorem d_M_number_50 : decode u_M_number.2.1 50 = .ok (.dup, 1) := by decide +kernel
theorem d_M_number_51 : decode u_M_number.2.1 51 = .ok (.getfield 125, 3) := by decide +kernel
theorem d_M_number_54 : decode u_M_number.2.1 54 = .ok (.iconst 1, 1) := by decide +kernel
theorem d_M_number_55 : decode u_M_number.2.1 55 = .ok (.iadd, 1) := by decide +kernel
theorem d_M_number_56 : decode u_M_number.2.1 56 = .ok (.putfield 125, 3) := by decide +kernel
theorem d_M_number_59 : decode u_M_number.2.1 59 = .ok (.goto (-52), 3) := by decide +kernel
theorem d_M_number_62 : decode u_M_number.2.1 62 = .ok (.aload_n 0, 1) := by decide +kernel
theorem d_M_number_63 : decode u_M_number.2.1 63 = .ok (.getfield 125, 3) := by decide +kernel
theorem d_M_number_66 : decode u_M_number.2.1 66 = .ok (.iload_n 2, 1) := by decide +kernel
theorem d_M_number_67 : decode u_M_number.2.1 67 = .ok (.if_icmp .le 11, 3) := by decide +kernel
theorem d_M_number_70 : decode u_M_number.2.1 70 = .ok (.iload_n 3, 1) := by decide +kernel
theorem d_M_number_71 : decode u_M_number.2.1 71 = .ok (.bipush 60, 2) := by decide +kernel
theorem d_M_number_73 : decode u_M_number.2.1 73 = .ok (.if_icmp .gt 5, 3) := by decide +kernel
theorem d_M_number_76 : decode u_M_number.2.1 76 = .ok (.iload_n 3, 1) := by decide +kernel
theorem d_M_number_77 : decode u_M_number.2.1 77 = .ok (.ireturn, 1) := by decide +kernel
theorem d_M_number_78 : decode u_M_number.2.1 78 = .ok (.aload_n 0, 1) := by decide +kernel
theorem d_M_number_79 : decode u_M_number.2.1 79 = .ok (.iload_n 2, 1) := by decide +kernel
theorem d_M_number_80 : decode u_M_number.2.1 80 = .ok (.putfield 125, 3) := by decide +kernel
theorem d_M_number_83 : decode u_M_number.2.1 83 = .ok (.iconst (-1), 1) := by decide +kernel
theorem d_M_number_84 : decode u_M_number.2.1 84 = .ok (.ireturn, 1) := by decide +kernel
theorem d_M_readsPiece_0 : decode u_M_readsPiece.2.1 0 = .ok (.aload_n 0, 1) := by decide +kernel
theorem d_M_readsPiece_1 : decode u_M_readsPiece.2.1 1 = .ok (.iload_n 1, 1) := by decide +kernel
theorem d_M_readsPiece_2 : decode u_M_readsPiece.2.1 2 = .ok (.invokevirtual 128, 3) := by decide +kernel
theorem d_M_readsPiece_5 : decode u_M_readsPiece.2.1 5 = .ok (.bipush 42, 2) := by decide +kernel
theorem d_M_readsPiece_7 : decode u_M_readsPiece.2.1 7 = .ok (.if_icmp .ne 8, 3) := by decide +kernel
theorem d_M_readsPiece_10 : decode u_M_readsPiece.2.1 10 = .ok (.bipush 8, 2) := by decide +kernel
theorem d_M_readsPiece_12 : decode u_M_readsPiece.2.1 12 = .ok (.goto 11, 3) := by decide +kernel
theorem d_M_readsPiece_15 : decode u_M_readsPiece.2.1 15 = .ok (.aload_n 0, 1) := by decide +kernel
theorem d_M_readsPiece_16 : decode u_M_readsPiece.2.1 16 = .ok (.iload_n 1, 1) := by decide +kernel
theorem d_M_readsPiece_17 : decode u_M_readsPiece.2.1 17 = .ok (.invokevirtual 128, 3) := by decide +kernel
theorem d_M_readsPiece_20 : decode u_M_readsPiece.2.1 20 = .ok (.bipush 48, 2) := by decide +kernel
theorem d_M_readsPiece_22 : decode u_M_readsPiece.2.1 22 = .ok (.isub, 1) := by decide +kernel
theorem d_M_readsPiece_23 : decode u_M_readsPiece.2.1 23 = .ok (.istore_n 2, 1) := by decide +kernel
theorem d_M_readsPiece_24 : decode u_M_readsPiece.2.1 24 = .ok (.iload_n 2, 1) := by decide +kernel
theorem d_M_readsPiece_25 : decode u_M_readsPiece.2.1 25 = .ok (.i2l, 1) := by decide +kernel
theorem d_M_readsPiece_26 : decode u_M_readsPiece.2.1 26 = .ok (.lconst 0, 1) := by decide +kernel
theorem d_M_readsPiece_27 : decode u_M_readsPiece.2.1 27 = .ok (.ldc2_w 135, 3) := by decide +kernel
theorem d_M_readsPiece_30 : decode u_M_readsPiece.2.1 30 = .ok (.invokestatic 69, 3) := by decide +kernel
theorem d_M_readsPiece_33 : decode u_M_readsPiece.2.1 33 = .ok (.ifCond .eq 19, 3) := by decide +kernel
theorem d_M_readsPiece_36 : decode u_M_readsPiece.2.1 36 = .ok (.iload_n 2, 1) := by decide +kernel
theorem d_M_readsPiece_37 : decode u_M_readsPiece.2.1 37 = .ok (.bipush 8, 2) := by decide +kernel
theorem d_M_readsPiece_39 : decode u_M_readsPiece.2.1 39 = .ok (.if_icmp .ne 15, 3) := by decide +kernel
theorem d_M_readsPiece_42 : decode u_M_readsPiece.2.1 42 = .ok (.aload_n 0, 1) := by decide +kernel
theorem d_M_readsPiece_43 : decode u_M_readsPiece.2.1 43 = .ok (.iload_n 1, 1) := by decide +kernel
theorem d_M_readsPiece_44 : decode u_M_readsPiece.2.1 44 = .ok (.invokevirtual 128, 3) := by decide +kernel
theorem d_M_readsPiece_47 : decode u_M_readsPiece.2.1 47 = .ok (.bipush 42, 2) := by decide +kernel
theorem d_M_readsPiece_49 : decode u_M_readsPiece.2.1 49 = .ok (.if_icmp .eq 5, 3) := by decide +kernel
theorem d_M_readsPiece_52 : decode u_M_readsPiece.2.1 52 = .ok (.iconst 0, 1) := by decide +kernel
theorem d_M_readsPiece_53 : decode u_M_readsPiece.2.1 53 = .ok (.ireturn, 1) := by decide +kernel
theorem d_M_readsPiece_54 : decode u_M_readsPiece.2.1 54 = .ok (.aload_n 0, 1) := by decide +kernel
theorem d_M_readsPiece_55 : decode u_M_readsPiece.2.1 55 = .ok (.dup, 1) := by decide +kernel
theorem d_M_readsPiece_56 : decode u_M_readsPiece.2.1 56 = .ok (.getfield 125, 3) := by decide +kernel
theorem d_M_readsPiece_59 : decode u_M_readsPiece.2.1 59 = .ok (.iconst 1, 1) := by decide +kernel
theorem d_M_readsPiece_60 : decode u_M_readsPiece.2.1 60 = .ok (.iadd, 1) := by decide +kernel
theorem d_M_readsPiece_61 : decode u_M_readsPiece.2.1 61 = .ok (.putfield 125, 3) := by decide +kernel
theorem d_M_readsPiece_64 : decode u_M_readsPiece.2.1 64 = .ok (.aload_n 0, 1) := by decide +kernel
theorem d_M_readsPiece_65 : decode u_M_readsPiece.2.1 65 = .ok (.iload_n 1, 1) := by decide +kernel
theorem d_M_readsPiece_66 : decode u_M_readsPiece.2.1 66 = .ok (.invokevirtual 128, 3) := by decide +kernel
theorem d_M_readsPiece_69 : decode u_M_readsPiece.2.1 69 = .ok (.istore_n 3, 1) := by decide +kernel
theorem d_M_readsPiece_70 : decode u_M_readsPiece.2.1 70 = .ok (.iload_n 3, 1) := by decide +kernel
theorem d_M_readsPiece_71 : decode u_M_readsPiece.2.1 71 = .ok (.bipush 43, 2) := by decide +kernel
theorem d_M_readsPiece_73 : decode u_M_readsPiece.2.1 73 = .ok (.if_icmp .eq 17, 3) := by decide +kernel
theorem d_M_readsPiece_76 : decode u_M_readsPiece.2.1 76 = .ok (.iload_n 3, 1) := by decide +kernel
theorem d_M_readsPiece_77 : decode u_M_readsPiece.2.1 77 = .ok (.bipush 45, 2) := by decide +kernel
theorem d_M_readsPiece_79 : decode u_M_readsPiece.2.1 79 = .ok (.if_icmp .eq 11, 3) := by decide +kernel
theorem d_M_readsPiece_82 : decode u_M_readsPiece.2.1 82 = .ok (.iload_n 3, 1) := by decide +kernel
theorem d_M_readsPiece_83 : decode u_M_readsPiece.2.1 83 = .ok (.bipush 120, 2) := by decide +kernel
theorem d_M_readsPiece_85 : decode u_M_readsPiece.2.1 85 = .ok (.if_icmp .eq 5, 3) := by decide +kernel
theorem d_M_readsPiece_88 : decode u_M_readsPiece.2.1 88 = .ok (.iconst 0, 1) := by decide +kernel
theorem d_M_readsPiece_89 : decode u_M_readsPiece.2.1 89 = .ok (.ireturn, 1) := by decide +kernel
theorem d_M_readsPiece_90 : decode u_M_readsPiece.2.1 90 = .ok (.aload_n 0, 1) := by decide +kernel
theorem d_M_readsPiece_91 : decode u_M_readsPiece.2.1 91 = .ok (.dup, 1) := by decide +kernel
theorem d_M_readsPiece_92 : decode u_M_readsPiece.2.1 92 = .ok (.getfield 125, 3) := by decide +kernel
theorem d_M_readsPiece_95 : decode u_M_readsPiece.2.1 95 = .ok (.iconst 1, 1) := by decide +kernel
theorem d_M_readsPiece_96 : decode u_M_readsPiece.2.1 96 = .ok (.iadd, 1) := by decide +kernel
theorem d_M_readsPiece_97 : decode u_M_readsPiece.2.1 97 = .ok (.putfield 125, 3) := by decide +kernel
theorem d_M_readsPiece_100 : decode u_M_readsPiece.2.1 100 = .ok (.iload_n 3, 1) := by decide +kernel
theorem d_M_readsPiece_101 : decode u_M_readsPiece.2.1 101 = .ok (.bipush 120, 2) := by decide +kernel
theorem d_M_readsPiece_103 : decode u_M_readsPiece.2.1 103 = .ok (.if_icmp .ne 9, 3) := by decide +kernel
theorem d_M_readsPiece_106 : decode u_M_readsPiece.2.1 106 = .ok (.sipush (-9999), 3) := by decide +kernel
theorem d_M_readsPiece_109 : decode u_M_readsPiece.2.1 109 = .ok (.goto 8, 3) := by decide +kernel
theorem d_M_readsPiece_112 : decode u_M_readsPiece.2.1 112 = .ok (.aload_n 0, 1) := by decide +kernel
theorem d_M_readsPiece_113 : decode u_M_readsPiece.2.1 113 = .ok (.iload_n 1, 1) := by decide +kernel
theorem d_M_readsPiece_114 : decode u_M_readsPiece.2.1 114 = .ok (.invokevirtual 137, 3) := by decide +kernel
theorem d_M_readsPiece_117 : decode u_M_readsPiece.2.1 117 = .ok (.istore 4, 2) := by decide +kernel
theorem d_M_readsPiece_119 : decode u_M_readsPiece.2.1 119 = .ok (.iload 4, 2) := by decide +kernel
theorem d_M_readsPiece_121 : decode u_M_readsPiece.2.1 121 = .ok (.iconst (-1), 1) := by decide +kernel
theorem d_M_readsPiece_122 : decode u_M_readsPiece.2.1 122 = .ok (.if_icmp .ne 5, 3) := by decide +kernel
theorem d_M_readsPiece_125 : decode u_M_readsPiece.2.1 125 = .ok (.iconst 0, 1) := by decide +kernel
theorem d_M_readsPiece_126 : decode u_M_readsPiece.2.1 126 = .ok (.ireturn, 1) := by decide +kernel
theorem d_M_readsPiece_127 : decode u_M_readsPiece.2.1 127 = .ok (.iload_n 3, 1) := by decide +kernel
theorem d_M_readsPiece_128 : decode u_M_readsPiece.2.1 128 = .ok (.bipush 45, 2) := by decide +kernel
theorem d_M_readsPiece_130 : decode u_M_readsPiece.2.1 130 = .ok (.if_icmp .ne 9, 3) := by decide +kernel
theorem d_M_readsPiece_133 : decode u_M_readsPiece.2.1 133 = .ok (.iload 4, 2) := by decide +kernel
theorem d_M_readsPiece_135 : decode u_M_readsPiece.2.1 135 = .ok (.ineg, 1) := by decide +kernel
theorem d_M_readsPiece_136 : decode u_M_readsPiece.2.1 136 = .ok (.goto 5, 3) := by decide +kernel
theorem d_M_readsPiece_139 : decode u_M_readsPiece.2.1 139 = .ok (.iload 4, 2) := by decide +kernel
theorem d_M_readsPiece_141 : decode u_M_readsPiece.2.1 141 = .ok (.istore 4, 2) := by decide +kernel
theorem d_M_readsPiece_143 : decode u_M_readsPiece.2.1 143 = .ok (.iconst 0, 1) := by decide +kernel
theorem d_M_readsPiece_144 : decode u_M_readsPiece.2.1 144 = .ok (.istore 5, 2) := by decide +kernel
theorem d_M_readsPiece_146 : decode u_M_readsPiece.2.1 146 = .ok (.iload 5, 2) := by decide +kernel
theorem d_M_readsPiece_148 : decode u_M_readsPiece.2.1 148 = .ok (.bipush 8, 2) := by decide +kernel
theorem d_M_readsPiece_150 : decode u_M_readsPiece.2.1 150 = .ok (.if_icmp .ge 40, 3) := by decide +kernel
theorem d_M_readsPiece_153 : decode u_M_readsPiece.2.1 153 = .ok (.aload_n 0, 1) := by decide +kernel
theorem d_M_readsPiece_154 : decode u_M_readsPiece.2.1 154 = .ok (.getfield 31, 3) := by decide +kernel
theorem d_M_readsPiece_157 : decode u_M_readsPiece.2.1 157 = .ok (.iload 5, 2) := by decide +kernel
theorem d_M_readsPiece_159 : decode u_M_readsPiece.2.1 159 = .ok (.iload_n 2, 1) := by decide +kernel
theorem d_M_readsPiece_160 : decode u_M_readsPiece.2.1 160 = .ok (.bipush 8, 2) := by decide +kernel
theorem d_M_readsPiece_162 : decode u_M_readsPiece.2.1 162 = .ok (.if_icmp .eq 9, 3) := by decide +kernel
theorem d_M_readsPiece_165 : decode u_M_readsPiece.2.1 165 = .ok (.iload_n 2, 1) := by decide +kernel
theorem d_M_readsPiece_166 : decode u_M_readsPiece.2.1 166 = .ok (.iload 5, 2) := by decide +kernel
theorem d_M_readsPiece_168 : decode u_M_readsPiece.2.1 168 = .ok (.if_icmp .ne 8, 3) := by decide +kernel
theorem d_M_readsPiece_171 : decode u_M_readsPiece.2.1 171 = .ok (.iload 4, 2) := by decide +kernel
theorem d_M_readsPiece_173 : decode u_M_readsPiece.2.1 173 = .ok (.goto 10, 3) := by decide +kernel
theorem d_M_readsPiece_176 : decode u_M_readsPiece.2.1 176 = .ok (.aload_n 0, 1) := by decide +kernel
theorem d_M_readsPiece_177 : decode u_M_readsPiece.2.1 177 = .ok (.getfield 31, 3) := by decide +kernel
theorem d_M_readsPiece_180 : decode u_M_readsPiece.2.1 180 = .ok (.iload 5, 2) := by decide +kernel
theorem d_M_readsPiece_182 : decode u_M_readsPiece.2.1 182 = .ok (.iaload, 1) := by decide +kernel
theorem d_M_readsPiece_183 : decode u_M_readsPiece.2.1 183 = .ok (.iastore, 1) := by decide +kernel
theorem d_M_readsPiece_184 : decode u_M_readsPiece.2.1 184 = .ok (.iinc 5 1, 3) := by decide +kernel
theorem d_M_readsPiece_187 : decode u_M_readsPiece.2.1 187 = .ok (.goto (-41), 3) := by decide +kernel
theorem d_M_readsPiece_190 : decode u_M_readsPiece.2.1 190 = .ok (.iconst 1, 1) := by decide +kernel
theorem d_M_readsPiece_191 : decode u_M_readsPiece.2.1 191 = .ok (.ireturn, 1) := by decide +kernel
theorem d_M_clears_0 : decode u_M_clears.2.1 0 = .ok (.iconst 0, 1) := by decide +kernel
theorem d_M_clears_1 : decode u_M_clears.2.1 1 = .ok (.istore_n 1, 1) := by decide +kernel
theorem d_M_clears_2 : decode u_M_clears.2.1 2 = .ok (.iload_n 1, 1) := by decide +kernel
theorem d_M_clears_3 : decode u_M_clears.2.1 3 = .ok (.bipush 8, 2) := by decide +kernel
theorem d_M_clears_5 : decode u_M_clears.2.1 5 = .ok (.if_icmp .ge 17, 3) := by decide +kernel
theorem d_M_clears_8 : decode u_M_clears.2.1 8 = .ok (.aload_n 0, 1) := by decide +kernel
theorem d_M_clears_9 : decode u_M_clears.2.1 9 = .ok (.getfield 31, 3) := by decide +kernel
theorem d_M_clears_12 : decode u_M_clears.2.1 12 = .ok (.iload_n 1, 1) := by decide +kernel
theorem d_M_clears_13 : decode u_M_clears.2.1 13 = .ok (.bipush 10, 2) := by decide +kernel
theorem d_M_clears_15 : decode u_M_clears.2.1 15 = .ok (.iastore, 1) := by decide +kernel
theorem d_M_clears_16 : decode u_M_clears.2.1 16 = .ok (.iinc 1 1, 3) := by decide +kernel
theorem d_M_clears_19 : decode u_M_clears.2.1 19 = .ok (.goto (-17), 3) := by decide +kernel
theorem d_M_clears_22 : decode u_M_clears.2.1 22 = .ok (.return_, 1) := by decide +kernel
theorem d_M_reads_0 : decode u_M_reads.2.1 0 = .ok (.aload_n 0, 1) := by decide +kernel
theorem d_M_reads_1 : decode u_M_reads.2.1 1 = .ok (.iconst 0, 1) := by decide +kernel
theorem d_M_reads_2 : decode u_M_reads.2.1 2 = .ok (.putfield 125, 3) := by decide +kernel
theorem d_M_reads_5 : decode u_M_reads.2.1 5 = .ok (.aload_n 0, 1) := by decide +kernel
theorem d_M_reads_6 : decode u_M_reads.2.1 6 = .ok (.invokevirtual 140, 3) := by decide +kernel
theorem d_M_reads_9 : decode u_M_reads.2.1 9 = .ok (.aload_n 0, 1) := by decide +kernel
theorem d_M_reads_10 : decode u_M_reads.2.1 10 = .ok (.getfield 28, 3) := by decide +kernel
theorem d_M_reads_13 : decode u_M_reads.2.1 13 = .ok (.iload_n 1, 1) := by decide +kernel
theorem d_M_reads_14 : decode u_M_reads.2.1 14 = .ok (.iaload, 1) := by decide +kernel
theorem d_M_reads_15 : decode u_M_reads.2.1 15 = .ok (.ifCond .le 7, 3) := by decide +kernel
theorem d_M_reads_18 : decode u_M_reads.2.1 18 = .ok (.iconst 1, 1) := by decide +kernel
theorem d_M_reads_19 : decode u_M_reads.2.1 19 = .ok (.goto 4, 3) := by decide +kernel
theorem d_M_reads_22 : decode u_M_reads.2.1 22 = .ok (.iconst 0, 1) := by decide +kernel
theorem d_M_reads_23 : decode u_M_reads.2.1 23 = .ok (.istore_n 2, 1) := by decide +kernel
theorem d_M_reads_24 : decode u_M_reads.2.1 24 = .ok (.iload_n 2, 1) := by decide +kernel
theorem d_M_reads_25 : decode u_M_reads.2.1 25 = .ok (.ifCond .eq 83, 3) := by decide +kernel
theorem d_M_reads_28 : decode u_M_reads.2.1 28 = .ok (.aload_n 0, 1) := by decide +kernel
theorem d_M_reads_29 : decode u_M_reads.2.1 29 = .ok (.iload_n 1, 1) := by decide +kernel
theorem d_M_reads_30 : decode u_M_reads.2.1 30 = .ok (.invokevirtual 143, 3) := by decide +kernel
theorem d_M_reads_33 : decode u_M_reads.2.1 33 = .ok (.ifCond .ne 12, 3) := by decide +kernel
theorem d_M_reads_36 : decode u_M_reads.2.1 36 = .ok (.aload_n 0, 1) := by decide +kernel
theorem d_M_reads_37 : decode u_M_reads.2.1 37 = .ok (.invokevirtual 140, 3) := by decide +kernel
theorem d_M_reads_40 : decode u_M_reads.2.1 40 = .ok (.aload_n 0, 1) := by decide +kernel
theorem d_M_reads_41 : decode u_M_reads.2.1 41 = .ok (.getfield 125, 3) := by decide +kernel
theorem d_M_reads_44 : decode u_M_reads.2.1 44 = .ok (.ireturn, 1) := by decide +kernel
theorem d_M_reads_45 : decode u_M_reads.2.1 45 = .ok (.aload_n 0, 1) := by decide +kernel
theorem d_M_reads_46 : decode u_M_reads.2.1 46 = .ok (.getfield 125, 3) := by decide +kernel
theorem d_M_reads_49 : decode u_M_reads.2.1 49 = .ok (.aload_n 0, 1) := by decide +kernel
theorem d_M_reads_50 : decode u_M_reads.2.1 50 = .ok (.getfield 28, 3) := by decide +kernel
theorem d_M_reads_53 : decode u_M_reads.2.1 53 = .ok (.iload_n 1, 1) := by decide +kernel
theorem d_M_reads_54 : decode u_M_reads.2.1 54 = .ok (.iaload, 1) := by decide +kernel
theorem d_M_reads_55 : decode u_M_reads.2.1 55 = .ok (.if_icmp .ge 7, 3) := by decide +kernel
theorem d_M_reads_58 : decode u_M_reads.2.1 58 = .ok (.iconst 1, 1) := by decide +kernel
theorem d_M_reads_59 : decode u_M_reads.2.1 59 = .ok (.goto 4, 3) := by decide +kernel
theorem d_M_reads_62 : decode u_M_reads.2.1 62 = .ok (.iconst 0, 1) := by decide +kernel
theorem d_M_reads_63 : decode u_M_reads.2.1 63 = .ok (.istore_n 2, 1) := by decide +kernel
theorem d_M_reads_64 : decode u_M_reads.2.1 64 = .ok (.iload_n 2, 1) := by decide +kernel
theorem d_M_reads_65 : decode u_M_reads.2.1 65 = .ok (.ifCond .eq 22, 3) := by decide +kernel
theorem d_M_reads_68 : decode u_M_reads.2.1 68 = .ok (.aload_n 0, 1) := by decide +kernel
theorem d_M_reads_69 : decode u_M_reads.2.1 69 = .ok (.iload_n 1, 1) := by decide +kernel
theorem d_M_reads_70 : decode u_M_reads.2.1 70 = .ok (.invokevirtual 128, 3) := by decide +kernel
theorem d_M_reads_73 : decode u_M_reads.2.1 73 = .ok (.bipush 59, 2) := by decide +kernel
theorem d_M_reads_75 : decode u_M_reads.2.1 75 = .ok (.if_icmp .eq 12, 3) := by decide +kernel
theorem d_M_reads_78 : decode u_M_reads.2.1 78 = .ok (.aload_n 0, 1) := by decide +kernel
theorem d_M_reads_79 : decode u_M_reads.2.1 79 = .ok (.invokevirtual 140, 3) := by decide +kernel
theorem d_M_reads_82 : decode u_M_reads.2.1 82 = .ok (.aload_n 0, 1) := by decide +kernel
theorem d_M_reads_83 : decode u_M_reads.2.1 83 = .ok (.getfield 125, 3) := by decide +kernel
theorem d_M_reads_86 : decode u_M_reads.2.1 86 = .ok (.ireturn, 1) := by decide +kernel
theorem d_M_reads_87 : decode u_M_reads.2.1 87 = .ok (.aload_n 0, 1) := by decide +kernel
theorem d_M_reads_88 : decode u_M_reads.2.1 88 = .ok (.dup, 1) := by decide +kernel
theorem d_M_reads_89 : decode u_M_reads.2.1 89 = .ok (.getfield 125, 3) := by decide +kernel
theorem d_M_reads_92 : decode u_M_reads.2.1 92 = .ok (.iload_n 2, 1) := by decide +kernel
theorem d_M_reads_93 : decode u_M_reads.2.1 93 = .ok (.ifCond .eq 7, 3) := by decide +kernel
theorem d_M_reads_96 : decode u_M_reads.2.1 96 = .ok (.iconst 1, 1) := by decide +kernel
theorem d_M_reads_97 : decode u_M_reads.2.1 97 = .ok (.goto 4, 3) := by decide +kernel
theorem d_M_reads_100 : decode u_M_reads.2.1 100 = .ok (.iconst 0, 1) := by decide +kernel
theorem d_M_reads_101 : decode u_M_reads.2.1 101 = .ok (.iadd, 1) := by decide +kernel
theorem d_M_reads_102 : decode u_M_reads.2.1 102 = .ok (.putfield 125, 3) := by decide +kernel
theorem d_M_reads_105 : decode u_M_reads.2.1 105 = .ok (.goto (-81), 3) := by decide +kernel
theorem d_M_reads_108 : decode u_M_reads.2.1 108 = .ok (.iconst (-1), 1) := by decide +kernel
theorem d_M_reads_109 : decode u_M_reads.2.1 109 = .ok (.ireturn, 1) := by decide +kernel
theorem d_M_fault_0 : decode u_M_fault.2.1 0 = .ok (.iload_n 1, 1) := by decide +kernel
theorem d_M_fault_1 : decode u_M_fault.2.1 1 = .ok (.invokestatic 120, 3) := by decide +kernel
theorem d_M_fault_4 : decode u_M_fault.2.1 4 = .ok (.ifCond .eq 11, 3) := by decide +kernel
theorem d_M_fault_7 : decode u_M_fault.2.1 7 = .ok (.aload_n 0, 1) := by decide +kernel
theorem d_M_fault_8 : decode u_M_fault.2.1 8 = .ok (.iload_n 1, 1) := by decide +kernel
theorem d_M_fault_9 : decode u_M_fault.2.1 9 = .ok (.invokevirtual 146, 3) := by decide +kernel
theorem d_M_fault_12 : decode u_M_fault.2.1 12 = .ok (.goto 5, 3) := by decide +kernel
theorem d_M_fault_15 : decode u_M_fault.2.1 15 = .ok (.bipush (-2), 2) := by decide +kernel
theorem d_M_fault_17 : decode u_M_fault.2.1 17 = .ok (.ireturn, 1) := by decide +kernel
theorem d_M_tenths_0 : decode u_M_tenths.2.1 0 = .ok (.iload_n 1, 1) := by decide +kernel
theorem d_M_tenths_1 : decode u_M_tenths.2.1 1 = .ok (.invokestatic 120, 3) := by decide +kernel
theorem d_M_tenths_4 : decode u_M_tenths.2.1 4 = .ok (.ifCond .eq 10, 3) := by decide +kernel
theorem d_M_tenths_7 : decode u_M_tenths.2.1 7 = .ok (.iload_n 2, 1) := by decide +kernel
theorem d_M_tenths_8 : decode u_M_tenths.2.1 8 = .ok (.invokestatic 106, 3) := by decide +kernel
theorem d_M_tenths_11 : decode u_M_tenths.2.1 11 = .ok (.ifCond .ne 9, 3) := by decide +kernel
theorem d_M_tenths_14 : decode u_M_tenths.2.1 14 = .ok (.bipush (-2), 2) := by decide +kernel
theorem d_M_tenths_16 : decode u_M_tenths.2.1 16 = .ok (.invokestatic 149, 3) := by decide +kernel
theorem d_M_tenths_19 : decode u_M_tenths.2.1 19 = .ok (.ireturn, 1) := by decide +kernel
theorem d_M_tenths_20 : decode u_M_tenths.2.1 20 = .ok (.aload_n 0, 1) := by decide +kernel
theorem d_M_tenths_21 : decode u_M_tenths.2.1 21 = .ok (.iload_n 1, 1) := by decide +kernel
theorem d_M_tenths_22 : decode u_M_tenths.2.1 22 = .ok (.invokevirtual 146, 3) := by decide +kernel
theorem d_M_tenths_25 : decode u_M_tenths.2.1 25 = .ok (.pop, 1) := by decide +kernel
theorem d_M_tenths_26 : decode u_M_tenths.2.1 26 = .ok (.aload_n 0, 1) := by decide +kernel
theorem d_M_tenths_27 : decode u_M_tenths.2.1 27 = .ok (.getfield 31, 3) := by decide +kernel
theorem d_M_tenths_30 : decode u_M_tenths.2.1 30 = .ok (.iload_n 2, 1) := by decide +kernel
theorem d_M_tenths_31 : decode u_M_tenths.2.1 31 = .ok (.iaload, 1) := by decide +kernel
theorem d_M_tenths_32 : decode u_M_tenths.2.1 32 = .ok (.ireturn, 1) := by decide +kernel
theorem d_M_drawnBy_0 : decode u_M_drawnBy.2.1 0 = .ok (.iload_n 0, 1) := by decide +kernel
theorem d_M_drawnBy_1 : decode u_M_drawnBy.2.1 1 = .ok (.sipush (-9999), 3) := by decide +kernel
theorem d_M_drawnBy_4 : decode u_M_drawnBy.2.1 4 = .ok (.if_icmp .eq 10, 3) := by decide +kernel
theorem d_M_drawnBy_7 : decode u_M_drawnBy.2.1 7 = .ok (.iload_n 2, 1) := by decide +kernel
theorem d_M_drawnBy_8 : decode u_M_drawnBy.2.1 8 = .ok (.sipush (-9999), 3) := by decide +kernel
theorem d_M_drawnBy_11 : decode u_M_drawnBy.2.1 11 = .ok (.if_icmp .ne 7, 3) := by decide +kernel
theorem d_M_drawnBy_14 : decode u_M_drawnBy.2.1 14 = .ok (.sipush (-9999), 3) := by decide +kernel
theorem d_M_drawnBy_17 : decode u_M_drawnBy.2.1 17 = .ok (.ireturn, 1) := by decide +kernel
theorem d_M_drawnBy_18 : decode u_M_drawnBy.2.1 18 = .ok (.iload_n 1, 1) := by decide +kernel
theorem d_M_drawnBy_19 : decode u_M_drawnBy.2.1 19 = .ok (.iload_n 0, 1) := by decide +kernel
theorem d_M_drawnBy_20 : decode u_M_drawnBy.2.1 20 = .ok (.iload_n 1, 1) := by decide +kernel
theorem d_M_drawnBy_21 : decode u_M_drawnBy.2.1 21 = .ok (.isub, 1) := by decide +kernel
theorem d_M_drawnBy_22 : decode u_M_drawnBy.2.1 22 = .ok (.iload_n 2, 1) := by decide +kernel
theorem d_M_drawnBy_23 : decode u_M_drawnBy.2.1 23 = .ok (.imul, 1) := by decide +kernel
theorem d_M_drawnBy_24 : decode u_M_drawnBy.2.1 24 = .ok (.bipush 10, 2) := by decide +kernel
theorem d_M_drawnBy_26 : decode u_M_drawnBy.2.1 26 = .ok (.idiv, 1) := by decide +kernel
theorem d_M_drawnBy_27 : decode u_M_drawnBy.2.1 27 = .ok (.iadd, 1) := by decide +kernel
theorem d_M_drawnBy_28 : decode u_M_drawnBy.2.1 28 = .ok (.istore_n 3, 1) := by decide +kernel
theorem d_M_drawnBy_29 : decode u_M_drawnBy.2.1 29 = .ok (.iload_n 3, 1) := by decide +kernel
theorem d_M_drawnBy_30 : decode u_M_drawnBy.2.1 30 = .ok (.sipush 7000, 3) := by decide +kernel
theorem d_M_drawnBy_33 : decode u_M_drawnBy.2.1 33 = .ok (.if_icmp .le 9, 3) := by decide +kernel
theorem d_M_drawnBy_36 : decode u_M_drawnBy.2.1 36 = .ok (.sipush 7000, 3) := by decide +kernel
theorem d_M_drawnBy_39 : decode u_M_drawnBy.2.1 39 = .ok (.goto 17, 3) := by decide +kernel
theorem d_M_drawnBy_42 : decode u_M_drawnBy.2.1 42 = .ok (.iload_n 3, 1) := by decide +kernel
theorem d_M_drawnBy_43 : decode u_M_drawnBy.2.1 43 = .ok (.sipush (-7000), 3) := by decide +kernel
theorem d_M_drawnBy_46 : decode u_M_drawnBy.2.1 46 = .ok (.if_icmp .ge 9, 3) := by decide +kernel
theorem d_M_drawnBy_49 : decode u_M_drawnBy.2.1 49 = .ok (.sipush (-7000), 3) := by decide +kernel
theorem d_M_drawnBy_52 : decode u_M_drawnBy.2.1 52 = .ok (.goto 4, 3) := by decide +kernel
theorem d_M_drawnBy_55 : decode u_M_drawnBy.2.1 55 = .ok (.iload_n 3, 1) := by decide +kernel
theorem d_M_drawnBy_56 : decode u_M_drawnBy.2.1 56 = .ok (.ireturn, 1) := by decide +kernel
theorem d_M_drawn_0 : decode u_M_drawn.2.1 0 = .ok (.iload_n 1, 1) := by decide +kernel
theorem d_M_drawn_1 : decode u_M_drawn.2.1 1 = .ok (.invokestatic 120, 3) := by decide +kernel
theorem d_M_drawn_4 : decode u_M_drawn.2.1 4 = .ok (.ifCond .eq 27, 3) := by decide +kernel
theorem d_M_drawn_7 : decode u_M_drawn.2.1 7 = .ok (.aload_n 0, 1) := by decide +kernel
theorem d_M_drawn_8 : decode u_M_drawn.2.1 8 = .ok (.iload_n 2, 1) := by decide +kernel
theorem d_M_drawn_9 : decode u_M_drawn.2.1 9 = .ok (.invokevirtual 103, 3) := by decide +kernel
theorem d_M_drawn_12 : decode u_M_drawn.2.1 12 = .ok (.ifCond .eq 19, 3) := by decide +kernel
theorem d_M_drawn_15 : decode u_M_drawn.2.1 15 = .ok (.aload_n 0, 1) := by decide +kernel
theorem d_M_drawn_16 : decode u_M_drawn.2.1 16 = .ok (.iload_n 3, 1) := by decide +kernel
theorem d_M_drawn_17 : decode u_M_drawn.2.1 17 = .ok (.invokevirtual 114, 3) := by decide +kernel
theorem d_M_drawn_20 : decode u_M_drawn.2.1 20 = .ok (.ifCond .eq 11, 3) := by decide +kernel
theorem d_M_drawn_23 : decode u_M_drawn.2.1 23 = .ok (.iload 4, 2) := by decide +kernel
theorem d_M_drawn_25 : decode u_M_drawn.2.1 25 = .ok (.invokestatic 106, 3) := by decide +kernel
theorem d_M_drawn_28 : decode u_M_drawn.2.1 28 = .ok (.ifCond .ne 9, 3) := by decide +kernel
theorem d_M_drawn_31 : decode u_M_drawn.2.1 31 = .ok (.bipush (-2), 2) := by decide +kernel
theorem d_M_drawn_33 : decode u_M_drawn.2.1 33 = .ok (.invokestatic 149, 3) := by decide +kernel
theorem d_M_drawn_36 : decode u_M_drawn.2.1 36 = .ok (.ireturn, 1) := by decide +kernel
theorem d_M_drawn_37 : decode u_M_drawn.2.1 37 = .ok (.aload_n 0, 1) := by decide +kernel
theorem d_M_drawn_38 : decode u_M_drawn.2.1 38 = .ok (.iload_n 1, 1) := by decide +kernel
theorem d_M_drawn_39 : decode u_M_drawn.2.1 39 = .ok (.invokevirtual 146, 3) := by decide +kernel
theorem d_M_drawn_42 : decode u_M_drawn.2.1 42 = .ok (.pop, 1) := by decide +kernel
theorem d_M_drawn_43 : decode u_M_drawn.2.1 43 = .ok (.aload_n 0, 1) := by decide +kernel
theorem d_M_drawn_44 : decode u_M_drawn.2.1 44 = .ok (.getfield 22, 3) := by decide +kernel
theorem d_M_drawn_47 : decode u_M_drawn.2.1 47 = .ok (.bipush 8, 2) := by decide +kernel
theorem d_M_drawn_49 : decode u_M_drawn.2.1 49 = .ok (.iload_n 2, 1) := by decide +kernel
theorem d_M_drawn_50 : decode u_M_drawn.2.1 50 = .ok (.imul, 1) := by decide +kernel
theorem d_M_drawn_51 : decode u_M_drawn.2.1 51 = .ok (.iload 4, 2) := by decide +kernel
theorem d_M_drawn_53 : decode u_M_drawn.2.1 53 = .ok (.iadd, 1) := by decide +kernel
theorem d_M_drawn_54 : decode u_M_drawn.2.1 54 = .ok (.iaload, 1) := by decide +kernel
theorem d_M_drawn_55 : decode u_M_drawn.2.1 55 = .ok (.aload_n 0, 1) := by decide +kernel
theorem d_M_drawn_56 : decode u_M_drawn.2.1 56 = .ok (.iload_n 3, 1) := by decide +kernel
theorem d_M_drawn_57 : decode u_M_drawn.2.1 57 = .ok (.iload 4, 2) := by decide +kernel
theorem d_M_drawn_59 : decode u_M_drawn.2.1 59 = .ok (.invokevirtual 117, 3) := by decide +kernel
theorem d_M_drawn_62 : decode u_M_drawn.2.1 62 = .ok (.aload_n 0, 1) := by decide +kernel
theorem d_M_drawn_63 : decode u_M_drawn.2.1 63 = .ok (.getfield 31, 3) := by decide +kernel
theorem d_M_drawn_66 : decode u_M_drawn.2.1 66 = .ok (.iload 4, 2) := by decide +kernel
theorem d_M_drawn_68 : decode u_M_drawn.2.1 68 = .ok (.iaload, 1) := by decide +kernel
theorem d_M_drawn_69 : decode u_M_drawn.2.1 69 = .ok (.invokestatic 152, 3) := by decide +kernel
theorem d_M_drawn_72 : decode u_M_drawn.2.1 72 = .ok (.ireturn, 1) := by decide +kernel
theorem d_M_set_0 : decode u_M_set.2.1 0 = .ok (.iload_n 1, 1) := by decide +kernel
theorem d_M_set_1 : decode u_M_set.2.1 1 = .ok (.i2l, 1) := by decide +kernel
theorem d_M_set_2 : decode u_M_set.2.1 2 = .ok (.lconst 0, 1) := by decide +kernel
theorem d_M_set_3 : decode u_M_set.2.1 3 = .ok (.ldc2_w 83, 3) := by decide +kernel
theorem d_M_set_6 : decode u_M_set.2.1 6 = .ok (.invokestatic 69, 3) := by decide +kernel
theorem d_M_set_9 : decode u_M_set.2.1 9 = .ok (.ifCond .eq 35, 3) := by decide +kernel
theorem d_M_set_12 : decode u_M_set.2.1 12 = .ok (.iload_n 2, 1) := by decide +kernel
theorem d_M_set_13 : decode u_M_set.2.1 13 = .ok (.i2l, 1) := by decide +kernel
theorem d_M_set_14 : decode u_M_set.2.1 14 = .ok (.iload_n 1, 1) := by decide +kernel
theorem d_M_set_15 : decode u_M_set.2.1 15 = .ok (.iconst 2, 1) := by decide +kernel
theorem d_M_set_16 : decode u_M_set.2.1 16 = .ok (.if_icmp .ne 7, 3) := by decide +kernel
theorem d_M_set_19 : decode u_M_set.2.1 19 = .ok (.lconst 0, 1) := by decide +kernel
theorem d_M_set_20 : decode u_M_set.2.1 20 = .ok (.goto 4, 3) := by decide +kernel
theorem d_M_set_23 : decode u_M_set.2.1 23 = .ok (.lconst 1, 1) := by decide +kernel
theorem d_M_set_24 : decode u_M_set.2.1 24 = .ok (.iload_n 1, 1) := by decide +kernel
theorem d_M_set_25 : decode u_M_set.2.1 25 = .ok (.iconst 1, 1) := by decide +kernel
theorem d_M_set_26 : decode u_M_set.2.1 26 = .ok (.if_icmp .ne 9, 3) := by decide +kernel
theorem d_M_set_29 : decode u_M_set.2.1 29 = .ok (.ldc2_w 155, 3) := by decide +kernel
theorem d_M_set_32 : decode u_M_set.2.1 32 = .ok (.goto 6, 3) := by decide +kernel
theorem d_M_set_35 : decode u_M_set.2.1 35 = .ok (.ldc2_w 109, 3) := by decide +kernel
theorem d_M_set_38 : decode u_M_set.2.1 38 = .ok (.invokestatic 69, 3) := by decide +kernel
theorem d_M_set_41 : decode u_M_set.2.1 41 = .ok (.ifCond .ne 6, 3) := by decide +kernel
theorem d_M_set_44 : decode u_M_set.2.1 44 = .ok (.bipush (-2), 2) := by decide +kernel
theorem d_M_set_46 : decode u_M_set.2.1 46 = .ok (.ireturn, 1) := by decide +kernel
theorem d_M_set_47 : decode u_M_set.2.1 47 = .ok (.aload_n 0, 1) := by decide +kernel
theorem d_M_set_48 : decode u_M_set.2.1 48 = .ok (.getfield 34, 3) := by decide +kernel
theorem d_M_set_51 : decode u_M_set.2.1 51 = .ok (.iload_n 1, 1) := by decide +kernel
theorem d_M_set_52 : decode u_M_set.2.1 52 = .ok (.iaload, 1) := by decide +kernel
theorem d_M_set_53 : decode u_M_set.2.1 53 = .ok (.istore_n 3, 1) := by decide +kernel
theorem d_M_set_54 : decode u_M_set.2.1 54 = .ok (.aload_n 0, 1) := by decide +kernel
theorem d_M_set_55 : decode u_M_set.2.1 55 = .ok (.getfield 34, 3) := by decide +kernel
theorem d_M_set_58 : decode u_M_set.2.1 58 = .ok (.iload_n 1, 1) := by decide +kernel
theorem d_M_set_59 : decode u_M_set.2.1 59 = .ok (.iload_n 2, 1) := by decide +kernel
theorem d_M_set_60 : decode u_M_set.2.1 60 = .ok (.iastore, 1) := by decide +kernel
theorem d_M_set_61 : decode u_M_set.2.1 61 = .ok (.iload_n 3, 1) := by decide +kernel
theorem d_M_set_62 : decode u_M_set.2.1 62 = .ok (.ireturn, 1) := by decide +kernel
theorem d_M_isDrawing_0 : decode u_M_isDrawing.2.1 0 = .ok (.iload_n 1, 1) := by decide +kernel
theorem d_M_isDrawing_1 : decode u_M_isDrawing.2.1 1 = .ok (.i2l, 1) := by decide +kernel
theorem d_M_isDrawing_2 : decode u_M_isDrawing.2.1 2 = .ok (.lconst 0, 1) := by decide +kernel
theorem d_M_isDrawing_3 : decode u_M_isDrawing.2.1 3 = .ok (.aload_n 0, 1) := by decide +kernel
theorem d_M_isDrawing_4 : decode u_M_isDrawing.2.1 4 = .ok (.getfield 157, 3) := by decide +kernel
theorem d_M_isDrawing_7 : decode u_M_isDrawing.2.1 7 = .ok (.iconst 1, 1) := by decide +kernel
theorem d_M_isDrawing_8 : decode u_M_isDrawing.2.1 8 = .ok (.isub, 1) := by decide +kernel
theorem d_M_isDrawing_9 : decode u_M_isDrawing.2.1 9 = .ok (.i2l, 1) := by decide +kernel
theorem d_M_isDrawing_10 : decode u_M_isDrawing.2.1 10 = .ok (.invokestatic 69, 3) := by decide +kernel
theorem d_M_isDrawing_13 : decode u_M_isDrawing.2.1 13 = .ok (.ireturn, 1) := by decide +kernel
theorem d_M_isLate_0 : decode u_M_isLate.2.1 0 = .ok (.iload_n 1, 1) := by decide +kernel
theorem d_M_isLate_1 : decode u_M_isLate.2.1 1 = .ok (.i2l, 1) := by decide +kernel
theorem d_M_isLate_2 : decode u_M_isLate.2.1 2 = .ok (.aload_n 0, 1) := by decide +kernel
theorem d_M_isLate_3 : decode u_M_isLate.2.1 3 = .ok (.getfield 157, 3) := by decide +kernel
theorem d_M_isLate_6 : decode u_M_isLate.2.1 6 = .ok (.ifCond .ne 7, 3) := by decide +kernel
theorem d_M_isLate_9 : decode u_M_isLate.2.1 9 = .ok (.lconst 0, 1) := by decide +kernel
theorem d_M_isLate_10 : decode u_M_isLate.2.1 10 = .ok (.goto 15, 3) := by decide +kernel
theorem d_M_isLate_13 : decode u_M_isLate.2.1 13 = .ok (.aload_n 0, 1) := by decide +kernel
theorem d_M_isLate_14 : decode u_M_isLate.2.1 14 = .ok (.getfield 40, 3) := by decide +kernel
theorem d_M_isLate_17 : decode u_M_isLate.2.1 17 = .ok (.aload_n 0, 1) := by decide +kernel
theorem d_M_isLate_18 : decode u_M_isLate.2.1 18 = .ok (.getfield 157, 3) := by decide +kernel
theorem d_M_isLate_21 : decode u_M_isLate.2.1 21 = .ok (.iconst 1, 1) := by decide +kernel
theorem d_M_isLate_22 : decode u_M_isLate.2.1 22 = .ok (.isub, 1) := by decide +kernel
theorem d_M_isLate_23 : decode u_M_isLate.2.1 23 = .ok (.iaload, 1) := by decide +kernel
theorem d_M_isLate_24 : decode u_M_isLate.2.1 24 = .ok (.i2l, 1) := by decide +kernel
theorem d_M_isLate_25 : decode u_M_isLate.2.1 25 = .ok (.ldc2_w 109, 3) := by decide +kernel
theorem d_M_isLate_28 : decode u_M_isLate.2.1 28 = .ok (.invokestatic 69, 3) := by decide +kernel
theorem d_M_isLate_31 : decode u_M_isLate.2.1 31 = .ok (.ireturn, 1) := by decide +kernel
theorem d_M_draw_0 : decode u_M_draw.2.1 0 = .ok (.iload_n 1, 1) := by decide +kernel
theorem d_M_draw_1 : decode u_M_draw.2.1 1 = .ok (.invokestatic 120, 3) := by decide +kernel
theorem d_M_draw_4 : decode u_M_draw.2.1 4 = .ok (.ifCond .eq 28, 3) := by decide +kernel
theorem d_M_draw_7 : decode u_M_draw.2.1 7 = .ok (.aload_n 0, 1) := by decide +kernel
theorem d_M_draw_8 : decode u_M_draw.2.1 8 = .ok (.iload_n 2, 1) := by decide +kernel
theorem d_M_draw_9 : decode u_M_draw.2.1 9 = .ok (.invokevirtual 103, 3) := by decide +kernel
theorem d_M_draw_12 : decode u_M_draw.2.1 12 = .ok (.ifCond .eq 20, 3) := by decide +kernel
theorem d_M_draw_15 : decode u_M_draw.2.1 15 = .ok (.aload_n 0, 1) := by decide +kernel
theorem d_M_draw_16 : decode u_M_draw.2.1 16 = .ok (.iload_n 3, 1) := by decide +kernel
theorem d_M_draw_17 : decode u_M_draw.2.1 17 = .ok (.invokevirtual 114, 3) := by decide +kernel
theorem d_M_draw_20 : decode u_M_draw.2.1 20 = .ok (.ifCond .eq 12, 3) := by decide +kernel
theorem d_M_draw_23 : decode u_M_draw.2.1 23 = .ok (.aload_n 0, 1) := by decide +kernel
theorem d_M_draw_24 : decode u_M_draw.2.1 24 = .ok (.iload 4, 2) := by decide +kernel
theorem d_M_draw_26 : decode u_M_draw.2.1 26 = .ok (.invokevirtual 160, 3) := by decide +kernel
theorem d_M_draw_29 : decode u_M_draw.2.1 29 = .ok (.ifCond .ne 6, 3) := by decide +kernel
theorem d_M_draw_32 : decode u_M_draw.2.1 32 = .ok (.bipush (-2), 2) := by decide +kernel
theorem d_M_draw_34 : decode u_M_draw.2.1 34 = .ok (.ireturn, 1) := by decide +kernel
theorem d_M_draw_35 : decode u_M_draw.2.1 35 = .ok (.aload_n 0, 1) := by decide +kernel
theorem d_M_draw_36 : decode u_M_draw.2.1 36 = .ok (.getfield 157, 3) := by decide +kernel
theorem d_M_draw_39 : decode u_M_draw.2.1 39 = .ok (.bipush 30, 2) := by decide +kernel
theorem d_M_draw_41 : decode u_M_draw.2.1 41 = .ok (.if_icmp .ne 6, 3) := by decide +kernel
theorem d_M_draw_44 : decode u_M_draw.2.1 44 = .ok (.bipush (-4), 2) := by decide +kernel
theorem d_M_draw_46 : decode u_M_draw.2.1 46 = .ok (.ireturn, 1) := by decide +kernel
theorem d_M_draw_47 : decode u_M_draw.2.1 47 = .ok (.aload_n 0, 1) := by decide +kernel
theorem d_M_draw_48 : decode u_M_draw.2.1 48 = .ok (.iload_n 1, 1) := by decide +kernel
theorem d_M_draw_49 : decode u_M_draw.2.1 49 = .ok (.invokevirtual 146, 3) := by decide +kernel
theorem d_M_draw_52 : decode u_M_draw.2.1 52 = .ok (.pop, 1) := by decide +kernel
theorem d_M_draw_53 : decode u_M_draw.2.1 53 = .ok (.iconst 0, 1) := by decide +kernel
theorem d_M_draw_54 : decode u_M_draw.2.1 54 = .ok (.istore 5, 2) := by decide +kernel
theorem d_M_draw_56 : decode u_M_draw.2.1 56 = .ok (.iconst 1, 1) := by decide +kernel
theorem d_M_draw_57 : decode u_M_draw.2.1 57 = .ok (.istore 6, 2) := by decide +kernel
theorem d_M_draw_59 : decode u_M_draw.2.1 59 = .ok (.iconst 0, 1) := by decide +kernel
theorem d_M_draw_60 : decode u_M_draw.2.1 60 = .ok (.istore 7, 2) := by decide +kernel
theorem d_M_draw_62 : decode u_M_draw.2.1 62 = .ok (.iconst 0, 1) := by decide +kernel
theorem d_M_draw_63 : decode u_M_draw.2.1 63 = .ok (.istore 8, 2) := by decide +kernel
theorem d_M_draw_65 : decode u_M_draw.2.1 65 = .ok (.iload 8, 2) := by decide +kernel
theorem d_M_draw_67 : decode u_M_draw.2.1 67 = .ok (.bipush 8, 2) := by decide +kernel
theorem d_M_draw_69 : decode u_M_draw.2.1 69 = .ok (.if_icmp .ge 163, 3) := by decide +kernel
theorem d_M_draw_72 : decode u_M_draw.2.1 72 = .ok (.aload_n 0, 1) := by decide +kernel
theorem d_M_draw_73 : decode u_M_draw.2.1 73 = .ok (.getfield 22, 3) := by decide +kernel
theorem d_M_draw_76 : decode u_M_draw.2.1 76 = .ok (.bipush 8, 2) := by decide +kernel
theorem d_M_draw_78 : decode u_M_draw.2.1 78 = .ok (.iload_n 2, 1) := by decide +kernel
theorem d_M_draw_79 : decode u_M_draw.2.1 79 = .ok (.imul, 1) := by decide +kernel
theorem d_M_draw_80 : decode u_M_draw.2.1 80 = .ok (.iload 8, 2) := by decide +kernel
theorem d_M_draw_82 : decode u_M_draw.2.1 82 = .ok (.iadd, 1) := by decide +kernel
theorem d_M_draw_83 : decode u_M_draw.2.1 83 = .ok (.iaload, 1) := by decide +kernel
theorem d_M_draw_84 : decode u_M_draw.2.1 84 = .ok (.istore 9, 2) := by decide +kernel
theorem d_M_draw_86 : decode u_M_draw.2.1 86 = .ok (.aload_n 0, 1) := by decide +kernel
theorem d_M_draw_87 : decode u_M_draw.2.1 87 = .ok (.iload_n 3, 1) := by decide +kernel
theorem d_M_draw_88 : decode u_M_draw.2.1 88 = .ok (.iload 8, 2) := by decide +kernel
theorem d_M_draw_90 : decode u_M_draw.2.1 90 = .ok (.invokevirtual 117, 3) := by decide +kernel
theorem d_M_draw_93 : decode u_M_draw.2.1 93 = .ok (.istore 10, 2) := by decide +kernel
theorem d_M_draw_95 : decode u_M_draw.2.1 95 = .ok (.iload 9, 2) := by decide +kernel
theorem d_M_draw_97 : decode u_M_draw.2.1 97 = .ok (.iload 10, 2) := by decide +kernel
theorem d_M_draw_99 : decode u_M_draw.2.1 99 = .ok (.aload_n 0, 1) := by decide +kernel
theorem d_M_draw_100 : decode u_M_draw.2.1 100 = .ok (.getfield 31, 3) := by decide +kernel
theorem d_M_draw_103 : decode u_M_draw.2.1 103 = .ok (.iload 8, 2) := by decide +kernel
theorem d_M_draw_105 : decode u_M_draw.2.1 105 = .ok (.iaload, 1) := by decide +kernel
theorem d_M_draw_106 : decode u_M_draw.2.1 106 = .ok (.invokestatic 152, 3) := by decide +kernel
theorem d_M_draw_109 : decode u_M_draw.2.1 109 = .ok (.istore 11, 2) := by decide +kernel
theorem d_M_draw_111 : decode u_M_draw.2.1 111 = .ok (.aload_n 0, 1) := by decide +kernel
theorem d_M_draw_112 : decode u_M_draw.2.1 112 = .ok (.getfield 52, 3) := by decide +kernel
theorem d_M_draw_115 : decode u_M_draw.2.1 115 = .ok (.bipush 8, 2) := by decide +kernel
theorem d_M_draw_117 : decode u_M_draw.2.1 117 = .ok (.aload_n 0, 1) := by decide +kernel
theorem d_M_draw_118 : decode u_M_draw.2.1 118 = .ok (.getfield 157, 3) := by decide +kernel
theorem d_M_draw_121 : decode u_M_draw.2.1 121 = .ok (.imul, 1) := by decide +kernel
theorem d_M_draw_122 : decode u_M_draw.2.1 122 = .ok (.iload 8, 2) := by decide +kernel
theorem d_M_draw_124 : decode u_M_draw.2.1 124 = .ok (.iadd, 1) := by decide +kernel
theorem d_M_draw_125 : decode u_M_draw.2.1 125 = .ok (.iload 10, 2) := by decide +kernel
theorem d_M_draw_127 : decode u_M_draw.2.1 127 = .ok (.iastore, 1) := by decide +kernel
theorem d_M_draw_128 : decode u_M_draw.2.1 128 = .ok (.aload_n 0, 1) := by decide +kernel
theorem d_M_draw_129 : decode u_M_draw.2.1 129 = .ok (.getfield 49, 3) := by decide +kernel
theorem d_M_draw_132 : decode u_M_draw.2.1 132 = .ok (.bipush 8, 2) := by decide +kernel
theorem d_M_draw_134 : decode u_M_draw.2.1 134 = .ok (.aload_n 0, 1) := by decide +kernel
theorem d_M_draw_135 : decode u_M_draw.2.1 135 = .ok (.getfield 157, 3) := by decide +kernel
theorem d_M_draw_138 : decode u_M_draw.2.1 138 = .ok (.imul, 1) := by decide +kernel
theorem d_M_draw_139 : decode u_M_draw.2.1 139 = .ok (.iload 8, 2) := by decide +kernel
theorem d_M_draw_141 : decode u_M_draw.2.1 141 = .ok (.iadd, 1) := by decide +kernel
theorem d_M_draw_142 : decode u_M_draw.2.1 142 = .ok (.iload 11, 2) := by decide +kernel
theorem d_M_draw_144 : decode u_M_draw.2.1 144 = .ok (.iastore, 1) := by decide +kernel
theorem d_M_draw_145 : decode u_M_draw.2.1 145 = .ok (.iload 5, 2) := by decide +kernel
theorem d_M_draw_147 : decode u_M_draw.2.1 147 = .ok (.ifCond .ne 11, 3) := by decide +kernel
theorem d_M_draw_150 : decode u_M_draw.2.1 150 = .ok (.iload 11, 2) := by decide +kernel
theorem d_M_draw_152 : decode u_M_draw.2.1 152 = .ok (.sipush (-9999), 3) := by decide +kernel
theorem d_M_draw_155 : decode u_M_draw.2.1 155 = .ok (.if_icmp .ne 7, 3) := by decide +kernel
theorem d_M_draw_158 : decode u_M_draw.2.1 158 = .ok (.iconst 1, 1) := by decide +kernel
theorem d_M_draw_159 : decode u_M_draw.2.1 159 = .ok (.goto 4, 3) := by decide +kernel
theorem d_M_draw_162 : decode u_M_draw.2.1 162 = .ok (.iconst 0, 1) := by decide +kernel
theorem d_M_draw_163 : decode u_M_draw.2.1 163 = .ok (.istore 5, 2) := by decide +kernel
theorem d_M_draw_165 : decode u_M_draw.2.1 165 = .ok (.iload 6, 2) := by decide +kernel
theorem d_M_draw_167 : decode u_M_draw.2.1 167 = .ok (.ifCond .eq 14, 3) := by decide +kernel
theorem d_M_draw_170 : decode u_M_draw.2.1 170 = .ok (.iload 11, 2) := by decide +kernel
theorem d_M_draw_172 : decode u_M_draw.2.1 172 = .ok (.iload 9, 2) := by decide +kernel
theorem d_M_draw_174 : decode u_M_draw.2.1 174 = .ok (.if_icmp .ne 7, 3) := by decide +kernel
theorem d_M_draw_177 : decode u_M_draw.2.1 177 = .ok (.iconst 1, 1) := by decide +kernel
theorem d_M_draw_178 : decode u_M_draw.2.1 178 = .ok (.goto 4, 3) := by decide +kernel
theorem d_M_draw_181 : decode u_M_draw.2.1 181 = .ok (.iconst 0, 1) := by decide +kernel
theorem d_M_draw_182 : decode u_M_draw.2.1 182 = .ok (.istore 6, 2) := by decide +kernel
theorem d_M_draw_184 : decode u_M_draw.2.1 184 = .ok (.iload 7, 2) := by decide +kernel
theorem d_M_draw_186 : decode u_M_draw.2.1 186 = .ok (.ifCond .ne 33, 3) := by decide +kernel
theorem d_M_draw_189 : decode u_M_draw.2.1 189 = .ok (.iload 9, 2) := by decide +kernel
theorem d_M_draw_191 : decode u_M_draw.2.1 191 = .ok (.iload 10, 2) := by decide +kernel
theorem d_M_draw_193 : decode u_M_draw.2.1 193 = .ok (.if_icmp .eq 30, 3) := by decide +kernel
theorem d_M_draw_196 : decode u_M_draw.2.1 196 = .ok (.aload_n 0, 1) := by decide +kernel
theorem d_M_draw_197 : decode u_M_draw.2.1 197 = .ok (.getfield 31, 3) := by decide +kernel
theorem d_M_draw_200 : decode u_M_draw.2.1 200 = .ok (.iload 8, 2) := by decide +kernel
theorem d_M_draw_202 : decode u_M_draw.2.1 202 = .ok (.iaload, 1) := by decide +kernel
theorem d_M_draw_203 : decode u_M_draw.2.1 203 = .ok (.ifCond .ge 20, 3) := by decide +kernel
theorem d_M_draw_206 : decode u_M_draw.2.1 206 = .ok (.aload_n 0, 1) := by decide +kernel
theorem d_M_draw_207 : decode u_M_draw.2.1 207 = .ok (.getfield 31, 3) := by decide +kernel
theorem d_M_draw_210 : decode u_M_draw.2.1 210 = .ok (.iload 8, 2) := by decide +kernel
theorem d_M_draw_212 : decode u_M_draw.2.1 212 = .ok (.iaload, 1) := by decide +kernel
theorem d_M_draw_213 : decode u_M_draw.2.1 213 = .ok (.sipush (-9999), 3) := by decide +kernel
theorem d_M_draw_216 : decode u_M_draw.2.1 216 = .ok (.if_icmp .eq 7, 3) := by decide +kernel
theorem d_M_draw_219 : decode u_M_draw.2.1 219 = .ok (.iconst 1, 1) := by decide +kernel
theorem d_M_draw_220 : decode u_M_draw.2.1 220 = .ok (.goto 4, 3) := by decide +kernel
theorem d_M_draw_223 : decode u_M_draw.2.1 223 = .ok (.iconst 0, 1) := by decide +kernel
theorem d_M_draw_224 : decode u_M_draw.2.1 224 = .ok (.istore 7, 2) := by decide +kernel
theorem d_M_draw_226 : decode u_M_draw.2.1 226 = .ok (.iinc 8 1, 3) := by decide +kernel
theorem d_M_draw_229 : decode u_M_draw.2.1 229 = .ok (.goto (-164), 3) := by decide +kernel
theorem d_M_draw_232 : decode u_M_draw.2.1 232 = .ok (.aload_n 0, 1) := by decide +kernel
theorem d_M_draw_233 : decode u_M_draw.2.1 233 = .ok (.getfield 37, 3) := by decide +kernel
theorem d_M_draw_236 : decode u_M_draw.2.1 236 = .ok (.aload_n 0, 1) := by decide +kernel
theorem d_M_draw_237 : decode u_M_draw.2.1 237 = .ok (.getfield 157, 3) := by decide +kernel
theorem d_M_draw_240 : decode u_M_draw.2.1 240 = .ok (.iload_n 2, 1) := by decide +kernel
theorem d_M_draw_241 : decode u_M_draw.2.1 241 = .ok (.iastore, 1) := by decide +kernel
theorem d_M_draw_242 : decode u_M_draw.2.1 242 = .ok (.aload_n 0, 1) := by decide +kernel
theorem d_M_draw_243 : decode u_M_draw.2.1 243 = .ok (.getfield 40, 3) := by decide +kernel
theorem d_M_draw_246 : decode u_M_draw.2.1 246 = .ok (.aload_n 0, 1) := by decide +kernel
theorem d_M_draw_247 : decode u_M_draw.2.1 247 = .ok (.getfield 157, 3) := by decide +kernel
theorem d_M_draw_250 : decode u_M_draw.2.1 250 = .ok (.iload 4, 2) := by decide +kernel
theorem d_M_draw_252 : decode u_M_draw.2.1 252 = .ok (.iastore, 1) := by decide +kernel
theorem d_M_draw_253 : decode u_M_draw.2.1 253 = .ok (.aload_n 0, 1) := by decide +kernel
theorem d_M_draw_254 : decode u_M_draw.2.1 254 = .ok (.getfield 43, 3) := by decide +kernel
theorem d_M_draw_257 : decode u_M_draw.2.1 257 = .ok (.aload_n 0, 1) := by decide +kernel
theorem d_M_draw_258 : decode u_M_draw.2.1 258 = .ok (.getfield 157, 3) := by decide +kernel
theorem d_M_draw_261 : decode u_M_draw.2.1 261 = .ok (.iload 5, 2) := by decide +kernel
theorem d_M_draw_263 : decode u_M_draw.2.1 263 = .ok (.ifCond .eq 7, 3) := by decide +kernel
theorem d_M_draw_266 : decode u_M_draw.2.1 266 = .ok (.iconst 3, 1) := by decide +kernel
theorem d_M_draw_267 : decode u_M_draw.2.1 267 = .ok (.goto 22, 3) := by decide +kernel
theorem d_M_draw_270 : decode u_M_draw.2.1 270 = .ok (.iload 6, 2) := by decide +kernel
theorem d_M_draw_272 : decode u_M_draw.2.1 272 = .ok (.ifCond .eq 7, 3) := by decide +kernel
theorem d_M_draw_275 : decode u_M_draw.2.1 275 = .ok (.iconst 0, 1) := by decide +kernel
theorem d_M_draw_276 : decode u_M_draw.2.1 276 = .ok (.goto 13, 3) := by decide +kernel
theorem d_M_draw_279 : decode u_M_draw.2.1 279 = .ok (.iload 7, 2) := by decide +kernel
theorem d_M_draw_281 : decode u_M_draw.2.1 281 = .ok (.ifCond .eq 7, 3) := by decide +kernel
theorem d_M_draw_284 : decode u_M_draw.2.1 284 = .ok (.iconst 2, 1) := by decide +kernel
theorem d_M_draw_285 : decode u_M_draw.2.1 285 = .ok (.goto 4, 3) := by decide +kernel
theorem d_M_draw_288 : decode u_M_draw.2.1 288 = .ok (.iconst 1, 1) := by decide +kernel
theorem d_M_draw_289 : decode u_M_draw.2.1 289 = .ok (.iastore, 1) := by decide +kernel
theorem d_M_draw_290 : decode u_M_draw.2.1 290 = .ok (.aload_n 0, 1) := by decide +kernel
theorem d_M_draw_291 : decode u_M_draw.2.1 291 = .ok (.getfield 46, 3) := by decide +kernel
theorem d_M_draw_294 : decode u_M_draw.2.1 294 = .ok (.aload_n 0, 1) := by decide +kernel
theorem d_M_draw_295 : decode u_M_draw.2.1 295 = .ok (.getfield 157, 3) := by decide +kernel
theorem d_M_draw_298 : decode u_M_draw.2.1 298 = .ok (.iconst (-1), 1) := by decide +kernel
theorem d_M_draw_299 : decode u_M_draw.2.1 299 = .ok (.iastore, 1) := by decide +kernel
theorem d_M_draw_300 : decode u_M_draw.2.1 300 = .ok (.aload_n 0, 1) := by decide +kernel
theorem d_M_draw_301 : decode u_M_draw.2.1 301 = .ok (.dup, 1) := by decide +kernel
theorem d_M_draw_302 : decode u_M_draw.2.1 302 = .ok (.getfield 157, 3) := by decide +kernel
theorem d_M_draw_305 : decode u_M_draw.2.1 305 = .ok (.iconst 1, 1) := by decide +kernel
theorem d_M_draw_306 : decode u_M_draw.2.1 306 = .ok (.iadd, 1) := by decide +kernel
theorem d_M_draw_307 : decode u_M_draw.2.1 307 = .ok (.putfield 157, 3) := by decide +kernel
theorem d_M_draw_310 : decode u_M_draw.2.1 310 = .ok (.aload_n 0, 1) := by decide +kernel
theorem d_M_draw_311 : decode u_M_draw.2.1 311 = .ok (.getfield 157, 3) := by decide +kernel
theorem d_M_draw_314 : decode u_M_draw.2.1 314 = .ok (.iconst 1, 1) := by decide +kernel
theorem d_M_draw_315 : decode u_M_draw.2.1 315 = .ok (.isub, 1) := by decide +kernel
theorem d_M_draw_316 : decode u_M_draw.2.1 316 = .ok (.ireturn, 1) := by decide +kernel
theorem d_M_copied_0 : decode u_M_copied.2.1 0 = .ok (.iload_n 1, 1) := by decide +kernel
theorem d_M_copied_1 : decode u_M_copied.2.1 1 = .ok (.invokestatic 120, 3) := by decide +kernel
theorem d_M_copied_4 : decode u_M_copied.2.1 4 = .ok (.ifCond .eq 19, 3) := by decide +kernel
theorem d_M_copied_7 : decode u_M_copied.2.1 7 = .ok (.aload_n 0, 1) := by decide +kernel
theorem d_M_copied_8 : decode u_M_copied.2.1 8 = .ok (.iload_n 2, 1) := by decide +kernel
theorem d_M_copied_9 : decode u_M_copied.2.1 9 = .ok (.invokevirtual 163, 3) := by decide +kernel
theorem d_M_copied_12 : decode u_M_copied.2.1 12 = .ok (.ifCond .eq 11, 3) := by decide +kernel
theorem d_M_copied_15 : decode u_M_copied.2.1 15 = .ok (.aload_n 0, 1) := by decide +kernel
theorem d_M_copied_16 : decode u_M_copied.2.1 16 = .ok (.iload_n 3, 1) := by decide +kernel
theorem d_M_copied_17 : decode u_M_copied.2.1 17 = .ok (.invokevirtual 160, 3) := by decide +kernel
theorem d_M_copied_20 : decode u_M_copied.2.1 20 = .ok (.ifCond .ne 6, 3) := by decide +kernel
theorem d_M_copied_23 : decode u_M_copied.2.1 23 = .ok (.bipush (-2), 2) := by decide +kernel
theorem d_M_copied_25 : decode u_M_copied.2.1 25 = .ok (.ireturn, 1) := by decide +kernel
theorem d_M_copied_26 : decode u_M_copied.2.1 26 = .ok (.aload_n 0, 1) := by decide +kernel
theorem d_M_copied_27 : decode u_M_copied.2.1 27 = .ok (.getfield 157, 3) := by decide +kernel
theorem d_M_copied_30 : decode u_M_copied.2.1 30 = .ok (.bipush 30, 2) := by decide +kernel
theorem d_M_copied_32 : decode u_M_copied.2.1 32 = .ok (.if_icmp .ne 6, 3) := by decide +kernel
theorem d_M_copied_35 : decode u_M_copied.2.1 35 = .ok (.bipush (-4), 2) := by decide +kernel
theorem d_M_copied_37 : decode u_M_copied.2.1 37 = .ok (.ireturn, 1) := by decide +kernel
theorem d_M_copied_38 : decode u_M_copied.2.1 38 = .ok (.aload_n 0, 1) := by decide +kernel
theorem d_M_copied_39 : decode u_M_copied.2.1 39 = .ok (.iload_n 1, 1) := by decide +kernel
theorem d_M_copied_40 : decode u_M_copied.2.1 40 = .ok (.invokevirtual 146, 3) := by decide +kernel
theorem d_M_copied_43 : decode u_M_copied.2.1 43 = .ok (.pop, 1) := by decide +kernel
theorem d_M_copied_44 : decode u_M_copied.2.1 44 = .ok (.iconst 0, 1) := by decide +kernel
theorem d_M_copied_45 : decode u_M_copied.2.1 45 = .ok (.istore 4, 2) := by decide +kernel
theorem d_M_copied_47 : decode u_M_copied.2.1 47 = .ok (.iload 4, 2) := by decide +kernel
theorem d_M_copied_49 : decode u_M_copied.2.1 49 = .ok (.bipush 8, 2) := by decide +kernel
theorem d_M_copied_51 : decode u_M_copied.2.1 51 = .ok (.if_icmp .ge 79, 3) := by decide +kernel
theorem d_M_copied_54 : decode u_M_copied.2.1 54 = .ok (.aload_n 0, 1) := by decide +kernel
theorem d_M_copied_55 : decode u_M_copied.2.1 55 = .ok (.getfield 52, 3) := by decide +kernel
theorem d_M_copied_58 : decode u_M_copied.2.1 58 = .ok (.bipush 8, 2) := by decide +kernel
theorem d_M_copied_60 : decode u_M_copied.2.1 60 = .ok (.iload_n 2, 1) := by decide +kernel
theorem d_M_copied_61 : decode u_M_copied.2.1 61 = .ok (.imul, 1) := by decide +kernel
theorem d_M_copied_62 : decode u_M_copied.2.1 62 = .ok (.iload 4, 2) := by decide +kernel
theorem d_M_copied_64 : decode u_M_copied.2.1 64 = .ok (.iadd, 1) := by decide +kernel
theorem d_M_copied_65 : decode u_M_copied.2.1 65 = .ok (.iaload, 1) := by decide +kernel
theorem d_M_copied_66 : decode u_M_copied.2.1 66 = .ok (.istore 5, 2) := by decide +kernel
theorem d_M_copied_68 : decode u_M_copied.2.1 68 = .ok (.aload_n 0, 1) := by decide +kernel
theorem d_M_copied_69 : decode u_M_copied.2.1 69 = .ok (.getfield 52, 3) := by decide +kernel
theorem d_M_copied_72 : decode u_M_copied.2.1 72 = .ok (.bipush 8, 2) := by decide +kernel
theorem d_M_copied_74 : decode u_M_copied.2.1 74 = .ok (.aload_n 0, 1) := by decide +kernel
theorem d_M_copied_75 : decode u_M_copied.2.1 75 = .ok (.getfield 157, 3) := by decide +kernel
theorem d_M_copied_78 : decode u_M_copied.2.1 78 = .ok (.imul, 1) := by decide +kernel
theorem d_M_copied_79 : decode u_M_copied.2.1 79 = .ok (.iload 4, 2) := by decide +kernel
theorem d_M_copied_81 : decode u_M_copied.2.1 81 = .ok (.iadd, 1) := by decide +kernel
theorem d_M_copied_82 : decode u_M_copied.2.1 82 = .ok (.iload 5, 2) := by decide +kernel
theorem d_M_copied_84 : decode u_M_copied.2.1 84 = .ok (.iastore, 1) := by decide +kernel
theorem d_M_copied_85 : decode u_M_copied.2.1 85 = .ok (.aload_n 0, 1) := by decide +kernel
theorem d_M_copied_86 : decode u_M_copied.2.1 86 = .ok (.getfield 49, 3) := by decide +kernel
theorem d_M_copied_89 : decode u_M_copied.2.1 89 = .ok (.bipush 8, 2) := by decide +kernel
theorem d_M_copied_91 : decode u_M_copied.2.1 91 = .ok (.aload_n 0, 1) := by decide +kernel
theorem d_M_copied_92 : decode u_M_copied.2.1 92 = .ok (.getfield 157, 3) := by decide +kernel
theorem d_M_copied_95 : decode u_M_copied.2.1 95 = .ok (.imul, 1) := by decide +kernel
theorem d_M_copied_96 : decode u_M_copied.2.1 96 = .ok (.iload 4, 2) := by decide +kernel
theorem d_M_copied_98 : decode u_M_copied.2.1 98 = .ok (.iadd, 1) := by decide +kernel
theorem d_M_copied_99 : decode u_M_copied.2.1 99 = .ok (.aload_n 0, 1) := by decide +kernel
theorem d_M_copied_100 : decode u_M_copied.2.1 100 = .ok (.getfield 49, 3) := by decide +kernel
theorem d_M_copied_103 : decode u_M_copied.2.1 103 = .ok (.bipush 8, 2) := by decide +kernel
theorem d_M_copied_105 : decode u_M_copied.2.1 105 = .ok (.iload_n 2, 1) := by decide +kernel
theorem d_M_copied_106 : decode u_M_copied.2.1 106 = .ok (.imul, 1) := by decide +kernel
theorem d_M_copied_107 : decode u_M_copied.2.1 107 = .ok (.iload 4, 2) := by decide +kernel
theorem d_M_copied_109 : decode u_M_copied.2.1 109 = .ok (.iadd, 1) := by decide +kernel
theorem d_M_copied_110 : decode u_M_copied.2.1 110 = .ok (.iaload, 1) := by decide +kernel
theorem d_M_copied_111 : decode u_M_copied.2.1 111 = .ok (.iload 5, 2) := by decide +kernel
theorem d_M_copied_113 : decode u_M_copied.2.1 113 = .ok (.aload_n 0, 1) := by decide +kernel
theorem d_M_copied_114 : decode u_M_copied.2.1 114 = .ok (.getfield 31, 3) := by decide +kernel
theorem d_M_copied_117 : decode u_M_copied.2.1 117 = .ok (.iload 4, 2) := by decide +kernel
theorem d_M_copied_119 : decode u_M_copied.2.1 119 = .ok (.iaload, 1) := by decide +kernel
theorem d_M_copied_120 : decode u_M_copied.2.1 120 = .ok (.invokestatic 152, 3) := by decide +kernel
theorem d_M_copied_123 : decode u_M_copied.2.1 123 = .ok (.iastore, 1) := by decide +kernel
theorem d_M_copied_124 : decode u_M_copied.2.1 124 = .ok (.iinc 4 1, 3) := by decide +kernel
theorem d_M_copied_127 : decode u_M_copied.2.1 127 = .ok (.goto (-80), 3) := by decide +kernel
theorem d_M_copied_130 : decode u_M_copied.2.1 130 = .ok (.aload_n 0, 1) := by decide +kernel
theorem d_M_copied_131 : decode u_M_copied.2.1 131 = .ok (.getfield 37, 3) := by decide +kernel
theorem d_M_copied_134 : decode u_M_copied.2.1 134 = .ok (.aload_n 0, 1) := by decide +kernel
theorem d_M_copied_135 : decode u_M_copied.2.1 135 = .ok (.getfield 157, 3) := by decide +kernel
theorem d_M_copied_138 : decode u_M_copied.2.1 138 = .ok (.aload_n 0, 1) := by decide +kernel
theorem d_M_copied_139 : decode u_M_copied.2.1 139 = .ok (.getfield 37, 3) := by decide +kernel
theorem d_M_copied_142 : decode u_M_copied.2.1 142 = .ok (.iload_n 2, 1) := by decide +kernel
theorem d_M_copied_143 : decode u_M_copied.2.1 143 = .ok (.iaload, 1) := by decide +kernel
theorem d_M_copied_144 : decode u_M_copied.2.1 144 = .ok (.iastore, 1) := by decide +kernel
theorem d_M_copied_145 : decode u_M_copied.2.1 145 = .ok (.aload_n 0, 1) := by decide +kernel
theorem d_M_copied_146 : decode u_M_copied.2.1 146 = .ok (.getfield 40, 3) := by decide +kernel
theorem d_M_copied_149 : decode u_M_copied.2.1 149 = .ok (.aload_n 0, 1) := by decide +kernel
theorem d_M_copied_150 : decode u_M_copied.2.1 150 = .ok (.getfield 157, 3) := by decide +kernel
theorem d_M_copied_153 : decode u_M_copied.2.1 153 = .ok (.iload_n 3, 1) := by decide +kernel
theorem d_M_copied_154 : decode u_M_copied.2.1 154 = .ok (.iastore, 1) := by decide +kernel
theorem d_M_copied_155 : decode u_M_copied.2.1 155 = .ok (.aload_n 0, 1) := by decide +kernel
theorem d_M_copied_156 : decode u_M_copied.2.1 156 = .ok (.getfield 43, 3) := by decide +kernel
theorem d_M_copied_159 : decode u_M_copied.2.1 159 = .ok (.aload_n 0, 1) := by decide +kernel
theorem d_M_copied_160 : decode u_M_copied.2.1 160 = .ok (.getfield 157, 3) := by decide +kernel
theorem d_M_copied_163 : decode u_M_copied.2.1 163 = .ok (.iconst 4, 1) := by decide +kernel
theorem d_M_copied_164 : decode u_M_copied.2.1 164 = .ok (.iastore, 1) := by decide +kernel
theorem d_M_copied_165 : decode u_M_copied.2.1 165 = .ok (.aload_n 0, 1) := by decide +kernel
theorem d_M_copied_166 : decode u_M_copied.2.1 166 = .ok (.getfield 46, 3) := by decide +kernel
theorem d_M_copied_169 : decode u_M_copied.2.1 169 = .ok (.aload_n 0, 1) := by decide +kernel
theorem d_M_copied_170 : decode u_M_copied.2.1 170 = .ok (.getfield 157, 3) := by decide +kernel
theorem d_M_copied_173 : decode u_M_copied.2.1 173 = .ok (.iload_n 2, 1) := by decide +kernel
theorem d_M_copied_174 : decode u_M_copied.2.1 174 = .ok (.iastore, 1) := by decide +kernel
theorem d_M_copied_175 : decode u_M_copied.2.1 175 = .ok (.aload_n 0, 1) := by decide +kernel
theorem d_M_copied_176 : decode u_M_copied.2.1 176 = .ok (.dup, 1) := by decide +kernel
theorem d_M_copied_177 : decode u_M_copied.2.1 177 = .ok (.getfield 157, 3) := by decide +kernel
theorem d_M_copied_180 : decode u_M_copied.2.1 180 = .ok (.iconst 1, 1) := by decide +kernel
theorem d_M_copied_181 : decode u_M_copied.2.1 181 = .ok (.iadd, 1) := by decide +kernel
theorem d_M_copied_182 : decode u_M_copied.2.1 182 = .ok (.putfield 157, 3) := by decide +kernel
theorem d_M_copied_185 : decode u_M_copied.2.1 185 = .ok (.aload_n 0, 1) := by decide +kernel
theorem d_M_copied_186 : decode u_M_copied.2.1 186 = .ok (.getfield 157, 3) := by decide +kernel
theorem d_M_copied_189 : decode u_M_copied.2.1 189 = .ok (.iconst 1, 1) := by decide +kernel
theorem d_M_copied_190 : decode u_M_copied.2.1 190 = .ok (.isub, 1) := by decide +kernel
theorem d_M_copied_191 : decode u_M_copied.2.1 191 = .ok (.ireturn, 1) := by decide +kernel
theorem d_M_line_0 : decode u_M_line.2.1 0 = .ok (.aload_n 0, 1) := by decide +kernel
theorem d_M_line_1 : decode u_M_line.2.1 1 = .ok (.iload_n 1, 1) := by decide +kernel
theorem d_M_line_2 : decode u_M_line.2.1 2 = .ok (.invokevirtual 163, 3) := by decide +kernel
theorem d_M_line_5 : decode u_M_line.2.1 5 = .ok (.ifCond .eq 24, 3) := by decide +kernel
theorem d_M_line_8 : decode u_M_line.2.1 8 = .ok (.iload_n 2, 1) := by decide +kernel
theorem d_M_line_9 : decode u_M_line.2.1 9 = .ok (.invokestatic 106, 3) := by decide +kernel
theorem d_M_line_12 : decode u_M_line.2.1 12 = .ok (.ifCond .eq 17, 3) := by decide +kernel
theorem d_M_line_15 : decode u_M_line.2.1 15 = .ok (.aload_n 0, 1) := by decide +kernel
theorem d_M_line_16 : decode u_M_line.2.1 16 = .ok (.getfield 49, 3) := by decide +kernel
theorem d_M_line_19 : decode u_M_line.2.1 19 = .ok (.bipush 8, 2) := by decide +kernel
theorem d_M_line_21 : decode u_M_line.2.1 21 = .ok (.iload_n 1, 1) := by decide +kernel
theorem d_M_line_22 : decode u_M_line.2.1 22 = .ok (.imul, 1) := by decide +kernel
theorem d_M_line_23 : decode u_M_line.2.1 23 = .ok (.iload_n 2, 1) := by decide +kernel
theorem d_M_line_24 : decode u_M_line.2.1 24 = .ok (.iadd, 1) := by decide +kernel
theorem d_M_line_25 : decode u_M_line.2.1 25 = .ok (.iaload, 1) := by decide +kernel
theorem d_M_line_26 : decode u_M_line.2.1 26 = .ok (.goto 8, 3) := by decide +kernel
theorem d_M_line_29 : decode u_M_line.2.1 29 = .ok (.bipush (-2), 2) := by decide +kernel
theorem d_M_line_31 : decode u_M_line.2.1 31 = .ok (.invokestatic 149, 3) := by decide +kernel
theorem d_M_line_34 : decode u_M_line.2.1 34 = .ok (.ireturn, 1) := by decide +kernel
theorem d_M_isMonster_0 : decode u_M_isMonster.2.1 0 = .ok (.iconst 0, 1) := by decide +kernel
theorem d_M_isMonster_1 : decode u_M_isMonster.2.1 1 = .ok (.istore_n 2, 1) := by decide +kernel
theorem d_M_isMonster_2 : decode u_M_isMonster.2.1 2 = .ok (.iconst 0, 1) := by decide +kernel
theorem d_M_isMonster_3 : decode u_M_isMonster.2.1 3 = .ok (.istore_n 3, 1) := by decide +kernel
theorem d_M_isMonster_4 : decode u_M_isMonster.2.1 4 = .ok (.iload_n 3, 1) := by decide +kernel
theorem d_M_isMonster_5 : decode u_M_isMonster.2.1 5 = .ok (.bipush 8, 2) := by decide +kernel
theorem d_M_isMonster_7 : decode u_M_isMonster.2.1 7 = .ok (.if_icmp .ge 66, 3) := by decide +kernel
theorem d_M_isMonster_10 : decode u_M_isMonster.2.1 10 = .ok (.aload_n 0, 1) := by decide +kernel
theorem d_M_isMonster_11 : decode u_M_isMonster.2.1 11 = .ok (.getfield 49, 3) := by decide +kernel
theorem d_M_isMonster_14 : decode u_M_isMonster.2.1 14 = .ok (.bipush 8, 2) := by decide +kernel
theorem d_M_isMonster_16 : decode u_M_isMonster.2.1 16 = .ok (.iload_n 1, 1) := by decide +kernel
theorem d_M_isMonster_17 : decode u_M_isMonster.2.1 17 = .ok (.imul, 1) := by decide +kernel
theorem d_M_isMonster_18 : decode u_M_isMonster.2.1 18 = .ok (.iload_n 3, 1) := by decide +kernel
theorem d_M_isMonster_19 : decode u_M_isMonster.2.1 19 = .ok (.iadd, 1) := by decide +kernel
theorem d_M_isMonster_20 : decode u_M_isMonster.2.1 20 = .ok (.iaload, 1) := by decide +kernel
theorem d_M_isMonster_21 : decode u_M_isMonster.2.1 21 = .ok (.istore 4, 2) := by decide +kernel
theorem d_M_isMonster_23 : decode u_M_isMonster.2.1 23 = .ok (.iload_n 2, 1) := by decide +kernel
theorem d_M_isMonster_24 : decode u_M_isMonster.2.1 24 = .ok (.ifCond .ne 37, 3) := by decide +kernel
theorem d_M_isMonster_27 : decode u_M_isMonster.2.1 27 = .ok (.iload 4, 2) := by decide +kernel
theorem d_M_isMonster_29 : decode u_M_isMonster.2.1 29 = .ok (.sipush (-9999), 3) := by decide +kernel
theorem d_M_isMonster_32 : decode u_M_isMonster.2.1 32 = .ok (.if_icmp .eq 33, 3) := by decide +kernel
theorem d_M_isMonster_35 : decode u_M_isMonster.2.1 35 = .ok (.iload 4, 2) := by decide +kernel
theorem d_M_isMonster_37 : decode u_M_isMonster.2.1 37 = .ok (.aload_n 0, 1) := by decide +kernel
theorem d_M_isMonster_38 : decode u_M_isMonster.2.1 38 = .ok (.getfield 52, 3) := by decide +kernel
theorem d_M_isMonster_41 : decode u_M_isMonster.2.1 41 = .ok (.bipush 8, 2) := by decide +kernel
theorem d_M_isMonster_43 : decode u_M_isMonster.2.1 43 = .ok (.iload_n 1, 1) := by decide +kernel
theorem d_M_isMonster_44 : decode u_M_isMonster.2.1 44 = .ok (.imul, 1) := by decide +kernel
theorem d_M_isMonster_45 : decode u_M_isMonster.2.1 45 = .ok (.iload_n 3, 1) := by decide +kernel
theorem d_M_isMonster_46 : decode u_M_isMonster.2.1 46 = .ok (.iadd, 1) := by decide +kernel
theorem d_M_isMonster_47 : decode u_M_isMonster.2.1 47 = .ok (.iaload, 1) := by decide +kernel
theorem d_M_isMonster_48 : decode u_M_isMonster.2.1 48 = .ok (.isub, 1) := by decide +kernel
theorem d_M_isMonster_49 : decode u_M_isMonster.2.1 49 = .ok (.invokestatic 166, 3) := by decide +kernel
theorem d_M_isMonster_52 : decode u_M_isMonster.2.1 52 = .ok (.aload_n 0, 1) := by decide +kernel
theorem d_M_isMonster_53 : decode u_M_isMonster.2.1 53 = .ok (.getfield 34, 3) := by decide +kernel
theorem d_M_isMonster_56 : decode u_M_isMonster.2.1 56 = .ok (.iconst 0, 1) := by decide +kernel
theorem d_M_isMonster_57 : decode u_M_isMonster.2.1 57 = .ok (.iaload, 1) := by decide +kernel
theorem d_M_isMonster_58 : decode u_M_isMonster.2.1 58 = .ok (.if_icmp .le 7, 3) := by decide +kernel
theorem d_M_isMonster_61 : decode u_M_isMonster.2.1 61 = .ok (.iconst 1, 1) := by decide +kernel
theorem d_M_isMonster_62 : decode u_M_isMonster.2.1 62 = .ok (.goto 4, 3) := by decide +kernel
theorem d_M_isMonster_65 : decode u_M_isMonster.2.1 65 = .ok (.iconst 0, 1) := by decide +kernel
theorem d_M_isMonster_66 : decode u_M_isMonster.2.1 66 = .ok (.istore_n 2, 1) := by decide +kernel
theorem d_M_isMonster_67 : decode u_M_isMonster.2.1 67 = .ok (.iinc 3 1, 3) := by decide +kernel
theorem d_M_isMonster_70 : decode u_M_isMonster.2.1 70 = .ok (.goto (-66), 3) := by decide +kernel
theorem d_M_isMonster_73 : decode u_M_isMonster.2.1 73 = .ok (.iload_n 2, 1) := by decide +kernel
theorem d_M_isMonster_74 : decode u_M_isMonster.2.1 74 = .ok (.ireturn, 1) := by decide +kernel
theorem d_M_unlikeBy_0 : decode u_M_unlikeBy.2.1 0 = .ok (.iload_n 1, 1) := by decide +kernel
theorem d_M_unlikeBy_1 : decode u_M_unlikeBy.2.1 1 = .ok (.sipush (-9999), 3) := by decide +kernel
theorem d_M_unlikeBy_4 : decode u_M_unlikeBy.2.1 4 = .ok (.if_icmp .eq 10, 3) := by decide +kernel
theorem d_M_unlikeBy_7 : decode u_M_unlikeBy.2.1 7 = .ok (.iload_n 2, 1) := by decide +kernel
theorem d_M_unlikeBy_8 : decode u_M_unlikeBy.2.1 8 = .ok (.sipush (-9999), 3) := by decide +kernel
theorem d_M_unlikeBy_11 : decode u_M_unlikeBy.2.1 11 = .ok (.if_icmp .ne 19, 3) := by decide +kernel
theorem d_M_unlikeBy_14 : decode u_M_unlikeBy.2.1 14 = .ok (.iload_n 1, 1) := by decide +kernel
theorem d_M_unlikeBy_15 : decode u_M_unlikeBy.2.1 15 = .ok (.iload_n 2, 1) := by decide +kernel
theorem d_M_unlikeBy_16 : decode u_M_unlikeBy.2.1 16 = .ok (.if_icmp .ne 7, 3) := by decide +kernel
theorem d_M_unlikeBy_19 : decode u_M_unlikeBy.2.1 19 = .ok (.iconst 0, 1) := by decide +kernel
theorem d_M_unlikeBy_20 : decode u_M_unlikeBy.2.1 20 = .ok (.goto 9, 3) := by decide +kernel
theorem d_M_unlikeBy_23 : decode u_M_unlikeBy.2.1 23 = .ok (.aload_n 0, 1) := by decide +kernel
theorem d_M_unlikeBy_24 : decode u_M_unlikeBy.2.1 24 = .ok (.getfield 34, 3) := by decide +kernel
theorem d_M_unlikeBy_27 : decode u_M_unlikeBy.2.1 27 = .ok (.iconst 2, 1) := by decide +kernel
theorem d_M_unlikeBy_28 : decode u_M_unlikeBy.2.1 28 = .ok (.iaload, 1) := by decide +kernel
theorem d_M_unlikeBy_29 : decode u_M_unlikeBy.2.1 29 = .ok (.ireturn, 1) := by decide +kernel
theorem d_M_unlikeBy_30 : decode u_M_unlikeBy.2.1 30 = .ok (.iload_n 1, 1) := by decide +kernel
theorem d_M_unlikeBy_31 : decode u_M_unlikeBy.2.1 31 = .ok (.iload_n 2, 1) := by decide +kernel
theorem d_M_unlikeBy_32 : decode u_M_unlikeBy.2.1 32 = .ok (.isub, 1) := by decide +kernel
theorem d_M_unlikeBy_33 : decode u_M_unlikeBy.2.1 33 = .ok (.invokestatic 166, 3) := by decide +kernel
theorem d_M_unlikeBy_36 : decode u_M_unlikeBy.2.1 36 = .ok (.ireturn, 1) := by decide +kernel
theorem d_M_unlikeOf_0 : decode u_M_unlikeOf.2.1 0 = .ok (.iconst 0, 1) := by decide +kernel
theorem d_M_unlikeOf_1 : decode u_M_unlikeOf.2.1 1 = .ok (.istore_n 3, 1) := by decide +kernel
theorem d_M_unlikeOf_2 : decode u_M_unlikeOf.2.1 2 = .ok (.iconst 0, 1) := by decide +kernel
theorem d_M_unlikeOf_3 : decode u_M_unlikeOf.2.1 3 = .ok (.istore 4, 2) := by decide +kernel
theorem d_M_unlikeOf_5 : decode u_M_unlikeOf.2.1 5 = .ok (.iload 4, 2) := by decide +kernel
theorem d_M_unlikeOf_7 : decode u_M_unlikeOf.2.1 7 = .ok (.bipush 8, 2) := by decide +kernel
theorem d_M_unlikeOf_9 : decode u_M_unlikeOf.2.1 9 = .ok (.if_icmp .ge 40, 3) := by decide +kernel
theorem d_M_unlikeOf_12 : decode u_M_unlikeOf.2.1 12 = .ok (.iload_n 3, 1) := by decide +kernel
theorem d_M_unlikeOf_13 : decode u_M_unlikeOf.2.1 13 = .ok (.aload_n 0, 1) := by decide +kernel
theorem d_M_unlikeOf_14 : decode u_M_unlikeOf.2.1 14 = .ok (.aload_n 0, 1) := by decide +kernel
theorem d_M_unlikeOf_15 : decode u_M_unlikeOf.2.1 15 = .ok (.getfield 49, 3) := by decide +kernel
theorem d_M_unlikeOf_18 : decode u_M_unlikeOf.2.1 18 = .ok (.bipush 8, 2) := by decide +kernel
theorem d_M_unlikeOf_20 : decode u_M_unlikeOf.2.1 20 = .ok (.iload_n 1, 1) := by decide +kernel
theorem d_M_unlikeOf_21 : decode u_M_unlikeOf.2.1 21 = .ok (.imul, 1) := by decide +kernel
theorem d_M_unlikeOf_22 : decode u_M_unlikeOf.2.1 22 = .ok (.iload 4, 2) := by decide +kernel
theorem d_M_unlikeOf_24 : decode u_M_unlikeOf.2.1 24 = .ok (.iadd, 1) := by decide +kernel
theorem d_M_unlikeOf_25 : decode u_M_unlikeOf.2.1 25 = .ok (.iaload, 1) := by decide +kernel
theorem d_M_unlikeOf_26 : decode u_M_unlikeOf.2.1 26 = .ok (.aload_n 0, 1) := by decide +kernel
theorem d_M_unlikeOf_27 : decode u_M_unlikeOf.2.1 27 = .ok (.getfield 49, 3) := by decide +kernel
theorem d_M_unlikeOf_30 : decode u_M_unlikeOf.2.1 30 = .ok (.bipush 8, 2) := by decide +kernel
theorem d_M_unlikeOf_32 : decode u_M_unlikeOf.2.1 32 = .ok (.iload_n 2, 1) := by decide +kernel
theorem d_M_unlikeOf_33 : decode u_M_unlikeOf.2.1 33 = .ok (.imul, 1) := by decide +kernel
theorem d_M_unlikeOf_34 : decode u_M_unlikeOf.2.1 34 = .ok (.iload 4, 2) := by decide +kernel
theorem d_M_unlikeOf_36 : decode u_M_unlikeOf.2.1 36 = .ok (.iadd, 1) := by decide +kernel
theorem d_M_unlikeOf_37 : decode u_M_unlikeOf.2.1 37 = .ok (.iaload, 1) := by decide +kernel
theorem d_M_unlikeOf_38 : decode u_M_unlikeOf.2.1 38 = .ok (.invokevirtual 169, 3) := by decide +kernel
theorem d_M_unlikeOf_41 : decode u_M_unlikeOf.2.1 41 = .ok (.iadd, 1) := by decide +kernel
theorem d_M_unlikeOf_42 : decode u_M_unlikeOf.2.1 42 = .ok (.istore_n 3, 1) := by decide +kernel
theorem d_M_unlikeOf_43 : decode u_M_unlikeOf.2.1 43 = .ok (.iinc 4 1, 3) := by decide +kernel
theorem d_M_unlikeOf_46 : decode u_M_unlikeOf.2.1 46 = .ok (.goto (-41), 3) := by decide +kernel
theorem d_M_unlikeOf_49 : decode u_M_unlikeOf.2.1 49 = .ok (.iload_n 3, 1) := by decide +kernel
theorem d_M_unlikeOf_50 : decode u_M_unlikeOf.2.1 50 = .ok (.ireturn, 1) := by decide +kernel
theorem d_M_unlike_0 : decode u_M_unlike.2.1 0 = .ok (.aload_n 0, 1) := by decide +kernel
theorem d_M_unlike_1 : decode u_M_unlike.2.1 1 = .ok (.iload_n 1, 1) := by decide +kernel
theorem d_M_unlike_2 : decode u_M_unlike.2.1 2 = .ok (.invokevirtual 163, 3) := by decide +kernel
theorem d_M_unlike_5 : decode u_M_unlike.2.1 5 = .ok (.ifCond .eq 20, 3) := by decide +kernel
theorem d_M_unlike_8 : decode u_M_unlike.2.1 8 = .ok (.aload_n 0, 1) := by decide +kernel
theorem d_M_unlike_9 : decode u_M_unlike.2.1 9 = .ok (.iload_n 2, 1) := by decide +kernel
theorem d_M_unlike_10 : decode u_M_unlike.2.1 10 = .ok (.invokevirtual 163, 3) := by decide +kernel
theorem d_M_unlike_13 : decode u_M_unlike.2.1 13 = .ok (.ifCond .eq 12, 3) := by decide +kernel
theorem d_M_unlike_16 : decode u_M_unlike.2.1 16 = .ok (.aload_n 0, 1) := by decide +kernel
theorem d_M_unlike_17 : decode u_M_unlike.2.1 17 = .ok (.iload_n 1, 1) := by decide +kernel
theorem d_M_unlike_18 : decode u_M_unlike.2.1 18 = .ok (.iload_n 2, 1) := by decide +kernel
theorem d_M_unlike_19 : decode u_M_unlike.2.1 19 = .ok (.invokevirtual 172, 3) := by decide +kernel
theorem d_M_unlike_22 : decode u_M_unlike.2.1 22 = .ok (.goto 5, 3) := by decide +kernel
theorem d_M_unlike_25 : decode u_M_unlike.2.1 25 = .ok (.bipush (-2), 2) := by decide +kernel
theorem d_M_unlike_27 : decode u_M_unlike.2.1 27 = .ok (.ireturn, 1) := by decide +kernel
theorem d_M_fromOf_0 : decode u_M_fromOf.2.1 0 = .ok (.iconst (-1), 1) := by decide +kernel
theorem d_M_fromOf_1 : decode u_M_fromOf.2.1 1 = .ok (.istore_n 2, 1) := by decide +kernel
theorem d_M_fromOf_2 : decode u_M_fromOf.2.1 2 = .ok (.iconst 0, 1) := by decide +kernel
theorem d_M_fromOf_3 : decode u_M_fromOf.2.1 3 = .ok (.istore_n 3, 1) := by decide +kernel
theorem d_M_fromOf_4 : decode u_M_fromOf.2.1 4 = .ok (.iload_n 3, 1) := by decide +kernel
theorem d_M_fromOf_5 : decode u_M_fromOf.2.1 5 = .ok (.iload_n 1, 1) := by decide +kernel
theorem d_M_fromOf_6 : decode u_M_fromOf.2.1 6 = .ok (.if_icmp .ge 62, 3) := by decide +kernel
theorem d_M_fromOf_9 : decode u_M_fromOf.2.1 9 = .ok (.aload_n 0, 1) := by decide +kernel
theorem d_M_fromOf_10 : decode u_M_fromOf.2.1 10 = .ok (.getfield 37, 3) := by decide +kernel
theorem d_M_fromOf_13 : decode u_M_fromOf.2.1 13 = .ok (.iload_n 3, 1) := by decide +kernel
theorem d_M_fromOf_14 : decode u_M_fromOf.2.1 14 = .ok (.iaload, 1) := by decide +kernel
theorem d_M_fromOf_15 : decode u_M_fromOf.2.1 15 = .ok (.aload_n 0, 1) := by decide +kernel
theorem d_M_fromOf_16 : decode u_M_fromOf.2.1 16 = .ok (.getfield 37, 3) := by decide +kernel
theorem d_M_fromOf_19 : decode u_M_fromOf.2.1 19 = .ok (.iload_n 1, 1) := by decide +kernel
theorem d_M_fromOf_20 : decode u_M_fromOf.2.1 20 = .ok (.iaload, 1) := by decide +kernel
theorem d_M_fromOf_21 : decode u_M_fromOf.2.1 21 = .ok (.if_icmp .ne 7, 3) := by decide +kernel
theorem d_M_fromOf_24 : decode u_M_fromOf.2.1 24 = .ok (.iconst 1, 1) := by decide +kernel
theorem d_M_fromOf_25 : decode u_M_fromOf.2.1 25 = .ok (.goto 4, 3) := by decide +kernel
theorem d_M_fromOf_28 : decode u_M_fromOf.2.1 28 = .ok (.iconst 0, 1) := by decide +kernel
theorem d_M_fromOf_29 : decode u_M_fromOf.2.1 29 = .ok (.istore 4, 2) := by decide +kernel
theorem d_M_fromOf_31 : decode u_M_fromOf.2.1 31 = .ok (.iload 4, 2) := by decide +kernel
theorem d_M_fromOf_33 : decode u_M_fromOf.2.1 33 = .ok (.ifCond .eq 27, 3) := by decide +kernel
theorem d_M_fromOf_36 : decode u_M_fromOf.2.1 36 = .ok (.iload_n 2, 1) := by decide +kernel
theorem d_M_fromOf_37 : decode u_M_fromOf.2.1 37 = .ok (.iconst (-1), 1) := by decide +kernel
theorem d_M_fromOf_38 : decode u_M_fromOf.2.1 38 = .ok (.if_icmp .eq 18, 3) := by decide +kernel
theorem d_M_fromOf_41 : decode u_M_fromOf.2.1 41 = .ok (.aload_n 0, 1) := by decide +kernel
theorem d_M_fromOf_42 : decode u_M_fromOf.2.1 42 = .ok (.iload_n 3, 1) := by decide +kernel
theorem d_M_fromOf_43 : decode u_M_fromOf.2.1 43 = .ok (.iload_n 1, 1) := by decide +kernel
theorem d_M_fromOf_44 : decode u_M_fromOf.2.1 44 = .ok (.invokevirtual 172, 3) := by decide +kernel
theorem d_M_fromOf_47 : decode u_M_fromOf.2.1 47 = .ok (.aload_n 0, 1) := by decide +kernel
theorem d_M_fromOf_48 : decode u_M_fromOf.2.1 48 = .ok (.iload_n 2, 1) := by decide +kernel
theorem d_M_fromOf_49 : decode u_M_fromOf.2.1 49 = .ok (.iload_n 1, 1) := by decide +kernel
theorem d_M_fromOf_50 : decode u_M_fromOf.2.1 50 = .ok (.invokevirtual 172, 3) := by decide +kernel
theorem d_M_fromOf_53 : decode u_M_fromOf.2.1 53 = .ok (.if_icmp .ge 7, 3) := by decide +kernel
theorem d_M_fromOf_56 : decode u_M_fromOf.2.1 56 = .ok (.iload_n 3, 1) := by decide +kernel
theorem d_M_fromOf_57 : decode u_M_fromOf.2.1 57 = .ok (.goto 4, 3) := by decide +kernel
theorem d_M_fromOf_60 : decode u_M_fromOf.2.1 60 = .ok (.iload_n 2, 1) := by decide +kernel
theorem d_M_fromOf_61 : decode u_M_fromOf.2.1 61 = .ok (.istore_n 2, 1) := by decide +kernel
theorem d_M_fromOf_62 : decode u_M_fromOf.2.1 62 = .ok (.iinc 3 1, 3) := by decide +kernel
theorem d_M_fromOf_65 : decode u_M_fromOf.2.1 65 = .ok (.goto (-61), 3) := by decide +kernel
theorem d_M_fromOf_68 : decode u_M_fromOf.2.1 68 = .ok (.iload_n 2, 1) := by decide +kernel
theorem d_M_fromOf_69 : decode u_M_fromOf.2.1 69 = .ok (.ireturn, 1) := by decide +kernel
theorem d_M_agesOf_0 : decode u_M_agesOf.2.1 0 = .ok (.iconst 0, 1) := by decide +kernel
theorem d_M_agesOf_1 : decode u_M_agesOf.2.1 1 = .ok (.istore_n 2, 1) := by decide +kernel
theorem d_M_agesOf_2 : decode u_M_agesOf.2.1 2 = .ok (.aload_n 0, 1) := by decide +kernel
theorem d_M_agesOf_3 : decode u_M_agesOf.2.1 3 = .ok (.iload_n 1, 1) := by decide +kernel
theorem d_M_agesOf_4 : decode u_M_agesOf.2.1 4 = .ok (.invokevirtual 175, 3) := by decide +kernel
theorem d_M_agesOf_7 : decode u_M_agesOf.2.1 7 = .ok (.istore_n 3, 1) := by decide +kernel
theorem d_M_agesOf_8 : decode u_M_agesOf.2.1 8 = .ok (.iload_n 3, 1) := by decide +kernel
theorem d_M_agesOf_9 : decode u_M_agesOf.2.1 9 = .ok (.iconst (-1), 1) := by decide +kernel
theorem d_M_agesOf_10 : decode u_M_agesOf.2.1 10 = .ok (.if_icmp .eq 15, 3) := by decide +kernel
theorem d_M_agesOf_13 : decode u_M_agesOf.2.1 13 = .ok (.iinc 2 1, 3) := by decide +kernel
theorem d_M_agesOf_16 : decode u_M_agesOf.2.1 16 = .ok (.aload_n 0, 1) := by decide +kernel
theorem d_M_agesOf_17 : decode u_M_agesOf.2.1 17 = .ok (.iload_n 3, 1) := by decide +kernel
theorem d_M_agesOf_18 : decode u_M_agesOf.2.1 18 = .ok (.invokevirtual 175, 3) := by decide +kernel
theorem d_M_agesOf_21 : decode u_M_agesOf.2.1 21 = .ok (.istore_n 3, 1) := by decide +kernel
theorem d_M_agesOf_22 : decode u_M_agesOf.2.1 22 = .ok (.goto (-14), 3) := by decide +kernel
theorem d_M_agesOf_25 : decode u_M_agesOf.2.1 25 = .ok (.iload_n 2, 1) := by decide +kernel
theorem d_M_agesOf_26 : decode u_M_agesOf.2.1 26 = .ok (.ireturn, 1) := by decide +kernel
theorem d_M_whoseOf_0 : decode u_M_whoseOf.2.1 0 = .ok (.iconst 0, 1) := by decide +kernel
theorem d_M_whoseOf_1 : decode u_M_whoseOf.2.1 1 = .ok (.istore_n 2, 1) := by decide +kernel
theorem d_M_whoseOf_2 : decode u_M_whoseOf.2.1 2 = .ok (.iconst 0, 1) := by decide +kernel
theorem d_M_whoseOf_3 : decode u_M_whoseOf.2.1 3 = .ok (.istore_n 3, 1) := by decide +kernel
theorem d_M_whoseOf_4 : decode u_M_whoseOf.2.1 4 = .ok (.iconst 0, 1) := by decide +kernel
theorem d_M_whoseOf_5 : decode u_M_whoseOf.2.1 5 = .ok (.istore 4, 2) := by decide +kernel
theorem d_M_whoseOf_7 : decode u_M_whoseOf.2.1 7 = .ok (.iload 4, 2) := by decide +kernel
theorem d_M_whoseOf_9 : decode u_M_whoseOf.2.1 9 = .ok (.iconst 4, 1) := by decide +kernel
theorem d_M_whoseOf_10 : decode u_M_whoseOf.2.1 10 = .ok (.if_icmp .ge 116, 3) := by decide +kernel
theorem d_M_whoseOf_13 : decode u_M_whoseOf.2.1 13 = .ok (.aload_n 0, 1) := by decide +kernel
theorem d_M_whoseOf_14 : decode u_M_whoseOf.2.1 14 = .ok (.iload 4, 2) := by decide +kernel
theorem d_M_whoseOf_16 : decode u_M_whoseOf.2.1 16 = .ok (.invokevirtual 146, 3) := by decide +kernel
theorem d_M_whoseOf_19 : decode u_M_whoseOf.2.1 19 = .ok (.pop, 1) := by decide +kernel
theorem d_M_whoseOf_20 : decode u_M_whoseOf.2.1 20 = .ok (.iconst 0, 1) := by decide +kernel
theorem d_M_whoseOf_21 : decode u_M_whoseOf.2.1 21 = .ok (.istore 5, 2) := by decide +kernel
theorem d_M_whoseOf_23 : decode u_M_whoseOf.2.1 23 = .ok (.iconst 0, 1) := by decide +kernel
theorem d_M_whoseOf_24 : decode u_M_whoseOf.2.1 24 = .ok (.istore 6, 2) := by decide +kernel
theorem d_M_whoseOf_26 : decode u_M_whoseOf.2.1 26 = .ok (.iload 6, 2) := by decide +kernel
theorem d_M_whoseOf_28 : decode u_M_whoseOf.2.1 28 = .ok (.bipush 8, 2) := by decide +kernel
theorem d_M_whoseOf_30 : decode u_M_whoseOf.2.1 30 = .ok (.if_icmp .ge 73, 3) := by decide +kernel
theorem d_M_whoseOf_33 : decode u_M_whoseOf.2.1 33 = .ok (.aload_n 0, 1) := by decide +kernel
theorem d_M_whoseOf_34 : decode u_M_whoseOf.2.1 34 = .ok (.getfield 22, 3) := by decide +kernel
theorem d_M_whoseOf_37 : decode u_M_whoseOf.2.1 37 = .ok (.bipush 8, 2) := by decide +kernel
theorem d_M_whoseOf_39 : decode u_M_whoseOf.2.1 39 = .ok (.aload_n 0, 1) := by decide +kernel
theorem d_M_whoseOf_40 : decode u_M_whoseOf.2.1 40 = .ok (.getfield 37, 3) := by decide +kernel
theorem d_M_whoseOf_43 : decode u_M_whoseOf.2.1 43 = .ok (.iload_n 1, 1) := by decide +kernel
theorem d_M_whoseOf_44 : decode u_M_whoseOf.2.1 44 = .ok (.iaload, 1) := by decide +kernel
theorem d_M_whoseOf_45 : decode u_M_whoseOf.2.1 45 = .ok (.imul, 1) := by decide +kernel
theorem d_M_whoseOf_46 : decode u_M_whoseOf.2.1 46 = .ok (.iload 6, 2) := by decide +kernel
theorem d_M_whoseOf_48 : decode u_M_whoseOf.2.1 48 = .ok (.iadd, 1) := by decide +kernel
theorem d_M_whoseOf_49 : decode u_M_whoseOf.2.1 49 = .ok (.iaload, 1) := by decide +kernel
theorem d_M_whoseOf_50 : decode u_M_whoseOf.2.1 50 = .ok (.aload_n 0, 1) := by decide +kernel
theorem d_M_whoseOf_51 : decode u_M_whoseOf.2.1 51 = .ok (.getfield 52, 3) := by decide +kernel
theorem d_M_whoseOf_54 : decode u_M_whoseOf.2.1 54 = .ok (.bipush 8, 2) := by decide +kernel
theorem d_M_whoseOf_56 : decode u_M_whoseOf.2.1 56 = .ok (.iload_n 1, 1) := by decide +kernel
theorem d_M_whoseOf_57 : decode u_M_whoseOf.2.1 57 = .ok (.imul, 1) := by decide +kernel
theorem d_M_whoseOf_58 : decode u_M_whoseOf.2.1 58 = .ok (.iload 6, 2) := by decide +kernel
theorem d_M_whoseOf_60 : decode u_M_whoseOf.2.1 60 = .ok (.iadd, 1) := by decide +kernel
theorem d_M_whoseOf_61 : decode u_M_whoseOf.2.1 61 = .ok (.iaload, 1) := by decide +kernel
theorem d_M_whoseOf_62 : decode u_M_whoseOf.2.1 62 = .ok (.aload_n 0, 1) := by decide +kernel
theorem d_M_whoseOf_63 : decode u_M_whoseOf.2.1 63 = .ok (.getfield 31, 3) := by decide +kernel
theorem d_M_whoseOf_66 : decode u_M_whoseOf.2.1 66 = .ok (.iload 6, 2) := by decide +kernel
theorem d_M_whoseOf_68 : decode u_M_whoseOf.2.1 68 = .ok (.iaload, 1) := by decide +kernel
theorem d_M_whoseOf_69 : decode u_M_whoseOf.2.1 69 = .ok (.invokestatic 152, 3) := by decide +kernel
theorem d_M_whoseOf_72 : decode u_M_whoseOf.2.1 72 = .ok (.istore 7, 2) := by decide +kernel
theorem d_M_whoseOf_74 : decode u_M_whoseOf.2.1 74 = .ok (.iload 5, 2) := by decide +kernel
theorem d_M_whoseOf_76 : decode u_M_whoseOf.2.1 76 = .ok (.aload_n 0, 1) := by decide +kernel
theorem d_M_whoseOf_77 : decode u_M_whoseOf.2.1 77 = .ok (.iload 7, 2) := by decide +kernel
theorem d_M_whoseOf_79 : decode u_M_whoseOf.2.1 79 = .ok (.aload_n 0, 1) := by decide +kernel
theorem d_M_whoseOf_80 : decode u_M_whoseOf.2.1 80 = .ok (.getfield 49, 3) := by decide +kernel
theorem d_M_whoseOf_83 : decode u_M_whoseOf.2.1 83 = .ok (.bipush 8, 2) := by decide +kernel
theorem d_M_whoseOf_85 : decode u_M_whoseOf.2.1 85 = .ok (.iload_n 1, 1) := by decide +kernel
theorem d_M_whoseOf_86 : decode u_M_whoseOf.2.1 86 = .ok (.imul, 1) := by decide +kernel
theorem d_M_whoseOf_87 : decode u_M_whoseOf.2.1 87 = .ok (.iload 6, 2) := by decide +kernel
theorem d_M_whoseOf_89 : decode u_M_whoseOf.2.1 89 = .ok (.iadd, 1) := by decide +kernel
theorem d_M_whoseOf_90 : decode u_M_whoseOf.2.1 90 = .ok (.iaload, 1) := by decide +kernel
theorem d_M_whoseOf_91 : decode u_M_whoseOf.2.1 91 = .ok (.invokevirtual 169, 3) := by decide +kernel
theorem d_M_whoseOf_94 : decode u_M_whoseOf.2.1 94 = .ok (.iadd, 1) := by decide +kernel
theorem d_M_whoseOf_95 : decode u_M_whoseOf.2.1 95 = .ok (.istore 5, 2) := by decide +kernel
theorem d_M_whoseOf_97 : decode u_M_whoseOf.2.1 97 = .ok (.iinc 6 1, 3) := by decide +kernel
theorem d_M_whoseOf_100 : decode u_M_whoseOf.2.1 100 = .ok (.goto (-74), 3) := by decide +kernel
theorem d_M_whoseOf_103 : decode u_M_whoseOf.2.1 103 = .ok (.iload 4, 2) := by decide +kernel
theorem d_M_whoseOf_105 : decode u_M_whoseOf.2.1 105 = .ok (.ifCond .eq 9, 3) := by decide +kernel
theorem d_M_whoseOf_108 : decode u_M_whoseOf.2.1 108 = .ok (.iload 5, 2) := by decide +kernel
theorem d_M_whoseOf_110 : decode u_M_whoseOf.2.1 110 = .ok (.iload_n 3, 1) := by decide +kernel
theorem d_M_whoseOf_111 : decode u_M_whoseOf.2.1 111 = .ok (.if_icmp .ge 9, 3) := by decide +kernel
theorem d_M_whoseOf_114 : decode u_M_whoseOf.2.1 114 = .ok (.iload 4, 2) := by decide +kernel
theorem d_M_whoseOf_116 : decode u_M_whoseOf.2.1 116 = .ok (.istore_n 2, 1) := by decide +kernel
theorem d_M_whoseOf_117 : decode u_M_whoseOf.2.1 117 = .ok (.iload 5, 2) := by decide +kernel
theorem d_M_whoseOf_119 : decode u_M_whoseOf.2.1 119 = .ok (.istore_n 3, 1) := by decide +kernel
theorem d_M_whoseOf_120 : decode u_M_whoseOf.2.1 120 = .ok (.iinc 4 1, 3) := by decide +kernel
theorem d_M_whoseOf_123 : decode u_M_whoseOf.2.1 123 = .ok (.goto (-116), 3) := by decide +kernel
theorem d_M_whoseOf_126 : decode u_M_whoseOf.2.1 126 = .ok (.iload_n 2, 1) := by decide +kernel
theorem d_M_whoseOf_127 : decode u_M_whoseOf.2.1 127 = .ok (.ireturn, 1) := by decide +kernel
theorem d_M_aboutOf_0 : decode u_M_aboutOf.2.1 0 = .ok (.iload_n 2, 1) := by decide +kernel
theorem d_M_aboutOf_1 : decode u_M_aboutOf.2.1 1 = .ok (.tableswitch 96 0 6 #[43, 50, 57, 64, 78, 84, 90], 43) := by decide +kernel
theorem d_M_aboutOf_44 : decode u_M_aboutOf.2.1 44 = .ok (.aload_n 0, 1) := by decide +kernel
theorem d_M_aboutOf_45 : decode u_M_aboutOf.2.1 45 = .ok (.getfield 37, 3) := by decide +kernel
theorem d_M_aboutOf_48 : decode u_M_aboutOf.2.1 48 = .ok (.iload_n 1, 1) := by decide +kernel
theorem d_M_aboutOf_49 : decode u_M_aboutOf.2.1 49 = .ok (.iaload, 1) := by decide +kernel
theorem d_M_aboutOf_50 : decode u_M_aboutOf.2.1 50 = .ok (.ireturn, 1) := by decide +kernel
theorem d_M_aboutOf_51 : decode u_M_aboutOf.2.1 51 = .ok (.aload_n 0, 1) := by decide +kernel
theorem d_M_aboutOf_52 : decode u_M_aboutOf.2.1 52 = .ok (.getfield 40, 3) := by decide +kernel
theorem d_M_aboutOf_55 : decode u_M_aboutOf.2.1 55 = .ok (.iload_n 1, 1) := by decide +kernel
theorem d_M_aboutOf_56 : decode u_M_aboutOf.2.1 56 = .ok (.iaload, 1) := by decide +kernel
theorem d_M_aboutOf_57 : decode u_M_aboutOf.2.1 57 = .ok (.ireturn, 1) := by decide +kernel
theorem d_M_aboutOf_58 : decode u_M_aboutOf.2.1 58 = .ok (.aload_n 0, 1) := by decide +kernel
theorem d_M_aboutOf_59 : decode u_M_aboutOf.2.1 59 = .ok (.getfield 43, 3) := by decide +kernel
theorem d_M_aboutOf_62 : decode u_M_aboutOf.2.1 62 = .ok (.iload_n 1, 1) := by decide +kernel
theorem d_M_aboutOf_63 : decode u_M_aboutOf.2.1 63 = .ok (.iaload, 1) := by decide +kernel
theorem d_M_aboutOf_64 : decode u_M_aboutOf.2.1 64 = .ok (.ireturn, 1) := by decide +kernel
theorem d_M_aboutOf_65 : decode u_M_aboutOf.2.1 65 = .ok (.aload_n 0, 1) := by decide +kernel
theorem d_M_aboutOf_66 : decode u_M_aboutOf.2.1 66 = .ok (.iload_n 1, 1) := by decide +kernel
theorem d_M_aboutOf_67 : decode u_M_aboutOf.2.1 67 = .ok (.invokevirtual 178, 3) := by decide +kernel
theorem d_M_aboutOf_70 : decode u_M_aboutOf.2.1 70 = .ok (.ifCond .eq 7, 3) := by decide +kernel
theorem d_M_aboutOf_73 : decode u_M_aboutOf.2.1 73 = .ok (.iconst 1, 1) := by decide +kernel
theorem d_M_aboutOf_74 : decode u_M_aboutOf.2.1 74 = .ok (.goto 4, 3) := by decide +kernel
theorem d_M_aboutOf_77 : decode u_M_aboutOf.2.1 77 = .ok (.iconst 0, 1) := by decide +kernel
theorem d_M_aboutOf_78 : decode u_M_aboutOf.2.1 78 = .ok (.ireturn, 1) := by decide +kernel
theorem d_M_aboutOf_79 : decode u_M_aboutOf.2.1 79 = .ok (.aload_n 0, 1) := by decide +kernel
theorem d_M_aboutOf_80 : decode u_M_aboutOf.2.1 80 = .ok (.iload_n 1, 1) := by decide +kernel
theorem d_M_aboutOf_81 : decode u_M_aboutOf.2.1 81 = .ok (.invokevirtual 175, 3) := by decide +kernel
theorem d_M_aboutOf_84 : decode u_M_aboutOf.2.1 84 = .ok (.ireturn, 1) := by decide +kernel
theorem d_M_aboutOf_85 : decode u_M_aboutOf.2.1 85 = .ok (.aload_n 0, 1) := by decide +kernel
theorem d_M_aboutOf_86 : decode u_M_aboutOf.2.1 86 = .ok (.iload_n 1, 1) := by decide +kernel
theorem d_M_aboutOf_87 : decode u_M_aboutOf.2.1 87 = .ok (.invokevirtual 181, 3) := by decide +kernel
theorem d_M_aboutOf_90 : decode u_M_aboutOf.2.1 90 = .ok (.ireturn, 1) := by decide +kernel
theorem d_M_aboutOf_91 : decode u_M_aboutOf.2.1 91 = .ok (.aload_n 0, 1) := by decide +kernel
theorem d_M_aboutOf_92 : decode u_M_aboutOf.2.1 92 = .ok (.iload_n 1, 1) := by decide +kernel
theorem d_M_aboutOf_93 : decode u_M_aboutOf.2.1 93 = .ok (.invokevirtual 184, 3) := by decide +kernel
theorem d_M_aboutOf_96 : decode u_M_aboutOf.2.1 96 = .ok (.ireturn, 1) := by decide +kernel
theorem d_M_aboutOf_97 : decode u_M_aboutOf.2.1 97 = .ok (.aload_n 0, 1) := by decide +kernel
theorem d_M_aboutOf_98 : decode u_M_aboutOf.2.1 98 = .ok (.getfield 46, 3) := by decide +kernel
theorem d_M_aboutOf_101 : decode u_M_aboutOf.2.1 101 = .ok (.iload_n 1, 1) := by decide +kernel
theorem d_M_aboutOf_102 : decode u_M_aboutOf.2.1 102 = .ok (.iaload, 1) := by decide +kernel
theorem d_M_aboutOf_103 : decode u_M_aboutOf.2.1 103 = .ok (.ireturn, 1) := by decide +kernel
theorem d_M_about_0 : decode u_M_about.2.1 0 = .ok (.aload_n 0, 1) := by decide +kernel
theorem d_M_about_1 : decode u_M_about.2.1 1 = .ok (.iload_n 1, 1) := by decide +kernel
theorem d_M_about_2 : decode u_M_about.2.1 2 = .ok (.invokevirtual 163, 3) := by decide +kernel
theorem d_M_about_5 : decode u_M_about.2.1 5 = .ok (.ifCond .eq 24, 3) := by decide +kernel
theorem d_M_about_8 : decode u_M_about.2.1 8 = .ok (.iload_n 2, 1) := by decide +kernel
theorem d_M_about_9 : decode u_M_about.2.1 9 = .ok (.i2l, 1) := by decide +kernel
theorem d_M_about_10 : decode u_M_about.2.1 10 = .ok (.lconst 0, 1) := by decide +kernel
theorem d_M_about_11 : decode u_M_about.2.1 11 = .ok (.ldc2_w 101, 3) := by decide +kernel
theorem d_M_about_14 : decode u_M_about.2.1 14 = .ok (.invokestatic 69, 3) := by decide +kernel
theorem d_M_about_17 : decode u_M_about.2.1 17 = .ok (.ifCond .eq 12, 3) := by decide +kernel
theorem d_M_about_20 : decode u_M_about.2.1 20 = .ok (.aload_n 0, 1) := by decide +kernel
theorem d_M_about_21 : decode u_M_about.2.1 21 = .ok (.iload_n 1, 1) := by decide +kernel
theorem d_M_about_22 : decode u_M_about.2.1 22 = .ok (.iload_n 2, 1) := by decide +kernel
theorem d_M_about_23 : decode u_M_about.2.1 23 = .ok (.invokevirtual 187, 3) := by decide +kernel
theorem d_M_about_26 : decode u_M_about.2.1 26 = .ok (.goto 5, 3) := by decide +kernel
theorem d_M_about_29 : decode u_M_about.2.1 29 = .ok (.bipush (-2), 2) := by decide +kernel
theorem d_M_about_31 : decode u_M_about.2.1 31 = .ok (.ireturn, 1) := by decide +kernel
theorem d_M_isKnower_0 : decode u_M_isKnower.2.1 0 = .ok (.iload_n 1, 1) := by decide +kernel
theorem d_M_isKnower_1 : decode u_M_isKnower.2.1 1 = .ok (.i2l, 1) := by decide +kernel
theorem d_M_isKnower_2 : decode u_M_isKnower.2.1 2 = .ok (.lconst 0, 1) := by decide +kernel
theorem d_M_isKnower_3 : decode u_M_isKnower.2.1 3 = .ok (.aload_n 0, 1) := by decide +kernel
theorem d_M_isKnower_4 : decode u_M_isKnower.2.1 4 = .ok (.getfield 190, 3) := by decide +kernel
theorem d_M_isKnower_7 : decode u_M_isKnower.2.1 7 = .ok (.iconst 1, 1) := by decide +kernel
theorem d_M_isKnower_8 : decode u_M_isKnower.2.1 8 = .ok (.isub, 1) := by decide +kernel
theorem d_M_isKnower_9 : decode u_M_isKnower.2.1 9 = .ok (.i2l, 1) := by decide +kernel
theorem d_M_isKnower_10 : decode u_M_isKnower.2.1 10 = .ok (.invokestatic 69, 3) := by decide +kernel
theorem d_M_isKnower_13 : decode u_M_isKnower.2.1 13 = .ok (.ireturn, 1) := by decide +kernel
theorem d_M_doesKnow_0 : decode u_M_doesKnow.2.1 0 = .ok (.aload_n 0, 1) := by decide +kernel
theorem d_M_doesKnow_1 : decode u_M_doesKnow.2.1 1 = .ok (.getfield 55, 3) := by decide +kernel
theorem d_M_doesKnow_4 : decode u_M_doesKnow.2.1 4 = .ok (.iload_n 1, 1) := by decide +kernel
theorem d_M_doesKnow_5 : decode u_M_doesKnow.2.1 5 = .ok (.iaload, 1) := by decide +kernel
theorem d_M_doesKnow_6 : decode u_M_doesKnow.2.1 6 = .ok (.iload_n 2, 1) := by decide +kernel
theorem d_M_doesKnow_7 : decode u_M_doesKnow.2.1 7 = .ok (.ishr, 1) := by decide +kernel
theorem d_M_doesKnow_8 : decode u_M_doesKnow.2.1 8 = .ok (.iconst 1, 1) := by decide +kernel
theorem d_M_doesKnow_9 : decode u_M_doesKnow.2.1 9 = .ok (.iand, 1) := by decide +kernel
theorem d_M_doesKnow_10 : decode u_M_doesKnow.2.1 10 = .ok (.iconst 1, 1) := by decide +kernel
theorem d_M_doesKnow_11 : decode u_M_doesKnow.2.1 11 = .ok (.if_icmp .ne 7, 3) := by decide +kernel
theorem d_M_doesKnow_14 : decode u_M_doesKnow.2.1 14 = .ok (.iconst 1, 1) := by decide +kernel
theorem d_M_doesKnow_15 : decode u_M_doesKnow.2.1 15 = .ok (.goto 4, 3) := by decide +kernel
theorem d_M_doesKnow_18 : decode u_M_doesKnow.2.1 18 = .ok (.iconst 0, 1) := by decide +kernel
theorem d_M_doesKnow_19 : decode u_M_doesKnow.2.1 19 = .ok (.ireturn, 1) := by decide +kernel
theorem d_M_knower_0 : decode u_M_knower.2.1 0 = .ok (.aload_n 0, 1) := by decide +kernel
theorem d_M_knower_1 : decode u_M_knower.2.1 1 = .ok (.iload_n 1, 1) := by decide +kernel
theorem d_M_knower_2 : decode u_M_knower.2.1 2 = .ok (.invokevirtual 114, 3) := by decide +kernel
theorem d_M_knower_5 : decode u_M_knower.2.1 5 = .ok (.ifCond .eq 21, 3) := by decide +kernel
theorem d_M_knower_8 : decode u_M_knower.2.1 8 = .ok (.iload_n 2, 1) := by decide +kernel
theorem d_M_knower_9 : decode u_M_knower.2.1 9 = .ok (.i2l, 1) := by decide +kernel
theorem d_M_knower_10 : decode u_M_knower.2.1 10 = .ok (.lconst 0, 1) := by decide +kernel
theorem d_M_knower_11 : decode u_M_knower.2.1 11 = .ok (.iconst 1, 1) := by decide +kernel
theorem d_M_knower_12 : decode u_M_knower.2.1 12 = .ok (.aload_n 0, 1) := by decide +kernel
theorem d_M_knower_13 : decode u_M_knower.2.1 13 = .ok (.getfield 98, 3) := by decide +kernel
theorem d_M_knower_16 : decode u_M_knower.2.1 16 = .ok (.ishl, 1) := by decide +kernel
theorem d_M_knower_17 : decode u_M_knower.2.1 17 = .ok (.iconst 1, 1) := by decide +kernel
theorem d_M_knower_18 : decode u_M_knower.2.1 18 = .ok (.isub, 1) := by decide +kernel
theorem d_M_knower_19 : decode u_M_knower.2.1 19 = .ok (.i2l, 1) := by decide +kernel
theorem d_M_knower_20 : decode u_M_knower.2.1 20 = .ok (.invokestatic 69, 3) := by decide +kernel
theorem d_M_knower_23 : decode u_M_knower.2.1 23 = .ok (.ifCond .ne 6, 3) := by decide +kernel
theorem d_M_knower_26 : decode u_M_knower.2.1 26 = .ok (.bipush (-2), 2) := by decide +kernel
end
section
theorem d_M_knower_28 : decode u_M_knower.2.1 28 = .ok (.ireturn, 1) := by decide +kernel
theorem d_M_knower_29 : decode u_M_knower.2.1 29 = .ok (.aload_n 0, 1) := by decide +kernel
theorem d_M_knower_30 : decode u_M_knower.2.1 30 = .ok (.getfield 190, 3) := by decide +kernel
theorem d_M_knower_33 : decode u_M_knower.2.1 33 = .ok (.iconst 4, 1) := by decide +kernel
theorem d_M_knower_34 : decode u_M_knower.2.1 34 = .ok (.if_icmp .ne 6, 3) := by decide +kernel
theorem d_M_knower_37 : decode u_M_knower.2.1 37 = .ok (.bipush (-4), 2) := by decide +kernel
theorem d_M_knower_39 : decode u_M_knower.2.1 39 = .ok (.ireturn, 1) := by decide +kernel
theorem d_M_knower_40 : decode u_M_knower.2.1 40 = .ok (.iconst 0, 1) := by decide +kernel
theorem d_M_knower_41 : decode u_M_knower.2.1 41 = .ok (.istore_n 3, 1) := by decide +kernel
theorem d_M_knower_42 : decode u_M_knower.2.1 42 = .ok (.iload_n 3, 1) := by decide +kernel
theorem d_M_knower_43 : decode u_M_knower.2.1 43 = .ok (.bipush 8, 2) := by decide +kernel
theorem d_M_knower_45 : decode u_M_knower.2.1 45 = .ok (.if_icmp .ge 29, 3) := by decide +kernel
theorem d_M_knower_48 : decode u_M_knower.2.1 48 = .ok (.aload_n 0, 1) := by decide +kernel
theorem d_M_knower_49 : decode u_M_knower.2.1 49 = .ok (.getfield 58, 3) := by decide +kernel
theorem d_M_knower_52 : decode u_M_knower.2.1 52 = .ok (.bipush 8, 2) := by decide +kernel
theorem d_M_knower_54 : decode u_M_knower.2.1 54 = .ok (.aload_n 0, 1) := by decide +kernel
theorem d_M_knower_55 : decode u_M_knower.2.1 55 = .ok (.getfield 190, 3) := by decide +kernel
theorem d_M_knower_58 : decode u_M_knower.2.1 58 = .ok (.imul, 1) := by decide +kernel
theorem d_M_knower_59 : decode u_M_knower.2.1 59 = .ok (.iload_n 3, 1) := by decide +kernel
theorem d_M_knower_60 : decode u_M_knower.2.1 60 = .ok (.iadd, 1) := by decide +kernel
theorem d_M_knower_61 : decode u_M_knower.2.1 61 = .ok (.aload_n 0, 1) := by decide +kernel
theorem d_M_knower_62 : decode u_M_knower.2.1 62 = .ok (.iload_n 1, 1) := by decide +kernel
theorem d_M_knower_63 : decode u_M_knower.2.1 63 = .ok (.iload_n 3, 1) := by decide +kernel
theorem d_M_knower_64 : decode u_M_knower.2.1 64 = .ok (.invokevirtual 117, 3) := by decide +kernel
theorem d_M_knower_67 : decode u_M_knower.2.1 67 = .ok (.iastore, 1) := by decide +kernel
theorem d_M_knower_68 : decode u_M_knower.2.1 68 = .ok (.iinc 3 1, 3) := by decide +kernel
theorem d_M_knower_71 : decode u_M_knower.2.1 71 = .ok (.goto (-29), 3) := by decide +kernel
theorem d_M_knower_74 : decode u_M_knower.2.1 74 = .ok (.aload_n 0, 1) := by decide +kernel
theorem d_M_knower_75 : decode u_M_knower.2.1 75 = .ok (.getfield 55, 3) := by decide +kernel
theorem d_M_knower_78 : decode u_M_knower.2.1 78 = .ok (.aload_n 0, 1) := by decide +kernel
theorem d_M_knower_79 : decode u_M_knower.2.1 79 = .ok (.getfield 190, 3) := by decide +kernel
theorem d_M_knower_82 : decode u_M_knower.2.1 82 = .ok (.iload_n 2, 1) := by decide +kernel
theorem d_M_knower_83 : decode u_M_knower.2.1 83 = .ok (.iastore, 1) := by decide +kernel
theorem d_M_knower_84 : decode u_M_knower.2.1 84 = .ok (.aload_n 0, 1) := by decide +kernel
theorem d_M_knower_85 : decode u_M_knower.2.1 85 = .ok (.dup, 1) := by decide +kernel
theorem d_M_knower_86 : decode u_M_knower.2.1 86 = .ok (.getfield 190, 3) := by decide +kernel
theorem d_M_knower_89 : decode u_M_knower.2.1 89 = .ok (.iconst 1, 1) := by decide +kernel
theorem d_M_knower_90 : decode u_M_knower.2.1 90 = .ok (.iadd, 1) := by decide +kernel
theorem d_M_knower_91 : decode u_M_knower.2.1 91 = .ok (.putfield 190, 3) := by decide +kernel
theorem d_M_knower_94 : decode u_M_knower.2.1 94 = .ok (.aload_n 0, 1) := by decide +kernel
theorem d_M_knower_95 : decode u_M_knower.2.1 95 = .ok (.getfield 190, 3) := by decide +kernel
theorem d_M_knower_98 : decode u_M_knower.2.1 98 = .ok (.iconst 1, 1) := by decide +kernel
theorem d_M_knower_99 : decode u_M_knower.2.1 99 = .ok (.isub, 1) := by decide +kernel
theorem d_M_knower_100 : decode u_M_knower.2.1 100 = .ok (.ireturn, 1) := by decide +kernel
theorem d_M_look_0 : decode u_M_look.2.1 0 = .ok (.aload_n 0, 1) := by decide +kernel
theorem d_M_look_1 : decode u_M_look.2.1 1 = .ok (.iload_n 1, 1) := by decide +kernel
theorem d_M_look_2 : decode u_M_look.2.1 2 = .ok (.invokevirtual 193, 3) := by decide +kernel
theorem d_M_look_5 : decode u_M_look.2.1 5 = .ok (.ifCond .eq 23, 3) := by decide +kernel
theorem d_M_look_8 : decode u_M_look.2.1 8 = .ok (.aload_n 0, 1) := by decide +kernel
theorem d_M_look_9 : decode u_M_look.2.1 9 = .ok (.iload_n 2, 1) := by decide +kernel
theorem d_M_look_10 : decode u_M_look.2.1 10 = .ok (.invokevirtual 163, 3) := by decide +kernel
theorem d_M_look_13 : decode u_M_look.2.1 13 = .ok (.ifCond .eq 15, 3) := by decide +kernel
theorem d_M_look_16 : decode u_M_look.2.1 16 = .ok (.iload_n 3, 1) := by decide +kernel
theorem d_M_look_17 : decode u_M_look.2.1 17 = .ok (.i2l, 1) := by decide +kernel
theorem d_M_look_18 : decode u_M_look.2.1 18 = .ok (.lconst 0, 1) := by decide +kernel
theorem d_M_look_19 : decode u_M_look.2.1 19 = .ok (.ldc2_w 155, 3) := by decide +kernel
theorem d_M_look_22 : decode u_M_look.2.1 22 = .ok (.invokestatic 69, 3) := by decide +kernel
theorem d_M_look_25 : decode u_M_look.2.1 25 = .ok (.ifCond .ne 6, 3) := by decide +kernel
theorem d_M_look_28 : decode u_M_look.2.1 28 = .ok (.bipush (-2), 2) := by decide +kernel
theorem d_M_look_30 : decode u_M_look.2.1 30 = .ok (.ireturn, 1) := by decide +kernel
theorem d_M_look_31 : decode u_M_look.2.1 31 = .ok (.iconst 0, 1) := by decide +kernel
theorem d_M_look_32 : decode u_M_look.2.1 32 = .ok (.istore 4, 2) := by decide +kernel
theorem d_M_look_34 : decode u_M_look.2.1 34 = .ok (.iload 4, 2) := by decide +kernel
theorem d_M_look_36 : decode u_M_look.2.1 36 = .ok (.bipush 8, 2) := by decide +kernel
theorem d_M_look_38 : decode u_M_look.2.1 38 = .ok (.if_icmp .ge 80, 3) := by decide +kernel
theorem d_M_look_41 : decode u_M_look.2.1 41 = .ok (.aload_n 0, 1) := by decide +kernel
theorem d_M_look_42 : decode u_M_look.2.1 42 = .ok (.getfield 49, 3) := by decide +kernel
theorem d_M_look_45 : decode u_M_look.2.1 45 = .ok (.bipush 8, 2) := by decide +kernel
theorem d_M_look_47 : decode u_M_look.2.1 47 = .ok (.iload_n 2, 1) := by decide +kernel
theorem d_M_look_48 : decode u_M_look.2.1 48 = .ok (.imul, 1) := by decide +kernel
theorem d_M_look_49 : decode u_M_look.2.1 49 = .ok (.iload 4, 2) := by decide +kernel
theorem d_M_look_51 : decode u_M_look.2.1 51 = .ok (.iadd, 1) := by decide +kernel
theorem d_M_look_52 : decode u_M_look.2.1 52 = .ok (.iaload, 1) := by decide +kernel
theorem d_M_look_53 : decode u_M_look.2.1 53 = .ok (.istore 5, 2) := by decide +kernel
theorem d_M_look_55 : decode u_M_look.2.1 55 = .ok (.iload 5, 2) := by decide +kernel
theorem d_M_look_57 : decode u_M_look.2.1 57 = .ok (.aload_n 0, 1) := by decide +kernel
theorem d_M_look_58 : decode u_M_look.2.1 58 = .ok (.getfield 58, 3) := by decide +kernel
theorem d_M_look_61 : decode u_M_look.2.1 61 = .ok (.bipush 8, 2) := by decide +kernel
theorem d_M_look_63 : decode u_M_look.2.1 63 = .ok (.iload_n 1, 1) := by decide +kernel
theorem d_M_look_64 : decode u_M_look.2.1 64 = .ok (.imul, 1) := by decide +kernel
theorem d_M_look_65 : decode u_M_look.2.1 65 = .ok (.iload 4, 2) := by decide +kernel
theorem d_M_look_67 : decode u_M_look.2.1 67 = .ok (.iadd, 1) := by decide +kernel
theorem d_M_look_68 : decode u_M_look.2.1 68 = .ok (.iaload, 1) := by decide +kernel
theorem d_M_look_69 : decode u_M_look.2.1 69 = .ok (.isub, 1) := by decide +kernel
theorem d_M_look_70 : decode u_M_look.2.1 70 = .ok (.istore 6, 2) := by decide +kernel
theorem d_M_look_72 : decode u_M_look.2.1 72 = .ok (.aload_n 0, 1) := by decide +kernel
theorem d_M_look_73 : decode u_M_look.2.1 73 = .ok (.getfield 58, 3) := by decide +kernel
theorem d_M_look_76 : decode u_M_look.2.1 76 = .ok (.bipush 8, 2) := by decide +kernel
theorem d_M_look_78 : decode u_M_look.2.1 78 = .ok (.iload_n 1, 1) := by decide +kernel
theorem d_M_look_79 : decode u_M_look.2.1 79 = .ok (.imul, 1) := by decide +kernel
theorem d_M_look_80 : decode u_M_look.2.1 80 = .ok (.iload 4, 2) := by decide +kernel
theorem d_M_look_82 : decode u_M_look.2.1 82 = .ok (.iadd, 1) := by decide +kernel
theorem d_M_look_83 : decode u_M_look.2.1 83 = .ok (.dup2, 1) := by decide +kernel
theorem d_M_look_84 : decode u_M_look.2.1 84 = .ok (.iaload, 1) := by decide +kernel
theorem d_M_look_85 : decode u_M_look.2.1 85 = .ok (.iload 5, 2) := by decide +kernel
theorem d_M_look_87 : decode u_M_look.2.1 87 = .ok (.sipush (-9999), 3) := by decide +kernel
theorem d_M_look_90 : decode u_M_look.2.1 90 = .ok (.if_icmp .ne 7, 3) := by decide +kernel
theorem d_M_look_93 : decode u_M_look.2.1 93 = .ok (.iconst 0, 1) := by decide +kernel
theorem d_M_look_94 : decode u_M_look.2.1 94 = .ok (.goto 16, 3) := by decide +kernel
theorem d_M_look_97 : decode u_M_look.2.1 97 = .ok (.iload 6, 2) := by decide +kernel
theorem d_M_look_99 : decode u_M_look.2.1 99 = .ok (.iload_n 3, 1) := by decide +kernel
theorem d_M_look_100 : decode u_M_look.2.1 100 = .ok (.imul, 1) := by decide +kernel
theorem d_M_look_101 : decode u_M_look.2.1 101 = .ok (.iload_n 3, 1) := by decide +kernel
theorem d_M_look_102 : decode u_M_look.2.1 102 = .ok (.aload_n 0, 1) := by decide +kernel
theorem d_M_look_103 : decode u_M_look.2.1 103 = .ok (.getfield 34, 3) := by decide +kernel
theorem d_M_look_106 : decode u_M_look.2.1 106 = .ok (.iconst 1, 1) := by decide +kernel
theorem d_M_look_107 : decode u_M_look.2.1 107 = .ok (.iaload, 1) := by decide +kernel
theorem d_M_look_108 : decode u_M_look.2.1 108 = .ok (.iadd, 1) := by decide +kernel
theorem d_M_look_109 : decode u_M_look.2.1 109 = .ok (.idiv, 1) := by decide +kernel
theorem d_M_look_110 : decode u_M_look.2.1 110 = .ok (.iadd, 1) := by decide +kernel
theorem d_M_look_111 : decode u_M_look.2.1 111 = .ok (.iastore, 1) := by decide +kernel
theorem d_M_look_112 : decode u_M_look.2.1 112 = .ok (.iinc 4 1, 3) := by decide +kernel
theorem d_M_look_115 : decode u_M_look.2.1 115 = .ok (.goto (-81), 3) := by decide +kernel
theorem d_M_look_118 : decode u_M_look.2.1 118 = .ok (.iconst 1, 1) := by decide +kernel
theorem d_M_look_119 : decode u_M_look.2.1 119 = .ok (.ireturn, 1) := by decide +kernel
theorem d_M_leans_0 : decode u_M_leans.2.1 0 = .ok (.aload_n 0, 1) := by decide +kernel
theorem d_M_leans_1 : decode u_M_leans.2.1 1 = .ok (.iload_n 1, 1) := by decide +kernel
theorem d_M_leans_2 : decode u_M_leans.2.1 2 = .ok (.invokevirtual 193, 3) := by decide +kernel
theorem d_M_leans_5 : decode u_M_leans.2.1 5 = .ok (.ifCond .eq 24, 3) := by decide +kernel
theorem d_M_leans_8 : decode u_M_leans.2.1 8 = .ok (.iload_n 2, 1) := by decide +kernel
theorem d_M_leans_9 : decode u_M_leans.2.1 9 = .ok (.invokestatic 106, 3) := by decide +kernel
theorem d_M_leans_12 : decode u_M_leans.2.1 12 = .ok (.ifCond .eq 17, 3) := by decide +kernel
theorem d_M_leans_15 : decode u_M_leans.2.1 15 = .ok (.aload_n 0, 1) := by decide +kernel
theorem d_M_leans_16 : decode u_M_leans.2.1 16 = .ok (.getfield 58, 3) := by decide +kernel
theorem d_M_leans_19 : decode u_M_leans.2.1 19 = .ok (.bipush 8, 2) := by decide +kernel
theorem d_M_leans_21 : decode u_M_leans.2.1 21 = .ok (.iload_n 1, 1) := by decide +kernel
theorem d_M_leans_22 : decode u_M_leans.2.1 22 = .ok (.imul, 1) := by decide +kernel
theorem d_M_leans_23 : decode u_M_leans.2.1 23 = .ok (.iload_n 2, 1) := by decide +kernel
theorem d_M_leans_24 : decode u_M_leans.2.1 24 = .ok (.iadd, 1) := by decide +kernel
theorem d_M_leans_25 : decode u_M_leans.2.1 25 = .ok (.iaload, 1) := by decide +kernel
theorem d_M_leans_26 : decode u_M_leans.2.1 26 = .ok (.goto 8, 3) := by decide +kernel
theorem d_M_leans_29 : decode u_M_leans.2.1 29 = .ok (.bipush (-2), 2) := by decide +kernel
theorem d_M_leans_31 : decode u_M_leans.2.1 31 = .ok (.invokestatic 149, 3) := by decide +kernel
theorem d_M_leans_34 : decode u_M_leans.2.1 34 = .ok (.ireturn, 1) := by decide +kernel
theorem d_M_sees_I_0 : decode u_M_sees_I.2.1 0 = .ok (.iconst 0, 1) := by decide +kernel
theorem d_M_sees_I_1 : decode u_M_sees_I.2.1 1 = .ok (.istore_n 2, 1) := by decide +kernel
theorem d_M_sees_I_2 : decode u_M_sees_I.2.1 2 = .ok (.iload_n 2, 1) := by decide +kernel
theorem d_M_sees_I_3 : decode u_M_sees_I.2.1 3 = .ok (.bipush 8, 2) := by decide +kernel
theorem d_M_sees_I_5 : decode u_M_sees_I.2.1 5 = .ok (.if_icmp .ge 26, 3) := by decide +kernel
theorem d_M_sees_I_8 : decode u_M_sees_I.2.1 8 = .ok (.aload_n 0, 1) := by decide +kernel
theorem d_M_sees_I_9 : decode u_M_sees_I.2.1 9 = .ok (.getfield 61, 3) := by decide +kernel
theorem d_M_sees_I_12 : decode u_M_sees_I.2.1 12 = .ok (.iload_n 2, 1) := by decide +kernel
theorem d_M_sees_I_13 : decode u_M_sees_I.2.1 13 = .ok (.aload_n 0, 1) := by decide +kernel
theorem d_M_sees_I_14 : decode u_M_sees_I.2.1 14 = .ok (.getfield 49, 3) := by decide +kernel
theorem d_M_sees_I_17 : decode u_M_sees_I.2.1 17 = .ok (.bipush 8, 2) := by decide +kernel
theorem d_M_sees_I_19 : decode u_M_sees_I.2.1 19 = .ok (.iload_n 1, 1) := by decide +kernel
theorem d_M_sees_I_20 : decode u_M_sees_I.2.1 20 = .ok (.imul, 1) := by decide +kernel
theorem d_M_sees_I_21 : decode u_M_sees_I.2.1 21 = .ok (.iload_n 2, 1) := by decide +kernel
theorem d_M_sees_I_22 : decode u_M_sees_I.2.1 22 = .ok (.iadd, 1) := by decide +kernel
theorem d_M_sees_I_23 : decode u_M_sees_I.2.1 23 = .ok (.iaload, 1) := by decide +kernel
theorem d_M_sees_I_24 : decode u_M_sees_I.2.1 24 = .ok (.iastore, 1) := by decide +kernel
theorem d_M_sees_I_25 : decode u_M_sees_I.2.1 25 = .ok (.iinc 2 1, 3) := by decide +kernel
theorem d_M_sees_I_28 : decode u_M_sees_I.2.1 28 = .ok (.goto (-26), 3) := by decide +kernel
theorem d_M_sees_I_31 : decode u_M_sees_I.2.1 31 = .ok (.aload_n 0, 1) := by decide +kernel
theorem d_M_sees_I_32 : decode u_M_sees_I.2.1 32 = .ok (.aload_n 0, 1) := by decide +kernel
theorem d_M_sees_I_33 : decode u_M_sees_I.2.1 33 = .ok (.iload_n 1, 1) := by decide +kernel
theorem d_M_sees_I_34 : decode u_M_sees_I.2.1 34 = .ok (.invokevirtual 178, 3) := by decide +kernel
theorem d_M_sees_I_37 : decode u_M_sees_I.2.1 37 = .ok (.putfield 196, 3) := by decide +kernel
theorem d_M_sees_I_40 : decode u_M_sees_I.2.1 40 = .ok (.return_, 1) := by decide +kernel
theorem d_M_sees_IIII_0 : decode u_M_sees_IIII.2.1 0 = .ok (.aload_n 0, 1) := by decide +kernel
theorem d_M_sees_IIII_1 : decode u_M_sees_IIII.2.1 1 = .ok (.iconst 0, 1) := by decide +kernel
theorem d_M_sees_IIII_2 : decode u_M_sees_IIII.2.1 2 = .ok (.putfield 196, 3) := by decide +kernel
theorem d_M_sees_IIII_5 : decode u_M_sees_IIII.2.1 5 = .ok (.iconst 0, 1) := by decide +kernel
theorem d_M_sees_IIII_6 : decode u_M_sees_IIII.2.1 6 = .ok (.istore 5, 2) := by decide +kernel
theorem d_M_sees_IIII_8 : decode u_M_sees_IIII.2.1 8 = .ok (.iload 5, 2) := by decide +kernel
theorem d_M_sees_IIII_10 : decode u_M_sees_IIII.2.1 10 = .ok (.bipush 8, 2) := by decide +kernel
theorem d_M_sees_IIII_12 : decode u_M_sees_IIII.2.1 12 = .ok (.if_icmp .ge 111, 3) := by decide +kernel
theorem d_M_sees_IIII_15 : decode u_M_sees_IIII.2.1 15 = .ok (.aload_n 0, 1) := by decide +kernel
theorem d_M_sees_IIII_16 : decode u_M_sees_IIII.2.1 16 = .ok (.iload_n 2, 1) := by decide +kernel
theorem d_M_sees_IIII_17 : decode u_M_sees_IIII.2.1 17 = .ok (.iload 5, 2) := by decide +kernel
theorem d_M_sees_IIII_19 : decode u_M_sees_IIII.2.1 19 = .ok (.invokevirtual 117, 3) := by decide +kernel
theorem d_M_sees_IIII_22 : decode u_M_sees_IIII.2.1 22 = .ok (.istore 6, 2) := by decide +kernel
theorem d_M_sees_IIII_24 : decode u_M_sees_IIII.2.1 24 = .ok (.aload_n 0, 1) := by decide +kernel
theorem d_M_sees_IIII_25 : decode u_M_sees_IIII.2.1 25 = .ok (.getfield 61, 3) := by decide +kernel
theorem d_M_sees_IIII_28 : decode u_M_sees_IIII.2.1 28 = .ok (.iload 5, 2) := by decide +kernel
theorem d_M_sees_IIII_30 : decode u_M_sees_IIII.2.1 30 = .ok (.iload 4, 2) := by decide +kernel
theorem d_M_sees_IIII_32 : decode u_M_sees_IIII.2.1 32 = .ok (.iload 5, 2) := by decide +kernel
theorem d_M_sees_IIII_34 : decode u_M_sees_IIII.2.1 34 = .ok (.ishr, 1) := by decide +kernel
theorem d_M_sees_IIII_35 : decode u_M_sees_IIII.2.1 35 = .ok (.iconst 1, 1) := by decide +kernel
theorem d_M_sees_IIII_36 : decode u_M_sees_IIII.2.1 36 = .ok (.iand, 1) := by decide +kernel
theorem d_M_sees_IIII_37 : decode u_M_sees_IIII.2.1 37 = .ok (.iconst 1, 1) := by decide +kernel
theorem d_M_sees_IIII_38 : decode u_M_sees_IIII.2.1 38 = .ok (.if_icmp .ne 24, 3) := by decide +kernel
theorem d_M_sees_IIII_41 : decode u_M_sees_IIII.2.1 41 = .ok (.aload_n 0, 1) := by decide +kernel
theorem d_M_sees_IIII_42 : decode u_M_sees_IIII.2.1 42 = .ok (.getfield 22, 3) := by decide +kernel
theorem d_M_sees_IIII_45 : decode u_M_sees_IIII.2.1 45 = .ok (.bipush 8, 2) := by decide +kernel
theorem d_M_sees_IIII_47 : decode u_M_sees_IIII.2.1 47 = .ok (.iload_n 1, 1) := by decide +kernel
theorem d_M_sees_IIII_48 : decode u_M_sees_IIII.2.1 48 = .ok (.imul, 1) := by decide +kernel
theorem d_M_sees_IIII_49 : decode u_M_sees_IIII.2.1 49 = .ok (.iload 5, 2) := by decide +kernel
theorem d_M_sees_IIII_51 : decode u_M_sees_IIII.2.1 51 = .ok (.iadd, 1) := by decide +kernel
theorem d_M_sees_IIII_52 : decode u_M_sees_IIII.2.1 52 = .ok (.iaload, 1) := by decide +kernel
theorem d_M_sees_IIII_53 : decode u_M_sees_IIII.2.1 53 = .ok (.iload 6, 2) := by decide +kernel
theorem d_M_sees_IIII_55 : decode u_M_sees_IIII.2.1 55 = .ok (.iload_n 3, 1) := by decide +kernel
theorem d_M_sees_IIII_56 : decode u_M_sees_IIII.2.1 56 = .ok (.invokestatic 152, 3) := by decide +kernel
theorem d_M_sees_IIII_59 : decode u_M_sees_IIII.2.1 59 = .ok (.goto 6, 3) := by decide +kernel
theorem d_M_sees_IIII_62 : decode u_M_sees_IIII.2.1 62 = .ok (.sipush (-9999), 3) := by decide +kernel
theorem d_M_sees_IIII_65 : decode u_M_sees_IIII.2.1 65 = .ok (.iastore, 1) := by decide +kernel
theorem d_M_sees_IIII_66 : decode u_M_sees_IIII.2.1 66 = .ok (.aload_n 0, 1) := by decide +kernel
theorem d_M_sees_IIII_67 : decode u_M_sees_IIII.2.1 67 = .ok (.aload_n 0, 1) := by decide +kernel
theorem d_M_sees_IIII_68 : decode u_M_sees_IIII.2.1 68 = .ok (.getfield 196, 3) := by decide +kernel
theorem d_M_sees_IIII_71 : decode u_M_sees_IIII.2.1 71 = .ok (.ifCond .ne 38, 3) := by decide +kernel
theorem d_M_sees_IIII_74 : decode u_M_sees_IIII.2.1 74 = .ok (.aload_n 0, 1) := by decide +kernel
theorem d_M_sees_IIII_75 : decode u_M_sees_IIII.2.1 75 = .ok (.getfield 61, 3) := by decide +kernel
theorem d_M_sees_IIII_78 : decode u_M_sees_IIII.2.1 78 = .ok (.iload 5, 2) := by decide +kernel
theorem d_M_sees_IIII_80 : decode u_M_sees_IIII.2.1 80 = .ok (.iaload, 1) := by decide +kernel
theorem d_M_sees_IIII_81 : decode u_M_sees_IIII.2.1 81 = .ok (.sipush (-9999), 3) := by decide +kernel
theorem d_M_sees_IIII_84 : decode u_M_sees_IIII.2.1 84 = .ok (.if_icmp .eq 29, 3) := by decide +kernel
theorem d_M_sees_IIII_87 : decode u_M_sees_IIII.2.1 87 = .ok (.aload_n 0, 1) := by decide +kernel
theorem d_M_sees_IIII_88 : decode u_M_sees_IIII.2.1 88 = .ok (.getfield 61, 3) := by decide +kernel
theorem d_M_sees_IIII_91 : decode u_M_sees_IIII.2.1 91 = .ok (.iload 5, 2) := by decide +kernel
theorem d_M_sees_IIII_93 : decode u_M_sees_IIII.2.1 93 = .ok (.iaload, 1) := by decide +kernel
theorem d_M_sees_IIII_94 : decode u_M_sees_IIII.2.1 94 = .ok (.iload 6, 2) := by decide +kernel
theorem d_M_sees_IIII_96 : decode u_M_sees_IIII.2.1 96 = .ok (.isub, 1) := by decide +kernel
theorem d_M_sees_IIII_97 : decode u_M_sees_IIII.2.1 97 = .ok (.invokestatic 166, 3) := by decide +kernel
theorem d_M_sees_IIII_100 : decode u_M_sees_IIII.2.1 100 = .ok (.aload_n 0, 1) := by decide +kernel
theorem d_M_sees_IIII_101 : decode u_M_sees_IIII.2.1 101 = .ok (.getfield 34, 3) := by decide +kernel
theorem d_M_sees_IIII_104 : decode u_M_sees_IIII.2.1 104 = .ok (.iconst 0, 1) := by decide +kernel
theorem d_M_sees_IIII_105 : decode u_M_sees_IIII.2.1 105 = .ok (.iaload, 1) := by decide +kernel
theorem d_M_sees_IIII_106 : decode u_M_sees_IIII.2.1 106 = .ok (.if_icmp .le 7, 3) := by decide +kernel
theorem d_M_sees_IIII_109 : decode u_M_sees_IIII.2.1 109 = .ok (.iconst 1, 1) := by decide +kernel
theorem d_M_sees_IIII_110 : decode u_M_sees_IIII.2.1 110 = .ok (.goto 4, 3) := by decide +kernel
theorem d_M_sees_IIII_113 : decode u_M_sees_IIII.2.1 113 = .ok (.iconst 0, 1) := by decide +kernel
theorem d_M_sees_IIII_114 : decode u_M_sees_IIII.2.1 114 = .ok (.putfield 196, 3) := by decide +kernel
theorem d_M_sees_IIII_117 : decode u_M_sees_IIII.2.1 117 = .ok (.iinc 5 1, 3) := by decide +kernel
theorem d_M_sees_IIII_120 : decode u_M_sees_IIII.2.1 120 = .ok (.goto (-112), 3) := by decide +kernel
theorem d_M_sees_IIII_123 : decode u_M_sees_IIII.2.1 123 = .ok (.return_, 1) := by decide +kernel
theorem d_M_findScore_0 : decode u_M_findScore.2.1 0 = .ok (.lconst 0, 1) := by decide +kernel
theorem d_M_findScore_1 : decode u_M_findScore.2.1 1 = .ok (.lstore_n 3, 1) := by decide +kernel
theorem d_M_findScore_2 : decode u_M_findScore.2.1 2 = .ok (.lconst 0, 1) := by decide +kernel
theorem d_M_findScore_3 : decode u_M_findScore.2.1 3 = .ok (.lstore 5, 2) := by decide +kernel
theorem d_M_findScore_5 : decode u_M_findScore.2.1 5 = .ok (.iconst 0, 1) := by decide +kernel
theorem d_M_findScore_6 : decode u_M_findScore.2.1 6 = .ok (.istore 7, 2) := by decide +kernel
theorem d_M_findScore_8 : decode u_M_findScore.2.1 8 = .ok (.iload 7, 2) := by decide +kernel
theorem d_M_findScore_10 : decode u_M_findScore.2.1 10 = .ok (.bipush 8, 2) := by decide +kernel
theorem d_M_findScore_12 : decode u_M_findScore.2.1 12 = .ok (.if_icmp .ge 103, 3) := by decide +kernel
theorem d_M_findScore_15 : decode u_M_findScore.2.1 15 = .ok (.aload_n 0, 1) := by decide +kernel
theorem d_M_findScore_16 : decode u_M_findScore.2.1 16 = .ok (.getfield 58, 3) := by decide +kernel
theorem d_M_findScore_19 : decode u_M_findScore.2.1 19 = .ok (.bipush 8, 2) := by decide +kernel
theorem d_M_findScore_21 : decode u_M_findScore.2.1 21 = .ok (.iload_n 1, 1) := by decide +kernel
theorem d_M_findScore_22 : decode u_M_findScore.2.1 22 = .ok (.imul, 1) := by decide +kernel
theorem d_M_findScore_23 : decode u_M_findScore.2.1 23 = .ok (.iload 7, 2) := by decide +kernel
theorem d_M_findScore_25 : decode u_M_findScore.2.1 25 = .ok (.iadd, 1) := by decide +kernel
theorem d_M_findScore_26 : decode u_M_findScore.2.1 26 = .ok (.iaload, 1) := by decide +kernel
theorem d_M_findScore_27 : decode u_M_findScore.2.1 27 = .ok (.i2l, 1) := by decide +kernel
theorem d_M_findScore_28 : decode u_M_findScore.2.1 28 = .ok (.lstore 8, 2) := by decide +kernel
theorem d_M_findScore_30 : decode u_M_findScore.2.1 30 = .ok (.aload_n 0, 1) := by decide +kernel
theorem d_M_findScore_31 : decode u_M_findScore.2.1 31 = .ok (.getfield 22, 3) := by decide +kernel
theorem d_M_findScore_34 : decode u_M_findScore.2.1 34 = .ok (.bipush 8, 2) := by decide +kernel
theorem d_M_findScore_36 : decode u_M_findScore.2.1 36 = .ok (.iload_n 2, 1) := by decide +kernel
theorem d_M_findScore_37 : decode u_M_findScore.2.1 37 = .ok (.imul, 1) := by decide +kernel
theorem d_M_findScore_38 : decode u_M_findScore.2.1 38 = .ok (.iload 7, 2) := by decide +kernel
theorem d_M_findScore_40 : decode u_M_findScore.2.1 40 = .ok (.iadd, 1) := by decide +kernel
theorem d_M_findScore_41 : decode u_M_findScore.2.1 41 = .ok (.iaload, 1) := by decide +kernel
theorem d_M_findScore_42 : decode u_M_findScore.2.1 42 = .ok (.i2l, 1) := by decide +kernel
theorem d_M_findScore_43 : decode u_M_findScore.2.1 43 = .ok (.lload 8, 2) := by decide +kernel
theorem d_M_findScore_45 : decode u_M_findScore.2.1 45 = .ok (.lsub, 1) := by decide +kernel
theorem d_M_findScore_46 : decode u_M_findScore.2.1 46 = .ok (.lstore 10, 2) := by decide +kernel
theorem d_M_findScore_48 : decode u_M_findScore.2.1 48 = .ok (.lload_n 3, 1) := by decide +kernel
theorem d_M_findScore_49 : decode u_M_findScore.2.1 49 = .ok (.aload_n 0, 1) := by decide +kernel
theorem d_M_findScore_50 : decode u_M_findScore.2.1 50 = .ok (.getfield 61, 3) := by decide +kernel
theorem d_M_findScore_53 : decode u_M_findScore.2.1 53 = .ok (.iload 7, 2) := by decide +kernel
theorem d_M_findScore_55 : decode u_M_findScore.2.1 55 = .ok (.iaload, 1) := by decide +kernel
theorem d_M_findScore_56 : decode u_M_findScore.2.1 56 = .ok (.sipush (-9999), 3) := by decide +kernel
theorem d_M_findScore_59 : decode u_M_findScore.2.1 59 = .ok (.if_icmp .ne 7, 3) := by decide +kernel
theorem d_M_findScore_62 : decode u_M_findScore.2.1 62 = .ok (.lconst 0, 1) := by decide +kernel
theorem d_M_findScore_63 : decode u_M_findScore.2.1 63 = .ok (.goto 17, 3) := by decide +kernel
theorem d_M_findScore_66 : decode u_M_findScore.2.1 66 = .ok (.aload_n 0, 1) := by decide +kernel
theorem d_M_findScore_67 : decode u_M_findScore.2.1 67 = .ok (.getfield 61, 3) := by decide +kernel
theorem d_M_findScore_70 : decode u_M_findScore.2.1 70 = .ok (.iload 7, 2) := by decide +kernel
theorem d_M_findScore_72 : decode u_M_findScore.2.1 72 = .ok (.iaload, 1) := by decide +kernel
theorem d_M_findScore_73 : decode u_M_findScore.2.1 73 = .ok (.i2l, 1) := by decide +kernel
theorem d_M_findScore_74 : decode u_M_findScore.2.1 74 = .ok (.lload 8, 2) := by decide +kernel
theorem d_M_findScore_76 : decode u_M_findScore.2.1 76 = .ok (.lsub, 1) := by decide +kernel
theorem d_M_findScore_77 : decode u_M_findScore.2.1 77 = .ok (.lload 10, 2) := by decide +kernel
theorem d_M_findScore_79 : decode u_M_findScore.2.1 79 = .ok (.lmul, 1) := by decide +kernel
theorem d_M_findScore_80 : decode u_M_findScore.2.1 80 = .ok (.ladd, 1) := by decide +kernel
theorem d_M_findScore_81 : decode u_M_findScore.2.1 81 = .ok (.lstore_n 3, 1) := by decide +kernel
theorem d_M_findScore_82 : decode u_M_findScore.2.1 82 = .ok (.lload 5, 2) := by decide +kernel
theorem d_M_findScore_84 : decode u_M_findScore.2.1 84 = .ok (.aload_n 0, 1) := by decide +kernel
theorem d_M_findScore_85 : decode u_M_findScore.2.1 85 = .ok (.getfield 61, 3) := by decide +kernel
theorem d_M_findScore_88 : decode u_M_findScore.2.1 88 = .ok (.iload 7, 2) := by decide +kernel
theorem d_M_findScore_90 : decode u_M_findScore.2.1 90 = .ok (.iaload, 1) := by decide +kernel
theorem d_M_findScore_91 : decode u_M_findScore.2.1 91 = .ok (.sipush (-9999), 3) := by decide +kernel
theorem d_M_findScore_94 : decode u_M_findScore.2.1 94 = .ok (.if_icmp .ne 7, 3) := by decide +kernel
theorem d_M_findScore_97 : decode u_M_findScore.2.1 97 = .ok (.lconst 0, 1) := by decide +kernel
theorem d_M_findScore_98 : decode u_M_findScore.2.1 98 = .ok (.goto 8, 3) := by decide +kernel
theorem d_M_findScore_101 : decode u_M_findScore.2.1 101 = .ok (.lload 10, 2) := by decide +kernel
theorem d_M_findScore_103 : decode u_M_findScore.2.1 103 = .ok (.lload 10, 2) := by decide +kernel
theorem d_M_findScore_105 : decode u_M_findScore.2.1 105 = .ok (.lmul, 1) := by decide +kernel
theorem d_M_findScore_106 : decode u_M_findScore.2.1 106 = .ok (.ladd, 1) := by decide +kernel
theorem d_M_findScore_107 : decode u_M_findScore.2.1 107 = .ok (.lstore 5, 2) := by decide +kernel
theorem d_M_findScore_109 : decode u_M_findScore.2.1 109 = .ok (.iinc 7 1, 3) := by decide +kernel
theorem d_M_findScore_112 : decode u_M_findScore.2.1 112 = .ok (.goto (-104), 3) := by decide +kernel
theorem d_M_findScore_115 : decode u_M_findScore.2.1 115 = .ok (.aload_n 0, 1) := by decide +kernel
theorem d_M_findScore_116 : decode u_M_findScore.2.1 116 = .ok (.lload_n 3, 1) := by decide +kernel
theorem d_M_findScore_117 : decode u_M_findScore.2.1 117 = .ok (.lconst 0, 1) := by decide +kernel
theorem d_M_findScore_118 : decode u_M_findScore.2.1 118 = .ok (.lcmp, 1) := by decide +kernel
theorem d_M_findScore_119 : decode u_M_findScore.2.1 119 = .ok (.ifCond .lt 10, 3) := by decide +kernel
theorem d_M_findScore_122 : decode u_M_findScore.2.1 122 = .ok (.lload 5, 2) := by decide +kernel
theorem d_M_findScore_124 : decode u_M_findScore.2.1 124 = .ok (.lconst 0, 1) := by decide +kernel
theorem d_M_findScore_125 : decode u_M_findScore.2.1 125 = .ok (.lcmp, 1) := by decide +kernel
theorem d_M_findScore_126 : decode u_M_findScore.2.1 126 = .ok (.ifCond .ne 7, 3) := by decide +kernel
theorem d_M_findScore_129 : decode u_M_findScore.2.1 129 = .ok (.lconst 0, 1) := by decide +kernel
theorem d_M_findScore_130 : decode u_M_findScore.2.1 130 = .ok (.goto 6, 3) := by decide +kernel
theorem d_M_findScore_133 : decode u_M_findScore.2.1 133 = .ok (.lload_n 3, 1) := by decide +kernel
theorem d_M_findScore_134 : decode u_M_findScore.2.1 134 = .ok (.lload_n 3, 1) := by decide +kernel
theorem d_M_findScore_135 : decode u_M_findScore.2.1 135 = .ok (.lmul, 1) := by decide +kernel
theorem d_M_findScore_136 : decode u_M_findScore.2.1 136 = .ok (.putfield 200, 3) := by decide +kernel
theorem d_M_findScore_139 : decode u_M_findScore.2.1 139 = .ok (.aload_n 0, 1) := by decide +kernel
theorem d_M_findScore_140 : decode u_M_findScore.2.1 140 = .ok (.lload 5, 2) := by decide +kernel
theorem d_M_findScore_142 : decode u_M_findScore.2.1 142 = .ok (.lconst 0, 1) := by decide +kernel
theorem d_M_findScore_143 : decode u_M_findScore.2.1 143 = .ok (.lcmp, 1) := by decide +kernel
theorem d_M_findScore_144 : decode u_M_findScore.2.1 144 = .ok (.ifCond .ne 7, 3) := by decide +kernel
theorem d_M_findScore_147 : decode u_M_findScore.2.1 147 = .ok (.lconst 1, 1) := by decide +kernel
theorem d_M_findScore_148 : decode u_M_findScore.2.1 148 = .ok (.goto 5, 3) := by decide +kernel
theorem d_M_findScore_151 : decode u_M_findScore.2.1 151 = .ok (.lload 5, 2) := by decide +kernel
theorem d_M_findScore_153 : decode u_M_findScore.2.1 153 = .ok (.putfield 204, 3) := by decide +kernel
theorem d_M_findScore_156 : decode u_M_findScore.2.1 156 = .ok (.return_, 1) := by decide +kernel
theorem d_M_divisor_0 : decode u_M_divisor.2.1 0 = .ok (.lload_n 0, 1) := by decide +kernel
theorem d_M_divisor_1 : decode u_M_divisor.2.1 1 = .ok (.lconst 0, 1) := by decide +kernel
theorem d_M_divisor_2 : decode u_M_divisor.2.1 2 = .ok (.lcmp, 1) := by decide +kernel
theorem d_M_divisor_3 : decode u_M_divisor.2.1 3 = .ok (.ifCond .ge 8, 3) := by decide +kernel
theorem d_M_divisor_6 : decode u_M_divisor.2.1 6 = .ok (.lload_n 0, 1) := by decide +kernel
theorem d_M_divisor_7 : decode u_M_divisor.2.1 7 = .ok (.lneg, 1) := by decide +kernel
theorem d_M_divisor_8 : decode u_M_divisor.2.1 8 = .ok (.goto 4, 3) := by decide +kernel
theorem d_M_divisor_11 : decode u_M_divisor.2.1 11 = .ok (.lload_n 0, 1) := by decide +kernel
theorem d_M_divisor_12 : decode u_M_divisor.2.1 12 = .ok (.lstore 4, 2) := by decide +kernel
theorem d_M_divisor_14 : decode u_M_divisor.2.1 14 = .ok (.lload_n 2, 1) := by decide +kernel
theorem d_M_divisor_15 : decode u_M_divisor.2.1 15 = .ok (.lstore 6, 2) := by decide +kernel
theorem d_M_divisor_17 : decode u_M_divisor.2.1 17 = .ok (.lload 6, 2) := by decide +kernel
theorem d_M_divisor_19 : decode u_M_divisor.2.1 19 = .ok (.lconst 0, 1) := by decide +kernel
theorem d_M_divisor_20 : decode u_M_divisor.2.1 20 = .ok (.lcmp, 1) := by decide +kernel
theorem d_M_divisor_21 : decode u_M_divisor.2.1 21 = .ok (.ifCond .eq 21, 3) := by decide +kernel
theorem d_M_divisor_24 : decode u_M_divisor.2.1 24 = .ok (.lload 4, 2) := by decide +kernel
theorem d_M_divisor_26 : decode u_M_divisor.2.1 26 = .ok (.lload 6, 2) := by decide +kernel
theorem d_M_divisor_28 : decode u_M_divisor.2.1 28 = .ok (.lrem, 1) := by decide +kernel
theorem d_M_divisor_29 : decode u_M_divisor.2.1 29 = .ok (.lstore 8, 2) := by decide +kernel
theorem d_M_divisor_31 : decode u_M_divisor.2.1 31 = .ok (.lload 6, 2) := by decide +kernel
theorem d_M_divisor_33 : decode u_M_divisor.2.1 33 = .ok (.lstore 4, 2) := by decide +kernel
theorem d_M_divisor_35 : decode u_M_divisor.2.1 35 = .ok (.lload 8, 2) := by decide +kernel
theorem d_M_divisor_37 : decode u_M_divisor.2.1 37 = .ok (.lstore 6, 2) := by decide +kernel
theorem d_M_divisor_39 : decode u_M_divisor.2.1 39 = .ok (.goto (-22), 3) := by decide +kernel
theorem d_M_divisor_42 : decode u_M_divisor.2.1 42 = .ok (.lload 4, 2) := by decide +kernel
theorem d_M_divisor_44 : decode u_M_divisor.2.1 44 = .ok (.lreturn, 1) := by decide +kernel
theorem d_M_part_0 : decode u_M_part.2.1 0 = .ok (.iload 4, 2) := by decide +kernel
theorem d_M_part_2 : decode u_M_part.2.1 2 = .ok (.ifCond .ne 7, 3) := by decide +kernel
theorem d_M_part_5 : decode u_M_part.2.1 5 = .ok (.lload_n 0, 1) := by decide +kernel
theorem d_M_part_6 : decode u_M_part.2.1 6 = .ok (.goto 4, 3) := by decide +kernel
theorem d_M_part_9 : decode u_M_part.2.1 9 = .ok (.lload_n 2, 1) := by decide +kernel
theorem d_M_part_10 : decode u_M_part.2.1 10 = .ok (.lload_n 0, 1) := by decide +kernel
theorem d_M_part_11 : decode u_M_part.2.1 11 = .ok (.lload_n 2, 1) := by decide +kernel
theorem d_M_part_12 : decode u_M_part.2.1 12 = .ok (.invokestatic 207, 3) := by decide +kernel
theorem d_M_part_15 : decode u_M_part.2.1 15 = .ok (.ldiv, 1) := by decide +kernel
theorem d_M_part_16 : decode u_M_part.2.1 16 = .ok (.lreturn, 1) := by decide +kernel
theorem d_M_isMore_0 : decode u_M_isMore.2.1 0 = .ok (.lload_n 0, 1) := by decide +kernel
theorem d_M_isMore_1 : decode u_M_isMore.2.1 1 = .ok (.lstore 8, 2) := by decide +kernel
theorem d_M_isMore_3 : decode u_M_isMore.2.1 3 = .ok (.lload_n 2, 1) := by decide +kernel
theorem d_M_isMore_4 : decode u_M_isMore.2.1 4 = .ok (.lstore 10, 2) := by decide +kernel
theorem d_M_isMore_6 : decode u_M_isMore.2.1 6 = .ok (.lload 4, 2) := by decide +kernel
theorem d_M_isMore_8 : decode u_M_isMore.2.1 8 = .ok (.lstore 12, 2) := by decide +kernel
theorem d_M_isMore_10 : decode u_M_isMore.2.1 10 = .ok (.lload 6, 2) := by decide +kernel
theorem d_M_isMore_12 : decode u_M_isMore.2.1 12 = .ok (.lstore 14, 2) := by decide +kernel
theorem d_M_isMore_14 : decode u_M_isMore.2.1 14 = .ok (.iconst 0, 1) := by decide +kernel
theorem d_M_isMore_15 : decode u_M_isMore.2.1 15 = .ok (.istore 16, 2) := by decide +kernel
theorem d_M_isMore_17 : decode u_M_isMore.2.1 17 = .ok (.lload 8, 2) := by decide +kernel
theorem d_M_isMore_19 : decode u_M_isMore.2.1 19 = .ok (.lload 10, 2) := by decide +kernel
theorem d_M_isMore_21 : decode u_M_isMore.2.1 21 = .ok (.ldiv, 1) := by decide +kernel
theorem d_M_isMore_22 : decode u_M_isMore.2.1 22 = .ok (.lstore 17, 2) := by decide +kernel
theorem d_M_isMore_24 : decode u_M_isMore.2.1 24 = .ok (.lload 12, 2) := by decide +kernel
theorem d_M_isMore_26 : decode u_M_isMore.2.1 26 = .ok (.lload 14, 2) := by decide +kernel
theorem d_M_isMore_28 : decode u_M_isMore.2.1 28 = .ok (.ldiv, 1) := by decide +kernel
theorem d_M_isMore_29 : decode u_M_isMore.2.1 29 = .ok (.lstore 19, 2) := by decide +kernel
theorem d_M_isMore_31 : decode u_M_isMore.2.1 31 = .ok (.lload 17, 2) := by decide +kernel
theorem d_M_isMore_33 : decode u_M_isMore.2.1 33 = .ok (.lload 19, 2) := by decide +kernel
theorem d_M_isMore_35 : decode u_M_isMore.2.1 35 = .ok (.lcmp, 1) := by decide +kernel
theorem d_M_isMore_36 : decode u_M_isMore.2.1 36 = .ok (.ifCond .eq 27, 3) := by decide +kernel
theorem d_M_isMore_39 : decode u_M_isMore.2.1 39 = .ok (.lload 17, 2) := by decide +kernel
theorem d_M_isMore_41 : decode u_M_isMore.2.1 41 = .ok (.lload 19, 2) := by decide +kernel
theorem d_M_isMore_43 : decode u_M_isMore.2.1 43 = .ok (.lcmp, 1) := by decide +kernel
theorem d_M_isMore_44 : decode u_M_isMore.2.1 44 = .ok (.ifCond .le 7, 3) := by decide +kernel
theorem d_M_isMore_47 : decode u_M_isMore.2.1 47 = .ok (.iconst 1, 1) := by decide +kernel
theorem d_M_isMore_48 : decode u_M_isMore.2.1 48 = .ok (.goto 4, 3) := by decide +kernel
theorem d_M_isMore_51 : decode u_M_isMore.2.1 51 = .ok (.iconst 0, 1) := by decide +kernel
theorem d_M_isMore_52 : decode u_M_isMore.2.1 52 = .ok (.iload 16, 2) := by decide +kernel
theorem d_M_isMore_54 : decode u_M_isMore.2.1 54 = .ok (.if_icmp .eq 7, 3) := by decide +kernel
theorem d_M_isMore_57 : decode u_M_isMore.2.1 57 = .ok (.iconst 1, 1) := by decide +kernel
theorem d_M_isMore_58 : decode u_M_isMore.2.1 58 = .ok (.goto 4, 3) := by decide +kernel
theorem d_M_isMore_61 : decode u_M_isMore.2.1 61 = .ok (.iconst 0, 1) := by decide +kernel
theorem d_M_isMore_62 : decode u_M_isMore.2.1 62 = .ok (.ireturn, 1) := by decide +kernel
theorem d_M_isMore_63 : decode u_M_isMore.2.1 63 = .ok (.lload 8, 2) := by decide +kernel
theorem d_M_isMore_65 : decode u_M_isMore.2.1 65 = .ok (.lload 10, 2) := by decide +kernel
theorem d_M_isMore_67 : decode u_M_isMore.2.1 67 = .ok (.lrem, 1) := by decide +kernel
theorem d_M_isMore_68 : decode u_M_isMore.2.1 68 = .ok (.lstore 8, 2) := by decide +kernel
theorem d_M_isMore_70 : decode u_M_isMore.2.1 70 = .ok (.lload 12, 2) := by decide +kernel
theorem d_M_isMore_72 : decode u_M_isMore.2.1 72 = .ok (.lload 14, 2) := by decide +kernel
theorem d_M_isMore_74 : decode u_M_isMore.2.1 74 = .ok (.lrem, 1) := by decide +kernel
theorem d_M_isMore_75 : decode u_M_isMore.2.1 75 = .ok (.lstore 12, 2) := by decide +kernel
theorem d_M_isMore_77 : decode u_M_isMore.2.1 77 = .ok (.lload 8, 2) := by decide +kernel
theorem d_M_isMore_79 : decode u_M_isMore.2.1 79 = .ok (.lconst 0, 1) := by decide +kernel
theorem d_M_isMore_80 : decode u_M_isMore.2.1 80 = .ok (.lcmp, 1) := by decide +kernel
theorem d_M_isMore_81 : decode u_M_isMore.2.1 81 = .ok (.ifCond .eq 10, 3) := by decide +kernel
theorem d_M_isMore_84 : decode u_M_isMore.2.1 84 = .ok (.lload 12, 2) := by decide +kernel
theorem d_M_isMore_86 : decode u_M_isMore.2.1 86 = .ok (.lconst 0, 1) := by decide +kernel
theorem d_M_isMore_87 : decode u_M_isMore.2.1 87 = .ok (.lcmp, 1) := by decide +kernel
theorem d_M_isMore_88 : decode u_M_isMore.2.1 88 = .ok (.ifCond .ne 50, 3) := by decide +kernel
theorem d_M_isMore_91 : decode u_M_isMore.2.1 91 = .ok (.iload 16, 2) := by decide +kernel
theorem d_M_isMore_93 : decode u_M_isMore.2.1 93 = .ok (.ifCond .eq 25, 3) := by decide +kernel
theorem d_M_isMore_96 : decode u_M_isMore.2.1 96 = .ok (.lload 8, 2) := by decide +kernel
theorem d_M_isMore_98 : decode u_M_isMore.2.1 98 = .ok (.lconst 0, 1) := by decide +kernel
theorem d_M_isMore_99 : decode u_M_isMore.2.1 99 = .ok (.lcmp, 1) := by decide +kernel
theorem d_M_isMore_100 : decode u_M_isMore.2.1 100 = .ok (.ifCond .ne 14, 3) := by decide +kernel
theorem d_M_isMore_103 : decode u_M_isMore.2.1 103 = .ok (.lload 12, 2) := by decide +kernel
theorem d_M_isMore_105 : decode u_M_isMore.2.1 105 = .ok (.lconst 0, 1) := by decide +kernel
theorem d_M_isMore_106 : decode u_M_isMore.2.1 106 = .ok (.lcmp, 1) := by decide +kernel
theorem d_M_isMore_107 : decode u_M_isMore.2.1 107 = .ok (.ifCond .eq 7, 3) := by decide +kernel
theorem d_M_isMore_110 : decode u_M_isMore.2.1 110 = .ok (.iconst 1, 1) := by decide +kernel
theorem d_M_isMore_111 : decode u_M_isMore.2.1 111 = .ok (.goto 26, 3) := by decide +kernel
theorem d_M_isMore_114 : decode u_M_isMore.2.1 114 = .ok (.iconst 0, 1) := by decide +kernel
theorem d_M_isMore_115 : decode u_M_isMore.2.1 115 = .ok (.goto 22, 3) := by decide +kernel
theorem d_M_isMore_118 : decode u_M_isMore.2.1 118 = .ok (.lload 8, 2) := by decide +kernel
theorem d_M_isMore_120 : decode u_M_isMore.2.1 120 = .ok (.lconst 0, 1) := by decide +kernel
theorem d_M_isMore_121 : decode u_M_isMore.2.1 121 = .ok (.lcmp, 1) := by decide +kernel
theorem d_M_isMore_122 : decode u_M_isMore.2.1 122 = .ok (.ifCond .eq 14, 3) := by decide +kernel
theorem d_M_isMore_125 : decode u_M_isMore.2.1 125 = .ok (.lload 12, 2) := by decide +kernel
theorem d_M_isMore_127 : decode u_M_isMore.2.1 127 = .ok (.lconst 0, 1) := by decide +kernel
theorem d_M_isMore_128 : decode u_M_isMore.2.1 128 = .ok (.lcmp, 1) := by decide +kernel
theorem d_M_isMore_129 : decode u_M_isMore.2.1 129 = .ok (.ifCond .ne 7, 3) := by decide +kernel
theorem d_M_isMore_132 : decode u_M_isMore.2.1 132 = .ok (.iconst 1, 1) := by decide +kernel
theorem d_M_isMore_133 : decode u_M_isMore.2.1 133 = .ok (.goto 4, 3) := by decide +kernel
theorem d_M_isMore_136 : decode u_M_isMore.2.1 136 = .ok (.iconst 0, 1) := by decide +kernel
theorem d_M_isMore_137 : decode u_M_isMore.2.1 137 = .ok (.ireturn, 1) := by decide +kernel
theorem d_M_isMore_138 : decode u_M_isMore.2.1 138 = .ok (.lload 8, 2) := by decide +kernel
theorem d_M_isMore_140 : decode u_M_isMore.2.1 140 = .ok (.lstore 21, 2) := by decide +kernel
theorem d_M_isMore_142 : decode u_M_isMore.2.1 142 = .ok (.lload 10, 2) := by decide +kernel
theorem d_M_isMore_144 : decode u_M_isMore.2.1 144 = .ok (.lstore 8, 2) := by decide +kernel
theorem d_M_isMore_146 : decode u_M_isMore.2.1 146 = .ok (.lload 21, 2) := by decide +kernel
theorem d_M_isMore_148 : decode u_M_isMore.2.1 148 = .ok (.lstore 10, 2) := by decide +kernel
theorem d_M_isMore_150 : decode u_M_isMore.2.1 150 = .ok (.lload 12, 2) := by decide +kernel
theorem d_M_isMore_152 : decode u_M_isMore.2.1 152 = .ok (.lstore 21, 2) := by decide +kernel
theorem d_M_isMore_154 : decode u_M_isMore.2.1 154 = .ok (.lload 14, 2) := by decide +kernel
theorem d_M_isMore_156 : decode u_M_isMore.2.1 156 = .ok (.lstore 12, 2) := by decide +kernel
theorem d_M_isMore_158 : decode u_M_isMore.2.1 158 = .ok (.lload 21, 2) := by decide +kernel
theorem d_M_isMore_160 : decode u_M_isMore.2.1 160 = .ok (.lstore 14, 2) := by decide +kernel
theorem d_M_isMore_162 : decode u_M_isMore.2.1 162 = .ok (.iload 16, 2) := by decide +kernel
theorem d_M_isMore_164 : decode u_M_isMore.2.1 164 = .ok (.ifCond .ne 7, 3) := by decide +kernel
theorem d_M_isMore_167 : decode u_M_isMore.2.1 167 = .ok (.iconst 1, 1) := by decide +kernel
theorem d_M_isMore_168 : decode u_M_isMore.2.1 168 = .ok (.goto 4, 3) := by decide +kernel
theorem d_M_isMore_171 : decode u_M_isMore.2.1 171 = .ok (.iconst 0, 1) := by decide +kernel
theorem d_M_isMore_172 : decode u_M_isMore.2.1 172 = .ok (.istore 16, 2) := by decide +kernel
theorem d_M_isMore_174 : decode u_M_isMore.2.1 174 = .ok (.goto (-157), 3) := by decide +kernel
theorem d_M_score_0 : decode u_M_score.2.1 0 = .ok (.aload_n 0, 1) := by decide +kernel
theorem d_M_score_1 : decode u_M_score.2.1 1 = .ok (.iload_n 1, 1) := by decide +kernel
theorem d_M_score_2 : decode u_M_score.2.1 2 = .ok (.invokevirtual 193, 3) := by decide +kernel
theorem d_M_score_5 : decode u_M_score.2.1 5 = .ok (.ifCond .eq 27, 3) := by decide +kernel
theorem d_M_score_8 : decode u_M_score.2.1 8 = .ok (.aload_n 0, 1) := by decide +kernel
theorem d_M_score_9 : decode u_M_score.2.1 9 = .ok (.iload_n 2, 1) := by decide +kernel
theorem d_M_score_10 : decode u_M_score.2.1 10 = .ok (.invokevirtual 163, 3) := by decide +kernel
theorem d_M_score_13 : decode u_M_score.2.1 13 = .ok (.ifCond .eq 19, 3) := by decide +kernel
theorem d_M_score_16 : decode u_M_score.2.1 16 = .ok (.aload_n 0, 1) := by decide +kernel
theorem d_M_score_17 : decode u_M_score.2.1 17 = .ok (.iload_n 3, 1) := by decide +kernel
theorem d_M_score_18 : decode u_M_score.2.1 18 = .ok (.invokevirtual 103, 3) := by decide +kernel
theorem d_M_score_21 : decode u_M_score.2.1 21 = .ok (.ifCond .eq 11, 3) := by decide +kernel
theorem d_M_score_24 : decode u_M_score.2.1 24 = .ok (.iload 4, 2) := by decide +kernel
theorem d_M_score_26 : decode u_M_score.2.1 26 = .ok (.invokestatic 211, 3) := by decide +kernel
theorem d_M_score_29 : decode u_M_score.2.1 29 = .ok (.ifCond .ne 9, 3) := by decide +kernel
theorem d_M_score_32 : decode u_M_score.2.1 32 = .ok (.bipush (-2), 2) := by decide +kernel
theorem d_M_score_34 : decode u_M_score.2.1 34 = .ok (.invokestatic 214, 3) := by decide +kernel
theorem d_M_score_37 : decode u_M_score.2.1 37 = .ok (.lreturn, 1) := by decide +kernel
theorem d_M_score_38 : decode u_M_score.2.1 38 = .ok (.aload_n 0, 1) := by decide +kernel
theorem d_M_score_39 : decode u_M_score.2.1 39 = .ok (.iload_n 1, 1) := by decide +kernel
theorem d_M_score_40 : decode u_M_score.2.1 40 = .ok (.iload_n 3, 1) := by decide +kernel
theorem d_M_score_41 : decode u_M_score.2.1 41 = .ok (.invokevirtual 218, 3) := by decide +kernel
theorem d_M_score_44 : decode u_M_score.2.1 44 = .ok (.ifCond .ne 9, 3) := by decide +kernel
theorem d_M_score_47 : decode u_M_score.2.1 47 = .ok (.bipush (-3), 2) := by decide +kernel
theorem d_M_score_49 : decode u_M_score.2.1 49 = .ok (.invokestatic 214, 3) := by decide +kernel
theorem d_M_score_52 : decode u_M_score.2.1 52 = .ok (.lreturn, 1) := by decide +kernel
theorem d_M_score_53 : decode u_M_score.2.1 53 = .ok (.aload_n 0, 1) := by decide +kernel
theorem d_M_score_54 : decode u_M_score.2.1 54 = .ok (.iload_n 2, 1) := by decide +kernel
theorem d_M_score_55 : decode u_M_score.2.1 55 = .ok (.invokevirtual 222, 3) := by decide +kernel
theorem d_M_score_58 : decode u_M_score.2.1 58 = .ok (.aload_n 0, 1) := by decide +kernel
theorem d_M_score_59 : decode u_M_score.2.1 59 = .ok (.iload_n 1, 1) := by decide +kernel
theorem d_M_score_60 : decode u_M_score.2.1 60 = .ok (.iload_n 3, 1) := by decide +kernel
theorem d_M_score_61 : decode u_M_score.2.1 61 = .ok (.invokevirtual 226, 3) := by decide +kernel
theorem d_M_score_64 : decode u_M_score.2.1 64 = .ok (.aload_n 0, 1) := by decide +kernel
theorem d_M_score_65 : decode u_M_score.2.1 65 = .ok (.getfield 200, 3) := by decide +kernel
theorem d_M_score_68 : decode u_M_score.2.1 68 = .ok (.aload_n 0, 1) := by decide +kernel
theorem d_M_score_69 : decode u_M_score.2.1 69 = .ok (.getfield 204, 3) := by decide +kernel
theorem d_M_score_72 : decode u_M_score.2.1 72 = .ok (.iload 4, 2) := by decide +kernel
theorem d_M_score_74 : decode u_M_score.2.1 74 = .ok (.invokestatic 230, 3) := by decide +kernel
theorem d_M_score_77 : decode u_M_score.2.1 77 = .ok (.lreturn, 1) := by decide +kernel
theorem d_M_namedBy_0 : decode u_M_namedBy.2.1 0 = .ok (.iconst (-1), 1) := by decide +kernel
theorem d_M_namedBy_1 : decode u_M_namedBy.2.1 1 = .ok (.istore_n 2, 1) := by decide +kernel
theorem d_M_namedBy_2 : decode u_M_namedBy.2.1 2 = .ok (.lconst 0, 1) := by decide +kernel
theorem d_M_namedBy_3 : decode u_M_namedBy.2.1 3 = .ok (.lstore_n 3, 1) := by decide +kernel
theorem d_M_namedBy_4 : decode u_M_namedBy.2.1 4 = .ok (.lconst 1, 1) := by decide +kernel
theorem d_M_namedBy_5 : decode u_M_namedBy.2.1 5 = .ok (.lstore 5, 2) := by decide +kernel
theorem d_M_namedBy_7 : decode u_M_namedBy.2.1 7 = .ok (.iconst 0, 1) := by decide +kernel
theorem d_M_namedBy_8 : decode u_M_namedBy.2.1 8 = .ok (.istore 7, 2) := by decide +kernel
theorem d_M_namedBy_10 : decode u_M_namedBy.2.1 10 = .ok (.iload 7, 2) := by decide +kernel
theorem d_M_namedBy_12 : decode u_M_namedBy.2.1 12 = .ok (.aload_n 0, 1) := by decide +kernel
theorem d_M_namedBy_13 : decode u_M_namedBy.2.1 13 = .ok (.getfield 98, 3) := by decide +kernel
theorem d_M_namedBy_16 : decode u_M_namedBy.2.1 16 = .ok (.if_icmp .ge 64, 3) := by decide +kernel
theorem d_M_namedBy_19 : decode u_M_namedBy.2.1 19 = .ok (.aload_n 0, 1) := by decide +kernel
theorem d_M_namedBy_20 : decode u_M_namedBy.2.1 20 = .ok (.getfield 196, 3) := by decide +kernel
theorem d_M_namedBy_23 : decode u_M_namedBy.2.1 23 = .ok (.ifCond .ne 57, 3) := by decide +kernel
theorem d_M_namedBy_26 : decode u_M_namedBy.2.1 26 = .ok (.aload_n 0, 1) := by decide +kernel
theorem d_M_namedBy_27 : decode u_M_namedBy.2.1 27 = .ok (.iload_n 1, 1) := by decide +kernel
theorem d_M_namedBy_28 : decode u_M_namedBy.2.1 28 = .ok (.iload 7, 2) := by decide +kernel
theorem d_M_namedBy_30 : decode u_M_namedBy.2.1 30 = .ok (.invokevirtual 218, 3) := by decide +kernel
theorem d_M_namedBy_33 : decode u_M_namedBy.2.1 33 = .ok (.ifCond .eq 41, 3) := by decide +kernel
theorem d_M_namedBy_36 : decode u_M_namedBy.2.1 36 = .ok (.aload_n 0, 1) := by decide +kernel
theorem d_M_namedBy_37 : decode u_M_namedBy.2.1 37 = .ok (.iload_n 1, 1) := by decide +kernel
theorem d_M_namedBy_38 : decode u_M_namedBy.2.1 38 = .ok (.iload 7, 2) := by decide +kernel
theorem d_M_namedBy_40 : decode u_M_namedBy.2.1 40 = .ok (.invokevirtual 226, 3) := by decide +kernel
theorem d_M_namedBy_43 : decode u_M_namedBy.2.1 43 = .ok (.aload_n 0, 1) := by decide +kernel
theorem d_M_namedBy_44 : decode u_M_namedBy.2.1 44 = .ok (.getfield 200, 3) := by decide +kernel
theorem d_M_namedBy_47 : decode u_M_namedBy.2.1 47 = .ok (.aload_n 0, 1) := by decide +kernel
theorem d_M_namedBy_48 : decode u_M_namedBy.2.1 48 = .ok (.getfield 204, 3) := by decide +kernel
theorem d_M_namedBy_51 : decode u_M_namedBy.2.1 51 = .ok (.lload_n 3, 1) := by decide +kernel
theorem d_M_namedBy_52 : decode u_M_namedBy.2.1 52 = .ok (.lload 5, 2) := by decide +kernel
theorem d_M_namedBy_54 : decode u_M_namedBy.2.1 54 = .ok (.invokestatic 234, 3) := by decide +kernel
theorem d_M_namedBy_57 : decode u_M_namedBy.2.1 57 = .ok (.ifCond .eq 17, 3) := by decide +kernel
theorem d_M_namedBy_60 : decode u_M_namedBy.2.1 60 = .ok (.iload 7, 2) := by decide +kernel
theorem d_M_namedBy_62 : decode u_M_namedBy.2.1 62 = .ok (.istore_n 2, 1) := by decide +kernel
theorem d_M_namedBy_63 : decode u_M_namedBy.2.1 63 = .ok (.aload_n 0, 1) := by decide +kernel
theorem d_M_namedBy_64 : decode u_M_namedBy.2.1 64 = .ok (.getfield 200, 3) := by decide +kernel
theorem d_M_namedBy_67 : decode u_M_namedBy.2.1 67 = .ok (.lstore_n 3, 1) := by decide +kernel
theorem d_M_namedBy_68 : decode u_M_namedBy.2.1 68 = .ok (.aload_n 0, 1) := by decide +kernel
theorem d_M_namedBy_69 : decode u_M_namedBy.2.1 69 = .ok (.getfield 204, 3) := by decide +kernel
theorem d_M_namedBy_72 : decode u_M_namedBy.2.1 72 = .ok (.lstore 5, 2) := by decide +kernel
theorem d_M_namedBy_74 : decode u_M_namedBy.2.1 74 = .ok (.iinc 7 1, 3) := by decide +kernel
theorem d_M_namedBy_77 : decode u_M_namedBy.2.1 77 = .ok (.goto (-67), 3) := by decide +kernel
theorem d_M_namedBy_80 : decode u_M_namedBy.2.1 80 = .ok (.iload_n 2, 1) := by decide +kernel
theorem d_M_namedBy_81 : decode u_M_namedBy.2.1 81 = .ok (.ireturn, 1) := by decide +kernel
theorem d_M_marginOf_0 : decode u_M_marginOf.2.1 0 = .ok (.lconst 0, 1) := by decide +kernel
theorem d_M_marginOf_1 : decode u_M_marginOf.2.1 1 = .ok (.lstore_n 3, 1) := by decide +kernel
theorem d_M_marginOf_2 : decode u_M_marginOf.2.1 2 = .ok (.iconst 0, 1) := by decide +kernel
theorem d_M_marginOf_3 : decode u_M_marginOf.2.1 3 = .ok (.istore 5, 2) := by decide +kernel
theorem d_M_marginOf_5 : decode u_M_marginOf.2.1 5 = .ok (.iload 5, 2) := by decide +kernel
theorem d_M_marginOf_7 : decode u_M_marginOf.2.1 7 = .ok (.aload_n 0, 1) := by decide +kernel
theorem d_M_marginOf_8 : decode u_M_marginOf.2.1 8 = .ok (.getfield 98, 3) := by decide +kernel
theorem d_M_marginOf_11 : decode u_M_marginOf.2.1 11 = .ok (.if_icmp .ge 57, 3) := by decide +kernel
theorem d_M_marginOf_14 : decode u_M_marginOf.2.1 14 = .ok (.iload 5, 2) := by decide +kernel
theorem d_M_marginOf_16 : decode u_M_marginOf.2.1 16 = .ok (.iload_n 2, 1) := by decide +kernel
theorem d_M_marginOf_17 : decode u_M_marginOf.2.1 17 = .ok (.if_icmp .eq 45, 3) := by decide +kernel
theorem d_M_marginOf_20 : decode u_M_marginOf.2.1 20 = .ok (.aload_n 0, 1) := by decide +kernel
theorem d_M_marginOf_21 : decode u_M_marginOf.2.1 21 = .ok (.iload_n 1, 1) := by decide +kernel
theorem d_M_marginOf_22 : decode u_M_marginOf.2.1 22 = .ok (.iload 5, 2) := by decide +kernel
theorem d_M_marginOf_24 : decode u_M_marginOf.2.1 24 = .ok (.invokevirtual 218, 3) := by decide +kernel
theorem d_M_marginOf_27 : decode u_M_marginOf.2.1 27 = .ok (.ifCond .eq 35, 3) := by decide +kernel
theorem d_M_marginOf_30 : decode u_M_marginOf.2.1 30 = .ok (.aload_n 0, 1) := by decide +kernel
theorem d_M_marginOf_31 : decode u_M_marginOf.2.1 31 = .ok (.iload_n 1, 1) := by decide +kernel
theorem d_M_marginOf_32 : decode u_M_marginOf.2.1 32 = .ok (.iload 5, 2) := by decide +kernel
theorem d_M_marginOf_34 : decode u_M_marginOf.2.1 34 = .ok (.invokevirtual 226, 3) := by decide +kernel
theorem d_M_marginOf_37 : decode u_M_marginOf.2.1 37 = .ok (.aload_n 0, 1) := by decide +kernel
theorem d_M_marginOf_38 : decode u_M_marginOf.2.1 38 = .ok (.getfield 200, 3) := by decide +kernel
theorem d_M_marginOf_41 : decode u_M_marginOf.2.1 41 = .ok (.aload_n 0, 1) := by decide +kernel
theorem d_M_marginOf_42 : decode u_M_marginOf.2.1 42 = .ok (.getfield 204, 3) := by decide +kernel
theorem d_M_marginOf_45 : decode u_M_marginOf.2.1 45 = .ok (.ldiv, 1) := by decide +kernel
theorem d_M_marginOf_46 : decode u_M_marginOf.2.1 46 = .ok (.lstore 6, 2) := by decide +kernel
theorem d_M_marginOf_48 : decode u_M_marginOf.2.1 48 = .ok (.lload 6, 2) := by decide +kernel
theorem d_M_marginOf_50 : decode u_M_marginOf.2.1 50 = .ok (.lload_n 3, 1) := by decide +kernel
theorem d_M_marginOf_51 : decode u_M_marginOf.2.1 51 = .ok (.lcmp, 1) := by decide +kernel
theorem d_M_marginOf_52 : decode u_M_marginOf.2.1 52 = .ok (.ifCond .le 8, 3) := by decide +kernel
theorem d_M_marginOf_55 : decode u_M_marginOf.2.1 55 = .ok (.lload 6, 2) := by decide +kernel
theorem d_M_marginOf_57 : decode u_M_marginOf.2.1 57 = .ok (.goto 4, 3) := by decide +kernel
theorem d_M_marginOf_60 : decode u_M_marginOf.2.1 60 = .ok (.lload_n 3, 1) := by decide +kernel
theorem d_M_marginOf_61 : decode u_M_marginOf.2.1 61 = .ok (.lstore_n 3, 1) := by decide +kernel
theorem d_M_marginOf_62 : decode u_M_marginOf.2.1 62 = .ok (.iinc 5 1, 3) := by decide +kernel
theorem d_M_marginOf_65 : decode u_M_marginOf.2.1 65 = .ok (.goto (-60), 3) := by decide +kernel
theorem d_M_marginOf_68 : decode u_M_marginOf.2.1 68 = .ok (.aload_n 0, 1) := by decide +kernel
theorem d_M_marginOf_69 : decode u_M_marginOf.2.1 69 = .ok (.iload_n 1, 1) := by decide +kernel
theorem d_M_marginOf_70 : decode u_M_marginOf.2.1 70 = .ok (.iload_n 2, 1) := by decide +kernel
theorem d_M_marginOf_71 : decode u_M_marginOf.2.1 71 = .ok (.invokevirtual 226, 3) := by decide +kernel
theorem d_M_marginOf_74 : decode u_M_marginOf.2.1 74 = .ok (.aload_n 0, 1) := by decide +kernel
theorem d_M_marginOf_75 : decode u_M_marginOf.2.1 75 = .ok (.getfield 200, 3) := by decide +kernel
theorem d_M_marginOf_78 : decode u_M_marginOf.2.1 78 = .ok (.aload_n 0, 1) := by decide +kernel
theorem d_M_marginOf_79 : decode u_M_marginOf.2.1 79 = .ok (.getfield 204, 3) := by decide +kernel
theorem d_M_marginOf_82 : decode u_M_marginOf.2.1 82 = .ok (.ldiv, 1) := by decide +kernel
theorem d_M_marginOf_83 : decode u_M_marginOf.2.1 83 = .ok (.lload_n 3, 1) := by decide +kernel
theorem d_M_marginOf_84 : decode u_M_marginOf.2.1 84 = .ok (.lsub, 1) := by decide +kernel
theorem d_M_marginOf_85 : decode u_M_marginOf.2.1 85 = .ok (.l2i, 1) := by decide +kernel
theorem d_M_marginOf_86 : decode u_M_marginOf.2.1 86 = .ok (.ireturn, 1) := by decide +kernel
theorem d_M_namedOf_0 : decode u_M_namedOf.2.1 0 = .ok (.aload_n 0, 1) := by decide +kernel
theorem d_M_namedOf_1 : decode u_M_namedOf.2.1 1 = .ok (.iload_n 2, 1) := by decide +kernel
theorem d_M_namedOf_2 : decode u_M_namedOf.2.1 2 = .ok (.invokevirtual 222, 3) := by decide +kernel
theorem d_M_namedOf_5 : decode u_M_namedOf.2.1 5 = .ok (.aload_n 0, 1) := by decide +kernel
theorem d_M_namedOf_6 : decode u_M_namedOf.2.1 6 = .ok (.iload_n 1, 1) := by decide +kernel
theorem d_M_namedOf_7 : decode u_M_namedOf.2.1 7 = .ok (.invokevirtual 238, 3) := by decide +kernel
theorem d_M_namedOf_10 : decode u_M_namedOf.2.1 10 = .ok (.istore 4, 2) := by decide +kernel
theorem d_M_namedOf_12 : decode u_M_namedOf.2.1 12 = .ok (.iload_n 3, 1) := by decide +kernel
theorem d_M_namedOf_13 : decode u_M_namedOf.2.1 13 = .ok (.ifCond .ne 8, 3) := by decide +kernel
theorem d_M_namedOf_16 : decode u_M_namedOf.2.1 16 = .ok (.iload 4, 2) := by decide +kernel
theorem d_M_namedOf_18 : decode u_M_namedOf.2.1 18 = .ok (.goto 21, 3) := by decide +kernel
theorem d_M_namedOf_21 : decode u_M_namedOf.2.1 21 = .ok (.iload 4, 2) := by decide +kernel
theorem d_M_namedOf_23 : decode u_M_namedOf.2.1 23 = .ok (.iconst (-1), 1) := by decide +kernel
theorem d_M_namedOf_24 : decode u_M_namedOf.2.1 24 = .ok (.if_icmp .ne 8, 3) := by decide +kernel
theorem d_M_namedOf_27 : decode u_M_namedOf.2.1 27 = .ok (.bipush (-3), 2) := by decide +kernel
theorem d_M_namedOf_29 : decode u_M_namedOf.2.1 29 = .ok (.goto 10, 3) := by decide +kernel
theorem d_M_namedOf_32 : decode u_M_namedOf.2.1 32 = .ok (.aload_n 0, 1) := by decide +kernel
theorem d_M_namedOf_33 : decode u_M_namedOf.2.1 33 = .ok (.iload_n 1, 1) := by decide +kernel
theorem d_M_namedOf_34 : decode u_M_namedOf.2.1 34 = .ok (.iload 4, 2) := by decide +kernel
theorem d_M_namedOf_36 : decode u_M_namedOf.2.1 36 = .ok (.invokevirtual 241, 3) := by decide +kernel
theorem d_M_namedOf_39 : decode u_M_namedOf.2.1 39 = .ok (.ireturn, 1) := by decide +kernel
theorem d_M_named_0 : decode u_M_named.2.1 0 = .ok (.aload_n 0, 1) := by decide +kernel
theorem d_M_named_1 : decode u_M_named.2.1 1 = .ok (.iload_n 1, 1) := by decide +kernel
theorem d_M_named_2 : decode u_M_named.2.1 2 = .ok (.invokevirtual 193, 3) := by decide +kernel
theorem d_M_named_5 : decode u_M_named.2.1 5 = .ok (.ifCond .eq 28, 3) := by decide +kernel
theorem d_M_named_8 : decode u_M_named.2.1 8 = .ok (.aload_n 0, 1) := by decide +kernel
theorem d_M_named_9 : decode u_M_named.2.1 9 = .ok (.iload_n 2, 1) := by decide +kernel
theorem d_M_named_10 : decode u_M_named.2.1 10 = .ok (.invokevirtual 163, 3) := by decide +kernel
theorem d_M_named_13 : decode u_M_named.2.1 13 = .ok (.ifCond .eq 20, 3) := by decide +kernel
theorem d_M_named_16 : decode u_M_named.2.1 16 = .ok (.iload_n 3, 1) := by decide +kernel
theorem d_M_named_17 : decode u_M_named.2.1 17 = .ok (.invokestatic 211, 3) := by decide +kernel
theorem d_M_named_20 : decode u_M_named.2.1 20 = .ok (.ifCond .eq 13, 3) := by decide +kernel
theorem d_M_named_23 : decode u_M_named.2.1 23 = .ok (.aload_n 0, 1) := by decide +kernel
theorem d_M_named_24 : decode u_M_named.2.1 24 = .ok (.iload_n 1, 1) := by decide +kernel
theorem d_M_named_25 : decode u_M_named.2.1 25 = .ok (.iload_n 2, 1) := by decide +kernel
theorem d_M_named_26 : decode u_M_named.2.1 26 = .ok (.iload_n 3, 1) := by decide +kernel
theorem d_M_named_27 : decode u_M_named.2.1 27 = .ok (.invokevirtual 244, 3) := by decide +kernel
theorem d_M_named_30 : decode u_M_named.2.1 30 = .ok (.goto 5, 3) := by decide +kernel
theorem d_M_named_33 : decode u_M_named.2.1 33 = .ok (.bipush (-2), 2) := by decide +kernel
theorem d_M_named_35 : decode u_M_named.2.1 35 = .ok (.ireturn, 1) := by decide +kernel
theorem d_M_much_0 : decode u_M_much.2.1 0 = .ok (.aload_n 0, 1) := by decide +kernel
theorem d_M_much_1 : decode u_M_much.2.1 1 = .ok (.iload_n 1, 1) := by decide +kernel
theorem d_M_much_2 : decode u_M_much.2.1 2 = .ok (.invokevirtual 193, 3) := by decide +kernel
theorem d_M_much_5 : decode u_M_much.2.1 5 = .ok (.ifCond .eq 32, 3) := by decide +kernel
theorem d_M_much_8 : decode u_M_much.2.1 8 = .ok (.aload_n 0, 1) := by decide +kernel
theorem d_M_much_9 : decode u_M_much.2.1 9 = .ok (.iload_n 2, 1) := by decide +kernel
theorem d_M_much_10 : decode u_M_much.2.1 10 = .ok (.invokevirtual 103, 3) := by decide +kernel
theorem d_M_much_13 : decode u_M_much.2.1 13 = .ok (.ifCond .eq 24, 3) := by decide +kernel
theorem d_M_much_16 : decode u_M_much.2.1 16 = .ok (.aload_n 0, 1) := by decide +kernel
theorem d_M_much_17 : decode u_M_much.2.1 17 = .ok (.iload_n 3, 1) := by decide +kernel
theorem d_M_much_18 : decode u_M_much.2.1 18 = .ok (.invokevirtual 114, 3) := by decide +kernel
theorem d_M_much_21 : decode u_M_much.2.1 21 = .ok (.ifCond .eq 16, 3) := by decide +kernel
theorem d_M_much_24 : decode u_M_much.2.1 24 = .ok (.iload 4, 2) := by decide +kernel
theorem d_M_much_26 : decode u_M_much.2.1 26 = .ok (.i2l, 1) := by decide +kernel
theorem d_M_much_27 : decode u_M_much.2.1 27 = .ok (.lconst 0, 1) := by decide +kernel
theorem d_M_much_28 : decode u_M_much.2.1 28 = .ok (.ldc2_w 83, 3) := by decide +kernel
theorem d_M_much_31 : decode u_M_much.2.1 31 = .ok (.invokestatic 69, 3) := by decide +kernel
theorem d_M_much_34 : decode u_M_much.2.1 34 = .ok (.ifCond .ne 6, 3) := by decide +kernel
theorem d_M_much_37 : decode u_M_much.2.1 37 = .ok (.bipush (-2), 2) := by decide +kernel
theorem d_M_much_39 : decode u_M_much.2.1 39 = .ok (.ireturn, 1) := by decide +kernel
theorem d_M_much_40 : decode u_M_much.2.1 40 = .ok (.iload 4, 2) := by decide +kernel
theorem d_M_much_42 : decode u_M_much.2.1 42 = .ok (.iconst 2, 1) := by decide +kernel
theorem d_M_much_43 : decode u_M_much.2.1 43 = .ok (.if_icmp .ge 15, 3) := by decide +kernel
theorem d_M_much_46 : decode u_M_much.2.1 46 = .ok (.aload_n 0, 1) := by decide +kernel
theorem d_M_much_47 : decode u_M_much.2.1 47 = .ok (.iload_n 1, 1) := by decide +kernel
theorem d_M_much_48 : decode u_M_much.2.1 48 = .ok (.iload_n 2, 1) := by decide +kernel
theorem d_M_much_49 : decode u_M_much.2.1 49 = .ok (.invokevirtual 218, 3) := by decide +kernel
theorem d_M_much_52 : decode u_M_much.2.1 52 = .ok (.ifCond .ne 6, 3) := by decide +kernel
theorem d_M_much_55 : decode u_M_much.2.1 55 = .ok (.bipush (-3), 2) := by decide +kernel
theorem d_M_much_57 : decode u_M_much.2.1 57 = .ok (.ireturn, 1) := by decide +kernel
theorem d_M_much_58 : decode u_M_much.2.1 58 = .ok (.iconst (-1), 1) := by decide +kernel
theorem d_M_much_59 : decode u_M_much.2.1 59 = .ok (.istore 5, 2) := by decide +kernel
theorem d_M_much_61 : decode u_M_much.2.1 61 = .ok (.iconst 0, 1) := by decide +kernel
theorem d_M_much_62 : decode u_M_much.2.1 62 = .ok (.istore 6, 2) := by decide +kernel
theorem d_M_much_64 : decode u_M_much.2.1 64 = .ok (.iconst 0, 1) := by decide +kernel
theorem d_M_much_65 : decode u_M_much.2.1 65 = .ok (.istore 7, 2) := by decide +kernel
theorem d_M_much_67 : decode u_M_much.2.1 67 = .ok (.iload 7, 2) := by decide +kernel
theorem d_M_much_69 : decode u_M_much.2.1 69 = .ok (.bipush 60, 2) := by decide +kernel
theorem d_M_much_71 : decode u_M_much.2.1 71 = .ok (.if_icmp .gt 86, 3) := by decide +kernel
theorem d_M_much_74 : decode u_M_much.2.1 74 = .ok (.aload_n 0, 1) := by decide +kernel
theorem d_M_much_75 : decode u_M_much.2.1 75 = .ok (.iload_n 2, 1) := by decide +kernel
theorem d_M_much_76 : decode u_M_much.2.1 76 = .ok (.iload_n 3, 1) := by decide +kernel
theorem d_M_much_77 : decode u_M_much.2.1 77 = .ok (.iload 7, 2) := by decide +kernel
theorem d_M_much_79 : decode u_M_much.2.1 79 = .ok (.sipush 255, 3) := by decide +kernel
theorem d_M_much_82 : decode u_M_much.2.1 82 = .ok (.invokevirtual 247, 3) := by decide +kernel
theorem d_M_much_85 : decode u_M_much.2.1 85 = .ok (.iload 4, 2) := by decide +kernel
theorem d_M_much_87 : decode u_M_much.2.1 87 = .ok (.iconst 2, 1) := by decide +kernel
theorem d_M_much_88 : decode u_M_much.2.1 88 = .ok (.if_icmp .ne 13, 3) := by decide +kernel
theorem d_M_much_91 : decode u_M_much.2.1 91 = .ok (.aload_n 0, 1) := by decide +kernel
theorem d_M_much_92 : decode u_M_much.2.1 92 = .ok (.getfield 196, 3) := by decide +kernel
theorem d_M_much_95 : decode u_M_much.2.1 95 = .ok (.ifCond .eq 6, 3) := by decide +kernel
theorem d_M_much_98 : decode u_M_much.2.1 98 = .ok (.iload 7, 2) := by decide +kernel
theorem d_M_much_100 : decode u_M_much.2.1 100 = .ok (.ireturn, 1) := by decide +kernel
theorem d_M_much_101 : decode u_M_much.2.1 101 = .ok (.iload 4, 2) := by decide +kernel
theorem d_M_much_103 : decode u_M_much.2.1 103 = .ok (.iconst 2, 1) := by decide +kernel
theorem d_M_much_104 : decode u_M_much.2.1 104 = .ok (.if_icmp .ge 47, 3) := by decide +kernel
theorem d_M_much_107 : decode u_M_much.2.1 107 = .ok (.aload_n 0, 1) := by decide +kernel
theorem d_M_much_108 : decode u_M_much.2.1 108 = .ok (.iload_n 1, 1) := by decide +kernel
theorem d_M_much_109 : decode u_M_much.2.1 109 = .ok (.invokevirtual 238, 3) := by decide +kernel
theorem d_M_much_112 : decode u_M_much.2.1 112 = .ok (.iload_n 2, 1) := by decide +kernel
theorem d_M_much_113 : decode u_M_much.2.1 113 = .ok (.if_icmp .ne 38, 3) := by decide +kernel
theorem d_M_much_116 : decode u_M_much.2.1 116 = .ok (.aload_n 0, 1) := by decide +kernel
theorem d_M_much_117 : decode u_M_much.2.1 117 = .ok (.iload_n 1, 1) := by decide +kernel
theorem d_M_much_118 : decode u_M_much.2.1 118 = .ok (.iload_n 2, 1) := by decide +kernel
theorem d_M_much_119 : decode u_M_much.2.1 119 = .ok (.invokevirtual 241, 3) := by decide +kernel
theorem d_M_much_122 : decode u_M_much.2.1 122 = .ok (.istore 8, 2) := by decide +kernel
theorem d_M_much_124 : decode u_M_much.2.1 124 = .ok (.iload 5, 2) := by decide +kernel
theorem d_M_much_126 : decode u_M_much.2.1 126 = .ok (.iconst (-1), 1) := by decide +kernel
theorem d_M_much_127 : decode u_M_much.2.1 127 = .ok (.if_icmp .eq 16, 3) := by decide +kernel
theorem d_M_much_130 : decode u_M_much.2.1 130 = .ok (.iload 4, 2) := by decide +kernel
theorem d_M_much_132 : decode u_M_much.2.1 132 = .ok (.iconst 1, 1) := by decide +kernel
theorem d_M_much_133 : decode u_M_much.2.1 133 = .ok (.if_icmp .ne 18, 3) := by decide +kernel
theorem d_M_much_136 : decode u_M_much.2.1 136 = .ok (.iload 8, 2) := by decide +kernel
theorem d_M_much_138 : decode u_M_much.2.1 138 = .ok (.iload 6, 2) := by decide +kernel
theorem d_M_much_140 : decode u_M_much.2.1 140 = .ok (.if_icmp .le 11, 3) := by decide +kernel
theorem d_M_much_143 : decode u_M_much.2.1 143 = .ok (.iload 7, 2) := by decide +kernel
theorem d_M_much_145 : decode u_M_much.2.1 145 = .ok (.istore 5, 2) := by decide +kernel
theorem d_M_much_147 : decode u_M_much.2.1 147 = .ok (.iload 8, 2) := by decide +kernel
theorem d_M_much_149 : decode u_M_much.2.1 149 = .ok (.istore 6, 2) := by decide +kernel
theorem d_M_much_151 : decode u_M_much.2.1 151 = .ok (.iinc 7 1, 3) := by decide +kernel
theorem d_M_much_154 : decode u_M_much.2.1 154 = .ok (.goto (-87), 3) := by decide +kernel
theorem d_M_much_157 : decode u_M_much.2.1 157 = .ok (.iload 5, 2) := by decide +kernel
theorem d_M_much_159 : decode u_M_much.2.1 159 = .ok (.ireturn, 1) := by decide +kernel
theorem d_M_ones_0 : decode u_M_ones.2.1 0 = .ok (.iconst 0, 1) := by decide +kernel
theorem d_M_ones_1 : decode u_M_ones.2.1 1 = .ok (.istore_n 1, 1) := by decide +kernel
theorem d_M_ones_2 : decode u_M_ones.2.1 2 = .ok (.iload_n 0, 1) := by decide +kernel
theorem d_M_ones_3 : decode u_M_ones.2.1 3 = .ok (.istore_n 2, 1) := by decide +kernel
theorem d_M_ones_4 : decode u_M_ones.2.1 4 = .ok (.iload_n 2, 1) := by decide +kernel
theorem d_M_ones_5 : decode u_M_ones.2.1 5 = .ok (.ifCond .eq 15, 3) := by decide +kernel
theorem d_M_ones_8 : decode u_M_ones.2.1 8 = .ok (.iinc 1 1, 3) := by decide +kernel
theorem d_M_ones_11 : decode u_M_ones.2.1 11 = .ok (.iload_n 2, 1) := by decide +kernel
theorem d_M_ones_12 : decode u_M_ones.2.1 12 = .ok (.iload_n 2, 1) := by decide +kernel
theorem d_M_ones_13 : decode u_M_ones.2.1 13 = .ok (.iconst 1, 1) := by decide +kernel
theorem d_M_ones_14 : decode u_M_ones.2.1 14 = .ok (.isub, 1) := by decide +kernel
theorem d_M_ones_15 : decode u_M_ones.2.1 15 = .ok (.iand, 1) := by decide +kernel
theorem d_M_ones_16 : decode u_M_ones.2.1 16 = .ok (.istore_n 2, 1) := by decide +kernel
theorem d_M_ones_17 : decode u_M_ones.2.1 17 = .ok (.goto (-13), 3) := by decide +kernel
theorem d_M_ones_20 : decode u_M_ones.2.1 20 = .ok (.iload_n 1, 1) := by decide +kernel
theorem d_M_ones_21 : decode u_M_ones.2.1 21 = .ok (.ireturn, 1) := by decide +kernel
theorem d_M_isEnough_0 : decode u_M_isEnough.2.1 0 = .ok (.aload_n 0, 1) := by decide +kernel
theorem d_M_isEnough_1 : decode u_M_isEnough.2.1 1 = .ok (.iload_n 2, 1) := by decide +kernel
theorem d_M_isEnough_2 : decode u_M_isEnough.2.1 2 = .ok (.iload_n 3, 1) := by decide +kernel
theorem d_M_isEnough_3 : decode u_M_isEnough.2.1 3 = .ok (.iload 4, 2) := by decide +kernel
theorem d_M_isEnough_5 : decode u_M_isEnough.2.1 5 = .ok (.iload 5, 2) := by decide +kernel
theorem d_M_isEnough_7 : decode u_M_isEnough.2.1 7 = .ok (.invokevirtual 247, 3) := by decide +kernel
theorem d_M_isEnough_10 : decode u_M_isEnough.2.1 10 = .ok (.aload_n 0, 1) := by decide +kernel
theorem d_M_isEnough_11 : decode u_M_isEnough.2.1 11 = .ok (.iload_n 1, 1) := by decide +kernel
theorem d_M_isEnough_12 : decode u_M_isEnough.2.1 12 = .ok (.invokevirtual 238, 3) := by decide +kernel
theorem d_M_isEnough_15 : decode u_M_isEnough.2.1 15 = .ok (.iload_n 2, 1) := by decide +kernel
theorem d_M_isEnough_16 : decode u_M_isEnough.2.1 16 = .ok (.if_icmp .ne 7, 3) := by decide +kernel
theorem d_M_isEnough_19 : decode u_M_isEnough.2.1 19 = .ok (.iconst 1, 1) := by decide +kernel
theorem d_M_isEnough_20 : decode u_M_isEnough.2.1 20 = .ok (.goto 4, 3) := by decide +kernel
theorem d_M_isEnough_23 : decode u_M_isEnough.2.1 23 = .ok (.iconst 0, 1) := by decide +kernel
theorem d_M_isEnough_24 : decode u_M_isEnough.2.1 24 = .ok (.ireturn, 1) := by decide +kernel
theorem d_M_isAsked_0 : decode u_M_isAsked.2.1 0 = .ok (.aload_n 0, 1) := by decide +kernel
theorem d_M_isAsked_1 : decode u_M_isAsked.2.1 1 = .ok (.iload_n 1, 1) := by decide +kernel
theorem d_M_isAsked_2 : decode u_M_isAsked.2.1 2 = .ok (.invokevirtual 193, 3) := by decide +kernel
theorem d_M_isAsked_5 : decode u_M_isAsked.2.1 5 = .ok (.ifCond .eq 36, 3) := by decide +kernel
theorem d_M_isAsked_8 : decode u_M_isAsked.2.1 8 = .ok (.aload_n 0, 1) := by decide +kernel
theorem d_M_isAsked_9 : decode u_M_isAsked.2.1 9 = .ok (.iload_n 2, 1) := by decide +kernel
theorem d_M_isAsked_10 : decode u_M_isAsked.2.1 10 = .ok (.invokevirtual 103, 3) := by decide +kernel
theorem d_M_isAsked_13 : decode u_M_isAsked.2.1 13 = .ok (.ifCond .eq 28, 3) := by decide +kernel
theorem d_M_isAsked_16 : decode u_M_isAsked.2.1 16 = .ok (.aload_n 0, 1) := by decide +kernel
theorem d_M_isAsked_17 : decode u_M_isAsked.2.1 17 = .ok (.iload_n 3, 1) := by decide +kernel
theorem d_M_isAsked_18 : decode u_M_isAsked.2.1 18 = .ok (.invokevirtual 114, 3) := by decide +kernel
theorem d_M_isAsked_21 : decode u_M_isAsked.2.1 21 = .ok (.ifCond .eq 20, 3) := by decide +kernel
theorem d_M_isAsked_24 : decode u_M_isAsked.2.1 24 = .ok (.iload 4, 2) := by decide +kernel
theorem d_M_isAsked_26 : decode u_M_isAsked.2.1 26 = .ok (.i2l, 1) := by decide +kernel
theorem d_M_isAsked_27 : decode u_M_isAsked.2.1 27 = .ok (.lconst 0, 1) := by decide +kernel
theorem d_M_isAsked_28 : decode u_M_isAsked.2.1 28 = .ok (.ldc2_w 155, 3) := by decide +kernel
theorem d_M_isAsked_31 : decode u_M_isAsked.2.1 31 = .ok (.invokestatic 69, 3) := by decide +kernel
theorem d_M_isAsked_34 : decode u_M_isAsked.2.1 34 = .ok (.ifCond .eq 7, 3) := by decide +kernel
theorem d_M_isAsked_37 : decode u_M_isAsked.2.1 37 = .ok (.iconst 1, 1) := by decide +kernel
theorem d_M_isAsked_38 : decode u_M_isAsked.2.1 38 = .ok (.goto 4, 3) := by decide +kernel
theorem d_M_isAsked_41 : decode u_M_isAsked.2.1 41 = .ok (.iconst 0, 1) := by decide +kernel
theorem d_M_isAsked_42 : decode u_M_isAsked.2.1 42 = .ok (.ireturn, 1) := by decide +kernel
theorem d_M_few_0 : decode u_M_few.2.1 0 = .ok (.aload_n 0, 1) := by decide +kernel
theorem d_M_few_1 : decode u_M_few.2.1 1 = .ok (.iload_n 1, 1) := by decide +kernel
theorem d_M_few_2 : decode u_M_few.2.1 2 = .ok (.iload_n 2, 1) := by decide +kernel
theorem d_M_few_3 : decode u_M_few.2.1 3 = .ok (.iload_n 3, 1) := by decide +kernel
theorem d_M_few_4 : decode u_M_few.2.1 4 = .ok (.iload 4, 2) := by decide +kernel
theorem d_M_few_6 : decode u_M_few.2.1 6 = .ok (.invokevirtual 250, 3) := by decide +kernel
theorem d_M_few_9 : decode u_M_few.2.1 9 = .ok (.ifCond .ne 6, 3) := by decide +kernel
theorem d_M_few_12 : decode u_M_few.2.1 12 = .ok (.bipush (-2), 2) := by decide +kernel
theorem d_M_few_14 : decode u_M_few.2.1 14 = .ok (.ireturn, 1) := by decide +kernel
theorem d_M_few_15 : decode u_M_few.2.1 15 = .ok (.aload_n 0, 1) := by decide +kernel
theorem d_M_few_16 : decode u_M_few.2.1 16 = .ok (.iload_n 1, 1) := by decide +kernel
theorem d_M_few_17 : decode u_M_few.2.1 17 = .ok (.iload_n 2, 1) := by decide +kernel
theorem d_M_few_18 : decode u_M_few.2.1 18 = .ok (.invokevirtual 218, 3) := by decide +kernel
theorem d_M_few_21 : decode u_M_few.2.1 21 = .ok (.ifCond .ne 6, 3) := by decide +kernel
theorem d_M_few_24 : decode u_M_few.2.1 24 = .ok (.bipush (-3), 2) := by decide +kernel
theorem d_M_few_26 : decode u_M_few.2.1 26 = .ok (.ireturn, 1) := by decide +kernel
theorem d_M_few_27 : decode u_M_few.2.1 27 = .ok (.iconst (-1), 1) := by decide +kernel
theorem d_M_few_28 : decode u_M_few.2.1 28 = .ok (.istore 5, 2) := by decide +kernel
theorem d_M_few_30 : decode u_M_few.2.1 30 = .ok (.iconst 1, 1) := by decide +kernel
theorem d_M_few_31 : decode u_M_few.2.1 31 = .ok (.istore 6, 2) := by decide +kernel
theorem d_M_few_33 : decode u_M_few.2.1 33 = .ok (.iload 6, 2) := by decide +kernel
theorem d_M_few_35 : decode u_M_few.2.1 35 = .ok (.sipush 256, 3) := by decide +kernel
theorem d_M_few_38 : decode u_M_few.2.1 38 = .ok (.if_icmp .ge 63, 3) := by decide +kernel
theorem d_M_few_41 : decode u_M_few.2.1 41 = .ok (.iload 5, 2) := by decide +kernel
theorem d_M_few_43 : decode u_M_few.2.1 43 = .ok (.iconst (-1), 1) := by decide +kernel
theorem d_M_few_44 : decode u_M_few.2.1 44 = .ok (.if_icmp .eq 16, 3) := by decide +kernel
theorem d_M_few_47 : decode u_M_few.2.1 47 = .ok (.iload 6, 2) := by decide +kernel
theorem d_M_few_49 : decode u_M_few.2.1 49 = .ok (.invokestatic 254, 3) := by decide +kernel
theorem d_M_few_52 : decode u_M_few.2.1 52 = .ok (.iload 5, 2) := by decide +kernel
theorem d_M_few_54 : decode u_M_few.2.1 54 = .ok (.invokestatic 254, 3) := by decide +kernel
theorem d_M_few_57 : decode u_M_few.2.1 57 = .ok (.if_icmp .ge 7, 3) := by decide +kernel
theorem d_M_few_60 : decode u_M_few.2.1 60 = .ok (.iconst 1, 1) := by decide +kernel
theorem d_M_few_61 : decode u_M_few.2.1 61 = .ok (.goto 4, 3) := by decide +kernel
theorem d_M_few_64 : decode u_M_few.2.1 64 = .ok (.iconst 0, 1) := by decide +kernel
theorem d_M_few_65 : decode u_M_few.2.1 65 = .ok (.istore 7, 2) := by decide +kernel
theorem d_M_few_67 : decode u_M_few.2.1 67 = .ok (.iload 7, 2) := by decide +kernel
theorem d_M_few_69 : decode u_M_few.2.1 69 = .ok (.ifCond .eq 22, 3) := by decide +kernel
theorem d_M_few_72 : decode u_M_few.2.1 72 = .ok (.aload_n 0, 1) := by decide +kernel
theorem d_M_few_73 : decode u_M_few.2.1 73 = .ok (.iload_n 1, 1) := by decide +kernel
theorem d_M_few_74 : decode u_M_few.2.1 74 = .ok (.iload_n 2, 1) := by decide +kernel
theorem d_M_few_75 : decode u_M_few.2.1 75 = .ok (.iload_n 3, 1) := by decide +kernel
theorem d_M_few_76 : decode u_M_few.2.1 76 = .ok (.iload 4, 2) := by decide +kernel
theorem d_M_few_78 : decode u_M_few.2.1 78 = .ok (.iload 6, 2) := by decide +kernel
theorem d_M_few_80 : decode u_M_few.2.1 80 = .ok (.invokevirtual 257, 3) := by decide +kernel
theorem d_M_few_83 : decode u_M_few.2.1 83 = .ok (.ifCond .eq 8, 3) := by decide +kernel
theorem d_M_few_86 : decode u_M_few.2.1 86 = .ok (.iload 6, 2) := by decide +kernel
theorem d_M_few_88 : decode u_M_few.2.1 88 = .ok (.goto 5, 3) := by decide +kernel
theorem d_M_few_91 : decode u_M_few.2.1 91 = .ok (.iload 5, 2) := by decide +kernel
theorem d_M_few_93 : decode u_M_few.2.1 93 = .ok (.istore 5, 2) := by decide +kernel
theorem d_M_few_95 : decode u_M_few.2.1 95 = .ok (.iinc 6 1, 3) := by decide +kernel
theorem d_M_few_98 : decode u_M_few.2.1 98 = .ok (.goto (-65), 3) := by decide +kernel
theorem d_M_few_101 : decode u_M_few.2.1 101 = .ok (.iload 5, 2) := by decide +kernel
theorem d_M_few_103 : decode u_M_few.2.1 103 = .ok (.ireturn, 1) := by decide +kernel
theorem d_M_stands_0 : decode u_M_stands.2.1 0 = .ok (.aload_n 0, 1) := by decide +kernel
theorem d_M_stands_1 : decode u_M_stands.2.1 1 = .ok (.iload_n 1, 1) := by decide +kernel
theorem d_M_stands_2 : decode u_M_stands.2.1 2 = .ok (.iload_n 2, 1) := by decide +kernel
theorem d_M_stands_3 : decode u_M_stands.2.1 3 = .ok (.iload_n 3, 1) := by decide +kernel
theorem d_M_stands_4 : decode u_M_stands.2.1 4 = .ok (.iload 4, 2) := by decide +kernel
theorem d_M_stands_6 : decode u_M_stands.2.1 6 = .ok (.invokevirtual 250, 3) := by decide +kernel
theorem d_M_stands_9 : decode u_M_stands.2.1 9 = .ok (.ifCond .ne 6, 3) := by decide +kernel
theorem d_M_stands_12 : decode u_M_stands.2.1 12 = .ok (.bipush (-2), 2) := by decide +kernel
theorem d_M_stands_14 : decode u_M_stands.2.1 14 = .ok (.ireturn, 1) := by decide +kernel
theorem d_M_stands_15 : decode u_M_stands.2.1 15 = .ok (.aload_n 0, 1) := by decide +kernel
theorem d_M_stands_16 : decode u_M_stands.2.1 16 = .ok (.iload_n 1, 1) := by decide +kernel
theorem d_M_stands_17 : decode u_M_stands.2.1 17 = .ok (.iload_n 2, 1) := by decide +kernel
theorem d_M_stands_18 : decode u_M_stands.2.1 18 = .ok (.invokevirtual 218, 3) := by decide +kernel
theorem d_M_stands_21 : decode u_M_stands.2.1 21 = .ok (.ifCond .ne 6, 3) := by decide +kernel
theorem d_M_stands_24 : decode u_M_stands.2.1 24 = .ok (.bipush (-3), 2) := by decide +kernel
theorem d_M_stands_26 : decode u_M_stands.2.1 26 = .ok (.ireturn, 1) := by decide +kernel
theorem d_M_stands_27 : decode u_M_stands.2.1 27 = .ok (.iconst 0, 1) := by decide +kernel
theorem d_M_stands_28 : decode u_M_stands.2.1 28 = .ok (.istore 5, 2) := by decide +kernel
theorem d_M_stands_30 : decode u_M_stands.2.1 30 = .ok (.iconst 0, 1) := by decide +kernel
theorem d_M_stands_31 : decode u_M_stands.2.1 31 = .ok (.istore 6, 2) := by decide +kernel
theorem d_M_stands_33 : decode u_M_stands.2.1 33 = .ok (.iload 6, 2) := by decide +kernel
theorem d_M_stands_35 : decode u_M_stands.2.1 35 = .ok (.bipush 8, 2) := by decide +kernel
theorem d_M_stands_37 : decode u_M_stands.2.1 37 = .ok (.if_icmp .ge 38, 3) := by decide +kernel
theorem d_M_stands_40 : decode u_M_stands.2.1 40 = .ok (.iload 5, 2) := by decide +kernel
theorem d_M_stands_42 : decode u_M_stands.2.1 42 = .ok (.aload_n 0, 1) := by decide +kernel
theorem d_M_stands_43 : decode u_M_stands.2.1 43 = .ok (.iload_n 1, 1) := by decide +kernel
theorem d_M_stands_44 : decode u_M_stands.2.1 44 = .ok (.iload_n 2, 1) := by decide +kernel
theorem d_M_stands_45 : decode u_M_stands.2.1 45 = .ok (.iload_n 3, 1) := by decide +kernel
theorem d_M_stands_46 : decode u_M_stands.2.1 46 = .ok (.iload 4, 2) := by decide +kernel
theorem d_M_stands_48 : decode u_M_stands.2.1 48 = .ok (.iconst 1, 1) := by decide +kernel
theorem d_M_stands_49 : decode u_M_stands.2.1 49 = .ok (.iload 6, 2) := by decide +kernel
theorem d_M_stands_51 : decode u_M_stands.2.1 51 = .ok (.ishl, 1) := by decide +kernel
theorem d_M_stands_52 : decode u_M_stands.2.1 52 = .ok (.invokevirtual 257, 3) := by decide +kernel
theorem d_M_stands_55 : decode u_M_stands.2.1 55 = .ok (.ifCond .eq 10, 3) := by decide +kernel
theorem d_M_stands_58 : decode u_M_stands.2.1 58 = .ok (.iconst 1, 1) := by decide +kernel
theorem d_M_stands_59 : decode u_M_stands.2.1 59 = .ok (.iload 6, 2) := by decide +kernel
theorem d_M_stands_61 : decode u_M_stands.2.1 61 = .ok (.ishl, 1) := by decide +kernel
theorem d_M_stands_62 : decode u_M_stands.2.1 62 = .ok (.goto 4, 3) := by decide +kernel
theorem d_M_stands_65 : decode u_M_stands.2.1 65 = .ok (.iconst 0, 1) := by decide +kernel
theorem d_M_stands_66 : decode u_M_stands.2.1 66 = .ok (.ior, 1) := by decide +kernel
theorem d_M_stands_67 : decode u_M_stands.2.1 67 = .ok (.istore 5, 2) := by decide +kernel
theorem d_M_stands_69 : decode u_M_stands.2.1 69 = .ok (.iinc 6 1, 3) := by decide +kernel
theorem d_M_stands_72 : decode u_M_stands.2.1 72 = .ok (.goto (-39), 3) := by decide +kernel
theorem d_M_stands_75 : decode u_M_stands.2.1 75 = .ok (.iload 5, 2) := by decide +kernel
theorem d_M_stands_77 : decode u_M_stands.2.1 77 = .ok (.ireturn, 1) := by decide +kernel
theorem d_M_grows_0 : decode u_M_grows.2.1 0 = .ok (.aload_n 0, 1) := by decide +kernel
theorem d_M_grows_1 : decode u_M_grows.2.1 1 = .ok (.iload_n 1, 1) := by decide +kernel
theorem d_M_grows_2 : decode u_M_grows.2.1 2 = .ok (.invokevirtual 103, 3) := by decide +kernel
theorem d_M_grows_5 : decode u_M_grows.2.1 5 = .ok (.ifCond .eq 17, 3) := by decide +kernel
theorem d_M_grows_8 : decode u_M_grows.2.1 8 = .ok (.iload_n 2, 1) := by decide +kernel
theorem d_M_grows_9 : decode u_M_grows.2.1 9 = .ok (.invokestatic 106, 3) := by decide +kernel
theorem d_M_grows_12 : decode u_M_grows.2.1 12 = .ok (.ifCond .eq 10, 3) := by decide +kernel
theorem d_M_grows_15 : decode u_M_grows.2.1 15 = .ok (.iload_n 3, 1) := by decide +kernel
theorem d_M_grows_16 : decode u_M_grows.2.1 16 = .ok (.invokestatic 211, 3) := by decide +kernel
theorem d_M_grows_19 : decode u_M_grows.2.1 19 = .ok (.ifCond .ne 9, 3) := by decide +kernel
theorem d_M_grows_22 : decode u_M_grows.2.1 22 = .ok (.bipush (-2), 2) := by decide +kernel
theorem d_M_grows_24 : decode u_M_grows.2.1 24 = .ok (.invokestatic 214, 3) := by decide +kernel
theorem d_M_grows_27 : decode u_M_grows.2.1 27 = .ok (.lreturn, 1) := by decide +kernel
theorem d_M_grows_28 : decode u_M_grows.2.1 28 = .ok (.lconst 0, 1) := by decide +kernel
theorem d_M_grows_29 : decode u_M_grows.2.1 29 = .ok (.lstore 4, 2) := by decide +kernel
theorem d_M_grows_31 : decode u_M_grows.2.1 31 = .ok (.lconst 0, 1) := by decide +kernel
theorem d_M_grows_32 : decode u_M_grows.2.1 32 = .ok (.lstore 6, 2) := by decide +kernel
theorem d_M_grows_34 : decode u_M_grows.2.1 34 = .ok (.lconst 0, 1) := by decide +kernel
theorem d_M_grows_35 : decode u_M_grows.2.1 35 = .ok (.lstore 8, 2) := by decide +kernel
theorem d_M_grows_37 : decode u_M_grows.2.1 37 = .ok (.lconst 0, 1) := by decide +kernel
theorem d_M_grows_38 : decode u_M_grows.2.1 38 = .ok (.lstore 10, 2) := by decide +kernel
theorem d_M_grows_40 : decode u_M_grows.2.1 40 = .ok (.lconst 0, 1) := by decide +kernel
theorem d_M_grows_41 : decode u_M_grows.2.1 41 = .ok (.lstore 12, 2) := by decide +kernel
theorem d_M_grows_43 : decode u_M_grows.2.1 43 = .ok (.iconst 0, 1) := by decide +kernel
theorem d_M_grows_44 : decode u_M_grows.2.1 44 = .ok (.istore 14, 2) := by decide +kernel
theorem d_M_grows_46 : decode u_M_grows.2.1 46 = .ok (.iload 14, 2) := by decide +kernel
theorem d_M_grows_48 : decode u_M_grows.2.1 48 = .ok (.aload_n 0, 1) := by decide +kernel
theorem d_M_grows_49 : decode u_M_grows.2.1 49 = .ok (.getfield 157, 3) := by decide +kernel
theorem d_M_grows_52 : decode u_M_grows.2.1 52 = .ok (.if_icmp .ge 94, 3) := by decide +kernel
theorem d_M_grows_55 : decode u_M_grows.2.1 55 = .ok (.aload_n 0, 1) := by decide +kernel
theorem d_M_grows_56 : decode u_M_grows.2.1 56 = .ok (.getfield 49, 3) := by decide +kernel
theorem d_M_grows_59 : decode u_M_grows.2.1 59 = .ok (.bipush 8, 2) := by decide +kernel
theorem d_M_grows_61 : decode u_M_grows.2.1 61 = .ok (.iload 14, 2) := by decide +kernel
theorem d_M_grows_63 : decode u_M_grows.2.1 63 = .ok (.imul, 1) := by decide +kernel
theorem d_M_grows_64 : decode u_M_grows.2.1 64 = .ok (.iload_n 2, 1) := by decide +kernel
theorem d_M_grows_65 : decode u_M_grows.2.1 65 = .ok (.iadd, 1) := by decide +kernel
theorem d_M_grows_66 : decode u_M_grows.2.1 66 = .ok (.iaload, 1) := by decide +kernel
theorem d_M_grows_67 : decode u_M_grows.2.1 67 = .ok (.istore 15, 2) := by decide +kernel
theorem d_M_grows_69 : decode u_M_grows.2.1 69 = .ok (.aload_n 0, 1) := by decide +kernel
theorem d_M_grows_70 : decode u_M_grows.2.1 70 = .ok (.getfield 37, 3) := by decide +kernel
theorem d_M_grows_73 : decode u_M_grows.2.1 73 = .ok (.iload 14, 2) := by decide +kernel
theorem d_M_grows_75 : decode u_M_grows.2.1 75 = .ok (.iaload, 1) := by decide +kernel
theorem d_M_grows_76 : decode u_M_grows.2.1 76 = .ok (.iload_n 1, 1) := by decide +kernel
theorem d_M_grows_77 : decode u_M_grows.2.1 77 = .ok (.if_icmp .ne 63, 3) := by decide +kernel
theorem d_M_grows_80 : decode u_M_grows.2.1 80 = .ok (.iload 15, 2) := by decide +kernel
theorem d_M_grows_82 : decode u_M_grows.2.1 82 = .ok (.sipush (-9999), 3) := by decide +kernel
theorem d_M_grows_85 : decode u_M_grows.2.1 85 = .ok (.if_icmp .eq 55, 3) := by decide +kernel
theorem d_M_grows_88 : decode u_M_grows.2.1 88 = .ok (.aload_n 0, 1) := by decide +kernel
theorem d_M_grows_89 : decode u_M_grows.2.1 89 = .ok (.getfield 40, 3) := by decide +kernel
theorem d_M_grows_92 : decode u_M_grows.2.1 92 = .ok (.iload 14, 2) := by decide +kernel
theorem d_M_grows_94 : decode u_M_grows.2.1 94 = .ok (.iaload, 1) := by decide +kernel
theorem d_M_grows_95 : decode u_M_grows.2.1 95 = .ok (.i2l, 1) := by decide +kernel
theorem d_M_grows_96 : decode u_M_grows.2.1 96 = .ok (.lstore 16, 2) := by decide +kernel
theorem d_M_grows_98 : decode u_M_grows.2.1 98 = .ok (.lload 4, 2) := by decide +kernel
theorem d_M_grows_100 : decode u_M_grows.2.1 100 = .ok (.lconst 1, 1) := by decide +kernel
theorem d_M_grows_101 : decode u_M_grows.2.1 101 = .ok (.ladd, 1) := by decide +kernel
theorem d_M_grows_102 : decode u_M_grows.2.1 102 = .ok (.lstore 4, 2) := by decide +kernel
theorem d_M_grows_104 : decode u_M_grows.2.1 104 = .ok (.lload 6, 2) := by decide +kernel
theorem d_M_grows_106 : decode u_M_grows.2.1 106 = .ok (.lload 16, 2) := by decide +kernel
theorem d_M_grows_108 : decode u_M_grows.2.1 108 = .ok (.ladd, 1) := by decide +kernel
theorem d_M_grows_109 : decode u_M_grows.2.1 109 = .ok (.lstore 6, 2) := by decide +kernel
theorem d_M_grows_111 : decode u_M_grows.2.1 111 = .ok (.lload 8, 2) := by decide +kernel
theorem d_M_grows_113 : decode u_M_grows.2.1 113 = .ok (.iload 15, 2) := by decide +kernel
theorem d_M_grows_115 : decode u_M_grows.2.1 115 = .ok (.i2l, 1) := by decide +kernel
theorem d_M_grows_116 : decode u_M_grows.2.1 116 = .ok (.ladd, 1) := by decide +kernel
theorem d_M_grows_117 : decode u_M_grows.2.1 117 = .ok (.lstore 8, 2) := by decide +kernel
theorem d_M_grows_119 : decode u_M_grows.2.1 119 = .ok (.lload 10, 2) := by decide +kernel
theorem d_M_grows_121 : decode u_M_grows.2.1 121 = .ok (.lload 16, 2) := by decide +kernel
theorem d_M_grows_123 : decode u_M_grows.2.1 123 = .ok (.iload 15, 2) := by decide +kernel
theorem d_M_grows_125 : decode u_M_grows.2.1 125 = .ok (.i2l, 1) := by decide +kernel
theorem d_M_grows_126 : decode u_M_grows.2.1 126 = .ok (.lmul, 1) := by decide +kernel
theorem d_M_grows_127 : decode u_M_grows.2.1 127 = .ok (.ladd, 1) := by decide +kernel
theorem d_M_grows_128 : decode u_M_grows.2.1 128 = .ok (.lstore 10, 2) := by decide +kernel
theorem d_M_grows_130 : decode u_M_grows.2.1 130 = .ok (.lload 12, 2) := by decide +kernel
theorem d_M_grows_132 : decode u_M_grows.2.1 132 = .ok (.lload 16, 2) := by decide +kernel
theorem d_M_grows_134 : decode u_M_grows.2.1 134 = .ok (.lload 16, 2) := by decide +kernel
theorem d_M_grows_136 : decode u_M_grows.2.1 136 = .ok (.lmul, 1) := by decide +kernel
theorem d_M_grows_137 : decode u_M_grows.2.1 137 = .ok (.ladd, 1) := by decide +kernel
theorem d_M_grows_138 : decode u_M_grows.2.1 138 = .ok (.lstore 12, 2) := by decide +kernel
theorem d_M_grows_140 : decode u_M_grows.2.1 140 = .ok (.iinc 14 1, 3) := by decide +kernel
theorem d_M_grows_143 : decode u_M_grows.2.1 143 = .ok (.goto (-97), 3) := by decide +kernel
theorem d_M_grows_146 : decode u_M_grows.2.1 146 = .ok (.lload 4, 2) := by decide +kernel
theorem d_M_grows_148 : decode u_M_grows.2.1 148 = .ok (.lload 12, 2) := by decide +kernel
theorem d_M_grows_150 : decode u_M_grows.2.1 150 = .ok (.lmul, 1) := by decide +kernel
theorem d_M_grows_151 : decode u_M_grows.2.1 151 = .ok (.lload 6, 2) := by decide +kernel
theorem d_M_grows_153 : decode u_M_grows.2.1 153 = .ok (.lload 6, 2) := by decide +kernel
theorem d_M_grows_155 : decode u_M_grows.2.1 155 = .ok (.lmul, 1) := by decide +kernel
theorem d_M_grows_156 : decode u_M_grows.2.1 156 = .ok (.lsub, 1) := by decide +kernel
theorem d_M_grows_157 : decode u_M_grows.2.1 157 = .ok (.lstore 14, 2) := by decide +kernel
theorem d_M_grows_159 : decode u_M_grows.2.1 159 = .ok (.lload 14, 2) := by decide +kernel
theorem d_M_grows_161 : decode u_M_grows.2.1 161 = .ok (.lconst 0, 1) := by decide +kernel
theorem d_M_grows_162 : decode u_M_grows.2.1 162 = .ok (.lcmp, 1) := by decide +kernel
theorem d_M_grows_163 : decode u_M_grows.2.1 163 = .ok (.ifCond .ne 11, 3) := by decide +kernel
theorem d_M_grows_166 : decode u_M_grows.2.1 166 = .ok (.bipush (-3), 2) := by decide +kernel
theorem d_M_grows_168 : decode u_M_grows.2.1 168 = .ok (.invokestatic 214, 3) := by decide +kernel
theorem d_M_grows_171 : decode u_M_grows.2.1 171 = .ok (.goto 20, 3) := by decide +kernel
theorem d_M_grows_174 : decode u_M_grows.2.1 174 = .ok (.lload 4, 2) := by decide +kernel
theorem d_M_grows_176 : decode u_M_grows.2.1 176 = .ok (.lload 10, 2) := by decide +kernel
theorem d_M_grows_178 : decode u_M_grows.2.1 178 = .ok (.lmul, 1) := by decide +kernel
theorem d_M_grows_179 : decode u_M_grows.2.1 179 = .ok (.lload 6, 2) := by decide +kernel
theorem d_M_grows_181 : decode u_M_grows.2.1 181 = .ok (.lload 8, 2) := by decide +kernel
theorem d_M_grows_183 : decode u_M_grows.2.1 183 = .ok (.lmul, 1) := by decide +kernel
theorem d_M_grows_184 : decode u_M_grows.2.1 184 = .ok (.lsub, 1) := by decide +kernel
theorem d_M_grows_185 : decode u_M_grows.2.1 185 = .ok (.lload 14, 2) := by decide +kernel
theorem d_M_grows_187 : decode u_M_grows.2.1 187 = .ok (.iload_n 3, 1) := by decide +kernel
theorem d_M_grows_188 : decode u_M_grows.2.1 188 = .ok (.invokestatic 230, 3) := by decide +kernel
theorem d_M_grows_191 : decode u_M_grows.2.1 191 = .ok (.lreturn, 1) := by decide +kernel
theorem d_M_backOf_0 : decode u_M_backOf.2.1 0 = .ok (.aload_n 0, 1) := by decide +kernel
theorem d_M_backOf_1 : decode u_M_backOf.2.1 1 = .ok (.getfield 31, 3) := by decide +kernel
theorem d_M_backOf_4 : decode u_M_backOf.2.1 4 = .ok (.iload_n 2, 1) := by decide +kernel
theorem d_M_backOf_5 : decode u_M_backOf.2.1 5 = .ok (.iaload, 1) := by decide +kernel
theorem d_M_backOf_6 : decode u_M_backOf.2.1 6 = .ok (.istore_n 3, 1) := by decide +kernel
theorem d_M_backOf_7 : decode u_M_backOf.2.1 7 = .ok (.iconst 0, 1) := by decide +kernel
theorem d_M_backOf_8 : decode u_M_backOf.2.1 8 = .ok (.istore 4, 2) := by decide +kernel
theorem d_M_backOf_10 : decode u_M_backOf.2.1 10 = .ok (.iconst 0, 1) := by decide +kernel
theorem d_M_backOf_11 : decode u_M_backOf.2.1 11 = .ok (.istore 5, 2) := by decide +kernel
theorem d_M_backOf_13 : decode u_M_backOf.2.1 13 = .ok (.iconst 0, 1) := by decide +kernel
theorem d_M_backOf_14 : decode u_M_backOf.2.1 14 = .ok (.istore 6, 2) := by decide +kernel
theorem d_M_backOf_16 : decode u_M_backOf.2.1 16 = .ok (.iload 6, 2) := by decide +kernel
theorem d_M_backOf_18 : decode u_M_backOf.2.1 18 = .ok (.aload_n 0, 1) := by decide +kernel
theorem d_M_backOf_19 : decode u_M_backOf.2.1 19 = .ok (.getfield 157, 3) := by decide +kernel
theorem d_M_backOf_22 : decode u_M_backOf.2.1 22 = .ok (.if_icmp .ge 99, 3) := by decide +kernel
theorem d_M_backOf_25 : decode u_M_backOf.2.1 25 = .ok (.iload_n 3, 1) := by decide +kernel
theorem d_M_backOf_26 : decode u_M_backOf.2.1 26 = .ok (.ifCond .eq 95, 3) := by decide +kernel
theorem d_M_backOf_29 : decode u_M_backOf.2.1 29 = .ok (.iload_n 3, 1) := by decide +kernel
theorem d_M_backOf_30 : decode u_M_backOf.2.1 30 = .ok (.sipush (-9999), 3) := by decide +kernel
theorem d_M_backOf_33 : decode u_M_backOf.2.1 33 = .ok (.if_icmp .eq 88, 3) := by decide +kernel
theorem d_M_backOf_36 : decode u_M_backOf.2.1 36 = .ok (.aload_n 0, 1) := by decide +kernel
theorem d_M_backOf_37 : decode u_M_backOf.2.1 37 = .ok (.getfield 49, 3) := by decide +kernel
theorem d_M_backOf_40 : decode u_M_backOf.2.1 40 = .ok (.bipush 8, 2) := by decide +kernel
theorem d_M_backOf_42 : decode u_M_backOf.2.1 42 = .ok (.iload 6, 2) := by decide +kernel
theorem d_M_backOf_44 : decode u_M_backOf.2.1 44 = .ok (.imul, 1) := by decide +kernel
theorem d_M_backOf_45 : decode u_M_backOf.2.1 45 = .ok (.iload_n 2, 1) := by decide +kernel
theorem d_M_backOf_46 : decode u_M_backOf.2.1 46 = .ok (.iadd, 1) := by decide +kernel
theorem d_M_backOf_47 : decode u_M_backOf.2.1 47 = .ok (.iaload, 1) := by decide +kernel
theorem d_M_backOf_48 : decode u_M_backOf.2.1 48 = .ok (.istore 7, 2) := by decide +kernel
theorem d_M_backOf_50 : decode u_M_backOf.2.1 50 = .ok (.aload_n 0, 1) := by decide +kernel
theorem d_M_backOf_51 : decode u_M_backOf.2.1 51 = .ok (.getfield 37, 3) := by decide +kernel
theorem d_M_backOf_54 : decode u_M_backOf.2.1 54 = .ok (.iload 6, 2) := by decide +kernel
theorem d_M_backOf_56 : decode u_M_backOf.2.1 56 = .ok (.iaload, 1) := by decide +kernel
theorem d_M_backOf_57 : decode u_M_backOf.2.1 57 = .ok (.iload_n 1, 1) := by decide +kernel
theorem d_M_backOf_58 : decode u_M_backOf.2.1 58 = .ok (.if_icmp .ne 57, 3) := by decide +kernel
theorem d_M_backOf_61 : decode u_M_backOf.2.1 61 = .ok (.aload_n 0, 1) := by decide +kernel
theorem d_M_backOf_62 : decode u_M_backOf.2.1 62 = .ok (.getfield 43, 3) := by decide +kernel
end
section
theorem d_M_backOf_65 : decode u_M_backOf.2.1 65 = .ok (.iload 6, 2) := by decide +kernel
theorem d_M_backOf_67 : decode u_M_backOf.2.1 67 = .ok (.iaload, 1) := by decide +kernel
theorem d_M_backOf_68 : decode u_M_backOf.2.1 68 = .ok (.iconst 4, 1) := by decide +kernel
theorem d_M_backOf_69 : decode u_M_backOf.2.1 69 = .ok (.if_icmp .eq 46, 3) := by decide +kernel
theorem d_M_backOf_72 : decode u_M_backOf.2.1 72 = .ok (.iload 7, 2) := by decide +kernel
theorem d_M_backOf_74 : decode u_M_backOf.2.1 74 = .ok (.sipush (-9999), 3) := by decide +kernel
theorem d_M_backOf_77 : decode u_M_backOf.2.1 77 = .ok (.if_icmp .eq 38, 3) := by decide +kernel
theorem d_M_backOf_80 : decode u_M_backOf.2.1 80 = .ok (.aload_n 0, 1) := by decide +kernel
theorem d_M_backOf_81 : decode u_M_backOf.2.1 81 = .ok (.getfield 52, 3) := by decide +kernel
theorem d_M_backOf_84 : decode u_M_backOf.2.1 84 = .ok (.bipush 8, 2) := by decide +kernel
theorem d_M_backOf_86 : decode u_M_backOf.2.1 86 = .ok (.iload 6, 2) := by decide +kernel
theorem d_M_backOf_88 : decode u_M_backOf.2.1 88 = .ok (.imul, 1) := by decide +kernel
theorem d_M_backOf_89 : decode u_M_backOf.2.1 89 = .ok (.iload_n 2, 1) := by decide +kernel
theorem d_M_backOf_90 : decode u_M_backOf.2.1 90 = .ok (.iadd, 1) := by decide +kernel
theorem d_M_backOf_91 : decode u_M_backOf.2.1 91 = .ok (.iaload, 1) := by decide +kernel
theorem d_M_backOf_92 : decode u_M_backOf.2.1 92 = .ok (.istore 8, 2) := by decide +kernel
theorem d_M_backOf_94 : decode u_M_backOf.2.1 94 = .ok (.iload 5, 2) := by decide +kernel
theorem d_M_backOf_96 : decode u_M_backOf.2.1 96 = .ok (.iload 8, 2) := by decide +kernel
theorem d_M_backOf_98 : decode u_M_backOf.2.1 98 = .ok (.iload 7, 2) := by decide +kernel
theorem d_M_backOf_100 : decode u_M_backOf.2.1 100 = .ok (.iload 8, 2) := by decide +kernel
theorem d_M_backOf_102 : decode u_M_backOf.2.1 102 = .ok (.isub, 1) := by decide +kernel
theorem d_M_backOf_103 : decode u_M_backOf.2.1 103 = .ok (.bipush 10, 2) := by decide +kernel
theorem d_M_backOf_105 : decode u_M_backOf.2.1 105 = .ok (.imul, 1) := by decide +kernel
theorem d_M_backOf_106 : decode u_M_backOf.2.1 106 = .ok (.iload_n 3, 1) := by decide +kernel
theorem d_M_backOf_107 : decode u_M_backOf.2.1 107 = .ok (.idiv, 1) := by decide +kernel
theorem d_M_backOf_108 : decode u_M_backOf.2.1 108 = .ok (.iadd, 1) := by decide +kernel
theorem d_M_backOf_109 : decode u_M_backOf.2.1 109 = .ok (.iadd, 1) := by decide +kernel
theorem d_M_backOf_110 : decode u_M_backOf.2.1 110 = .ok (.istore 5, 2) := by decide +kernel
theorem d_M_backOf_112 : decode u_M_backOf.2.1 112 = .ok (.iinc 4 1, 3) := by decide +kernel
theorem d_M_backOf_115 : decode u_M_backOf.2.1 115 = .ok (.iinc 6 1, 3) := by decide +kernel
theorem d_M_backOf_118 : decode u_M_backOf.2.1 118 = .ok (.goto (-102), 3) := by decide +kernel
theorem d_M_backOf_121 : decode u_M_backOf.2.1 121 = .ok (.iload 4, 2) := by decide +kernel
theorem d_M_backOf_123 : decode u_M_backOf.2.1 123 = .ok (.ifCond .ne 9, 3) := by decide +kernel
theorem d_M_backOf_126 : decode u_M_backOf.2.1 126 = .ok (.sipush (-9999), 3) := by decide +kernel
theorem d_M_backOf_129 : decode u_M_backOf.2.1 129 = .ok (.goto 8, 3) := by decide +kernel
theorem d_M_backOf_132 : decode u_M_backOf.2.1 132 = .ok (.iload 5, 2) := by decide +kernel
theorem d_M_backOf_134 : decode u_M_backOf.2.1 134 = .ok (.iload 4, 2) := by decide +kernel
theorem d_M_backOf_136 : decode u_M_backOf.2.1 136 = .ok (.idiv, 1) := by decide +kernel
theorem d_M_backOf_137 : decode u_M_backOf.2.1 137 = .ok (.ireturn, 1) := by decide +kernel
theorem d_M_back_0 : decode u_M_back.2.1 0 = .ok (.aload_n 0, 1) := by decide +kernel
theorem d_M_back_1 : decode u_M_back.2.1 1 = .ok (.iload_n 1, 1) := by decide +kernel
theorem d_M_back_2 : decode u_M_back.2.1 2 = .ok (.invokevirtual 103, 3) := by decide +kernel
theorem d_M_back_5 : decode u_M_back.2.1 5 = .ok (.ifCond .eq 17, 3) := by decide +kernel
theorem d_M_back_8 : decode u_M_back.2.1 8 = .ok (.iload_n 2, 1) := by decide +kernel
theorem d_M_back_9 : decode u_M_back.2.1 9 = .ok (.invokestatic 120, 3) := by decide +kernel
theorem d_M_back_12 : decode u_M_back.2.1 12 = .ok (.ifCond .eq 10, 3) := by decide +kernel
theorem d_M_back_15 : decode u_M_back.2.1 15 = .ok (.iload_n 3, 1) := by decide +kernel
theorem d_M_back_16 : decode u_M_back.2.1 16 = .ok (.invokestatic 106, 3) := by decide +kernel
theorem d_M_back_19 : decode u_M_back.2.1 19 = .ok (.ifCond .ne 9, 3) := by decide +kernel
theorem d_M_back_22 : decode u_M_back.2.1 22 = .ok (.bipush (-2), 2) := by decide +kernel
theorem d_M_back_24 : decode u_M_back.2.1 24 = .ok (.invokestatic 149, 3) := by decide +kernel
theorem d_M_back_27 : decode u_M_back.2.1 27 = .ok (.ireturn, 1) := by decide +kernel
theorem d_M_back_28 : decode u_M_back.2.1 28 = .ok (.aload_n 0, 1) := by decide +kernel
theorem d_M_back_29 : decode u_M_back.2.1 29 = .ok (.iload_n 2, 1) := by decide +kernel
theorem d_M_back_30 : decode u_M_back.2.1 30 = .ok (.invokevirtual 146, 3) := by decide +kernel
theorem d_M_back_33 : decode u_M_back.2.1 33 = .ok (.pop, 1) := by decide +kernel
theorem d_M_back_34 : decode u_M_back.2.1 34 = .ok (.aload_n 0, 1) := by decide +kernel
theorem d_M_back_35 : decode u_M_back.2.1 35 = .ok (.iload_n 1, 1) := by decide +kernel
theorem d_M_back_36 : decode u_M_back.2.1 36 = .ok (.iload_n 3, 1) := by decide +kernel
theorem d_M_back_37 : decode u_M_back.2.1 37 = .ok (.invokevirtual 261, 3) := by decide +kernel
theorem d_M_back_40 : decode u_M_back.2.1 40 = .ok (.ireturn, 1) := by decide +kernel
theorem d_M_nearOf_0 : decode u_M_nearOf.2.1 0 = .ok (.aload_n 0, 1) := by decide +kernel
theorem d_M_nearOf_1 : decode u_M_nearOf.2.1 1 = .ok (.iload_n 2, 1) := by decide +kernel
theorem d_M_nearOf_2 : decode u_M_nearOf.2.1 2 = .ok (.invokevirtual 146, 3) := by decide +kernel
theorem d_M_nearOf_5 : decode u_M_nearOf.2.1 5 = .ok (.pop, 1) := by decide +kernel
theorem d_M_nearOf_6 : decode u_M_nearOf.2.1 6 = .ok (.iconst 0, 1) := by decide +kernel
theorem d_M_nearOf_7 : decode u_M_nearOf.2.1 7 = .ok (.istore_n 3, 1) := by decide +kernel
theorem d_M_nearOf_8 : decode u_M_nearOf.2.1 8 = .ok (.iconst 0, 1) := by decide +kernel
theorem d_M_nearOf_9 : decode u_M_nearOf.2.1 9 = .ok (.istore 4, 2) := by decide +kernel
theorem d_M_nearOf_11 : decode u_M_nearOf.2.1 11 = .ok (.iload 4, 2) := by decide +kernel
theorem d_M_nearOf_13 : decode u_M_nearOf.2.1 13 = .ok (.bipush 8, 2) := by decide +kernel
theorem d_M_nearOf_15 : decode u_M_nearOf.2.1 15 = .ok (.if_icmp .ge 51, 3) := by decide +kernel
theorem d_M_nearOf_18 : decode u_M_nearOf.2.1 18 = .ok (.aload_n 0, 1) := by decide +kernel
theorem d_M_nearOf_19 : decode u_M_nearOf.2.1 19 = .ok (.iload_n 1, 1) := by decide +kernel
theorem d_M_nearOf_20 : decode u_M_nearOf.2.1 20 = .ok (.iload 4, 2) := by decide +kernel
theorem d_M_nearOf_22 : decode u_M_nearOf.2.1 22 = .ok (.invokevirtual 261, 3) := by decide +kernel
theorem d_M_nearOf_25 : decode u_M_nearOf.2.1 25 = .ok (.istore 5, 2) := by decide +kernel
theorem d_M_nearOf_27 : decode u_M_nearOf.2.1 27 = .ok (.iload_n 3, 1) := by decide +kernel
theorem d_M_nearOf_28 : decode u_M_nearOf.2.1 28 = .ok (.iload 5, 2) := by decide +kernel
theorem d_M_nearOf_30 : decode u_M_nearOf.2.1 30 = .ok (.sipush (-9999), 3) := by decide +kernel
theorem d_M_nearOf_33 : decode u_M_nearOf.2.1 33 = .ok (.if_icmp .ne 7, 3) := by decide +kernel
theorem d_M_nearOf_36 : decode u_M_nearOf.2.1 36 = .ok (.iconst 0, 1) := by decide +kernel
theorem d_M_nearOf_37 : decode u_M_nearOf.2.1 37 = .ok (.goto 21, 3) := by decide +kernel
theorem d_M_nearOf_40 : decode u_M_nearOf.2.1 40 = .ok (.iload 5, 2) := by decide +kernel
theorem d_M_nearOf_42 : decode u_M_nearOf.2.1 42 = .ok (.aload_n 0, 1) := by decide +kernel
theorem d_M_nearOf_43 : decode u_M_nearOf.2.1 43 = .ok (.getfield 22, 3) := by decide +kernel
theorem d_M_nearOf_46 : decode u_M_nearOf.2.1 46 = .ok (.bipush 8, 2) := by decide +kernel
theorem d_M_nearOf_48 : decode u_M_nearOf.2.1 48 = .ok (.iload_n 1, 1) := by decide +kernel
theorem d_M_nearOf_49 : decode u_M_nearOf.2.1 49 = .ok (.imul, 1) := by decide +kernel
theorem d_M_nearOf_50 : decode u_M_nearOf.2.1 50 = .ok (.iload 4, 2) := by decide +kernel
theorem d_M_nearOf_52 : decode u_M_nearOf.2.1 52 = .ok (.iadd, 1) := by decide +kernel
theorem d_M_nearOf_53 : decode u_M_nearOf.2.1 53 = .ok (.iaload, 1) := by decide +kernel
theorem d_M_nearOf_54 : decode u_M_nearOf.2.1 54 = .ok (.isub, 1) := by decide +kernel
theorem d_M_nearOf_55 : decode u_M_nearOf.2.1 55 = .ok (.invokestatic 166, 3) := by decide +kernel
theorem d_M_nearOf_58 : decode u_M_nearOf.2.1 58 = .ok (.iadd, 1) := by decide +kernel
theorem d_M_nearOf_59 : decode u_M_nearOf.2.1 59 = .ok (.istore_n 3, 1) := by decide +kernel
theorem d_M_nearOf_60 : decode u_M_nearOf.2.1 60 = .ok (.iinc 4 1, 3) := by decide +kernel
theorem d_M_nearOf_63 : decode u_M_nearOf.2.1 63 = .ok (.goto (-52), 3) := by decide +kernel
theorem d_M_nearOf_66 : decode u_M_nearOf.2.1 66 = .ok (.iload_n 3, 1) := by decide +kernel
theorem d_M_nearOf_67 : decode u_M_nearOf.2.1 67 = .ok (.ireturn, 1) := by decide +kernel
theorem d_M_near_0 : decode u_M_near.2.1 0 = .ok (.aload_n 0, 1) := by decide +kernel
theorem d_M_near_1 : decode u_M_near.2.1 1 = .ok (.iload_n 1, 1) := by decide +kernel
theorem d_M_near_2 : decode u_M_near.2.1 2 = .ok (.invokevirtual 103, 3) := by decide +kernel
theorem d_M_near_5 : decode u_M_near.2.1 5 = .ok (.ifCond .eq 19, 3) := by decide +kernel
theorem d_M_near_8 : decode u_M_near.2.1 8 = .ok (.iload_n 2, 1) := by decide +kernel
theorem d_M_near_9 : decode u_M_near.2.1 9 = .ok (.invokestatic 120, 3) := by decide +kernel
theorem d_M_near_12 : decode u_M_near.2.1 12 = .ok (.ifCond .eq 12, 3) := by decide +kernel
theorem d_M_near_15 : decode u_M_near.2.1 15 = .ok (.aload_n 0, 1) := by decide +kernel
theorem d_M_near_16 : decode u_M_near.2.1 16 = .ok (.iload_n 1, 1) := by decide +kernel
theorem d_M_near_17 : decode u_M_near.2.1 17 = .ok (.iload_n 2, 1) := by decide +kernel
theorem d_M_near_18 : decode u_M_near.2.1 18 = .ok (.invokevirtual 264, 3) := by decide +kernel
theorem d_M_near_21 : decode u_M_near.2.1 21 = .ok (.goto 5, 3) := by decide +kernel
theorem d_M_near_24 : decode u_M_near.2.1 24 = .ok (.bipush (-2), 2) := by decide +kernel
theorem d_M_near_26 : decode u_M_near.2.1 26 = .ok (.ireturn, 1) := by decide +kernel
theorem d_M_witnessOf_0 : decode u_M_witnessOf.2.1 0 = .ok (.iconst 0, 1) := by decide +kernel
theorem d_M_witnessOf_1 : decode u_M_witnessOf.2.1 1 = .ok (.istore 4, 2) := by decide +kernel
theorem d_M_witnessOf_3 : decode u_M_witnessOf.2.1 3 = .ok (.iload 4, 2) := by decide +kernel
theorem d_M_witnessOf_5 : decode u_M_witnessOf.2.1 5 = .ok (.bipush 8, 2) := by decide +kernel
theorem d_M_witnessOf_7 : decode u_M_witnessOf.2.1 7 = .ok (.if_icmp .ge 39, 3) := by decide +kernel
theorem d_M_witnessOf_10 : decode u_M_witnessOf.2.1 10 = .ok (.aload_n 0, 1) := by decide +kernel
theorem d_M_witnessOf_11 : decode u_M_witnessOf.2.1 11 = .ok (.getfield 64, 3) := by decide +kernel
theorem d_M_witnessOf_14 : decode u_M_witnessOf.2.1 14 = .ok (.iload 4, 2) := by decide +kernel
theorem d_M_witnessOf_16 : decode u_M_witnessOf.2.1 16 = .ok (.aload_n 0, 1) := by decide +kernel
theorem d_M_witnessOf_17 : decode u_M_witnessOf.2.1 17 = .ok (.getfield 22, 3) := by decide +kernel
theorem d_M_witnessOf_20 : decode u_M_witnessOf.2.1 20 = .ok (.bipush 8, 2) := by decide +kernel
theorem d_M_witnessOf_22 : decode u_M_witnessOf.2.1 22 = .ok (.iload_n 1, 1) := by decide +kernel
theorem d_M_witnessOf_23 : decode u_M_witnessOf.2.1 23 = .ok (.imul, 1) := by decide +kernel
theorem d_M_witnessOf_24 : decode u_M_witnessOf.2.1 24 = .ok (.iload 4, 2) := by decide +kernel
theorem d_M_witnessOf_26 : decode u_M_witnessOf.2.1 26 = .ok (.iadd, 1) := by decide +kernel
theorem d_M_witnessOf_27 : decode u_M_witnessOf.2.1 27 = .ok (.iaload, 1) := by decide +kernel
theorem d_M_witnessOf_28 : decode u_M_witnessOf.2.1 28 = .ok (.aload_n 0, 1) := by decide +kernel
theorem d_M_witnessOf_29 : decode u_M_witnessOf.2.1 29 = .ok (.iload_n 2, 1) := by decide +kernel
theorem d_M_witnessOf_30 : decode u_M_witnessOf.2.1 30 = .ok (.iload 4, 2) := by decide +kernel
theorem d_M_witnessOf_32 : decode u_M_witnessOf.2.1 32 = .ok (.invokevirtual 117, 3) := by decide +kernel
theorem d_M_witnessOf_35 : decode u_M_witnessOf.2.1 35 = .ok (.isub, 1) := by decide +kernel
theorem d_M_witnessOf_36 : decode u_M_witnessOf.2.1 36 = .ok (.invokestatic 166, 3) := by decide +kernel
theorem d_M_witnessOf_39 : decode u_M_witnessOf.2.1 39 = .ok (.iastore, 1) := by decide +kernel
theorem d_M_witnessOf_40 : decode u_M_witnessOf.2.1 40 = .ok (.iinc 4 1, 3) := by decide +kernel
theorem d_M_witnessOf_43 : decode u_M_witnessOf.2.1 43 = .ok (.goto (-40), 3) := by decide +kernel
theorem d_M_witnessOf_46 : decode u_M_witnessOf.2.1 46 = .ok (.iconst 0, 1) := by decide +kernel
theorem d_M_witnessOf_47 : decode u_M_witnessOf.2.1 47 = .ok (.istore 4, 2) := by decide +kernel
theorem d_M_witnessOf_49 : decode u_M_witnessOf.2.1 49 = .ok (.iconst 0, 1) := by decide +kernel
theorem d_M_witnessOf_50 : decode u_M_witnessOf.2.1 50 = .ok (.istore 5, 2) := by decide +kernel
theorem d_M_witnessOf_52 : decode u_M_witnessOf.2.1 52 = .ok (.iconst 1, 1) := by decide +kernel
theorem d_M_witnessOf_53 : decode u_M_witnessOf.2.1 53 = .ok (.istore 6, 2) := by decide +kernel
theorem d_M_witnessOf_55 : decode u_M_witnessOf.2.1 55 = .ok (.iload 6, 2) := by decide +kernel
theorem d_M_witnessOf_57 : decode u_M_witnessOf.2.1 57 = .ok (.bipush 8, 2) := by decide +kernel
theorem d_M_witnessOf_59 : decode u_M_witnessOf.2.1 59 = .ok (.if_icmp .ge 35, 3) := by decide +kernel
theorem d_M_witnessOf_62 : decode u_M_witnessOf.2.1 62 = .ok (.aload_n 0, 1) := by decide +kernel
theorem d_M_witnessOf_63 : decode u_M_witnessOf.2.1 63 = .ok (.getfield 64, 3) := by decide +kernel
theorem d_M_witnessOf_66 : decode u_M_witnessOf.2.1 66 = .ok (.iload 6, 2) := by decide +kernel
theorem d_M_witnessOf_68 : decode u_M_witnessOf.2.1 68 = .ok (.iaload, 1) := by decide +kernel
theorem d_M_witnessOf_69 : decode u_M_witnessOf.2.1 69 = .ok (.aload_n 0, 1) := by decide +kernel
theorem d_M_witnessOf_70 : decode u_M_witnessOf.2.1 70 = .ok (.getfield 64, 3) := by decide +kernel
theorem d_M_witnessOf_73 : decode u_M_witnessOf.2.1 73 = .ok (.iload 5, 2) := by decide +kernel
theorem d_M_witnessOf_75 : decode u_M_witnessOf.2.1 75 = .ok (.iaload, 1) := by decide +kernel
theorem d_M_witnessOf_76 : decode u_M_witnessOf.2.1 76 = .ok (.if_icmp .le 8, 3) := by decide +kernel
theorem d_M_witnessOf_79 : decode u_M_witnessOf.2.1 79 = .ok (.iload 6, 2) := by decide +kernel
theorem d_M_witnessOf_81 : decode u_M_witnessOf.2.1 81 = .ok (.goto 5, 3) := by decide +kernel
theorem d_M_witnessOf_84 : decode u_M_witnessOf.2.1 84 = .ok (.iload 5, 2) := by decide +kernel
theorem d_M_witnessOf_86 : decode u_M_witnessOf.2.1 86 = .ok (.istore 5, 2) := by decide +kernel
theorem d_M_witnessOf_88 : decode u_M_witnessOf.2.1 88 = .ok (.iinc 6 1, 3) := by decide +kernel
theorem d_M_witnessOf_91 : decode u_M_witnessOf.2.1 91 = .ok (.goto (-36), 3) := by decide +kernel
theorem d_M_witnessOf_94 : decode u_M_witnessOf.2.1 94 = .ok (.aload_n 0, 1) := by decide +kernel
theorem d_M_witnessOf_95 : decode u_M_witnessOf.2.1 95 = .ok (.getfield 64, 3) := by decide +kernel
theorem d_M_witnessOf_98 : decode u_M_witnessOf.2.1 98 = .ok (.iload 5, 2) := by decide +kernel
theorem d_M_witnessOf_100 : decode u_M_witnessOf.2.1 100 = .ok (.iaload, 1) := by decide +kernel
theorem d_M_witnessOf_101 : decode u_M_witnessOf.2.1 101 = .ok (.iload_n 3, 1) := by decide +kernel
theorem d_M_witnessOf_102 : decode u_M_witnessOf.2.1 102 = .ok (.if_icmp .gt 6, 3) := by decide +kernel
theorem d_M_witnessOf_105 : decode u_M_witnessOf.2.1 105 = .ok (.iload 4, 2) := by decide +kernel
theorem d_M_witnessOf_107 : decode u_M_witnessOf.2.1 107 = .ok (.ireturn, 1) := by decide +kernel
theorem d_M_witnessOf_108 : decode u_M_witnessOf.2.1 108 = .ok (.aload_n 0, 1) := by decide +kernel
theorem d_M_witnessOf_109 : decode u_M_witnessOf.2.1 109 = .ok (.getfield 64, 3) := by decide +kernel
theorem d_M_witnessOf_112 : decode u_M_witnessOf.2.1 112 = .ok (.iload 5, 2) := by decide +kernel
theorem d_M_witnessOf_114 : decode u_M_witnessOf.2.1 114 = .ok (.dup2, 1) := by decide +kernel
theorem d_M_witnessOf_115 : decode u_M_witnessOf.2.1 115 = .ok (.iaload, 1) := by decide +kernel
theorem d_M_witnessOf_116 : decode u_M_witnessOf.2.1 116 = .ok (.iconst 2, 1) := by decide +kernel
theorem d_M_witnessOf_117 : decode u_M_witnessOf.2.1 117 = .ok (.idiv, 1) := by decide +kernel
theorem d_M_witnessOf_118 : decode u_M_witnessOf.2.1 118 = .ok (.iastore, 1) := by decide +kernel
theorem d_M_witnessOf_119 : decode u_M_witnessOf.2.1 119 = .ok (.iinc 4 1, 3) := by decide +kernel
theorem d_M_witnessOf_122 : decode u_M_witnessOf.2.1 122 = .ok (.goto (-73), 3) := by decide +kernel
theorem d_M_witness_0 : decode u_M_witness.2.1 0 = .ok (.aload_n 0, 1) := by decide +kernel
theorem d_M_witness_1 : decode u_M_witness.2.1 1 = .ok (.iload_n 1, 1) := by decide +kernel
theorem d_M_witness_2 : decode u_M_witness.2.1 2 = .ok (.invokevirtual 103, 3) := by decide +kernel
theorem d_M_witness_5 : decode u_M_witness.2.1 5 = .ok (.ifCond .eq 33, 3) := by decide +kernel
theorem d_M_witness_8 : decode u_M_witness.2.1 8 = .ok (.aload_n 0, 1) := by decide +kernel
theorem d_M_witness_9 : decode u_M_witness.2.1 9 = .ok (.iload_n 2, 1) := by decide +kernel
theorem d_M_witness_10 : decode u_M_witness.2.1 10 = .ok (.invokevirtual 114, 3) := by decide +kernel
theorem d_M_witness_13 : decode u_M_witness.2.1 13 = .ok (.ifCond .eq 25, 3) := by decide +kernel
theorem d_M_witness_16 : decode u_M_witness.2.1 16 = .ok (.iload_n 3, 1) := by decide +kernel
theorem d_M_witness_17 : decode u_M_witness.2.1 17 = .ok (.i2l, 1) := by decide +kernel
theorem d_M_witness_18 : decode u_M_witness.2.1 18 = .ok (.lconst 0, 1) := by decide +kernel
theorem d_M_witness_19 : decode u_M_witness.2.1 19 = .ok (.ldc2_w 109, 3) := by decide +kernel
theorem d_M_witness_22 : decode u_M_witness.2.1 22 = .ok (.invokestatic 69, 3) := by decide +kernel
theorem d_M_witness_25 : decode u_M_witness.2.1 25 = .ok (.ifCond .eq 13, 3) := by decide +kernel
theorem d_M_witness_28 : decode u_M_witness.2.1 28 = .ok (.aload_n 0, 1) := by decide +kernel
theorem d_M_witness_29 : decode u_M_witness.2.1 29 = .ok (.iload_n 1, 1) := by decide +kernel
theorem d_M_witness_30 : decode u_M_witness.2.1 30 = .ok (.iload_n 2, 1) := by decide +kernel
theorem d_M_witness_31 : decode u_M_witness.2.1 31 = .ok (.iload_n 3, 1) := by decide +kernel
theorem d_M_witness_32 : decode u_M_witness.2.1 32 = .ok (.invokevirtual 267, 3) := by decide +kernel
theorem d_M_witness_35 : decode u_M_witness.2.1 35 = .ok (.goto 5, 3) := by decide +kernel
theorem d_M_witness_38 : decode u_M_witness.2.1 38 = .ok (.bipush (-2), 2) := by decide +kernel
theorem d_M_witness_40 : decode u_M_witness.2.1 40 = .ok (.ireturn, 1) := by decide +kernel
theorem d_M_plainest_0 : decode u_M_plainest.2.1 0 = .ok (.aload_n 0, 1) := by decide +kernel
theorem d_M_plainest_1 : decode u_M_plainest.2.1 1 = .ok (.iload_n 1, 1) := by decide +kernel
theorem d_M_plainest_2 : decode u_M_plainest.2.1 2 = .ok (.invokevirtual 114, 3) := by decide +kernel
theorem d_M_plainest_5 : decode u_M_plainest.2.1 5 = .ok (.ifCond .ne 6, 3) := by decide +kernel
theorem d_M_plainest_8 : decode u_M_plainest.2.1 8 = .ok (.bipush (-2), 2) := by decide +kernel
theorem d_M_plainest_10 : decode u_M_plainest.2.1 10 = .ok (.ireturn, 1) := by decide +kernel
theorem d_M_plainest_11 : decode u_M_plainest.2.1 11 = .ok (.iconst (-1), 1) := by decide +kernel
theorem d_M_plainest_12 : decode u_M_plainest.2.1 12 = .ok (.istore_n 2, 1) := by decide +kernel
theorem d_M_plainest_13 : decode u_M_plainest.2.1 13 = .ok (.iconst 0, 1) := by decide +kernel
theorem d_M_plainest_14 : decode u_M_plainest.2.1 14 = .ok (.istore_n 3, 1) := by decide +kernel
theorem d_M_plainest_15 : decode u_M_plainest.2.1 15 = .ok (.iconst 0, 1) := by decide +kernel
theorem d_M_plainest_16 : decode u_M_plainest.2.1 16 = .ok (.istore 4, 2) := by decide +kernel
theorem d_M_plainest_18 : decode u_M_plainest.2.1 18 = .ok (.iload 4, 2) := by decide +kernel
theorem d_M_plainest_20 : decode u_M_plainest.2.1 20 = .ok (.aload_n 0, 1) := by decide +kernel
theorem d_M_plainest_21 : decode u_M_plainest.2.1 21 = .ok (.getfield 98, 3) := by decide +kernel
theorem d_M_plainest_24 : decode u_M_plainest.2.1 24 = .ok (.if_icmp .ge 84, 3) := by decide +kernel
theorem d_M_plainest_27 : decode u_M_plainest.2.1 27 = .ok (.iload_n 1, 1) := by decide +kernel
theorem d_M_plainest_28 : decode u_M_plainest.2.1 28 = .ok (.iload 4, 2) := by decide +kernel
theorem d_M_plainest_30 : decode u_M_plainest.2.1 30 = .ok (.ishr, 1) := by decide +kernel
theorem d_M_plainest_31 : decode u_M_plainest.2.1 31 = .ok (.iconst 1, 1) := by decide +kernel
theorem d_M_plainest_32 : decode u_M_plainest.2.1 32 = .ok (.iand, 1) := by decide +kernel
theorem d_M_plainest_33 : decode u_M_plainest.2.1 33 = .ok (.iconst 1, 1) := by decide +kernel
theorem d_M_plainest_34 : decode u_M_plainest.2.1 34 = .ok (.if_icmp .ne 68, 3) := by decide +kernel
theorem d_M_plainest_37 : decode u_M_plainest.2.1 37 = .ok (.iconst 0, 1) := by decide +kernel
theorem d_M_plainest_38 : decode u_M_plainest.2.1 38 = .ok (.istore 5, 2) := by decide +kernel
theorem d_M_plainest_40 : decode u_M_plainest.2.1 40 = .ok (.iconst 0, 1) := by decide +kernel
theorem d_M_plainest_41 : decode u_M_plainest.2.1 41 = .ok (.istore 6, 2) := by decide +kernel
theorem d_M_plainest_43 : decode u_M_plainest.2.1 43 = .ok (.iload 6, 2) := by decide +kernel
theorem d_M_plainest_45 : decode u_M_plainest.2.1 45 = .ok (.bipush 8, 2) := by decide +kernel
theorem d_M_plainest_47 : decode u_M_plainest.2.1 47 = .ok (.if_icmp .ge 38, 3) := by decide +kernel
theorem d_M_plainest_50 : decode u_M_plainest.2.1 50 = .ok (.iload 5, 2) := by decide +kernel
theorem d_M_plainest_52 : decode u_M_plainest.2.1 52 = .ok (.aload_n 0, 1) := by decide +kernel
theorem d_M_plainest_53 : decode u_M_plainest.2.1 53 = .ok (.getfield 22, 3) := by decide +kernel
theorem d_M_plainest_56 : decode u_M_plainest.2.1 56 = .ok (.bipush 8, 2) := by decide +kernel
theorem d_M_plainest_58 : decode u_M_plainest.2.1 58 = .ok (.iload 4, 2) := by decide +kernel
theorem d_M_plainest_60 : decode u_M_plainest.2.1 60 = .ok (.imul, 1) := by decide +kernel
theorem d_M_plainest_61 : decode u_M_plainest.2.1 61 = .ok (.iload 6, 2) := by decide +kernel
theorem d_M_plainest_63 : decode u_M_plainest.2.1 63 = .ok (.iadd, 1) := by decide +kernel
theorem d_M_plainest_64 : decode u_M_plainest.2.1 64 = .ok (.iaload, 1) := by decide +kernel
theorem d_M_plainest_65 : decode u_M_plainest.2.1 65 = .ok (.aload_n 0, 1) := by decide +kernel
theorem d_M_plainest_66 : decode u_M_plainest.2.1 66 = .ok (.iload_n 1, 1) := by decide +kernel
theorem d_M_plainest_67 : decode u_M_plainest.2.1 67 = .ok (.iload 6, 2) := by decide +kernel
theorem d_M_plainest_69 : decode u_M_plainest.2.1 69 = .ok (.invokevirtual 117, 3) := by decide +kernel
theorem d_M_plainest_72 : decode u_M_plainest.2.1 72 = .ok (.isub, 1) := by decide +kernel
theorem d_M_plainest_73 : decode u_M_plainest.2.1 73 = .ok (.invokestatic 166, 3) := by decide +kernel
theorem d_M_plainest_76 : decode u_M_plainest.2.1 76 = .ok (.iadd, 1) := by decide +kernel
theorem d_M_plainest_77 : decode u_M_plainest.2.1 77 = .ok (.istore 5, 2) := by decide +kernel
theorem d_M_plainest_79 : decode u_M_plainest.2.1 79 = .ok (.iinc 6 1, 3) := by decide +kernel
theorem d_M_plainest_82 : decode u_M_plainest.2.1 82 = .ok (.goto (-39), 3) := by decide +kernel
theorem d_M_plainest_85 : decode u_M_plainest.2.1 85 = .ok (.iload_n 2, 1) := by decide +kernel
theorem d_M_plainest_86 : decode u_M_plainest.2.1 86 = .ok (.iconst (-1), 1) := by decide +kernel
theorem d_M_plainest_87 : decode u_M_plainest.2.1 87 = .ok (.if_icmp .eq 9, 3) := by decide +kernel
theorem d_M_plainest_90 : decode u_M_plainest.2.1 90 = .ok (.iload 5, 2) := by decide +kernel
theorem d_M_plainest_92 : decode u_M_plainest.2.1 92 = .ok (.iload_n 3, 1) := by decide +kernel
theorem d_M_plainest_93 : decode u_M_plainest.2.1 93 = .ok (.if_icmp .ge 9, 3) := by decide +kernel
theorem d_M_plainest_96 : decode u_M_plainest.2.1 96 = .ok (.iload 4, 2) := by decide +kernel
theorem d_M_plainest_98 : decode u_M_plainest.2.1 98 = .ok (.istore_n 2, 1) := by decide +kernel
theorem d_M_plainest_99 : decode u_M_plainest.2.1 99 = .ok (.iload 5, 2) := by decide +kernel
theorem d_M_plainest_101 : decode u_M_plainest.2.1 101 = .ok (.istore_n 3, 1) := by decide +kernel
theorem d_M_plainest_102 : decode u_M_plainest.2.1 102 = .ok (.iinc 4 1, 3) := by decide +kernel
theorem d_M_plainest_105 : decode u_M_plainest.2.1 105 = .ok (.goto (-87), 3) := by decide +kernel
theorem d_M_plainest_108 : decode u_M_plainest.2.1 108 = .ok (.iload_n 2, 1) := by decide +kernel
theorem d_M_plainest_109 : decode u_M_plainest.2.1 109 = .ok (.ireturn, 1) := by decide +kernel
theorem d_M_write_0 : decode u_M_write.2.1 0 = .ok (.aload_n 0, 1) := by decide +kernel
theorem d_M_write_1 : decode u_M_write.2.1 1 = .ok (.iload_n 1, 1) := by decide +kernel
theorem d_M_write_2 : decode u_M_write.2.1 2 = .ok (.invokevirtual 163, 3) := by decide +kernel
theorem d_M_write_5 : decode u_M_write.2.1 5 = .ok (.ifCond .eq 10, 3) := by decide +kernel
theorem d_M_write_8 : decode u_M_write.2.1 8 = .ok (.iload_n 2, 1) := by decide +kernel
theorem d_M_write_9 : decode u_M_write.2.1 9 = .ok (.invokestatic 79, 3) := by decide +kernel
theorem d_M_write_12 : decode u_M_write.2.1 12 = .ok (.ifCond .ne 6, 3) := by decide +kernel
theorem d_M_write_15 : decode u_M_write.2.1 15 = .ok (.bipush (-2), 2) := by decide +kernel
theorem d_M_write_17 : decode u_M_write.2.1 17 = .ok (.ireturn, 1) := by decide +kernel
theorem d_M_write_18 : decode u_M_write.2.1 18 = .ok (.aload_n 0, 1) := by decide +kernel
theorem d_M_write_19 : decode u_M_write.2.1 19 = .ok (.getfield 7, 3) := by decide +kernel
theorem d_M_write_22 : decode u_M_write.2.1 22 = .ok (.iload_n 2, 1) := by decide +kernel
theorem d_M_write_23 : decode u_M_write.2.1 23 = .ok (.iaload, 1) := by decide +kernel
theorem d_M_write_24 : decode u_M_write.2.1 24 = .ok (.ifCond .ge 9, 3) := by decide +kernel
theorem d_M_write_27 : decode u_M_write.2.1 27 = .ok (.aload_n 0, 1) := by decide +kernel
theorem d_M_write_28 : decode u_M_write.2.1 28 = .ok (.iconst 1, 1) := by decide +kernel
theorem d_M_write_29 : decode u_M_write.2.1 29 = .ok (.invokevirtual 85, 3) := by decide +kernel
theorem d_M_write_32 : decode u_M_write.2.1 32 = .ok (.ireturn, 1) := by decide +kernel
theorem d_M_write_33 : decode u_M_write.2.1 33 = .ok (.aload_n 0, 1) := by decide +kernel
theorem d_M_write_34 : decode u_M_write.2.1 34 = .ok (.getfield 13, 3) := by decide +kernel
theorem d_M_write_37 : decode u_M_write.2.1 37 = .ok (.iload_n 2, 1) := by decide +kernel
theorem d_M_write_38 : decode u_M_write.2.1 38 = .ok (.iaload, 1) := by decide +kernel
theorem d_M_write_39 : decode u_M_write.2.1 39 = .ok (.bipush 8, 2) := by decide +kernel
theorem d_M_write_41 : decode u_M_write.2.1 41 = .ok (.if_icmp .ge 12, 3) := by decide +kernel
theorem d_M_write_44 : decode u_M_write.2.1 44 = .ok (.aload_n 0, 1) := by decide +kernel
theorem d_M_write_45 : decode u_M_write.2.1 45 = .ok (.getfield 13, 3) := by decide +kernel
theorem d_M_write_48 : decode u_M_write.2.1 48 = .ok (.iload_n 2, 1) := by decide +kernel
theorem d_M_write_49 : decode u_M_write.2.1 49 = .ok (.iaload, 1) := by decide +kernel
theorem d_M_write_50 : decode u_M_write.2.1 50 = .ok (.goto 5, 3) := by decide +kernel
theorem d_M_write_53 : decode u_M_write.2.1 53 = .ok (.bipush 8, 2) := by decide +kernel
theorem d_M_write_55 : decode u_M_write.2.1 55 = .ok (.istore_n 3, 1) := by decide +kernel
theorem d_M_write_56 : decode u_M_write.2.1 56 = .ok (.iconst 0, 1) := by decide +kernel
theorem d_M_write_57 : decode u_M_write.2.1 57 = .ok (.istore 4, 2) := by decide +kernel
theorem d_M_write_59 : decode u_M_write.2.1 59 = .ok (.iload 4, 2) := by decide +kernel
theorem d_M_write_61 : decode u_M_write.2.1 61 = .ok (.iload_n 3, 1) := by decide +kernel
theorem d_M_write_62 : decode u_M_write.2.1 62 = .ok (.if_icmp .ge 42, 3) := by decide +kernel
theorem d_M_write_65 : decode u_M_write.2.1 65 = .ok (.aload_n 0, 1) := by decide +kernel
theorem d_M_write_66 : decode u_M_write.2.1 66 = .ok (.getfield 16, 3) := by decide +kernel
theorem d_M_write_69 : decode u_M_write.2.1 69 = .ok (.bipush 60, 2) := by decide +kernel
theorem d_M_write_71 : decode u_M_write.2.1 71 = .ok (.iload_n 2, 1) := by decide +kernel
theorem d_M_write_72 : decode u_M_write.2.1 72 = .ok (.imul, 1) := by decide +kernel
theorem d_M_write_73 : decode u_M_write.2.1 73 = .ok (.iload 4, 2) := by decide +kernel
theorem d_M_write_75 : decode u_M_write.2.1 75 = .ok (.iadd, 1) := by decide +kernel
theorem d_M_write_76 : decode u_M_write.2.1 76 = .ok (.aload_n 0, 1) := by decide +kernel
theorem d_M_write_77 : decode u_M_write.2.1 77 = .ok (.getfield 7, 3) := by decide +kernel
theorem d_M_write_80 : decode u_M_write.2.1 80 = .ok (.iload_n 2, 1) := by decide +kernel
theorem d_M_write_81 : decode u_M_write.2.1 81 = .ok (.iaload, 1) := by decide +kernel
theorem d_M_write_82 : decode u_M_write.2.1 82 = .ok (.aload_n 0, 1) := by decide +kernel
theorem d_M_write_83 : decode u_M_write.2.1 83 = .ok (.getfield 49, 3) := by decide +kernel
theorem d_M_write_86 : decode u_M_write.2.1 86 = .ok (.bipush 8, 2) := by decide +kernel
theorem d_M_write_88 : decode u_M_write.2.1 88 = .ok (.iload_n 1, 1) := by decide +kernel
theorem d_M_write_89 : decode u_M_write.2.1 89 = .ok (.imul, 1) := by decide +kernel
theorem d_M_write_90 : decode u_M_write.2.1 90 = .ok (.iload 4, 2) := by decide +kernel
theorem d_M_write_92 : decode u_M_write.2.1 92 = .ok (.iadd, 1) := by decide +kernel
theorem d_M_write_93 : decode u_M_write.2.1 93 = .ok (.iaload, 1) := by decide +kernel
theorem d_M_write_94 : decode u_M_write.2.1 94 = .ok (.invokestatic 93, 3) := by decide +kernel
theorem d_M_write_97 : decode u_M_write.2.1 97 = .ok (.iastore, 1) := by decide +kernel
theorem d_M_write_98 : decode u_M_write.2.1 98 = .ok (.iinc 4 1, 3) := by decide +kernel
theorem d_M_write_101 : decode u_M_write.2.1 101 = .ok (.goto (-42), 3) := by decide +kernel
theorem d_M_write_104 : decode u_M_write.2.1 104 = .ok (.iload_n 3, 1) := by decide +kernel
theorem d_M_write_105 : decode u_M_write.2.1 105 = .ok (.ireturn, 1) := by decide +kernel
theorem d_M_count_0 : decode u_M_count.2.1 0 = .ok (.iconst 0, 1) := by decide +kernel
theorem d_M_count_1 : decode u_M_count.2.1 1 = .ok (.istore_n 2, 1) := by decide +kernel
theorem d_M_count_2 : decode u_M_count.2.1 2 = .ok (.iload_n 1, 1) := by decide +kernel
theorem d_M_count_3 : decode u_M_count.2.1 3 = .ok (.tableswitch 112 0 8 #[49, 54, 59, 64, 64, 64, 64, 73, 107], 49) := by decide +kernel
theorem d_M_count_52 : decode u_M_count.2.1 52 = .ok (.aload_n 0, 1) := by decide +kernel
theorem d_M_count_53 : decode u_M_count.2.1 53 = .ok (.getfield 98, 3) := by decide +kernel
theorem d_M_count_56 : decode u_M_count.2.1 56 = .ok (.ireturn, 1) := by decide +kernel
theorem d_M_count_57 : decode u_M_count.2.1 57 = .ok (.aload_n 0, 1) := by decide +kernel
theorem d_M_count_58 : decode u_M_count.2.1 58 = .ok (.getfield 157, 3) := by decide +kernel
theorem d_M_count_61 : decode u_M_count.2.1 61 = .ok (.ireturn, 1) := by decide +kernel
theorem d_M_count_62 : decode u_M_count.2.1 62 = .ok (.aload_n 0, 1) := by decide +kernel
theorem d_M_count_63 : decode u_M_count.2.1 63 = .ok (.getfield 190, 3) := by decide +kernel
theorem d_M_count_66 : decode u_M_count.2.1 66 = .ok (.ireturn, 1) := by decide +kernel
theorem d_M_count_67 : decode u_M_count.2.1 67 = .ok (.aload_n 0, 1) := by decide +kernel
theorem d_M_count_68 : decode u_M_count.2.1 68 = .ok (.getfield 28, 3) := by decide +kernel
theorem d_M_count_71 : decode u_M_count.2.1 71 = .ok (.iload_n 1, 1) := by decide +kernel
theorem d_M_count_72 : decode u_M_count.2.1 72 = .ok (.iconst 3, 1) := by decide +kernel
theorem d_M_count_73 : decode u_M_count.2.1 73 = .ok (.isub, 1) := by decide +kernel
theorem d_M_count_74 : decode u_M_count.2.1 74 = .ok (.iaload, 1) := by decide +kernel
theorem d_M_count_75 : decode u_M_count.2.1 75 = .ok (.ireturn, 1) := by decide +kernel
theorem d_M_count_76 : decode u_M_count.2.1 76 = .ok (.iconst 0, 1) := by decide +kernel
theorem d_M_count_77 : decode u_M_count.2.1 77 = .ok (.istore_n 3, 1) := by decide +kernel
theorem d_M_count_78 : decode u_M_count.2.1 78 = .ok (.iload_n 3, 1) := by decide +kernel
theorem d_M_count_79 : decode u_M_count.2.1 79 = .ok (.aload_n 0, 1) := by decide +kernel
theorem d_M_count_80 : decode u_M_count.2.1 80 = .ok (.getfield 157, 3) := by decide +kernel
theorem d_M_count_83 : decode u_M_count.2.1 83 = .ok (.if_icmp .ge 25, 3) := by decide +kernel
theorem d_M_count_86 : decode u_M_count.2.1 86 = .ok (.iload_n 2, 1) := by decide +kernel
theorem d_M_count_87 : decode u_M_count.2.1 87 = .ok (.aload_n 0, 1) := by decide +kernel
theorem d_M_count_88 : decode u_M_count.2.1 88 = .ok (.iload_n 3, 1) := by decide +kernel
theorem d_M_count_89 : decode u_M_count.2.1 89 = .ok (.invokevirtual 178, 3) := by decide +kernel
theorem d_M_count_92 : decode u_M_count.2.1 92 = .ok (.ifCond .eq 7, 3) := by decide +kernel
theorem d_M_count_95 : decode u_M_count.2.1 95 = .ok (.iconst 1, 1) := by decide +kernel
theorem d_M_count_96 : decode u_M_count.2.1 96 = .ok (.goto 4, 3) := by decide +kernel
theorem d_M_count_99 : decode u_M_count.2.1 99 = .ok (.iconst 0, 1) := by decide +kernel
theorem d_M_count_100 : decode u_M_count.2.1 100 = .ok (.iadd, 1) := by decide +kernel
theorem d_M_count_101 : decode u_M_count.2.1 101 = .ok (.istore_n 2, 1) := by decide +kernel
theorem d_M_count_102 : decode u_M_count.2.1 102 = .ok (.iinc 3 1, 3) := by decide +kernel
theorem d_M_count_105 : decode u_M_count.2.1 105 = .ok (.goto (-27), 3) := by decide +kernel
theorem d_M_count_108 : decode u_M_count.2.1 108 = .ok (.iload_n 2, 1) := by decide +kernel
theorem d_M_count_109 : decode u_M_count.2.1 109 = .ok (.ireturn, 1) := by decide +kernel
theorem d_M_count_110 : decode u_M_count.2.1 110 = .ok (.aload_n 0, 1) := by decide +kernel
theorem d_M_count_111 : decode u_M_count.2.1 111 = .ok (.getfield 73, 3) := by decide +kernel
theorem d_M_count_114 : decode u_M_count.2.1 114 = .ok (.ireturn, 1) := by decide +kernel
theorem d_M_count_115 : decode u_M_count.2.1 115 = .ok (.bipush (-2), 2) := by decide +kernel
theorem d_M_count_117 : decode u_M_count.2.1 117 = .ok (.ireturn, 1) := by decide +kernel
theorem d_M_digest_0 : decode u_M_digest.2.1 0 = .ok (.ldc2_w 270, 3) := by decide +kernel
theorem d_M_digest_3 : decode u_M_digest.2.1 3 = .ok (.lstore_n 1, 1) := by decide +kernel
theorem d_M_digest_4 : decode u_M_digest.2.1 4 = .ok (.iconst 0, 1) := by decide +kernel
theorem d_M_digest_5 : decode u_M_digest.2.1 5 = .ok (.istore_n 3, 1) := by decide +kernel
theorem d_M_digest_6 : decode u_M_digest.2.1 6 = .ok (.iload_n 3, 1) := by decide +kernel
theorem d_M_digest_7 : decode u_M_digest.2.1 7 = .ok (.bipush 8, 2) := by decide +kernel
theorem d_M_digest_9 : decode u_M_digest.2.1 9 = .ok (.if_icmp .ge 22, 3) := by decide +kernel
theorem d_M_digest_12 : decode u_M_digest.2.1 12 = .ok (.ldc2_w 272, 3) := by decide +kernel
theorem d_M_digest_15 : decode u_M_digest.2.1 15 = .ok (.lload_n 1, 1) := by decide +kernel
theorem d_M_digest_16 : decode u_M_digest.2.1 16 = .ok (.lmul, 1) := by decide +kernel
theorem d_M_digest_17 : decode u_M_digest.2.1 17 = .ok (.aload_n 0, 1) := by decide +kernel
theorem d_M_digest_18 : decode u_M_digest.2.1 18 = .ok (.iload_n 3, 1) := by decide +kernel
theorem d_M_digest_19 : decode u_M_digest.2.1 19 = .ok (.invokevirtual 274, 3) := by decide +kernel
theorem d_M_digest_22 : decode u_M_digest.2.1 22 = .ok (.i2l, 1) := by decide +kernel
theorem d_M_digest_23 : decode u_M_digest.2.1 23 = .ok (.ladd, 1) := by decide +kernel
theorem d_M_digest_24 : decode u_M_digest.2.1 24 = .ok (.lstore_n 1, 1) := by decide +kernel
theorem d_M_digest_25 : decode u_M_digest.2.1 25 = .ok (.iinc 3 1, 3) := by decide +kernel
theorem d_M_digest_28 : decode u_M_digest.2.1 28 = .ok (.goto (-22), 3) := by decide +kernel
theorem d_M_digest_31 : decode u_M_digest.2.1 31 = .ok (.iconst 0, 1) := by decide +kernel
theorem d_M_digest_32 : decode u_M_digest.2.1 32 = .ok (.istore_n 3, 1) := by decide +kernel
theorem d_M_digest_33 : decode u_M_digest.2.1 33 = .ok (.iload_n 3, 1) := by decide +kernel
theorem d_M_digest_34 : decode u_M_digest.2.1 34 = .ok (.iconst 4, 1) := by decide +kernel
theorem d_M_digest_35 : decode u_M_digest.2.1 35 = .ok (.if_icmp .ge 53, 3) := by decide +kernel
theorem d_M_digest_38 : decode u_M_digest.2.1 38 = .ok (.ldc2_w 272, 3) := by decide +kernel
theorem d_M_digest_41 : decode u_M_digest.2.1 41 = .ok (.lload_n 1, 1) := by decide +kernel
theorem d_M_digest_42 : decode u_M_digest.2.1 42 = .ok (.lmul, 1) := by decide +kernel
theorem d_M_digest_43 : decode u_M_digest.2.1 43 = .ok (.aload_n 0, 1) := by decide +kernel
theorem d_M_digest_44 : decode u_M_digest.2.1 44 = .ok (.iload_n 3, 1) := by decide +kernel
theorem d_M_digest_45 : decode u_M_digest.2.1 45 = .ok (.invokevirtual 146, 3) := by decide +kernel
theorem d_M_digest_48 : decode u_M_digest.2.1 48 = .ok (.i2l, 1) := by decide +kernel
theorem d_M_digest_49 : decode u_M_digest.2.1 49 = .ok (.ladd, 1) := by decide +kernel
theorem d_M_digest_50 : decode u_M_digest.2.1 50 = .ok (.lstore_n 1, 1) := by decide +kernel
theorem d_M_digest_51 : decode u_M_digest.2.1 51 = .ok (.iconst 0, 1) := by decide +kernel
theorem d_M_digest_52 : decode u_M_digest.2.1 52 = .ok (.istore 4, 2) := by decide +kernel
theorem d_M_digest_54 : decode u_M_digest.2.1 54 = .ok (.iload 4, 2) := by decide +kernel
theorem d_M_digest_56 : decode u_M_digest.2.1 56 = .ok (.bipush 8, 2) := by decide +kernel
theorem d_M_digest_58 : decode u_M_digest.2.1 58 = .ok (.if_icmp .ge 24, 3) := by decide +kernel
theorem d_M_digest_61 : decode u_M_digest.2.1 61 = .ok (.ldc2_w 272, 3) := by decide +kernel
theorem d_M_digest_64 : decode u_M_digest.2.1 64 = .ok (.lload_n 1, 1) := by decide +kernel
theorem d_M_digest_65 : decode u_M_digest.2.1 65 = .ok (.lmul, 1) := by decide +kernel
theorem d_M_digest_66 : decode u_M_digest.2.1 66 = .ok (.aload_n 0, 1) := by decide +kernel
theorem d_M_digest_67 : decode u_M_digest.2.1 67 = .ok (.getfield 31, 3) := by decide +kernel
theorem d_M_digest_70 : decode u_M_digest.2.1 70 = .ok (.iload 4, 2) := by decide +kernel
theorem d_M_digest_72 : decode u_M_digest.2.1 72 = .ok (.iaload, 1) := by decide +kernel
theorem d_M_digest_73 : decode u_M_digest.2.1 73 = .ok (.i2l, 1) := by decide +kernel
theorem d_M_digest_74 : decode u_M_digest.2.1 74 = .ok (.ladd, 1) := by decide +kernel
theorem d_M_digest_75 : decode u_M_digest.2.1 75 = .ok (.lstore_n 1, 1) := by decide +kernel
theorem d_M_digest_76 : decode u_M_digest.2.1 76 = .ok (.iinc 4 1, 3) := by decide +kernel
theorem d_M_digest_79 : decode u_M_digest.2.1 79 = .ok (.goto (-25), 3) := by decide +kernel
theorem d_M_digest_82 : decode u_M_digest.2.1 82 = .ok (.iinc 3 1, 3) := by decide +kernel
theorem d_M_digest_85 : decode u_M_digest.2.1 85 = .ok (.goto (-52), 3) := by decide +kernel
theorem d_M_digest_88 : decode u_M_digest.2.1 88 = .ok (.iconst 0, 1) := by decide +kernel
theorem d_M_digest_89 : decode u_M_digest.2.1 89 = .ok (.istore_n 3, 1) := by decide +kernel
theorem d_M_digest_90 : decode u_M_digest.2.1 90 = .ok (.iload_n 3, 1) := by decide +kernel
theorem d_M_digest_91 : decode u_M_digest.2.1 91 = .ok (.aload_n 0, 1) := by decide +kernel
theorem d_M_digest_92 : decode u_M_digest.2.1 92 = .ok (.getfield 98, 3) := by decide +kernel
theorem d_M_digest_95 : decode u_M_digest.2.1 95 = .ok (.if_icmp .ge 39, 3) := by decide +kernel
theorem d_M_digest_98 : decode u_M_digest.2.1 98 = .ok (.ldc2_w 272, 3) := by decide +kernel
theorem d_M_digest_101 : decode u_M_digest.2.1 101 = .ok (.lload_n 1, 1) := by decide +kernel
theorem d_M_digest_102 : decode u_M_digest.2.1 102 = .ok (.lmul, 1) := by decide +kernel
theorem d_M_digest_103 : decode u_M_digest.2.1 103 = .ok (.aload_n 0, 1) := by decide +kernel
theorem d_M_digest_104 : decode u_M_digest.2.1 104 = .ok (.iload_n 3, 1) := by decide +kernel
theorem d_M_digest_105 : decode u_M_digest.2.1 105 = .ok (.iconst 0, 1) := by decide +kernel
theorem d_M_digest_106 : decode u_M_digest.2.1 106 = .ok (.invokevirtual 264, 3) := by decide +kernel
theorem d_M_digest_109 : decode u_M_digest.2.1 109 = .ok (.i2l, 1) := by decide +kernel
theorem d_M_digest_110 : decode u_M_digest.2.1 110 = .ok (.ladd, 1) := by decide +kernel
theorem d_M_digest_111 : decode u_M_digest.2.1 111 = .ok (.lstore_n 1, 1) := by decide +kernel
theorem d_M_digest_112 : decode u_M_digest.2.1 112 = .ok (.ldc2_w 272, 3) := by decide +kernel
theorem d_M_digest_115 : decode u_M_digest.2.1 115 = .ok (.lload_n 1, 1) := by decide +kernel
theorem d_M_digest_116 : decode u_M_digest.2.1 116 = .ok (.lmul, 1) := by decide +kernel
theorem d_M_digest_117 : decode u_M_digest.2.1 117 = .ok (.aload_n 0, 1) := by decide +kernel
theorem d_M_digest_118 : decode u_M_digest.2.1 118 = .ok (.iload_n 3, 1) := by decide +kernel
theorem d_M_digest_119 : decode u_M_digest.2.1 119 = .ok (.iconst 1, 1) := by decide +kernel
theorem d_M_digest_120 : decode u_M_digest.2.1 120 = .ok (.bipush 9, 2) := by decide +kernel
theorem d_M_digest_122 : decode u_M_digest.2.1 122 = .ok (.invokevirtual 267, 3) := by decide +kernel
theorem d_M_digest_125 : decode u_M_digest.2.1 125 = .ok (.i2l, 1) := by decide +kernel
theorem d_M_digest_126 : decode u_M_digest.2.1 126 = .ok (.ladd, 1) := by decide +kernel
theorem d_M_digest_127 : decode u_M_digest.2.1 127 = .ok (.lstore_n 1, 1) := by decide +kernel
theorem d_M_digest_128 : decode u_M_digest.2.1 128 = .ok (.iinc 3 1, 3) := by decide +kernel
theorem d_M_digest_131 : decode u_M_digest.2.1 131 = .ok (.goto (-41), 3) := by decide +kernel
theorem d_M_digest_134 : decode u_M_digest.2.1 134 = .ok (.iconst 0, 1) := by decide +kernel
theorem d_M_digest_135 : decode u_M_digest.2.1 135 = .ok (.istore_n 3, 1) := by decide +kernel
theorem d_M_digest_136 : decode u_M_digest.2.1 136 = .ok (.iload_n 3, 1) := by decide +kernel
theorem d_M_digest_137 : decode u_M_digest.2.1 137 = .ok (.aload_n 0, 1) := by decide +kernel
theorem d_M_digest_138 : decode u_M_digest.2.1 138 = .ok (.getfield 157, 3) := by decide +kernel
theorem d_M_digest_141 : decode u_M_digest.2.1 141 = .ok (.if_icmp .ge 76, 3) := by decide +kernel
theorem d_M_digest_144 : decode u_M_digest.2.1 144 = .ok (.iconst 0, 1) := by decide +kernel
theorem d_M_digest_145 : decode u_M_digest.2.1 145 = .ok (.istore 4, 2) := by decide +kernel
theorem d_M_digest_147 : decode u_M_digest.2.1 147 = .ok (.iload 4, 2) := by decide +kernel
theorem d_M_digest_149 : decode u_M_digest.2.1 149 = .ok (.bipush 8, 2) := by decide +kernel
theorem d_M_digest_151 : decode u_M_digest.2.1 151 = .ok (.if_icmp .ge 24, 3) := by decide +kernel
theorem d_M_digest_154 : decode u_M_digest.2.1 154 = .ok (.ldc2_w 272, 3) := by decide +kernel
theorem d_M_digest_157 : decode u_M_digest.2.1 157 = .ok (.lload_n 1, 1) := by decide +kernel
theorem d_M_digest_158 : decode u_M_digest.2.1 158 = .ok (.lmul, 1) := by decide +kernel
theorem d_M_digest_159 : decode u_M_digest.2.1 159 = .ok (.aload_n 0, 1) := by decide +kernel
theorem d_M_digest_160 : decode u_M_digest.2.1 160 = .ok (.iload_n 3, 1) := by decide +kernel
theorem d_M_digest_161 : decode u_M_digest.2.1 161 = .ok (.iload 4, 2) := by decide +kernel
theorem d_M_digest_163 : decode u_M_digest.2.1 163 = .ok (.invokevirtual 187, 3) := by decide +kernel
theorem d_M_digest_166 : decode u_M_digest.2.1 166 = .ok (.i2l, 1) := by decide +kernel
theorem d_M_digest_167 : decode u_M_digest.2.1 167 = .ok (.ladd, 1) := by decide +kernel
theorem d_M_digest_168 : decode u_M_digest.2.1 168 = .ok (.lstore_n 1, 1) := by decide +kernel
theorem d_M_digest_169 : decode u_M_digest.2.1 169 = .ok (.iinc 4 1, 3) := by decide +kernel
theorem d_M_digest_172 : decode u_M_digest.2.1 172 = .ok (.goto (-25), 3) := by decide +kernel
theorem d_M_digest_175 : decode u_M_digest.2.1 175 = .ok (.iconst 0, 1) := by decide +kernel
theorem d_M_digest_176 : decode u_M_digest.2.1 176 = .ok (.istore 4, 2) := by decide +kernel
theorem d_M_digest_178 : decode u_M_digest.2.1 178 = .ok (.iload 4, 2) := by decide +kernel
theorem d_M_digest_180 : decode u_M_digest.2.1 180 = .ok (.bipush 8, 2) := by decide +kernel
theorem d_M_digest_182 : decode u_M_digest.2.1 182 = .ok (.if_icmp .ge 29, 3) := by decide +kernel
theorem d_M_digest_185 : decode u_M_digest.2.1 185 = .ok (.ldc2_w 272, 3) := by decide +kernel
theorem d_M_digest_188 : decode u_M_digest.2.1 188 = .ok (.lload_n 1, 1) := by decide +kernel
theorem d_M_digest_189 : decode u_M_digest.2.1 189 = .ok (.lmul, 1) := by decide +kernel
theorem d_M_digest_190 : decode u_M_digest.2.1 190 = .ok (.aload_n 0, 1) := by decide +kernel
theorem d_M_digest_191 : decode u_M_digest.2.1 191 = .ok (.getfield 49, 3) := by decide +kernel
theorem d_M_digest_194 : decode u_M_digest.2.1 194 = .ok (.bipush 8, 2) := by decide +kernel
theorem d_M_digest_196 : decode u_M_digest.2.1 196 = .ok (.iload_n 3, 1) := by decide +kernel
theorem d_M_digest_197 : decode u_M_digest.2.1 197 = .ok (.imul, 1) := by decide +kernel
theorem d_M_digest_198 : decode u_M_digest.2.1 198 = .ok (.iload 4, 2) := by decide +kernel
theorem d_M_digest_200 : decode u_M_digest.2.1 200 = .ok (.iadd, 1) := by decide +kernel
theorem d_M_digest_201 : decode u_M_digest.2.1 201 = .ok (.iaload, 1) := by decide +kernel
theorem d_M_digest_202 : decode u_M_digest.2.1 202 = .ok (.i2l, 1) := by decide +kernel
theorem d_M_digest_203 : decode u_M_digest.2.1 203 = .ok (.ladd, 1) := by decide +kernel
theorem d_M_digest_204 : decode u_M_digest.2.1 204 = .ok (.lstore_n 1, 1) := by decide +kernel
theorem d_M_digest_205 : decode u_M_digest.2.1 205 = .ok (.iinc 4 1, 3) := by decide +kernel
theorem d_M_digest_208 : decode u_M_digest.2.1 208 = .ok (.goto (-30), 3) := by decide +kernel
theorem d_M_digest_211 : decode u_M_digest.2.1 211 = .ok (.iinc 3 1, 3) := by decide +kernel
theorem d_M_digest_214 : decode u_M_digest.2.1 214 = .ok (.goto (-78), 3) := by decide +kernel
theorem d_M_digest_217 : decode u_M_digest.2.1 217 = .ok (.iconst 0, 1) := by decide +kernel
theorem d_M_digest_218 : decode u_M_digest.2.1 218 = .ok (.istore_n 3, 1) := by decide +kernel
theorem d_M_digest_219 : decode u_M_digest.2.1 219 = .ok (.iload_n 3, 1) := by decide +kernel
theorem d_M_digest_220 : decode u_M_digest.2.1 220 = .ok (.aload_n 0, 1) := by decide +kernel
theorem d_M_digest_221 : decode u_M_digest.2.1 221 = .ok (.getfield 190, 3) := by decide +kernel
theorem d_M_digest_224 : decode u_M_digest.2.1 224 = .ok (.if_icmp .ge 95, 3) := by decide +kernel
theorem d_M_digest_227 : decode u_M_digest.2.1 227 = .ok (.iconst 0, 1) := by decide +kernel
theorem d_M_digest_228 : decode u_M_digest.2.1 228 = .ok (.istore 4, 2) := by decide +kernel
theorem d_M_digest_230 : decode u_M_digest.2.1 230 = .ok (.iload 4, 2) := by decide +kernel
theorem d_M_digest_232 : decode u_M_digest.2.1 232 = .ok (.bipush 8, 2) := by decide +kernel
theorem d_M_digest_234 : decode u_M_digest.2.1 234 = .ok (.if_icmp .ge 29, 3) := by decide +kernel
theorem d_M_digest_237 : decode u_M_digest.2.1 237 = .ok (.ldc2_w 272, 3) := by decide +kernel
theorem d_M_digest_240 : decode u_M_digest.2.1 240 = .ok (.lload_n 1, 1) := by decide +kernel
theorem d_M_digest_241 : decode u_M_digest.2.1 241 = .ok (.lmul, 1) := by decide +kernel
theorem d_M_digest_242 : decode u_M_digest.2.1 242 = .ok (.aload_n 0, 1) := by decide +kernel
theorem d_M_digest_243 : decode u_M_digest.2.1 243 = .ok (.getfield 58, 3) := by decide +kernel
theorem d_M_digest_246 : decode u_M_digest.2.1 246 = .ok (.bipush 8, 2) := by decide +kernel
theorem d_M_digest_248 : decode u_M_digest.2.1 248 = .ok (.iload_n 3, 1) := by decide +kernel
theorem d_M_digest_249 : decode u_M_digest.2.1 249 = .ok (.imul, 1) := by decide +kernel
theorem d_M_digest_250 : decode u_M_digest.2.1 250 = .ok (.iload 4, 2) := by decide +kernel
theorem d_M_digest_252 : decode u_M_digest.2.1 252 = .ok (.iadd, 1) := by decide +kernel
theorem d_M_digest_253 : decode u_M_digest.2.1 253 = .ok (.iaload, 1) := by decide +kernel
theorem d_M_digest_254 : decode u_M_digest.2.1 254 = .ok (.i2l, 1) := by decide +kernel
theorem d_M_digest_255 : decode u_M_digest.2.1 255 = .ok (.ladd, 1) := by decide +kernel
theorem d_M_digest_256 : decode u_M_digest.2.1 256 = .ok (.lstore_n 1, 1) := by decide +kernel
theorem d_M_digest_257 : decode u_M_digest.2.1 257 = .ok (.iinc 4 1, 3) := by decide +kernel
theorem d_M_digest_260 : decode u_M_digest.2.1 260 = .ok (.goto (-30), 3) := by decide +kernel
theorem d_M_digest_263 : decode u_M_digest.2.1 263 = .ok (.iconst 0, 1) := by decide +kernel
theorem d_M_digest_264 : decode u_M_digest.2.1 264 = .ok (.istore 4, 2) := by decide +kernel
theorem d_M_digest_266 : decode u_M_digest.2.1 266 = .ok (.iload 4, 2) := by decide +kernel
theorem d_M_digest_268 : decode u_M_digest.2.1 268 = .ok (.aload_n 0, 1) := by decide +kernel
theorem d_M_digest_269 : decode u_M_digest.2.1 269 = .ok (.getfield 157, 3) := by decide +kernel
theorem d_M_digest_272 : decode u_M_digest.2.1 272 = .ok (.if_icmp .ge 41, 3) := by decide +kernel
theorem d_M_digest_275 : decode u_M_digest.2.1 275 = .ok (.ldc2_w 272, 3) := by decide +kernel
theorem d_M_digest_278 : decode u_M_digest.2.1 278 = .ok (.lload_n 1, 1) := by decide +kernel
theorem d_M_digest_279 : decode u_M_digest.2.1 279 = .ok (.lmul, 1) := by decide +kernel
theorem d_M_digest_280 : decode u_M_digest.2.1 280 = .ok (.aload_n 0, 1) := by decide +kernel
theorem d_M_digest_281 : decode u_M_digest.2.1 281 = .ok (.iload_n 3, 1) := by decide +kernel
theorem d_M_digest_282 : decode u_M_digest.2.1 282 = .ok (.iload 4, 2) := by decide +kernel
theorem d_M_digest_284 : decode u_M_digest.2.1 284 = .ok (.iconst 0, 1) := by decide +kernel
theorem d_M_digest_285 : decode u_M_digest.2.1 285 = .ok (.invokevirtual 244, 3) := by decide +kernel
theorem d_M_digest_288 : decode u_M_digest.2.1 288 = .ok (.i2l, 1) := by decide +kernel
theorem d_M_digest_289 : decode u_M_digest.2.1 289 = .ok (.ladd, 1) := by decide +kernel
theorem d_M_digest_290 : decode u_M_digest.2.1 290 = .ok (.lstore_n 1, 1) := by decide +kernel
theorem d_M_digest_291 : decode u_M_digest.2.1 291 = .ok (.ldc2_w 272, 3) := by decide +kernel
theorem d_M_digest_294 : decode u_M_digest.2.1 294 = .ok (.lload_n 1, 1) := by decide +kernel
theorem d_M_digest_295 : decode u_M_digest.2.1 295 = .ok (.lmul, 1) := by decide +kernel
theorem d_M_digest_296 : decode u_M_digest.2.1 296 = .ok (.aload_n 0, 1) := by decide +kernel
theorem d_M_digest_297 : decode u_M_digest.2.1 297 = .ok (.iload_n 3, 1) := by decide +kernel
theorem d_M_digest_298 : decode u_M_digest.2.1 298 = .ok (.iload 4, 2) := by decide +kernel
theorem d_M_digest_300 : decode u_M_digest.2.1 300 = .ok (.iconst 1, 1) := by decide +kernel
theorem d_M_digest_301 : decode u_M_digest.2.1 301 = .ok (.invokevirtual 244, 3) := by decide +kernel
theorem d_M_digest_304 : decode u_M_digest.2.1 304 = .ok (.i2l, 1) := by decide +kernel
theorem d_M_digest_305 : decode u_M_digest.2.1 305 = .ok (.ladd, 1) := by decide +kernel
theorem d_M_digest_306 : decode u_M_digest.2.1 306 = .ok (.lstore_n 1, 1) := by decide +kernel
theorem d_M_digest_307 : decode u_M_digest.2.1 307 = .ok (.iinc 4 1, 3) := by decide +kernel
theorem d_M_digest_310 : decode u_M_digest.2.1 310 = .ok (.goto (-44), 3) := by decide +kernel
theorem d_M_digest_313 : decode u_M_digest.2.1 313 = .ok (.iinc 3 1, 3) := by decide +kernel
theorem d_M_digest_316 : decode u_M_digest.2.1 316 = .ok (.goto (-97), 3) := by decide +kernel
theorem d_M_digest_319 : decode u_M_digest.2.1 319 = .ok (.lload_n 1, 1) := by decide +kernel
theorem d_M_digest_320 : decode u_M_digest.2.1 320 = .ok (.lreturn, 1) := by decide +kernel
theorem d_J_bitCount_0 : decode u_J_bitCount.2.1 0 = .ok (.iload_n 0, 1) := by decide +kernel
theorem d_J_bitCount_1 : decode u_J_bitCount.2.1 1 = .ok (.iload_n 0, 1) := by decide +kernel
theorem d_J_bitCount_2 : decode u_J_bitCount.2.1 2 = .ok (.iconst 1, 1) := by decide +kernel
theorem d_J_bitCount_3 : decode u_J_bitCount.2.1 3 = .ok (.iushr, 1) := by decide +kernel
theorem d_J_bitCount_4 : decode u_J_bitCount.2.1 4 = .ok (.ldc_w 265, 3) := by decide +kernel
theorem d_J_bitCount_7 : decode u_J_bitCount.2.1 7 = .ok (.iand, 1) := by decide +kernel
theorem d_J_bitCount_8 : decode u_J_bitCount.2.1 8 = .ok (.isub, 1) := by decide +kernel
theorem d_J_bitCount_9 : decode u_J_bitCount.2.1 9 = .ok (.istore_n 0, 1) := by decide +kernel
theorem d_J_bitCount_10 : decode u_J_bitCount.2.1 10 = .ok (.iload_n 0, 1) := by decide +kernel
theorem d_J_bitCount_11 : decode u_J_bitCount.2.1 11 = .ok (.ldc_w 266, 3) := by decide +kernel
theorem d_J_bitCount_14 : decode u_J_bitCount.2.1 14 = .ok (.iand, 1) := by decide +kernel
theorem d_J_bitCount_15 : decode u_J_bitCount.2.1 15 = .ok (.iload_n 0, 1) := by decide +kernel
theorem d_J_bitCount_16 : decode u_J_bitCount.2.1 16 = .ok (.iconst 2, 1) := by decide +kernel
theorem d_J_bitCount_17 : decode u_J_bitCount.2.1 17 = .ok (.iushr, 1) := by decide +kernel
theorem d_J_bitCount_18 : decode u_J_bitCount.2.1 18 = .ok (.ldc_w 266, 3) := by decide +kernel
theorem d_J_bitCount_21 : decode u_J_bitCount.2.1 21 = .ok (.iand, 1) := by decide +kernel
theorem d_J_bitCount_22 : decode u_J_bitCount.2.1 22 = .ok (.iadd, 1) := by decide +kernel
theorem d_J_bitCount_23 : decode u_J_bitCount.2.1 23 = .ok (.istore_n 0, 1) := by decide +kernel
theorem d_J_bitCount_24 : decode u_J_bitCount.2.1 24 = .ok (.iload_n 0, 1) := by decide +kernel
theorem d_J_bitCount_25 : decode u_J_bitCount.2.1 25 = .ok (.iload_n 0, 1) := by decide +kernel
theorem d_J_bitCount_26 : decode u_J_bitCount.2.1 26 = .ok (.iconst 4, 1) := by decide +kernel
theorem d_J_bitCount_27 : decode u_J_bitCount.2.1 27 = .ok (.iushr, 1) := by decide +kernel
theorem d_J_bitCount_28 : decode u_J_bitCount.2.1 28 = .ok (.iadd, 1) := by decide +kernel
theorem d_J_bitCount_29 : decode u_J_bitCount.2.1 29 = .ok (.ldc_w 267, 3) := by decide +kernel
theorem d_J_bitCount_32 : decode u_J_bitCount.2.1 32 = .ok (.iand, 1) := by decide +kernel
theorem d_J_bitCount_33 : decode u_J_bitCount.2.1 33 = .ok (.istore_n 0, 1) := by decide +kernel
theorem d_J_bitCount_34 : decode u_J_bitCount.2.1 34 = .ok (.iload_n 0, 1) := by decide +kernel
theorem d_J_bitCount_35 : decode u_J_bitCount.2.1 35 = .ok (.iload_n 0, 1) := by decide +kernel
theorem d_J_bitCount_36 : decode u_J_bitCount.2.1 36 = .ok (.bipush 8, 2) := by decide +kernel
theorem d_J_bitCount_38 : decode u_J_bitCount.2.1 38 = .ok (.iushr, 1) := by decide +kernel
theorem d_J_bitCount_39 : decode u_J_bitCount.2.1 39 = .ok (.iadd, 1) := by decide +kernel
theorem d_J_bitCount_40 : decode u_J_bitCount.2.1 40 = .ok (.istore_n 0, 1) := by decide +kernel
theorem d_J_bitCount_41 : decode u_J_bitCount.2.1 41 = .ok (.iload_n 0, 1) := by decide +kernel
theorem d_J_bitCount_42 : decode u_J_bitCount.2.1 42 = .ok (.iload_n 0, 1) := by decide +kernel
theorem d_J_bitCount_43 : decode u_J_bitCount.2.1 43 = .ok (.bipush 16, 2) := by decide +kernel
theorem d_J_bitCount_45 : decode u_J_bitCount.2.1 45 = .ok (.iushr, 1) := by decide +kernel
theorem d_J_bitCount_46 : decode u_J_bitCount.2.1 46 = .ok (.iadd, 1) := by decide +kernel
theorem d_J_bitCount_47 : decode u_J_bitCount.2.1 47 = .ok (.istore_n 0, 1) := by decide +kernel
theorem d_J_bitCount_48 : decode u_J_bitCount.2.1 48 = .ok (.iload_n 0, 1) := by decide +kernel
theorem d_J_bitCount_49 : decode u_J_bitCount.2.1 49 = .ok (.bipush 63, 2) := by decide +kernel
theorem d_J_bitCount_51 : decode u_J_bitCount.2.1 51 = .ok (.iand, 1) := by decide +kernel
theorem d_J_bitCount_52 : decode u_J_bitCount.2.1 52 = .ok (.ireturn, 1) := by decide +kernel
theorem d_J_abs_I_0 : decode u_J_abs_I.2.1 0 = .ok (.iload_n 0, 1) := by decide +kernel
theorem d_J_abs_I_1 : decode u_J_abs_I.2.1 1 = .ok (.ifCond .ge 8, 3) := by decide +kernel
theorem d_J_abs_I_4 : decode u_J_abs_I.2.1 4 = .ok (.iload_n 0, 1) := by decide +kernel
theorem d_J_abs_I_5 : decode u_J_abs_I.2.1 5 = .ok (.ineg, 1) := by decide +kernel
theorem d_J_abs_I_6 : decode u_J_abs_I.2.1 6 = .ok (.goto 4, 3) := by decide +kernel
theorem d_J_abs_I_9 : decode u_J_abs_I.2.1 9 = .ok (.iload_n 0, 1) := by decide +kernel
theorem d_J_abs_I_10 : decode u_J_abs_I.2.1 10 = .ok (.ireturn, 1) := by decide +kernel
theorem d_J_abs_J_0 : decode u_J_abs_J.2.1 0 = .ok (.lload_n 0, 1) := by decide +kernel
theorem d_J_abs_J_1 : decode u_J_abs_J.2.1 1 = .ok (.lconst 0, 1) := by decide +kernel
theorem d_J_abs_J_2 : decode u_J_abs_J.2.1 2 = .ok (.lcmp, 1) := by decide +kernel
theorem d_J_abs_J_3 : decode u_J_abs_J.2.1 3 = .ok (.ifCond .ge 8, 3) := by decide +kernel
theorem d_J_abs_J_6 : decode u_J_abs_J.2.1 6 = .ok (.lload_n 0, 1) := by decide +kernel
theorem d_J_abs_J_7 : decode u_J_abs_J.2.1 7 = .ok (.lneg, 1) := by decide +kernel
theorem d_J_abs_J_8 : decode u_J_abs_J.2.1 8 = .ok (.goto 4, 3) := by decide +kernel
theorem d_J_abs_J_11 : decode u_J_abs_J.2.1 11 = .ok (.lload_n 0, 1) := by decide +kernel
theorem d_J_abs_J_12 : decode u_J_abs_J.2.1 12 = .ok (.lreturn, 1) := by decide +kernel
theorem d_J_max_II_0 : decode u_J_max_II.2.1 0 = .ok (.iload_n 0, 1) := by decide +kernel
theorem d_J_max_II_1 : decode u_J_max_II.2.1 1 = .ok (.iload_n 1, 1) := by decide +kernel
theorem d_J_max_II_2 : decode u_J_max_II.2.1 2 = .ok (.if_icmp .lt 7, 3) := by decide +kernel
theorem d_J_max_II_5 : decode u_J_max_II.2.1 5 = .ok (.iload_n 0, 1) := by decide +kernel
theorem d_J_max_II_6 : decode u_J_max_II.2.1 6 = .ok (.goto 4, 3) := by decide +kernel
theorem d_J_max_II_9 : decode u_J_max_II.2.1 9 = .ok (.iload_n 1, 1) := by decide +kernel
theorem d_J_max_II_10 : decode u_J_max_II.2.1 10 = .ok (.ireturn, 1) := by decide +kernel
theorem d_J_max_JJ_0 : decode u_J_max_JJ.2.1 0 = .ok (.lload_n 0, 1) := by decide +kernel
theorem d_J_max_JJ_1 : decode u_J_max_JJ.2.1 1 = .ok (.lload_n 2, 1) := by decide +kernel
theorem d_J_max_JJ_2 : decode u_J_max_JJ.2.1 2 = .ok (.lcmp, 1) := by decide +kernel
theorem d_J_max_JJ_3 : decode u_J_max_JJ.2.1 3 = .ok (.ifCond .lt 7, 3) := by decide +kernel
theorem d_J_max_JJ_6 : decode u_J_max_JJ.2.1 6 = .ok (.lload_n 0, 1) := by decide +kernel
theorem d_J_max_JJ_7 : decode u_J_max_JJ.2.1 7 = .ok (.goto 4, 3) := by decide +kernel
theorem d_J_max_JJ_10 : decode u_J_max_JJ.2.1 10 = .ok (.lload_n 2, 1) := by decide +kernel
theorem d_J_max_JJ_11 : decode u_J_max_JJ.2.1 11 = .ok (.lreturn, 1) := by decide +kernel
theorem d_J_min_0 : decode u_J_min.2.1 0 = .ok (.iload_n 0, 1) := by decide +kernel
theorem d_J_min_1 : decode u_J_min.2.1 1 = .ok (.iload_n 1, 1) := by decide +kernel
theorem d_J_min_2 : decode u_J_min.2.1 2 = .ok (.if_icmp .gt 7, 3) := by decide +kernel
theorem d_J_min_5 : decode u_J_min.2.1 5 = .ok (.iload_n 0, 1) := by decide +kernel
theorem d_J_min_6 : decode u_J_min.2.1 6 = .ok (.goto 4, 3) := by decide +kernel
theorem d_J_min_9 : decode u_J_min.2.1 9 = .ok (.iload_n 1, 1) := by decide +kernel
theorem d_J_min_10 : decode u_J_min.2.1 10 = .ok (.ireturn, 1) := by decide +kernel
theorem d_J_fill_0 : decode u_J_fill.2.1 0 = .ok (.iconst 0, 1) := by decide +kernel
theorem d_J_fill_1 : decode u_J_fill.2.1 1 = .ok (.istore_n 2, 1) := by decide +kernel
theorem d_J_fill_2 : decode u_J_fill.2.1 2 = .ok (.aload_n 0, 1) := by decide +kernel
theorem d_J_fill_3 : decode u_J_fill.2.1 3 = .ok (.arraylength, 1) := by decide +kernel
theorem d_J_fill_4 : decode u_J_fill.2.1 4 = .ok (.istore_n 3, 1) := by decide +kernel
theorem d_J_fill_5 : decode u_J_fill.2.1 5 = .ok (.iload_n 2, 1) := by decide +kernel
theorem d_J_fill_6 : decode u_J_fill.2.1 6 = .ok (.iload_n 3, 1) := by decide +kernel
theorem d_J_fill_7 : decode u_J_fill.2.1 7 = .ok (.if_icmp .ge 13, 3) := by decide +kernel
theorem d_J_fill_10 : decode u_J_fill.2.1 10 = .ok (.aload_n 0, 1) := by decide +kernel
theorem d_J_fill_11 : decode u_J_fill.2.1 11 = .ok (.iload_n 2, 1) := by decide +kernel
theorem d_J_fill_12 : decode u_J_fill.2.1 12 = .ok (.iload_n 1, 1) := by decide +kernel
theorem d_J_fill_13 : decode u_J_fill.2.1 13 = .ok (.iastore, 1) := by decide +kernel
theorem d_J_fill_14 : decode u_J_fill.2.1 14 = .ok (.iinc 2 1, 3) := by decide +kernel
theorem d_J_fill_17 : decode u_J_fill.2.1 17 = .ok (.goto (-12), 3) := by decide +kernel
theorem d_J_fill_20 : decode u_J_fill.2.1 20 = .ok (.return_, 1) := by decide +kernel
end
section
/-! ===== rows for pure calls, for numbers that are Nat, for truth values ===== -/
def b2 (b : Bool) : Int32 := if b then 1 else 0
theorem b2_01 (b : Bool) : b2 b = 0 ∨ b2 b = 1 := by cases b <;> simp [b2]
def pI (e : Int32) (M : Mem) : Option Value → Mem → Prop := retI (fun r M' => r = e ∧ M' = M)
def pJ (e : Int64) (M : Mem) : Option Value → Mem → Prop := retJ (fun r M' => r = e ∧ M' = M)
section CWMORE
variable {u : MI} {post : Option Value → Mem → Prop} {pc : Nat} {L : List (Option Value)} {st : List Value} {M : Mem}
theorem cw_cast {L' : List (Option Value)} {st' : List Value} {M' : Mem} (h1 : L = L') (h2 : st = st') (h3 : M = M') (k : CW u post pc L' st' M') : CW u post pc L st M := by
  subst h1; subst h2; subst h3
  exact k
theorem cw_mem {M' : Mem} (h3 : M = M') (k : CW u post pc L st M') : CW u post pc L st M := by
  subst h3
  exact k
theorem cw_top {x y : Int32} (h : x = y) (k : CW u post pc L (.int y :: st) M) : CW u post pc L (.int x :: st) M := by
  subst h
  exact k
theorem cw_topJ {x y : Int64} (h : x = y) (k : CW u post pc L (.long y :: st) M) : CW u post pc L (.long x :: st) M := by
  subst h
  exact k
theorem cw_pc {q : Nat} (h : pc = q) (k : CW u post q L st M) : CW u post pc L st M := by
  subst h
  exact k
theorem cw_staticP {u' : MI} {i : Nat} {As st0 : List Value} {x : Int32} (hcs : CS u' As M (pI x M)) (hst : st0 = As.reverse ++ st) (hw : SL u.1.cls i u' As.length) (hf : uFit u u' = true) (hsum : Nat.ble ((st.map fun v => v.category).sum) 8 = true) (hd : decode u.2.1 pc = .ok (.invokestatic i, 3)) (k : CW u post (pc + 3) L (.int x :: st) M) : CW u post pc L st0 M := by
  refine cw_static hw hcs hst hf hsum hd ?_
  rintro v M' ⟨r, rfl, rfl, rfl⟩
  exact k
theorem cw_staticPJ {u' : MI} {i : Nat} {As st0 : List Value} {x : Int64} (hcs : CS u' As M (pJ x M)) (hst : st0 = As.reverse ++ st) (hw : SL u.1.cls i u' As.length) (hf : uFit u u' = true) (hsum : Nat.ble ((st.map fun v => v.category).sum) 8 = true) (hd : decode u.2.1 pc = .ok (.invokestatic i, 3)) (k : CW u post (pc + 3) L (.long x :: st) M) : CW u post pc L st0 M := by
  refine cw_static hw hcs hst hf hsum hd ?_
  rintro v M' ⟨r, rfl, rfl, rfl⟩
  exact k
theorem cw_staticI {u' : MI} {i : Nat} {As st0 : List Value} {Q : Int32 → Mem → Prop} (hcs : CS u' As M (retI Q)) (hst : st0 = As.reverse ++ st) (hw : SL u.1.cls i u' As.length) (hf : uFit u u' = true) (hsum : Nat.ble ((st.map fun v => v.category).sum) 8 = true) (hd : decode u.2.1 pc = .ok (.invokestatic i, 3)) (k : ∀ (r : Int32) (M' : Mem), Q r M' → CW u post (pc + 3) L (.int r :: st) M') : CW u post pc L st0 M := by
  refine cw_static hw hcs hst hf hsum hd ?_
  rintro v M' ⟨r, rfl, h⟩
  exact k r M' h
theorem cw_staticV {u' : MI} {i : Nat} {As st0 : List Value} {Q : Mem → Prop} (hcs : CS u' As M (retV Q)) (hst : st0 = As.reverse ++ st) (hw : SL u.1.cls i u' As.length) (hf : uFit u u' = true) (hsum : Nat.ble ((st.map fun v => v.category).sum) 8 = true) (hd : decode u.2.1 pc = .ok (.invokestatic i, 3)) (k : ∀ (M' : Mem), Q M' → CW u post (pc + 3) L st M') : CW u post pc L st0 M := by
  refine cw_static hw hcs hst hf hsum hd ?_
  rintro v M' ⟨rfl, h⟩
  exact k M' h
theorem cw_virtP {u' : MI} {i a ci : Nat} {fs : List Fk} {As st0 : List Value} {x : Int32} (hcs : CS u' (.ref a :: As) M (pI x M)) (hst : st0 = As.reverse ++ .ref a :: st) (hw : VL u.1.cls i ci u' As.length) (hs : SO a ci fs) (hf : uFit u u' = true) (hsum : Nat.ble ((st.map fun v => v.category).sum) 8 = true) (hd : decode u.2.1 pc = .ok (.invokevirtual i, 3)) (k : CW u post (pc + 3) L (.int x :: st) M) : CW u post pc L st0 M := by
  refine cw_virt hw hcs hs hst hf hsum hd ?_
  rintro v M' ⟨r, rfl, rfl, rfl⟩
  exact k
theorem cw_virtPJ {u' : MI} {i a ci : Nat} {fs : List Fk} {As st0 : List Value} {x : Int64} (hcs : CS u' (.ref a :: As) M (pJ x M)) (hst : st0 = As.reverse ++ .ref a :: st) (hw : VL u.1.cls i ci u' As.length) (hs : SO a ci fs) (hf : uFit u u' = true) (hsum : Nat.ble ((st.map fun v => v.category).sum) 8 = true) (hd : decode u.2.1 pc = .ok (.invokevirtual i, 3)) (k : CW u post (pc + 3) L (.long x :: st) M) : CW u post pc L st0 M := by
  refine cw_virt hw hcs hs hst hf hsum hd ?_
  rintro v M' ⟨r, rfl, rfl, rfl⟩
  exact k
theorem cw_virtI {u' : MI} {i a ci : Nat} {fs : List Fk} {As st0 : List Value} {Q : Int32 → Mem → Prop} (hcs : CS u' (.ref a :: As) M (retI Q)) (hst : st0 = As.reverse ++ .ref a :: st) (hw : VL u.1.cls i ci u' As.length) (hs : SO a ci fs) (hf : uFit u u' = true) (hsum : Nat.ble ((st.map fun v => v.category).sum) 8 = true) (hd : decode u.2.1 pc = .ok (.invokevirtual i, 3)) (k : ∀ (r : Int32) (M' : Mem), Q r M' → CW u post (pc + 3) L (.int r :: st) M') : CW u post pc L st0 M := by
  refine cw_virt hw hcs hs hst hf hsum hd ?_
  rintro v M' ⟨r, rfl, h⟩
  exact k r M' h
theorem cw_virtJ {u' : MI} {i a ci : Nat} {fs : List Fk} {As st0 : List Value} {Q : Int64 → Mem → Prop} (hcs : CS u' (.ref a :: As) M (retJ Q)) (hst : st0 = As.reverse ++ .ref a :: st) (hw : VL u.1.cls i ci u' As.length) (hs : SO a ci fs) (hf : uFit u u' = true) (hsum : Nat.ble ((st.map fun v => v.category).sum) 8 = true) (hd : decode u.2.1 pc = .ok (.invokevirtual i, 3)) (k : ∀ (r : Int64) (M' : Mem), Q r M' → CW u post (pc + 3) L (.long r :: st) M') : CW u post pc L st0 M := by
  refine cw_virt hw hcs hs hst hf hsum hd ?_
  rintro v M' ⟨r, rfl, h⟩
  exact k r M' h
theorem cw_virtV {u' : MI} {i a ci : Nat} {fs : List Fk} {As st0 : List Value} {Q : Mem → Prop} (hcs : CS u' (.ref a :: As) M (retV Q)) (hst : st0 = As.reverse ++ .ref a :: st) (hw : VL u.1.cls i ci u' As.length) (hs : SO a ci fs) (hf : uFit u u' = true) (hsum : Nat.ble ((st.map fun v => v.category).sum) 8 = true) (hd : decode u.2.1 pc = .ok (.invokevirtual i, 3)) (k : ∀ (M' : Mem), Q M' → CW u post (pc + 3) L st M') : CW u post pc L st0 M := by
  refine cw_virt hw hcs hs hst hf hsum hd ?_
  rintro v M' ⟨rfl, h⟩
  exact k M' h
theorem cw_nestP {u' : MI} {As st0 : List Value} {x : Int32} (hcs : CS u' As M (pI x M)) (hst : st0 = As.reverse ++ st) (hw : u.1.cls = "UnlikeDrawn$Hand" ∧ u'.1 = ⟨"UnlikeDrawn", "isPart", "(I)Z"⟩ ∧ Cond.static u'.1 ∈ gt ∧ Cond.initialized u'.1.cls ∈ gt ∧ Cond.code u'.1 u'.2.1 u'.2.2.1 u'.2.2.2.1 ∈ gt) (hn : As.length = 1) (hf : uFit u u' = true) (hsum : Nat.ble ((st.map fun v => v.category).sum) 8 = true) (hd : decode u.2.1 pc = .ok (.invokestatic 52, 3)) (k : CW u post (pc + 3) L (.int x :: st) M) : CW u post pc L st0 M := by
  refine cw_nest hw hn hcs hst hf hsum hd ?_
  rintro v M' ⟨r, rfl, rfl, rfl⟩
  exact k
theorem cw_bif_eq {b : Bool} {off : Int} (tgt : Nat) (hd : decode u.2.1 pc = .ok (.ifCond .eq off, 3)) (ht : (pc : Int) + off = (tgt : Int)) (kt : b = false → CW u post tgt L st M) (kf : b = true → CW u post (pc + 3) L st M) : CW u post pc L (.int (b2 b) :: st) M := by
  refine cw_if_eq tgt hd ht (fun h => kt ?_) (fun h => kf ?_) <;> cases b <;> simp_all [b2]
theorem cw_bif_ne {b : Bool} {off : Int} (tgt : Nat) (hd : decode u.2.1 pc = .ok (.ifCond .ne off, 3)) (ht : (pc : Int) + off = (tgt : Int)) (kt : b = true → CW u post tgt L st M) (kf : b = false → CW u post (pc + 3) L st M) : CW u post pc L (.int (b2 b) :: st) M := by
  refine cw_if_ne tgt hd ht (fun h => kt ?_) (fun h => kf ?_) <;> cases b <;> simp_all [b2]
theorem cw_icmp_geN {x y : Int32} {off : Int} (i n : Nat) (tgt : Nat) (hx : x = nI i) (hy : y = nI n) (hb : i < 2 ^ 31 ∧ n < 2 ^ 31) (hd : decode u.2.1 pc = .ok (.if_icmp .ge off, 3)) (ht : (pc : Int) + off = (tgt : Int)) (kt : n ≤ i → CW u post tgt L st M) (kf : i < n → CW u post (pc + 3) L st M) : CW u post pc L (.int y :: .int x :: st) M := by
  subst hx; subst hy
  exact cw_icmp_ge tgt hd ht (fun h => kt ((nI_leI hb.2 hb.1).mp h)) (fun h => kf (Nat.lt_of_not_le fun q => h ((nI_leI hb.2 hb.1).mpr q)))
theorem cw_icmp_gtN {x y : Int32} {off : Int} (i n : Nat) (tgt : Nat) (hx : x = nI i) (hy : y = nI n) (hb : i < 2 ^ 31 ∧ n < 2 ^ 31) (hd : decode u.2.1 pc = .ok (.if_icmp .gt off, 3)) (ht : (pc : Int) + off = (tgt : Int)) (kt : n < i → CW u post tgt L st M) (kf : i ≤ n → CW u post (pc + 3) L st M) : CW u post pc L (.int y :: .int x :: st) M := by
  subst hx; subst hy
  exact cw_icmp_gt tgt hd ht (fun h => kt ((nI_ltI hb.2 hb.1).mp h)) (fun h => kf (Nat.le_of_not_lt fun q => h ((nI_ltI hb.2 hb.1).mpr q)))
theorem cw_icmp_neN {x y : Int32} {off : Int} (i n : Nat) (tgt : Nat) (hx : x = nI i) (hy : y = nI n) (hb : i < 2 ^ 31 ∧ n < 2 ^ 31) (hd : decode u.2.1 pc = .ok (.if_icmp .ne off, 3)) (ht : (pc : Int) + off = (tgt : Int)) (kt : i ≠ n → CW u post tgt L st M) (kf : i = n → CW u post (pc + 3) L st M) : CW u post pc L (.int y :: .int x :: st) M := by
  subst hx; subst hy
  exact cw_icmp_ne tgt hd ht (fun h => kt (fun q => h ((nI_eq hb.1 hb.2).mpr q))) (fun h => kf ((nI_eq hb.1 hb.2).mp h))
theorem cw_icmp_eqN {x y : Int32} {off : Int} (i n : Nat) (tgt : Nat) (hx : x = nI i) (hy : y = nI n) (hb : i < 2 ^ 31 ∧ n < 2 ^ 31) (hd : decode u.2.1 pc = .ok (.if_icmp .eq off, 3)) (ht : (pc : Int) + off = (tgt : Int)) (kt : i = n → CW u post tgt L st M) (kf : i ≠ n → CW u post (pc + 3) L st M) : CW u post pc L (.int y :: .int x :: st) M := by
  subst hx; subst hy
  exact cw_icmp_eq tgt hd ht (fun h => kt ((nI_eq hb.1 hb.2).mp h)) (fun h => kf (fun q => h ((nI_eq hb.1 hb.2).mpr q)))
theorem cw_iincN {i x : Nat} (hd : decode u.2.1 pc = .ok (.iinc i 1, 3)) (hl : lget L i = some (.int (nI x))) (hn : Nat.ble (i + 1) u.2.2.1 = true) (k : CW u post (pc + 3) (lset1 L i (.int (nI (x + 1)))) st M) : CW u post pc L st M := by
  refine cw_iinc hd hl hn ?_
  have e : nI x + Int32.ofInt 1 = nI (x + 1) := nI_1 x
  rw [e]
  exact k
end CWMORE
theorem up_ind {n : Nat} {C : Nat → Prop} (h : ∀ i, i ≤ n → (i < n → C (i + 1)) → C i) : ∀ i, i ≤ n → C i := by
  intro i hi
  obtain ⟨d, hd⟩ : ∃ d, n - i = d := ⟨_, rfl⟩
  induction d generalizing i with
  | zero => exact h i hi (fun q => by omega)
  | succ d ih => exact h i hi (fun q => ih (i + 1) (by omega) (by omega))
/-! ===== shapes ===== -/
theorem so_C : SO 0 6 [.inl 1, .inl 2, .inl 3, .inl 4, .inl 5, fI, fI, fI, fI, fI, fI, fI, .inl 130, .inl 6, .inl 7, .inl 8, .inl 9] := ⟨rfl, by decide +kernel⟩
theorem so_M : SO 1000 7 [.inl 1001, .inl 1002, .inl 1003, .inl 1004, fI, fI, .inl 1007, .inl 1008, .inl 1009, fI, .inl 1011, .inl 1012, fI, .inl 1014, .inl 1015, .inl 1016, .inl 1017, .inl 1018, .inl 1019, fI, .inl 1021, .inl 1022, .inl 1023, fI, fJ, fJ, .inl 1027] := ⟨rfl, by decide +kernel⟩
theorem so_fr : SO 8 0 [fJ, fJ] := ⟨rfl, by decide +kernel⟩
theorem so_gr : SO 9 0 [fJ, fJ] := ⟨rfl, by decide +kernel⟩
theorem sr_1 : SR 1 1 8 (fun i => 10 + i) := ⟨rfl, by decide +kernel, by decide, by decide⟩
theorem sr_2 : SR 2 2 4 (fun i => 30 + i) := ⟨rfl, by decide +kernel, by decide, by decide⟩
theorem sr_3 : SR 3 3 30 (fun i => 100 + i) := ⟨rfl, by decide +kernel, by decide, by decide⟩
theorem sr_4 : SR 4 4 4 (fun i => 60 + i) := ⟨rfl, by decide +kernel, by decide, by decide⟩
theorem sr_5 : SR 5 5 4 (fun i => 80 + i) := ⟨rfl, by decide +kernel, by decide, by decide⟩
theorem sa_6 : SA 6 8 := ⟨rfl, by decide +kernel⟩
theorem sa_7 : SA 7 8 := ⟨rfl, by decide +kernel⟩
theorem so_He {h : Nat} (hh : h < 8) : SO (10 + h) 2 [.inl (20 + h)] := by
  refine ⟨?_, (by decide +kernel : ∀ h, h < 8 → 10 + h ∈ uIds) h hh⟩
  have e : 10 + h + 10 = 20 + h := by omega
  simp [uSh, e, show ¬ 10 + h < 10 by omega, show 10 + h < 20 by omega]
theorem sa_pl {h : Nat} (hh : h < 8) : SA (20 + h) 8 := by
  refine ⟨?_, (by decide +kernel : ∀ h, h < 8 → 20 + h ∈ uIds) h hh⟩
  simp [uSh, show ¬ 20 + h < 10 by omega, show ¬ 20 + h < 20 by omega, show 20 + h < 30 by omega]
theorem so_Ha {h : Nat} (hh : h < 4) : SO (30 + h) 1 [.inl (40 + h), .inl (50 + h), fI, fI] := by
  refine ⟨?_, (by decide +kernel : ∀ h, h < 4 → 30 + h ∈ uIds) h hh⟩
  have e : 30 + h + 10 = 40 + h := by omega
  have e2 : 30 + h + 20 = 50 + h := by omega
  simp [uSh, e, e2, show ¬ 30 + h < 10 by omega, show ¬ 30 + h < 20 by omega, show ¬ 30 + h < 30 by omega, show 30 + h < 40 by omega]
theorem sa_tx {h : Nat} (hh : h < 4) : SA (40 + h) 40 := by
  refine ⟨?_, (by decide +kernel : ∀ h, h < 4 → 40 + h ∈ uIds) h hh⟩
  simp [uSh, show ¬ 40 + h < 10 by omega, show ¬ 40 + h < 20 by omega, show ¬ 40 + h < 30 by omega, show ¬ 40 + h < 40 by omega, show 40 + h < 50 by omega]
theorem sa_tn {h : Nat} (hh : h < 4) : SA (50 + h) 8 := by
  refine ⟨?_, (by decide +kernel : ∀ h, h < 4 → 50 + h ∈ uIds) h hh⟩
  simp [uSh, show ¬ 50 + h < 10 by omega, show ¬ 50 + h < 20 by omega, show ¬ 50 + h < 30 by omega, show ¬ 50 + h < 40 by omega, show ¬ 50 + h < 50 by omega, show 50 + h < 60 by omega]
theorem so_Kn {h : Nat} (hh : h < 4) : SO (60 + h) 3 [.inl (70 + h), fI] := by
  refine ⟨?_, (by decide +kernel : ∀ h, h < 4 → 60 + h ∈ uIds) h hh⟩
  have e : 60 + h + 10 = 70 + h := by omega
  simp [uSh, e, show ¬ 60 + h < 10 by omega, show ¬ 60 + h < 20 by omega, show ¬ 60 + h < 30 by omega, show ¬ 60 + h < 40 by omega, show ¬ 60 + h < 50 by omega, show ¬ 60 + h < 60 by omega, show 60 + h < 70 by omega]
theorem sa_km {h : Nat} (hh : h < 4) : SA (70 + h) 8 := by
  refine ⟨?_, (by decide +kernel : ∀ h, h < 4 → 70 + h ∈ uIds) h hh⟩
  simp [uSh, show ¬ 70 + h < 10 by omega, show ¬ 70 + h < 20 by omega, show ¬ 70 + h < 30 by omega, show ¬ 70 + h < 40 by omega, show ¬ 70 + h < 50 by omega, show ¬ 70 + h < 60 by omega, show ¬ 70 + h < 70 by omega, show 70 + h < 80 by omega]
theorem so_Sh {h : Nat} (hh : h < 4) : SO (80 + h) 4 [.inl (90 + h), fI, fI] := by
  refine ⟨?_, (by decide +kernel : ∀ h, h < 4 → 80 + h ∈ uIds) h hh⟩
  have e : 80 + h + 10 = 90 + h := by omega
  simp [uSh, e, show ¬ 80 + h < 10 by omega, show ¬ 80 + h < 20 by omega, show ¬ 80 + h < 30 by omega, show ¬ 80 + h < 40 by omega, show ¬ 80 + h < 50 by omega, show ¬ 80 + h < 60 by omega, show ¬ 80 + h < 70 by omega, show ¬ 80 + h < 80 by omega, show 80 + h < 90 by omega]
theorem sa_it {h : Nat} (hh : h < 4) : SA (90 + h) 60 := by
  refine ⟨?_, (by decide +kernel : ∀ h, h < 4 → 90 + h ∈ uIds) h hh⟩
  simp [uSh, show ¬ 90 + h < 10 by omega, show ¬ 90 + h < 20 by omega, show ¬ 90 + h < 30 by omega, show ¬ 90 + h < 40 by omega, show ¬ 90 + h < 50 by omega, show ¬ 90 + h < 60 by omega, show ¬ 90 + h < 70 by omega, show ¬ 90 + h < 80 by omega, show ¬ 90 + h < 90 by omega, show 90 + h < 100 by omega]
theorem uSh_big {k : Nat} (h : 100 ≤ k) : uSh k = if k < 200 then .inr (.inr (5, [.inl (k + 100), .inl (k + 200), fI, fI, fI, fI])) else if k < 400 then .inl 8 else shM k := by
  simp [uSh, show ¬ k < 10 by omega, show ¬ k < 20 by omega, show ¬ k < 30 by omega, show ¬ k < 40 by omega, show ¬ k < 50 by omega, show ¬ k < 60 by omega, show ¬ k < 70 by omega, show ¬ k < 80 by omega, show ¬ k < 90 by omega, show ¬ k < 100 by omega]
theorem so_Sk {d : Nat} (hd : d < 31) : SO (100 + d) 5 [.inl (200 + d), .inl (300 + d), fI, fI, fI, fI] := by
  refine ⟨?_, (by decide +kernel : ∀ h, h < 31 → 100 + h ∈ uIds) d hd⟩
  have e : 100 + d + 100 = 200 + d := by omega
  have e2 : 100 + d + 200 = 300 + d := by omega
  rw [uSh_big (by omega), if_pos (by omega), e, e2]
theorem sa_ba {d : Nat} (hd : d < 31) : SA (200 + d) 8 := by
  refine ⟨?_, (by decide +kernel : ∀ h, h < 31 → 200 + h ∈ uIds) d hd⟩
  rw [uSh_big (by omega), if_neg (by omega), if_pos (by omega)]
theorem sa_li {d : Nat} (hd : d < 31) : SA (300 + d) 8 := by
  refine ⟨?_, (by decide +kernel : ∀ h, h < 31 → 300 + h ∈ uIds) d hd⟩
  rw [uSh_big (by omega), if_neg (by omega), if_pos (by omega)]
theorem so_tr : SO 130 5 [.inl 230, .inl 330, fI, fI, fI, fI] := so_Sk (d := 30) (by decide)
theorem sa_tb : SA 230 8 := sa_ba (d := 30) (by decide)
theorem sa_tl : SA 330 8 := sa_li (d := 30) (by decide)
theorem sm_forms : SA 1001 4 := ⟨rfl, by decide +kernel⟩
theorem sm_sizes : SA 1002 4 := ⟨rfl, by decide +kernel⟩
theorem sm_items : SA 1003 240 := ⟨rfl, by decide +kernel⟩
theorem sm_moved : SA 1004 60 := ⟨rfl, by decide +kernel⟩
theorem sm_places : SA 1007 64 := ⟨rfl, by decide +kernel⟩
theorem sm_text : SA 1008 160 := ⟨rfl, by decide +kernel⟩
theorem sm_typed : SA 1009 4 := ⟨rfl, by decide +kernel⟩
theorem sm_tenthsOf : SA 1011 8 := ⟨rfl, by decide +kernel⟩
theorem sm_settings : SA 1012 3 := ⟨rfl, by decide +kernel⟩
theorem sm_drawnHead : SA 1014 30 := ⟨rfl, by decide +kernel⟩
theorem sm_drawnYear : SA 1015 30 := ⟨rfl, by decide +kernel⟩
theorem sm_drawnKind : SA 1016 30 := ⟨rfl, by decide +kernel⟩
theorem sm_copiedFrom : SA 1017 30 := ⟨rfl, by decide +kernel⟩
theorem sm_lines : SA 1018 240 := ⟨rfl, by decide +kernel⟩
theorem sm_means : SA 1019 240 := ⟨rfl, by decide +kernel⟩
theorem sm_knows : SA 1021 4 := ⟨rfl, by decide +kernel⟩
theorem sm_own : SA 1022 32 := ⟨rfl, by decide +kernel⟩
theorem sm_seen : SA 1023 8 := ⟨rfl, by decide +kernel⟩
theorem sm_off : SA 1027 8 := ⟨rfl, by decide +kernel⟩
section CWTERN
variable {u : MI} {post : Option Value → Mem → Prop} {pc : Nat} {L : List (Option Value)} {st : List Value} {M : Mem}
theorem cw_tern0 (q : Nat) (e : Int32) (J : CW u post q L (.int e :: st) M) (h : (∀ x : Int32, x = e → CW u post q L (.int x :: st) M) → CW u post pc L st M) : CW u post pc L st M := h (fun x hx => hx ▸ J)
theorem cw_tern1 {c : Int32} (q : Nat) (e : Int32) (J : CW u post q L (.int e :: st) M) (h : (∀ x : Int32, x = e → CW u post q L (.int x :: st) M) → CW u post pc L (.int c :: st) M) : CW u post pc L (.int c :: st) M := h (fun x hx => hx ▸ J)
theorem cw_tern2 {c d : Int32} (q : Nat) (e : Int32) (J : CW u post q L (.int e :: st) M) (h : (∀ x : Int32, x = e → CW u post q L (.int x :: st) M) → CW u post pc L (.int c :: .int d :: st) M) : CW u post pc L (.int c :: .int d :: st) M := h (fun x hx => hx ▸ J)
theorem cw_tern0J (q : Nat) (e : Int64) (J : CW u post q L (.long e :: st) M) (h : (∀ x : Int64, x = e → CW u post q L (.long x :: st) M) → CW u post pc L st M) : CW u post pc L st M := h (fun x hx => hx ▸ J)
theorem cw_tern1J {c : Int32} (q : Nat) (e : Int64) (J : CW u post q L (.long e :: st) M) (h : (∀ x : Int64, x = e → CW u post q L (.long x :: st) M) → CW u post pc L (.int c :: st) M) : CW u post pc L (.int c :: st) M := h (fun x hx => hx ▸ J)
theorem cw_tern2J {c d : Int32} (q : Nat) (e : Int64) (J : CW u post q L (.long e :: st) M) (h : (∀ x : Int64, x = e → CW u post q L (.long x :: st) M) → CW u post pc L (.int c :: .int d :: st) M) : CW u post pc L (.int c :: .int d :: st) M := h (fun x hx => hx ▸ J)
end CWTERN
/-! ===== numbers ===== -/
theorem nAdd {x y : Int32} {a b : Nat} (hx : x = nI a) (hy : y = nI b) : x + y = nI (a + b) := by rw [hx, hy, nI_add]
theorem nMul {x y : Int32} {a b : Nat} (hx : x = nI a) (hy : y = nI b) : x * y = nI (a * b) := by rw [hx, hy, pk_mul]
theorem nSub {x y : Int32} {a b : Nat} (hx : x = nI a) (hy : y = nI b) (h : b ≤ a) : x - y = nI (a - b) := by rw [hx, hy, pk_sub h]
def ixB (x : Int32) (n : Nat) : Bool := decide (0 ≤ x.toInt ∧ x.toInt < (n : Int))
theorem i32_lt {x y : Int32} : x < y ↔ x.toInt < y.toInt := Int32.lt_iff_toInt_lt
theorem i32_le {x y : Int32} : x ≤ y ↔ x.toInt ≤ y.toInt := Int32.le_iff_toInt_le
theorem i64_lt {x y : Int64} : x < y ↔ x.toInt < y.toInt := Int64.lt_iff_toInt_lt
theorem i64_le {x y : Int64} : x ≤ y ↔ x.toInt ≤ y.toInt := Int64.le_iff_toInt_le
theorem nI_ofInt {x : Int32} {i : Nat} (h : x.toInt = (i : Int)) (hi : i < 2 ^ 31) : x = nI i := Int32.toInt_inj.mp (by rw [h, nI_toInt hi])
theorem ixB_t {x : Int32} {n : Nat} (h : ixB x n = true) (hn : n < 2 ^ 31) : ∃ i : Nat, i < n ∧ x = nI i := by
  have h1 := of_decide_eq_true h
  exact ⟨x.toInt.toNat, by omega, nI_ofInt (by omega) (by omega)⟩
theorem ixB_nI {i n : Nat} (h : i < n) (hn : n < 2 ^ 31) : ixB (nI i) n = true := by
  unfold ixB
  rw [nI_toInt (by omega)]
  exact decide_eq_true (by omega)
theorem ixB_f {x : Int32} {n : Nat} (h : x < 0) : b2 (ixB x n) = 0 := by
  have h1 : x.toInt < (0 : Int32).toInt := i32_lt.mp h
  have h0 : (0 : Int32).toInt = 0 := rfl
  unfold ixB b2
  rw [decide_eq_false (by omega)]
  rfl
theorem ixB_g {x y : Int32} {n : Nat} (h : y ≤ x) (hy : y = nI n) (hn : n < 2 ^ 31) : b2 (ixB x n) = 0 := by
  subst hy
  have h1 := i32_le.mp h
  rw [nI_toInt hn] at h1
  unfold ixB b2
  rw [decide_eq_false (by omega)]
  rfl
theorem ixB_h {x y : Int32} {n : Nat} (h0 : ¬ x < 0) (h : ¬ y ≤ x) (hy : y = nI n) (hn : n < 2 ^ 31) : b2 (ixB x n) = 1 := by
  subst hy
  have h1 : ¬ x.toInt < (0 : Int32).toInt := fun q => h0 (i32_lt.mpr q)
  have h2 : ¬ (nI n).toInt ≤ x.toInt := fun q => h (i32_le.mpr q)
  rw [nI_toInt hn] at h2
  have e0 : (0 : Int32).toInt = 0 := rfl
  unfold ixB b2
  rw [decide_eq_true (by omega)]
  rfl
theorem cs_introF {u : MI} {As : List Value} {M : Mem} {post : Option Value → Mem → Prop} {L : List (Option Value)} (hy : plainFor u.1 = true) (hE : ∀ ad, ∀ q ∈ al ad 0 L, q ∈ lv_args 0 (As.map (cv ad))) (hn : ∀ ad, (lg_sl (As.map (cv ad))).length ≤ u.2.2.1) (h : CW u post 0 L [] M) : CS u As M post := by
  intro l D dA ad
  refine va_MetF (cc := u.2.1) (maxL := u.2.2.1) (ret := u.2.2.2.1) hy rfl ?_
  intro p e s m args below meth c s₁ B hml hv
  obtain ⟨rfl, hP, hK, hI⟩ := hv
  have hts := atoms_spec (ws := uLn u) B.pre
  have hl := lv_entry (As.map (cv ad)) (n := u.2.2.1) (hn ad)
  rw [lg_entry_eq]
  exact h p l e s m _ below meth c D dA ad s.heap [] _ ⟨B.exec, B.bytes, hml, findClass_of_methodNamed B.named, fun w hw => hts w (List.mem_cons_of_mem _ hw), B.returns, B.notSynchronized, hK, hI⟩ hP va_S.rf (hl.mono (hE ad))
theorem i64_nle {x y : Int64} : ¬ x ≤ y ↔ y < x := by rw [i64_le, i64_lt]; omega
theorem i32_nle {x y : Int32} : ¬ x ≤ y ↔ y < x := by rw [i32_le, i32_lt]; omega
theorem i64_nlt {x y : Int64} : ¬ x < y ↔ y ≤ x := by rw [i64_le, i64_lt]; omega
theorem i32_nlt {x y : Int32} : ¬ x < y ↔ y ≤ x := by rw [i32_le, i32_lt]; omega
theorem lgc {x y : Int64} : (lg_cmp x y = 1 ∧ y < x) ∨ (lg_cmp x y = 0 ∧ x = y) ∨ (lg_cmp x y = -1 ∧ x < y) := by
  unfold lg_cmp
  by_cases h1 : y < x
  · exact Or.inl ⟨if_pos h1, h1⟩
  · rw [if_neg h1]
    by_cases h2 : x = y
    · exact Or.inr (Or.inl ⟨if_pos h2, h2⟩)
    · refine Or.inr (Or.inr ⟨if_neg h2, ?_⟩)
      rw [i64_lt] at *
      have : x.toInt ≠ y.toInt := fun q => h2 (Int64.toInt_inj.mp q)
      omega
theorem lgc_eq {x y : Int64} : lg_cmp x y = 0 ↔ x = y := by
  rcases lgc (x := x) (y := y) with ⟨h, q⟩ | ⟨h, q⟩ | ⟨h, q⟩ <;> rw [h]
  · exact ⟨fun z => absurd z (by decide), fun z => by subst z; rw [i64_lt] at q; omega⟩
  · exact ⟨fun _ => q, fun _ => rfl⟩
  · exact ⟨fun z => absurd z (by decide), fun z => by subst z; rw [i64_lt] at q; omega⟩
theorem lgc_ge {x y : Int64} : 0 ≤ lg_cmp x y ↔ y ≤ x := by
  rcases lgc (x := x) (y := y) with ⟨h, q⟩ | ⟨h, q⟩ | ⟨h, q⟩ <;> rw [h]
  · rw [i64_lt] at q; rw [i64_le]
    exact ⟨fun _ => by omega, fun _ => by decide⟩
  · subst q; rw [i64_le]
    exact ⟨fun _ => by omega, fun _ => by decide⟩
  · rw [i64_lt] at q; rw [i64_le]
    exact ⟨fun z => absurd z (by decide), fun z => by omega⟩
theorem lgc_lt {x y : Int64} : lg_cmp x y < 0 ↔ x < y := by
  rcases lgc (x := x) (y := y) with ⟨h, q⟩ | ⟨h, q⟩ | ⟨h, q⟩ <;> rw [h]
  · rw [i64_lt] at *
    exact ⟨fun z => absurd z (by decide), fun z => by omega⟩
  · subst q; rw [i64_lt (x := x)]
    exact ⟨fun z => absurd z (by decide), fun z => by omega⟩
  · exact ⟨fun _ => q, fun _ => by decide⟩
theorem lgc_le {x y : Int64} : lg_cmp x y ≤ 0 ↔ x ≤ y := by
  rcases lgc (x := x) (y := y) with ⟨h, q⟩ | ⟨h, q⟩ | ⟨h, q⟩ <;> rw [h]
  · rw [i64_lt] at q; rw [i64_le]
    exact ⟨fun z => absurd z (by decide), fun z => by omega⟩
  · subst q; rw [i64_le]
    exact ⟨fun _ => by omega, fun _ => by decide⟩
  · rw [i64_lt] at q; rw [i64_le]
    exact ⟨fun _ => by omega, fun _ => by decide⟩
theorem lgc_gt {x y : Int64} : 0 < lg_cmp x y ↔ y < x := by
  rcases lgc (x := x) (y := y) with ⟨h, q⟩ | ⟨h, q⟩ | ⟨h, q⟩ <;> rw [h]
  · exact ⟨fun _ => q, fun _ => by decide⟩
  · subst q; rw [i64_lt (x := x)]
    exact ⟨fun z => absurd z (by decide), fun z => by omega⟩
  · rw [i64_lt] at *
    exact ⟨fun z => absurd z (by decide), fun z => by omega⟩
end
section
/-! ===== what both objects hold: three counts, and a table by kind and two places ===== -/
abbrev Sg : Type := (Nat × Nat × Nat) × (Nat → Nat → Nat → Int32)
abbrev LO : Int32 := -9999
def LC (t i j : Nat) : Nat × Nat := match t with
  | 1 => (20 + i, j)
  | 2 => (40 + i, j)
  | 3 => (30 + i, 2)
  | 4 => (0, 8 + i)
  | 5 => (100 + i, 2)
  | 6 => (100 + i, 3)
  | 7 => (100 + i, 4)
  | 8 => (100 + i, 5)
  | 9 => (300 + i, j)
  | 10 => (200 + i, j)
  | 11 => (60 + i, 1)
  | 12 => (70 + i, j)
  | 13 => (80 + i, 1)
  | 14 => (80 + i, 2)
  | 15 => (90 + i, j)
  | _ => (0, 11)
def LM (t i j : Nat) : Nat × Nat := match t with
  | 1 => (1007, 8 * i + j)
  | 2 => (1008, 40 * i + j)
  | 3 => (1009, i)
  | 4 => (1012, i)
  | 5 => (1014, i)
  | 6 => (1015, i)
  | 7 => (1016, i)
  | 8 => (1017, i)
  | 9 => (1018, 8 * i + j)
  | 10 => (1019, 8 * i + j)
  | 11 => (1021, i)
  | 12 => (1022, 8 * i + j)
  | 13 => (1001, i)
  | 14 => (1002, i)
  | 15 => (1003, 60 * i + j)
  | _ => (1000, 4)
def dC (σ : Sg) (t i j : Nat) : Prop := match t with
  | 1 => i < 8 ∧ j < 8
  | 2 => i < 4 ∧ j < 40
  | 3 => i < 4 ∧ j = 0
  | 4 => i < 3 ∧ j = 0
  | 5 => i < σ.1.2.1 ∧ j = 0
  | 6 => i < σ.1.2.1 ∧ j = 0
  | 7 => i < σ.1.2.1 ∧ j = 0
  | 8 => i < σ.1.2.1 ∧ j = 0
  | 9 => i < σ.1.2.1 ∧ j < 8
  | 10 => i < σ.1.2.1 ∧ j < 8
  | 11 => i < σ.1.2.2 ∧ j = 0
  | 12 => i < σ.1.2.2 ∧ j < 8
  | 13 => i < 4 ∧ j = 0
  | 14 => i < 4 ∧ j = 0
  | 15 => i < 4 ∧ j < 60
  | 16 => i = 0 ∧ j = 0
  | _ => False
def dM (σ : Sg) (t i j : Nat) : Prop := match t with
  | 1 => i < σ.1.1 ∧ j < 8
  | 2 => i < 4 ∧ j < 40
  | 3 => i < 4 ∧ j = 0
  | 4 => i < 3 ∧ j = 0
  | 5 => i < σ.1.2.1 ∧ j = 0
  | 6 => i < σ.1.2.1 ∧ j = 0
  | 7 => i < σ.1.2.1 ∧ j = 0
  | 8 => i < σ.1.2.1 ∧ j = 0
  | 9 => i < σ.1.2.1 ∧ j < 8
  | 10 => i < σ.1.2.1 ∧ j < 8
  | 11 => i < σ.1.2.2 ∧ j = 0
  | 12 => i < σ.1.2.2 ∧ j < 8
  | 13 => i < 4 ∧ j = 0
  | 14 => i < 4 ∧ j = 0 ∧ ¬ σ.2 13 i 0 < 0
  | 15 => i < 4 ∧ (j : Int) < (σ.2 14 i 0).toInt ∧ ¬ σ.2 13 i 0 < 0
  | 16 => i = 0 ∧ j = 0
  | _ => False
/-! the text of a hand -/
def txB (tx : Nat → Int32) (len i : Nat) : Int32 := if i < len then tx i else -1
def txF (b : Int32) : Bool := decide (48 ≤ b.toInt ∧ b.toInt ≤ 57)
def txM (f : Nat → Int32) (w v : Int32) : Nat → Int32 := fun p => if w = 42 ∨ w = nI p + 48 then v else f p
def txS (tx : Nat → Int32) (len i : Nat) (f : Nat → Int32) : Nat ⊕ (Nat × (Nat → Int32)) :=
  if ¬ txB tx len i = 42 ∧ ¬ (48 ≤ (txB tx len i).toInt ∧ (txB tx len i).toInt ≤ 55) then .inl i
  else if txB tx len (i + 1) = 120 then .inr (i + 2, txM f (txB tx len i) LO)
  else if ¬ txB tx len (i + 1) = 43 ∧ ¬ txB tx len (i + 1) = 45 then .inl (i + 1)
  else if txF (txB tx len (i + 2)) = false then .inl (i + 2)
  else if txF (txB tx len (i + 3)) = false then
    (if 60 < (txB tx len (i + 2) - 48) then .inl (i + 2) else .inr (i + 3, txM f (txB tx len i) (if txB tx len (i + 1) = 45 then -(txB tx len (i + 2) - 48) else txB tx len (i + 2) - 48)))
  else
    (if 60 < 10 * (txB tx len (i + 2) - 48) + txB tx len (i + 3) - 48 then .inl (i + 2) else .inr (i + 4, txM f (txB tx len i) (if txB tx len (i + 1) = 45 then -(10 * (txB tx len (i + 2) - 48) + txB tx len (i + 3) - 48) else 10 * (txB tx len (i + 2) - 48) + txB tx len (i + 3) - 48)))
def tx10 : Nat → Int32 := fun _ => 10
def txR (tx : Nat → Int32) (len : Nat) : Nat → Nat → (Nat → Int32) → Int32 × (Nat → Int32)
  | 0, _, f => (-1, f)
  | n + 1, i, f => match txS tx len i f with
    | .inl k => (nI k, tx10)
    | .inr (q, g) => if q < len then (if txB tx len q = 59 then txR tx len n (q + 1) g else (nI q, tx10)) else (-1, g)
def txP (tx : Nat → Int32) (len : Nat) : Int32 × (Nat → Int32) := if len = 0 then (-1, tx10) else txR tx len 41 0 tx10
def hLen (σ : Sg) (a : Nat) : Nat := (σ.2 3 a 0).toInt.toNat
def hPar (σ : Sg) (a : Nat) : Int32 × (Nat → Int32) := txP (σ.2 2 a) (hLen σ a)
def rD (x : Int32) (lo hi : Int) : Prop := lo ≤ x.toInt ∧ x.toInt ≤ hi
/-- what every state keeps to -/
def Iv (σ : Sg) : Prop := σ.1.1 ≤ 8 ∧ σ.1.2.1 ≤ 30 ∧ σ.1.2.2 ≤ 4 ∧
  (∀ h p, rD (σ.2 1 h p) 0 99) ∧ (∀ h p, σ.1.1 ≤ h → σ.2 1 h p = 50) ∧
  (∀ a, rD (σ.2 3 a 0) 0 40) ∧
  (rD (σ.2 4 0 0) 1 99 ∧ rD (σ.2 4 1 0) 1 60 ∧ rD (σ.2 4 2 0) 0 99) ∧
  (∀ d, d < σ.1.2.1 → rD (σ.2 5 d 0) 0 (σ.1.1 - 1) ∧ rD (σ.2 6 d 0) 0 99 ∧ (∀ p, (σ.2 9 d p = LO ∨ rD (σ.2 9 d p) (-7000) 7000) ∧ rD (σ.2 10 d p) 0 99)) ∧
  (∀ k p, k < σ.1.2.2 → rD (σ.2 12 k p) (-7000) 7000) ∧
  (∀ s, rD (σ.2 13 s 0) (-1) 2 ∧ rD (σ.2 14 s 0) 0 60)
def RC (M : Mem) (σ : Sg) : Prop := mG M 0 5 = nI σ.1.1 ∧ mG M 0 6 = nI σ.1.2.1 ∧ mG M 0 7 = nI σ.1.2.2 ∧ (∀ t i j, dC σ t i j → mG M (LC t i j).1 (LC t i j).2 = σ.2 t i j) ∧ (∀ a, a < 4 → (∀ p, p < 8 → mG M (50 + a) p = (hPar σ a).2 p) ∧ mG M (30 + a) 3 = (hPar σ a).1)
def RM (M : Mem) (σ : Sg) : Prop := mG M 1000 5 = nI σ.1.1 ∧ mG M 1000 12 = nI σ.1.2.1 ∧ mG M 1000 19 = nI σ.1.2.2 ∧ (∀ t i j, dM σ t i j → mG M (LM t i j).1 (LM t i j).2 = σ.2 t i j)
/-- the other object's cells stay -/
def kC (M M' : Mem) : Prop := ∀ k, 1000 ≤ k → M'.1 k = M.1 k ∧ M'.2 k = M.2 k
def kM (M M' : Mem) : Prop := ∀ k, k < 1000 → M'.1 k = M.1 k ∧ M'.2 k = M.2 k
theorem kC.rf {M : Mem} : kC M M := fun _ _ => ⟨rfl, rfl⟩
theorem kM.rf {M : Mem} : kM M M := fun _ _ => ⟨rfl, rfl⟩
theorem kC.tr {M1 M2 M3 : Mem} (h1 : kC M1 M2) (h2 : kC M2 M3) : kC M1 M3 := fun k h => ⟨(h2 k h).1.trans (h1 k h).1, (h2 k h).2.trans (h1 k h).2⟩
theorem kM.tr {M1 M2 M3 : Mem} (h1 : kM M1 M2) (h2 : kM M2 M3) : kM M1 M3 := fun k h => ⟨(h2 k h).1.trans (h1 k h).1, (h2 k h).2.trans (h1 k h).2⟩
theorem LM_big (t i j : Nat) : 1000 ≤ (LM t i j).1 := by
  unfold LM
  split <;> simp
theorem RM.kept {M M' : Mem} {σ : Sg} (h : RM M σ) (hk : kC M M') : RM M' σ := by
  obtain ⟨h1, h2, h3, h4⟩ := h
  unfold mG at *
  refine ⟨?_, ?_, ?_, fun t i j hd => ?_⟩
  · rw [mG, (hk 1000 (by omega)).1]; exact h1
  · rw [mG, (hk 1000 (by omega)).1]; exact h2
  · rw [mG, (hk 1000 (by omega)).1]; exact h3
  · rw [mG, (hk _ (LM_big t i j)).1]; exact h4 t i j hd
theorem LC_small {σ : Sg} (h2 : σ.1.2.1 ≤ 30) (h3 : σ.1.2.2 ≤ 4) {t i j : Nat} (h : dC σ t i j) : (LC t i j).1 < 1000 := by
  unfold dC at h
  unfold LC
  split <;> simp_all <;> omega
theorem RC.kept {M M' : Mem} {σ : Sg} (h2 : σ.1.2.1 ≤ 30) (h3 : σ.1.2.2 ≤ 4) (h : RC M σ) (hk : kM M M') : RC M' σ := by
  obtain ⟨g1, g2, g3, g4, g5⟩ := h
  refine ⟨?_, ?_, ?_, fun t i j hd => ?_, fun a ha => ⟨fun p hp => ?_, ?_⟩⟩
  · rw [mG, (hk 0 (by omega)).1]; exact g1
  · rw [mG, (hk 0 (by omega)).1]; exact g2
  · rw [mG, (hk 0 (by omega)).1]; exact g3
  · rw [mG, (hk _ (LC_small h2 h3 hd)).1]; exact g4 t i j hd
  · rw [mG, (hk _ (by omega)).1]; exact (g5 a ha).1 p hp
  · rw [mG, (hk _ (by omega)).1]; exact (g5 a ha).2
theorem Iv.n {σ : Sg} (h : Iv σ) : σ.1.1 ≤ 8 ∧ σ.1.2.1 ≤ 30 ∧ σ.1.2.2 ≤ 4 := ⟨h.1, h.2.1, h.2.2.1⟩
end
section
/-! ===== pure words of both sides ===== -/
def absS (x : Int32) : Int32 := if 0 ≤ x then x else -x
def bit (s : Int32) (h : Nat) : Bool := decide ((s >>> (nI h &&& 31)) &&& 1 = 1)
def sumUp (f : Nat → Int32) : Nat → Int32
  | 0 => 0
  | i + 1 => sumUp f i + f i
def sumUpJ (f : Nat → Int64) : Nat → Int64
  | 0 => 0
  | i + 1 => sumUpJ f i + f i
def cntUp (f : Nat → Bool) : Nat → Nat
  | 0 => 0
  | i + 1 => if f i then cntUp f i + 1 else cntUp f i
def anyUp (f : Nat → Bool) : Nat → Bool
  | 0 => false
  | i + 1 => anyUp f i || f i
theorem cntUp_le (f : Nat → Bool) (n : Nat) : cntUp f n ≤ n := by
  induction n with
  | zero => simp [cntUp]
  | succ n ih => simp only [cntUp]; split <;> omega
theorem cntUp_t {f : Nat → Bool} {i : Nat} (h : f i = true) : cntUp f (i + 1) = cntUp f i + 1 := by simp [cntUp, h]
theorem cntUp_f {f : Nat → Bool} {i : Nat} (h : f i = false) : cntUp f (i + 1) = cntUp f i := by simp [cntUp, h]
theorem sumUp_s (f : Nat → Int32) (i : Nat) : sumUp f (i + 1) = sumUp f i + f i := rfl
theorem sumUp_0 {f : Nat → Int32} {i : Nat} (h : f i = 0) : sumUp f (i + 1) = sumUp f i := by rw [sumUp_s, h, Int32.add_zero]
theorem sumUp_congr {f g : Nat → Int32} {n : Nat} (h : ∀ i, i < n → f i = g i) : sumUp f n = sumUp g n := by
  induction n with
  | zero => rfl
  | succ n ih => rw [sumUp_s, sumUp_s, ih (fun i hi => h i (by omega)), h n (by omega)]
theorem sumUpJ_congr {f g : Nat → Int64} {n : Nat} (h : ∀ i, i < n → f i = g i) : sumUpJ f n = sumUpJ g n := by
  induction n with
  | zero => rfl
  | succ n ih => simp only [sumUpJ]; rw [ih (fun i hi => h i (by omega)), h n (by omega)]
theorem anyUp_t {f : Nat → Bool} {i n : Nat} (hi : i < n) (h : f i = true) : anyUp f n = true := by
  induction n with
  | zero => omega
  | succ n ih =>
    simp only [anyUp, Bool.or_eq_true]
    by_cases e : i = n
    · subst e; exact Or.inr h
    · exact Or.inl (ih (by omega))
theorem anyUp_congr {f g : Nat → Bool} {n : Nat} (h : ∀ i, i < n → f i = g i) : anyUp f n = anyUp g n := by
  induction n with
  | zero => rfl
  | succ n ih => simp only [anyUp]; rw [ih (fun i hi => h i (by omega)), h n (by omega)]
def setB (s : Int32) (n : Nat) : Bool := decide (0 < s.toInt ∧ s.toInt < ((2 ^ n : Nat) : Int))
theorem shl1 : ∀ n, n ≤ 8 → (1 : Int32) <<< (nI n &&& 31) = nI (2 ^ n) := by decide +kernel
theorem pow8 {n : Nat} (h : n ≤ 8) : 1 ≤ 2 ^ n ∧ 2 ^ n ≤ 256 := ⟨Nat.one_le_two_pow, by
  have : 2 ^ n ≤ 2 ^ 8 := Nat.pow_le_pow_right (by decide) h
  simpa using this⟩
def meanS (σ : Sg) (s : Int32) (p : Nat) : Int32 := sumUp (fun h => if bit s h then σ.2 1 h p else 0) σ.1.1 / nI (cntUp (bit s) σ.1.1)
theorem cnt_pos0 : ∀ n, n ≤ 8 → ∀ k, k < 256 → 0 < k → k < 2 ^ n → 0 < cntUp (bit (nI k)) n := by decide +kernel
theorem cnt_pos {s : Int32} {n : Nat} (hn : n ≤ 8) (h : setB s n = true) : 0 < cntUp (bit s) n := by
  have h1 := of_decide_eq_true h
  have h2 := pow8 hn
  obtain ⟨k, hk⟩ : ∃ k : Nat, s.toInt = (k : Int) := ⟨s.toInt.toNat, by omega⟩
  have e : s = nI k := nI_ofInt hk (by omega)
  rw [e]
  exact cnt_pos0 n hn k (by omega) (by omega) (by omega)
def clS (w : Int32) : Int32 := if 7000 < w then 7000 else if w < -7000 then -7000 else w
def drawnS (mean place ten : Int32) : Int32 := if place = LO ∨ ten = LO then LO else clS (mean + (place - mean) * ten / 10)
def distP (odd x y : Int32) : Int32 := if x = LO ∨ y = LO then (if x = y then 0 else odd) else absS (x - y)
def distS (odd : Int32) (a b : Nat → Int32) : Int32 := sumUp (fun p => distP odd (a p) (b p)) 8
def offP (ruin : Int32) (ln mn : Nat → Int32) (p : Nat) : Bool := decide (¬ ln p = LO ∧ ruin < absS (ln p - mn p))
def offB (ruin : Int32) (ln mn : Nat → Int32) : Bool := anyUp (offP ruin ln mn) 8
theorem clS_mm (w : Int32) : clS w = (if -7000 < (if w < 7000 then w else 7000) then (if w < 7000 then w else 7000) else -7000) := by
  unfold clS
  have h7 : (7000 : Int32).toInt = 7000 := rfl
  have h8 : (-7000 : Int32).toInt = -7000 := rfl
  by_cases h1 : w < 7000
  · simp only [if_pos h1]
    by_cases h2 : -7000 < w
    · rw [if_pos h2, if_neg, if_neg] <;> rw [i32_lt] at * <;> omega
    · rw [if_neg h2, if_neg (by rw [i32_lt] at *; omega)]
      by_cases h3 : w < -7000
      · rw [if_pos h3]
      · rw [if_neg h3]
        apply Int32.toInt_inj.mp
        rw [i32_lt] at *
        omega
  · simp only [if_neg h1]
    rw [if_pos (show (-7000 : Int32) < 7000 by decide)]
    by_cases h2 : 7000 < w
    · rw [if_pos h2]
    · rw [if_neg h2, if_neg (by rw [i32_lt] at *; omega)]
      apply Int32.toInt_inj.mp
      rw [i32_lt] at *
      omega
/-! ===== what of the memory is not read by RC may change ===== -/
def live (σ : Sg) (k : Nat) : Prop := k < 6 ∨ (10 ≤ k ∧ k < 60) ∨ (60 ≤ k ∧ k < 60 + σ.1.2.2) ∨ (70 ≤ k ∧ k < 70 + σ.1.2.2) ∨ (80 ≤ k ∧ k < 100) ∨ (100 ≤ k ∧ k < 100 + σ.1.2.1) ∨ (200 ≤ k ∧ k < 200 + σ.1.2.1) ∨ (300 ≤ k ∧ k < 300 + σ.1.2.1) ∨ 1000 ≤ k
def kp (σ : Sg) (M M' : Mem) : Prop := ∀ k, live σ k → M'.1 k = M.1 k ∧ M'.2 k = M.2 k
theorem kp.rf {σ : Sg} {M : Mem} : kp σ M M := fun _ _ => ⟨rfl, rfl⟩
theorem kp.tr {σ : Sg} {M1 M2 M3 : Mem} (h1 : kp σ M1 M2) (h2 : kp σ M2 M3) : kp σ M1 M3 := fun k h => ⟨(h2 k h).1.trans (h1 k h).1, (h2 k h).2.trans (h1 k h).2⟩
theorem kp.kC {σ : Sg} {M M' : Mem} (h : kp σ M M') : kC M M' := fun k hk => h k (Or.inr (Or.inr (Or.inr (Or.inr (Or.inr (Or.inr (Or.inr (Or.inr hk))))))))
theorem LC_live {σ : Sg} (h2 : σ.1.2.1 ≤ 30) (h3 : σ.1.2.2 ≤ 4) {t i j : Nat} (h : dC σ t i j) : live σ (LC t i j).1 := by
  unfold dC at h
  unfold LC live
  split <;> simp_all <;> omega
theorem RC.kp {M M' : Mem} {σ : Sg} (hI : Iv σ) (h : RC M σ) (hk : kp σ M M') : RC M' σ := by
  obtain ⟨g1, g2, g3, g4, g5⟩ := h
  have l0 : live σ 0 := Or.inl (by omega)
  refine ⟨?_, ?_, ?_, fun t i j hd => ?_, fun a ha => ⟨fun p hp => ?_, ?_⟩⟩
  · rw [mG, (hk 0 l0).1]; exact g1
  · rw [mG, (hk 0 l0).1]; exact g2
  · rw [mG, (hk 0 l0).1]; exact g3
  · rw [mG, (hk _ (LC_live hI.2.1 hI.2.2.1 hd)).1]; exact g4 t i j hd
  · rw [mG, (hk _ (Or.inr (Or.inl (by omega)))).1]; exact (g5 a ha).1 p hp
  · rw [mG, (hk _ (Or.inr (Or.inl (by omega)))).1]; exact (g5 a ha).2
def mRow (M : Mem) (r n : Nat) (f : Nat → Int32) : Mem := (fun k j => if k = r ∧ j < n then f j else M.1 k j, M.2)
theorem mRow_0 {M : Mem} {r : Nat} {f : Nat → Int32} : mRow M r 0 f = M := by
  unfold mRow
  apply Prod.ext
  · funext k j; simp
  · rfl
theorem mRow_s {M : Mem} {r n : Nat} {f : Nat → Int32} : mS (mRow M r n f) r n (f n) = mRow M r (n + 1) f := by
  unfold mRow mS
  apply Prod.ext
  · funext k j
    by_cases h1 : k = r ∧ j = n
    · obtain ⟨rfl, rfl⟩ := h1; simp
    · by_cases h2 : k = r ∧ j < n
      · simp [h2, show ¬ j = n by omega, show j < n + 1 by omega]
      · have : ¬ (k = r ∧ j < n + 1) := fun q => by
          rcases Nat.lt_or_ge j n with z | z
          · exact h2 ⟨q.1, z⟩
          · exact h1 ⟨q.1, by omega⟩
        simp only [if_neg h1, if_neg h2, if_neg this]
  · rfl
theorem mRow_kp {σ : Sg} {M : Mem} {r n : Nat} {f : Nat → Int32} (h : ¬ live σ r) : kp σ M (mRow M r n f) := by
  intro k hk
  have : k ≠ r := fun e => h (e ▸ hk)
  exact ⟨by funext j; simp [mRow, this], rfl⟩
theorem mRow_in {M : Mem} {r n j : Nat} {f : Nat → Int32} (h : j < n) : mG (mRow M r n f) r j = f j := by simp [mRow, mG, h]
theorem mRow_out {M : Mem} {r n k j : Nat} {f : Nat → Int32} (h : k ≠ r) : mG (mRow M r n f) k j = mG M k j := by simp [mRow, mG, h]
theorem RC.n1 {M : Mem} {σ : Sg} (h : RC M σ) : mG M 0 5 = nI σ.1.1 := h.1
theorem RC.n2 {M : Mem} {σ : Sg} (h : RC M σ) : mG M 0 6 = nI σ.1.2.1 := h.2.1
theorem RC.n3 {M : Mem} {σ : Sg} (h : RC M σ) : mG M 0 7 = nI σ.1.2.2 := h.2.2.1
theorem RC.pl {M : Mem} {σ : Sg} (h : RC M σ) {i j : Nat} (hi : i < 8) (hj : j < 8) : mG M (20 + i) j = σ.2 1 i j := h.2.2.2.1 1 i j ⟨hi, hj⟩
theorem RC.tx {M : Mem} {σ : Sg} (h : RC M σ) {i j : Nat} (hi : i < 4) (hj : j < 40) : mG M (40 + i) j = σ.2 2 i j := h.2.2.2.1 2 i j ⟨hi, hj⟩
theorem RC.ty {M : Mem} {σ : Sg} (h : RC M σ) {i : Nat} (hi : i < 4) : mG M (30 + i) 2 = σ.2 3 i 0 := h.2.2.2.1 3 i 0 ⟨hi, rfl⟩
theorem RC.ru {M : Mem} {σ : Sg} (h : RC M σ) : mG M 0 8 = σ.2 4 0 0 := h.2.2.2.1 4 0 0 ⟨by decide, rfl⟩
theorem RC.la {M : Mem} {σ : Sg} (h : RC M σ) : mG M 0 9 = σ.2 4 1 0 := h.2.2.2.1 4 1 0 ⟨by decide, rfl⟩
theorem RC.od {M : Mem} {σ : Sg} (h : RC M σ) : mG M 0 10 = σ.2 4 2 0 := h.2.2.2.1 4 2 0 ⟨by decide, rfl⟩
theorem RC.dh {M : Mem} {σ : Sg} (h : RC M σ) {i : Nat} (hi : i < σ.1.2.1) : mG M (100 + i) 2 = σ.2 5 i 0 := h.2.2.2.1 5 i 0 ⟨hi, rfl⟩
theorem RC.dy {M : Mem} {σ : Sg} (h : RC M σ) {i : Nat} (hi : i < σ.1.2.1) : mG M (100 + i) 3 = σ.2 6 i 0 := h.2.2.2.1 6 i 0 ⟨hi, rfl⟩
theorem RC.dk {M : Mem} {σ : Sg} (h : RC M σ) {i : Nat} (hi : i < σ.1.2.1) : mG M (100 + i) 4 = σ.2 7 i 0 := h.2.2.2.1 7 i 0 ⟨hi, rfl⟩
theorem RC.df {M : Mem} {σ : Sg} (h : RC M σ) {i : Nat} (hi : i < σ.1.2.1) : mG M (100 + i) 5 = σ.2 8 i 0 := h.2.2.2.1 8 i 0 ⟨hi, rfl⟩
theorem RC.li {M : Mem} {σ : Sg} (h : RC M σ) {i j : Nat} (hi : i < σ.1.2.1) (hj : j < 8) : mG M (300 + i) j = σ.2 9 i j := h.2.2.2.1 9 i j ⟨hi, hj⟩
theorem RC.me {M : Mem} {σ : Sg} (h : RC M σ) {i j : Nat} (hi : i < σ.1.2.1) (hj : j < 8) : mG M (200 + i) j = σ.2 10 i j := h.2.2.2.1 10 i j ⟨hi, hj⟩
theorem RC.kk {M : Mem} {σ : Sg} (h : RC M σ) {i : Nat} (hi : i < σ.1.2.2) : mG M (60 + i) 1 = σ.2 11 i 0 := h.2.2.2.1 11 i 0 ⟨hi, rfl⟩
theorem RC.ow {M : Mem} {σ : Sg} (h : RC M σ) {i j : Nat} (hi : i < σ.1.2.2) (hj : j < 8) : mG M (70 + i) j = σ.2 12 i j := h.2.2.2.1 12 i j ⟨hi, hj⟩
theorem RC.fo {M : Mem} {σ : Sg} (h : RC M σ) {i : Nat} (hi : i < 4) : mG M (80 + i) 1 = σ.2 13 i 0 := h.2.2.2.1 13 i 0 ⟨hi, rfl⟩
theorem RC.si {M : Mem} {σ : Sg} (h : RC M σ) {i : Nat} (hi : i < 4) : mG M (80 + i) 2 = σ.2 14 i 0 := h.2.2.2.1 14 i 0 ⟨hi, rfl⟩
theorem RC.it {M : Mem} {σ : Sg} (h : RC M σ) {i j : Nat} (hi : i < 4) (hj : j < 60) : mG M (90 + i) j = σ.2 15 i j := h.2.2.2.1 15 i j ⟨hi, hj⟩
theorem RC.lt {M : Mem} {σ : Sg} (h : RC M σ) : mG M 0 11 = σ.2 16 0 0 := h.2.2.2.1 16 0 0 ⟨rfl, rfl⟩
theorem RC.tn {M : Mem} {σ : Sg} (h : RC M σ) {i j : Nat} (hi : i < 4) (hj : j < 8) : mG M (50 + i) j = (hPar σ i).2 j := (h.2.2.2.2 i hi).1 j hj
theorem RC.fa {M : Mem} {σ : Sg} (h : RC M σ) {i : Nat} (hi : i < 4) : mG M (30 + i) 3 = (hPar σ i).1 := (h.2.2.2.2 i hi).2
theorem RM.n1 {M : Mem} {σ : Sg} (h : RM M σ) : mG M 1000 5 = nI σ.1.1 := h.1
theorem RM.n2 {M : Mem} {σ : Sg} (h : RM M σ) : mG M 1000 12 = nI σ.1.2.1 := h.2.1
theorem RM.n3 {M : Mem} {σ : Sg} (h : RM M σ) : mG M 1000 19 = nI σ.1.2.2 := h.2.2.1
theorem RM.pl {M : Mem} {σ : Sg} (h : RM M σ) {i j : Nat} (hi : i < σ.1.1) (hj : j < 8) : mG M 1007 (8 * i + j) = σ.2 1 i j := h.2.2.2 1 i j ⟨hi, hj⟩
theorem RM.tx {M : Mem} {σ : Sg} (h : RM M σ) {i j : Nat} (hi : i < 4) (hj : j < 40) : mG M 1008 (40 * i + j) = σ.2 2 i j := h.2.2.2 2 i j ⟨hi, hj⟩
theorem RM.ty {M : Mem} {σ : Sg} (h : RM M σ) {i : Nat} (hi : i < 4) : mG M 1009 i = σ.2 3 i 0 := h.2.2.2 3 i 0 ⟨hi, rfl⟩
theorem RM.st {M : Mem} {σ : Sg} (h : RM M σ) {i : Nat} (hi : i < 3) : mG M 1012 i = σ.2 4 i 0 := h.2.2.2 4 i 0 ⟨hi, rfl⟩
theorem RM.dh {M : Mem} {σ : Sg} (h : RM M σ) {i : Nat} (hi : i < σ.1.2.1) : mG M 1014 i = σ.2 5 i 0 := h.2.2.2 5 i 0 ⟨hi, rfl⟩
theorem RM.dy {M : Mem} {σ : Sg} (h : RM M σ) {i : Nat} (hi : i < σ.1.2.1) : mG M 1015 i = σ.2 6 i 0 := h.2.2.2 6 i 0 ⟨hi, rfl⟩
theorem RM.dk {M : Mem} {σ : Sg} (h : RM M σ) {i : Nat} (hi : i < σ.1.2.1) : mG M 1016 i = σ.2 7 i 0 := h.2.2.2 7 i 0 ⟨hi, rfl⟩
theorem RM.df {M : Mem} {σ : Sg} (h : RM M σ) {i : Nat} (hi : i < σ.1.2.1) : mG M 1017 i = σ.2 8 i 0 := h.2.2.2 8 i 0 ⟨hi, rfl⟩
theorem RM.li {M : Mem} {σ : Sg} (h : RM M σ) {i j : Nat} (hi : i < σ.1.2.1) (hj : j < 8) : mG M 1018 (8 * i + j) = σ.2 9 i j := h.2.2.2 9 i j ⟨hi, hj⟩
theorem RM.me {M : Mem} {σ : Sg} (h : RM M σ) {i j : Nat} (hi : i < σ.1.2.1) (hj : j < 8) : mG M 1019 (8 * i + j) = σ.2 10 i j := h.2.2.2 10 i j ⟨hi, hj⟩
theorem RM.kk {M : Mem} {σ : Sg} (h : RM M σ) {i : Nat} (hi : i < σ.1.2.2) : mG M 1021 i = σ.2 11 i 0 := h.2.2.2 11 i 0 ⟨hi, rfl⟩
theorem RM.ow {M : Mem} {σ : Sg} (h : RM M σ) {i j : Nat} (hi : i < σ.1.2.2) (hj : j < 8) : mG M 1022 (8 * i + j) = σ.2 12 i j := h.2.2.2 12 i j ⟨hi, hj⟩
theorem RM.fo {M : Mem} {σ : Sg} (h : RM M σ) {i : Nat} (hi : i < 4) : mG M 1001 i = σ.2 13 i 0 := h.2.2.2 13 i 0 ⟨hi, rfl⟩
theorem RM.lt {M : Mem} {σ : Sg} (h : RM M σ) : mG M 1000 4 = σ.2 16 0 0 := h.2.2.2 16 0 0 ⟨rfl, rfl⟩
end
section
/-! ===== the class: tests and leaves ===== -/
set_option maxRecDepth 100000 in
theorem s_J_abs_I {M : Mem} {x : Int32} : CS u_J_abs_I [.int x] M (pI (if 0 ≤ x then x else -x) M) := by
  refine cs_introF (L := [some (.int x)]) (by decide +kernel) (fun ad q h => h) (fun ad => Nat.le_of_ble_eq_true rfl) ?_
  refine cw_iload_n d_J_abs_I_0 rfl ?_
  refine cw_if_ge 9 d_J_abs_I_1 (by decide) (fun c_1 => ?_) (fun c_1 => ?_)
  · refine cw_iload_n d_J_abs_I_9 rfl ?_
    refine cw_iret rfl d_J_abs_I_10 ?_
    exact ⟨by first | exact (if_pos (by assumption)).symm | exact (if_neg (by assumption)).symm, rfl⟩
  · refine cw_iload_n d_J_abs_I_4 rfl ?_
    refine cw_ineg d_J_abs_I_5 ?_
    refine cw_goto 10 d_J_abs_I_6 (by decide) ?_
    refine cw_iret rfl d_J_abs_I_10 ?_
    exact ⟨by first | exact (if_pos (by assumption)).symm | exact (if_neg (by assumption)).symm, rfl⟩
set_option maxRecDepth 100000 in
theorem s_J_abs_J {M : Mem} {x : Int64} : CS u_J_abs_J [.long x] M (pJ (if 0 ≤ x then x else -x) M) := by
  refine cs_introF (L := [some (.long x), none]) (by decide +kernel) (fun ad q h => h) (fun ad => Nat.le_of_ble_eq_true rfl) ?_
  refine cw_lload_n d_J_abs_J_0 rfl ?_
  refine cw_lconst (v := 0) d_J_abs_J_1 (by decide) ?_
  refine cw_lcmp d_J_abs_J_2 ?_
  refine cw_if_ge 11 d_J_abs_J_3 (by decide) (fun c_3 => ?_) (fun c_3 => ?_)
  · refine cw_lload_n d_J_abs_J_11 rfl ?_
    refine cw_lret rfl d_J_abs_J_12 ?_
    exact ⟨by first | exact (if_pos (lgc_ge.mp (by assumption))).symm | exact (if_neg (fun q => absurd (lgc_ge.mpr q) (by assumption))).symm, rfl⟩
  · refine cw_lload_n d_J_abs_J_6 rfl ?_
    refine cw_lneg d_J_abs_J_7 ?_
    refine cw_goto 12 d_J_abs_J_8 (by decide) ?_
    refine cw_lret rfl d_J_abs_J_12 ?_
    exact ⟨by first | exact (if_pos (lgc_ge.mp (by assumption))).symm | exact (if_neg (fun q => absurd (lgc_ge.mpr q) (by assumption))).symm, rfl⟩
set_option maxRecDepth 100000 in
theorem s_J_max_II {M : Mem} {x y : Int32} : CS u_J_max_II [.int x, .int y] M (pI (if x < y then y else x) M) := by
  refine cs_introF (L := [some (.int x), some (.int y)]) (by decide +kernel) (fun ad q h => h) (fun ad => Nat.le_of_ble_eq_true rfl) ?_
  refine cw_iload_n d_J_max_II_0 rfl ?_
  refine cw_iload_n d_J_max_II_1 rfl ?_
  refine cw_icmp_lt 9 d_J_max_II_2 (by decide) (fun c_2 => ?_) (fun c_2 => ?_)
  · refine cw_iload_n d_J_max_II_9 rfl ?_
    refine cw_iret rfl d_J_max_II_10 ?_
    exact ⟨by first | exact (if_pos (by assumption)).symm | exact (if_neg (by assumption)).symm, rfl⟩
  · refine cw_iload_n d_J_max_II_5 rfl ?_
    refine cw_goto 10 d_J_max_II_6 (by decide) ?_
    refine cw_iret rfl d_J_max_II_10 ?_
    exact ⟨by first | exact (if_pos (by assumption)).symm | exact (if_neg (by assumption)).symm, rfl⟩
set_option maxRecDepth 100000 in
theorem s_J_min {M : Mem} {x y : Int32} : CS u_J_min [.int x, .int y] M (pI (if y < x then y else x) M) := by
  refine cs_introF (L := [some (.int x), some (.int y)]) (by decide +kernel) (fun ad q h => h) (fun ad => Nat.le_of_ble_eq_true rfl) ?_
  refine cw_iload_n d_J_min_0 rfl ?_
  refine cw_iload_n d_J_min_1 rfl ?_
  refine cw_icmp_gt 9 d_J_min_2 (by decide) (fun c_2 => ?_) (fun c_2 => ?_)
  · refine cw_iload_n d_J_min_9 rfl ?_
    refine cw_iret rfl d_J_min_10 ?_
    exact ⟨by first | exact (if_pos (by assumption)).symm | exact (if_neg (by assumption)).symm, rfl⟩
  · refine cw_iload_n d_J_min_5 rfl ?_
    refine cw_goto 10 d_J_min_6 (by decide) ?_
    refine cw_iret rfl d_J_min_10 ?_
    exact ⟨by first | exact (if_pos (by assumption)).symm | exact (if_neg (by assumption)).symm, rfl⟩
set_option maxRecDepth 100000 in
theorem s_J_max_JJ {M : Mem} {x y : Int64} : CS u_J_max_JJ [.long x, .long y] M (pJ (if x < y then y else x) M) := by
  refine cs_introF (L := [some (.long x), none, some (.long y), none]) (by decide +kernel) (fun ad q h => h) (fun ad => Nat.le_of_ble_eq_true rfl) ?_
  refine cw_lload_n d_J_max_JJ_0 rfl ?_
  refine cw_lload_n d_J_max_JJ_1 rfl ?_
  refine cw_lcmp d_J_max_JJ_2 ?_
  refine cw_if_lt 10 d_J_max_JJ_3 (by decide) (fun c_3 => ?_) (fun c_3 => ?_)
  · refine cw_lload_n d_J_max_JJ_10 rfl ?_
    refine cw_lret rfl d_J_max_JJ_11 ?_
    exact ⟨by first | exact (if_pos (lgc_lt.mp (by assumption))).symm | exact (if_neg (fun q => absurd (lgc_lt.mpr q) (by assumption))).symm, rfl⟩
  · refine cw_lload_n d_J_max_JJ_6 rfl ?_
    refine cw_goto 11 d_J_max_JJ_7 (by decide) ?_
    refine cw_lret rfl d_J_max_JJ_11 ?_
    exact ⟨by first | exact (if_pos (lgc_lt.mp (by assumption))).symm | exact (if_neg (fun q => absurd (lgc_lt.mpr q) (by assumption))).symm, rfl⟩
set_option maxRecDepth 100000 in
theorem s_C_isPart {M : Mem} {x : Int32} : CS u_C_isPart [.int x] M (pI (b2 (ixB x 8)) M) := by
  refine cs_introF (L := [some (.int x)]) (by decide +kernel) (fun ad q h => h) (fun ad => Nat.le_of_ble_eq_true rfl) ?_
  refine cw_iload_n d_C_isPart_0 rfl ?_
  refine cw_if_lt 14 d_C_isPart_1 (by decide) (fun c_1 => ?_) (fun c_1 => ?_)
  · refine cw_iconst (v := 0) d_C_isPart_14 (by decide) ?_
    refine cw_zret rfl d_C_isPart_15 (by first | exact Or.inl rfl | exact Or.inr rfl | exact b2_01 _) ?_
    exact ⟨by first | exact (ixB_f (by assumption)).symm | exact (ixB_g (by assumption) rfl (by decide)).symm | exact (ixB_h (by assumption) (by assumption) rfl (by decide)).symm, rfl⟩
  · refine cw_iload_n d_C_isPart_4 rfl ?_
    refine cw_bipush (v := 8) d_C_isPart_5 (by decide) ?_
    refine cw_icmp_ge 14 d_C_isPart_7 (by decide) (fun c_7 => ?_) (fun c_7 => ?_)
    · refine cw_iconst (v := 0) d_C_isPart_14 (by decide) ?_
      refine cw_zret rfl d_C_isPart_15 (by first | exact Or.inl rfl | exact Or.inr rfl | exact b2_01 _) ?_
      exact ⟨by first | exact (ixB_f (by assumption)).symm | exact (ixB_g (by assumption) rfl (by decide)).symm | exact (ixB_h (by assumption) (by assumption) rfl (by decide)).symm, rfl⟩
    · refine cw_iconst (v := 1) d_C_isPart_10 (by decide) ?_
      refine cw_goto 15 d_C_isPart_11 (by decide) ?_
      refine cw_zret rfl d_C_isPart_15 (by first | exact Or.inl rfl | exact Or.inr rfl | exact b2_01 _) ?_
      exact ⟨by first | exact (ixB_f (by assumption)).symm | exact (ixB_g (by assumption) rfl (by decide)).symm | exact (ixB_h (by assumption) (by assumption) rfl (by decide)).symm, rfl⟩
set_option maxRecDepth 100000 in
theorem s_C_isHand {M : Mem} {x : Int32} : CS u_C_isHand [.int x] M (pI (b2 (ixB x 4)) M) := by
  refine cs_introF (L := [some (.int x)]) (by decide +kernel) (fun ad q h => h) (fun ad => Nat.le_of_ble_eq_true rfl) ?_
  refine cw_iload_n d_C_isHand_0 rfl ?_
  refine cw_if_lt 13 d_C_isHand_1 (by decide) (fun c_1 => ?_) (fun c_1 => ?_)
  · refine cw_iconst (v := 0) d_C_isHand_13 (by decide) ?_
    refine cw_zret rfl d_C_isHand_14 (by first | exact Or.inl rfl | exact Or.inr rfl | exact b2_01 _) ?_
    exact ⟨by first | exact (ixB_f (by assumption)).symm | exact (ixB_g (by assumption) rfl (by decide)).symm | exact (ixB_h (by assumption) (by assumption) rfl (by decide)).symm, rfl⟩
  · refine cw_iload_n d_C_isHand_4 rfl ?_
    refine cw_iconst (v := 4) d_C_isHand_5 (by decide) ?_
    refine cw_icmp_ge 13 d_C_isHand_6 (by decide) (fun c_6 => ?_) (fun c_6 => ?_)
    · refine cw_iconst (v := 0) d_C_isHand_13 (by decide) ?_
      refine cw_zret rfl d_C_isHand_14 (by first | exact Or.inl rfl | exact Or.inr rfl | exact b2_01 _) ?_
      exact ⟨by first | exact (ixB_f (by assumption)).symm | exact (ixB_g (by assumption) rfl (by decide)).symm | exact (ixB_h (by assumption) (by assumption) rfl (by decide)).symm, rfl⟩
    · refine cw_iconst (v := 1) d_C_isHand_9 (by decide) ?_
      refine cw_goto 14 d_C_isHand_10 (by decide) ?_
      refine cw_zret rfl d_C_isHand_14 (by first | exact Or.inl rfl | exact Or.inr rfl | exact b2_01 _) ?_
      exact ⟨by first | exact (ixB_f (by assumption)).symm | exact (ixB_g (by assumption) rfl (by decide)).symm | exact (ixB_h (by assumption) (by assumption) rfl (by decide)).symm, rfl⟩
set_option maxRecDepth 100000 in
theorem s_C_isSheet {M : Mem} {x : Int32} : CS u_C_isSheet [.int x] M (pI (b2 (ixB x 4)) M) := by
  refine cs_introF (L := [some (.int x)]) (by decide +kernel) (fun ad q h => h) (fun ad => Nat.le_of_ble_eq_true rfl) ?_
  refine cw_iload_n d_C_isSheet_0 rfl ?_
  refine cw_if_lt 13 d_C_isSheet_1 (by decide) (fun c_1 => ?_) (fun c_1 => ?_)
  · refine cw_iconst (v := 0) d_C_isSheet_13 (by decide) ?_
    refine cw_zret rfl d_C_isSheet_14 (by first | exact Or.inl rfl | exact Or.inr rfl | exact b2_01 _) ?_
    exact ⟨by first | exact (ixB_f (by assumption)).symm | exact (ixB_g (by assumption) rfl (by decide)).symm | exact (ixB_h (by assumption) (by assumption) rfl (by decide)).symm, rfl⟩
  · refine cw_iload_n d_C_isSheet_4 rfl ?_
    refine cw_iconst (v := 4) d_C_isSheet_5 (by decide) ?_
    refine cw_icmp_ge 13 d_C_isSheet_6 (by decide) (fun c_6 => ?_) (fun c_6 => ?_)
    · refine cw_iconst (v := 0) d_C_isSheet_13 (by decide) ?_
      refine cw_zret rfl d_C_isSheet_14 (by first | exact Or.inl rfl | exact Or.inr rfl | exact b2_01 _) ?_
      exact ⟨by first | exact (ixB_f (by assumption)).symm | exact (ixB_g (by assumption) rfl (by decide)).symm | exact (ixB_h (by assumption) (by assumption) rfl (by decide)).symm, rfl⟩
    · refine cw_iconst (v := 1) d_C_isSheet_9 (by decide) ?_
      refine cw_goto 14 d_C_isSheet_10 (by decide) ?_
      refine cw_zret rfl d_C_isSheet_14 (by first | exact Or.inl rfl | exact Or.inr rfl | exact b2_01 _) ?_
      exact ⟨by first | exact (ixB_f (by assumption)).symm | exact (ixB_g (by assumption) rfl (by decide)).symm | exact (ixB_h (by assumption) (by assumption) rfl (by decide)).symm, rfl⟩
set_option maxRecDepth 100000 in
theorem s_C_isHead {M : Mem} {σ : Sg} (hR : RC M σ) (hI : Iv σ) {x : Int32} : CS u_C_isHead [.ref 0, .int x] M (pI (b2 (ixB x σ.1.1)) M) := by
  refine cs_introF (L := [some (.ref 0), some (.int x)]) (by decide +kernel) (fun ad q h => h) (fun ad => Nat.le_of_ble_eq_true rfl) ?_
  refine cw_iload_n d_C_isHead_0 rfl ?_
  refine cw_if_lt 16 d_C_isHead_1 (by decide) (fun c_1 => ?_) (fun c_1 => ?_)
  · refine cw_iconst (v := 0) d_C_isHead_16 (by decide) ?_
    refine cw_zret rfl d_C_isHead_17 (by first | exact Or.inl rfl | exact Or.inr rfl | exact b2_01 _) ?_
    exact ⟨by first | exact (ixB_f (by assumption)).symm | exact (ixB_g (by assumption) hR.1 (by have := hI.n; omega)).symm | exact (ixB_h (by assumption) (by assumption) hR.1 (by have := hI.n; omega)).symm, rfl⟩
  · refine cw_iload_n d_C_isHead_4 rfl ?_
    refine cw_aload_n d_C_isHead_5 rfl ?_
    refine cw_getI fl_C_75 so_C rfl d_C_isHead_6 ?_
    refine cw_icmp_ge 16 d_C_isHead_9 (by decide) (fun c_9 => ?_) (fun c_9 => ?_)
    · refine cw_iconst (v := 0) d_C_isHead_16 (by decide) ?_
      refine cw_zret rfl d_C_isHead_17 (by first | exact Or.inl rfl | exact Or.inr rfl | exact b2_01 _) ?_
      exact ⟨by first | exact (ixB_f (by assumption)).symm | exact (ixB_g (by assumption) hR.1 (by have := hI.n; omega)).symm | exact (ixB_h (by assumption) (by assumption) hR.1 (by have := hI.n; omega)).symm, rfl⟩
    · refine cw_iconst (v := 1) d_C_isHead_12 (by decide) ?_
      refine cw_goto 17 d_C_isHead_13 (by decide) ?_
      refine cw_zret rfl d_C_isHead_17 (by first | exact Or.inl rfl | exact Or.inr rfl | exact b2_01 _) ?_
      exact ⟨by first | exact (ixB_f (by assumption)).symm | exact (ixB_g (by assumption) hR.1 (by have := hI.n; omega)).symm | exact (ixB_h (by assumption) (by assumption) hR.1 (by have := hI.n; omega)).symm, rfl⟩
set_option maxRecDepth 100000 in
theorem s_C_isDrawing {M : Mem} {σ : Sg} (hR : RC M σ) (hI : Iv σ) {x : Int32} : CS u_C_isDrawing [.ref 0, .int x] M (pI (b2 (ixB x σ.1.2.1)) M) := by
  refine cs_introF (L := [some (.ref 0), some (.int x)]) (by decide +kernel) (fun ad q h => h) (fun ad => Nat.le_of_ble_eq_true rfl) ?_
  refine cw_iload_n d_C_isDrawing_0 rfl ?_
  refine cw_if_lt 16 d_C_isDrawing_1 (by decide) (fun c_1 => ?_) (fun c_1 => ?_)
  · refine cw_iconst (v := 0) d_C_isDrawing_16 (by decide) ?_
    refine cw_zret rfl d_C_isDrawing_17 (by first | exact Or.inl rfl | exact Or.inr rfl | exact b2_01 _) ?_
    exact ⟨by first | exact (ixB_f (by assumption)).symm | exact (ixB_g (by assumption) hR.2.1 (by have := hI.n; omega)).symm | exact (ixB_h (by assumption) (by assumption) hR.2.1 (by have := hI.n; omega)).symm, rfl⟩
  · refine cw_iload_n d_C_isDrawing_4 rfl ?_
    refine cw_aload_n d_C_isDrawing_5 rfl ?_
    refine cw_getI fl_C_146 so_C rfl d_C_isDrawing_6 ?_
    refine cw_icmp_ge 16 d_C_isDrawing_9 (by decide) (fun c_9 => ?_) (fun c_9 => ?_)
    · refine cw_iconst (v := 0) d_C_isDrawing_16 (by decide) ?_
      refine cw_zret rfl d_C_isDrawing_17 (by first | exact Or.inl rfl | exact Or.inr rfl | exact b2_01 _) ?_
      exact ⟨by first | exact (ixB_f (by assumption)).symm | exact (ixB_g (by assumption) hR.2.1 (by have := hI.n; omega)).symm | exact (ixB_h (by assumption) (by assumption) hR.2.1 (by have := hI.n; omega)).symm, rfl⟩
    · refine cw_iconst (v := 1) d_C_isDrawing_12 (by decide) ?_
      refine cw_goto 17 d_C_isDrawing_13 (by decide) ?_
      refine cw_zret rfl d_C_isDrawing_17 (by first | exact Or.inl rfl | exact Or.inr rfl | exact b2_01 _) ?_
      exact ⟨by first | exact (ixB_f (by assumption)).symm | exact (ixB_g (by assumption) hR.2.1 (by have := hI.n; omega)).symm | exact (ixB_h (by assumption) (by assumption) hR.2.1 (by have := hI.n; omega)).symm, rfl⟩
set_option maxRecDepth 100000 in
theorem s_C_isKnower {M : Mem} {σ : Sg} (hR : RC M σ) (hI : Iv σ) {x : Int32} : CS u_C_isKnower [.ref 0, .int x] M (pI (b2 (ixB x σ.1.2.2)) M) := by
  refine cs_introF (L := [some (.ref 0), some (.int x)]) (by decide +kernel) (fun ad q h => h) (fun ad => Nat.le_of_ble_eq_true rfl) ?_
  refine cw_iload_n d_C_isKnower_0 rfl ?_
  refine cw_if_lt 16 d_C_isKnower_1 (by decide) (fun c_1 => ?_) (fun c_1 => ?_)
  · refine cw_iconst (v := 0) d_C_isKnower_16 (by decide) ?_
    refine cw_zret rfl d_C_isKnower_17 (by first | exact Or.inl rfl | exact Or.inr rfl | exact b2_01 _) ?_
    exact ⟨by first | exact (ixB_f (by assumption)).symm | exact (ixB_g (by assumption) hR.2.2.1 (by have := hI.n; omega)).symm | exact (ixB_h (by assumption) (by assumption) hR.2.2.1 (by have := hI.n; omega)).symm, rfl⟩
  · refine cw_iload_n d_C_isKnower_4 rfl ?_
    refine cw_aload_n d_C_isKnower_5 rfl ?_
    refine cw_getI fl_C_205 so_C rfl d_C_isKnower_6 ?_
    refine cw_icmp_ge 16 d_C_isKnower_9 (by decide) (fun c_9 => ?_) (fun c_9 => ?_)
    · refine cw_iconst (v := 0) d_C_isKnower_16 (by decide) ?_
      refine cw_zret rfl d_C_isKnower_17 (by first | exact Or.inl rfl | exact Or.inr rfl | exact b2_01 _) ?_
      exact ⟨by first | exact (ixB_f (by assumption)).symm | exact (ixB_g (by assumption) hR.2.2.1 (by have := hI.n; omega)).symm | exact (ixB_h (by assumption) (by assumption) hR.2.2.1 (by have := hI.n; omega)).symm, rfl⟩
    · refine cw_iconst (v := 1) d_C_isKnower_12 (by decide) ?_
      refine cw_goto 17 d_C_isKnower_13 (by decide) ?_
      refine cw_zret rfl d_C_isKnower_17 (by first | exact Or.inl rfl | exact Or.inr rfl | exact b2_01 _) ?_
      exact ⟨by first | exact (ixB_f (by assumption)).symm | exact (ixB_g (by assumption) hR.2.2.1 (by have := hI.n; omega)).symm | exact (ixB_h (by assumption) (by assumption) hR.2.2.1 (by have := hI.n; omega)).symm, rfl⟩
end
section
/-! ===== the class: leaves ===== -/
theorem b2_0 {b : Bool} (h : b = false) : 0 = b2 b := by rw [h]; rfl
theorem b2_1 {b : Bool} (h : b = true) : 1 = b2 b := by rw [h]; rfl
theorem i0 : (0 : Int32).toInt = 0 := rfl
theorem i1 : (1 : Int32).toInt = 1 := rfl
theorem i8 : (8 : Int32).toInt = 8 := rfl
theorem i60 : (60 : Int32).toInt = 60 := rfl
theorem i99 : (99 : Int32).toInt = 99 := rfl
theorem setB_a {x : Int32} {n : Nat} (h : x ≤ 0) : 0 = b2 (setB x n) := b2_0 (decide_eq_false (by have := i32_le.mp h; have := i0; omega))
theorem setB_b {x y : Int32} {n : Nat} (h : y ≤ x) (hy : y = nI (2 ^ n)) (hn : n ≤ 8) : 0 = b2 (setB x n) := b2_0 (decide_eq_false (by
  have h1 := i32_le.mp h
  have := pow8 hn
  rw [hy, nI_toInt (by omega)] at h1
  omega))
theorem setB_c {x y : Int32} {n : Nat} (h0 : ¬ x ≤ 0) (h : ¬ y ≤ x) (hy : y = nI (2 ^ n)) (hn : n ≤ 8) : 1 = b2 (setB x n) := b2_1 (decide_eq_true (by
  have h1 : ¬ y.toInt ≤ x.toInt := fun q => h (i32_le.mpr q)
  have h2 : ¬ x.toInt ≤ (0 : Int32).toInt := fun q => h0 (i32_le.mpr q)
  have := pow8 hn
  have := i0
  rw [hy, nI_toInt (by omega)] at h1
  omega))
def lastY (σ : Sg) : Int32 := if σ.1.2.1 = 0 then 0 else σ.2 6 (σ.1.2.1 - 1) 0
def lateB (σ : Sg) (y : Int32) : Bool := decide ((lastY σ).toInt ≤ y.toInt ∧ y.toInt ≤ 99)
theorem ixB_p {x y : Int32} {n : Nat} (h : y < x) (hy : y = nI n) (hn : n + 1 < 2 ^ 31) : 0 = b2 (ixB x (n + 1)) := b2_0 (decide_eq_false (by
  have h1 := i32_lt.mp h
  rw [hy, nI_toInt (by omega)] at h1
  omega))
theorem ixB_q {x y : Int32} {n : Nat} (h0 : ¬ x < 0) (h : ¬ y < x) (hy : y = nI n) (hn : n + 1 < 2 ^ 31) : 1 = b2 (ixB x (n + 1)) := b2_1 (decide_eq_true (by
  have h1 : ¬ y.toInt < x.toInt := fun q => h (i32_lt.mpr q)
  have h2 : ¬ x.toInt < (0 : Int32).toInt := fun q => h0 (i32_lt.mpr q)
  have := i0
  rw [hy, nI_toInt (by omega)] at h1
  omega))
set_option maxRecDepth 100000 in
theorem s_C_isPlace {M : Mem} {x : Int32} : CS u_C_isPlace [.int x] M (pI (b2 (ixB x (99 + 1))) M) := by
  refine cs_introF (L := [some (.int x)]) (by decide +kernel) (fun ad q h => h) (fun ad => Nat.le_of_ble_eq_true rfl) ?_
  refine cw_iload_n d_C_isPlace_0 rfl ?_
  refine cw_if_lt 14 d_C_isPlace_1 (by decide) (fun c_1 => ?_) (fun c_1 => ?_)
  · refine cw_iconst (v := 0) d_C_isPlace_14 (by decide) ?_
    refine cw_zret rfl d_C_isPlace_15 (by first | exact Or.inl rfl | exact Or.inr rfl | exact b2_01 _) ?_
    exact ⟨by first | exact (ixB_f (by assumption)).symm | exact ixB_p (by assumption) rfl (by decide) | exact ixB_q (by assumption) (by assumption) rfl (by decide), rfl⟩
  · refine cw_iload_n d_C_isPlace_4 rfl ?_
    refine cw_bipush (v := 99) d_C_isPlace_5 (by decide) ?_
    refine cw_icmp_gt 14 d_C_isPlace_7 (by decide) (fun c_7 => ?_) (fun c_7 => ?_)
    · refine cw_iconst (v := 0) d_C_isPlace_14 (by decide) ?_
      refine cw_zret rfl d_C_isPlace_15 (by first | exact Or.inl rfl | exact Or.inr rfl | exact b2_01 _) ?_
      exact ⟨by first | exact (ixB_f (by assumption)).symm | exact ixB_p (by assumption) rfl (by decide) | exact ixB_q (by assumption) (by assumption) rfl (by decide), rfl⟩
    · refine cw_iconst (v := 1) d_C_isPlace_10 (by decide) ?_
      refine cw_goto 15 d_C_isPlace_11 (by decide) ?_
      refine cw_zret rfl d_C_isPlace_15 (by first | exact Or.inl rfl | exact Or.inr rfl | exact b2_01 _) ?_
      exact ⟨by first | exact (ixB_f (by assumption)).symm | exact ixB_p (by assumption) rfl (by decide) | exact ixB_q (by assumption) (by assumption) rfl (by decide), rfl⟩
set_option maxRecDepth 100000 in
theorem s_C_isForm {M : Mem} {x : Int32} : CS u_C_isForm [.int x] M (pI (b2 (ixB x (2 + 1))) M) := by
  refine cs_introF (L := [some (.int x)]) (by decide +kernel) (fun ad q h => h) (fun ad => Nat.le_of_ble_eq_true rfl) ?_
  refine cw_iload_n d_C_isForm_0 rfl ?_
  refine cw_if_lt 13 d_C_isForm_1 (by decide) (fun c_1 => ?_) (fun c_1 => ?_)
  · refine cw_iconst (v := 0) d_C_isForm_13 (by decide) ?_
    refine cw_zret rfl d_C_isForm_14 (by first | exact Or.inl rfl | exact Or.inr rfl | exact b2_01 _) ?_
    exact ⟨by first | exact (ixB_f (by assumption)).symm | exact ixB_p (by assumption) rfl (by decide) | exact ixB_q (by assumption) (by assumption) rfl (by decide), rfl⟩
  · refine cw_iload_n d_C_isForm_4 rfl ?_
    refine cw_iconst (v := 2) d_C_isForm_5 (by decide) ?_
    refine cw_icmp_gt 13 d_C_isForm_6 (by decide) (fun c_6 => ?_) (fun c_6 => ?_)
    · refine cw_iconst (v := 0) d_C_isForm_13 (by decide) ?_
      refine cw_zret rfl d_C_isForm_14 (by first | exact Or.inl rfl | exact Or.inr rfl | exact b2_01 _) ?_
      exact ⟨by first | exact (ixB_f (by assumption)).symm | exact ixB_p (by assumption) rfl (by decide) | exact ixB_q (by assumption) (by assumption) rfl (by decide), rfl⟩
    · refine cw_iconst (v := 1) d_C_isForm_9 (by decide) ?_
      refine cw_goto 14 d_C_isForm_10 (by decide) ?_
      refine cw_zret rfl d_C_isForm_14 (by first | exact Or.inl rfl | exact Or.inr rfl | exact b2_01 _) ?_
      exact ⟨by first | exact (ixB_f (by assumption)).symm | exact ixB_p (by assumption) rfl (by decide) | exact ixB_q (by assumption) (by assumption) rfl (by decide), rfl⟩
set_option maxRecDepth 100000 in
theorem s_C_isSet {M : Mem} {σ : Sg} (hR : RC M σ) (hI : Iv σ) {x : Int32} : CS u_C_isSet [.ref 0, .int x] M (pI (b2 (setB x σ.1.1)) M) := by
  have hs : (1 : Int32) <<< (mG M 0 5 &&& 31) = nI (2 ^ σ.1.1) := by rw [hR.n1]; exact shl1 _ hI.1
  refine cs_introF (L := [some (.ref 0), some (.int x)]) (by decide +kernel) (fun ad q h => h) (fun ad => Nat.le_of_ble_eq_true rfl) ?_
  refine cw_iload_n d_C_isSet_0 rfl ?_
  refine cw_if_le 18 d_C_isSet_1 (by decide) (fun c_1 => ?_) (fun c_1 => ?_)
  · refine cw_iconst (v := 0) d_C_isSet_18 (by decide) ?_
    refine cw_zret rfl d_C_isSet_19 (by first | exact Or.inl rfl | exact Or.inr rfl | exact b2_01 _) ?_
    exact ⟨by first | exact setB_a (by assumption) | exact setB_b (by assumption) hs hI.1 | exact setB_c (by assumption) (by assumption) hs hI.1, rfl⟩
  · refine cw_iload_n d_C_isSet_4 rfl ?_
    refine cw_iconst (v := 1) d_C_isSet_5 (by decide) ?_
    refine cw_aload_n d_C_isSet_6 rfl ?_
    refine cw_getI fl_C_75 so_C rfl d_C_isSet_7 ?_
    refine cw_ishl d_C_isSet_10 ?_
    refine cw_icmp_ge 18 d_C_isSet_11 (by decide) (fun c_11 => ?_) (fun c_11 => ?_)
    · refine cw_iconst (v := 0) d_C_isSet_18 (by decide) ?_
      refine cw_zret rfl d_C_isSet_19 (by first | exact Or.inl rfl | exact Or.inr rfl | exact b2_01 _) ?_
      exact ⟨by first | exact setB_a (by assumption) | exact setB_b (by assumption) hs hI.1 | exact setB_c (by assumption) (by assumption) hs hI.1, rfl⟩
    · refine cw_iconst (v := 1) d_C_isSet_14 (by decide) ?_
      refine cw_goto 19 d_C_isSet_15 (by decide) ?_
      refine cw_zret rfl d_C_isSet_19 (by first | exact Or.inl rfl | exact Or.inr rfl | exact b2_01 _) ?_
      exact ⟨by first | exact setB_a (by assumption) | exact setB_b (by assumption) hs hI.1 | exact setB_c (by assumption) (by assumption) hs hI.1, rfl⟩
set_option maxRecDepth 100000 in
theorem s_C_isNextYear {M : Mem} {σ : Sg} (hR : RC M σ) (hI : Iv σ) {x : Int32} : CS u_C_isNextYear [.ref 0, .int x] M (pI (b2 (lateB σ x)) M) := by
  obtain ⟨hn1, hn2, hn3⟩ := hI.n
  refine cs_introF (L := [some (.ref 0), some (.int x), none]) (by decide +kernel) (fun ad q h => h) (fun ad => Nat.le_of_ble_eq_true rfl) ?_
  refine cw_aload_n d_C_isNextYear_0 rfl ?_
  refine cw_getI fl_C_146 so_C rfl d_C_isNextYear_1 ?_
  refine cw_tern1 25 (lastY σ) ?_ (fun k_4 => ?_)
  · refine cw_istore_n d_C_isNextYear_25 rfl ?_
    refine cw_iload_n d_C_isNextYear_26 rfl ?_
    refine cw_iload_n d_C_isNextYear_27 rfl ?_
    refine cw_icmp_lt 41 d_C_isNextYear_28 (by decide) (fun c_28 => ?_) (fun c_28 => ?_)
    · refine cw_iconst (v := 0) d_C_isNextYear_41 (by decide) ?_
      refine cw_zret rfl d_C_isNextYear_42 (by first | exact Or.inl rfl | exact Or.inr rfl | exact b2_01 _) ?_
      exact ⟨by first
        | exact b2_0 (decide_eq_false (by have := i32_lt.mp c_28; omega))
        | exact b2_0 (decide_eq_false (by have := i32_lt.mp c_34; have := i99; omega))
        | exact b2_1 (decide_eq_true ⟨by have := i32_nlt.mp c_28; exact i32_le.mp this, by have := i32_le.mp (i32_nlt.mp c_34); have := i99; omega⟩), rfl⟩
    · refine cw_iload_n d_C_isNextYear_31 rfl ?_
      refine cw_bipush (v := 99) d_C_isNextYear_32 (by decide) ?_
      refine cw_icmp_gt 41 d_C_isNextYear_34 (by decide) (fun c_34 => ?_) (fun c_34 => ?_)
      · refine cw_iconst (v := 0) d_C_isNextYear_41 (by decide) ?_
        refine cw_zret rfl d_C_isNextYear_42 (by first | exact Or.inl rfl | exact Or.inr rfl | exact b2_01 _) ?_
        exact ⟨by first
          | exact b2_0 (decide_eq_false (by have := i32_lt.mp c_28; omega))
          | exact b2_0 (decide_eq_false (by have := i32_lt.mp c_34; have := i99; omega))
          | exact b2_1 (decide_eq_true ⟨by have := i32_nlt.mp c_28; exact i32_le.mp this, by have := i32_le.mp (i32_nlt.mp c_34); have := i99; omega⟩), rfl⟩
      · refine cw_iconst (v := 1) d_C_isNextYear_37 (by decide) ?_
        refine cw_goto 42 d_C_isNextYear_38 (by decide) ?_
        refine cw_zret rfl d_C_isNextYear_42 (by first | exact Or.inl rfl | exact Or.inr rfl | exact b2_01 _) ?_
        exact ⟨by first
          | exact b2_0 (decide_eq_false (by have := i32_lt.mp c_28; omega))
          | exact b2_0 (decide_eq_false (by have := i32_lt.mp c_34; have := i99; omega))
          | exact b2_1 (decide_eq_true ⟨by have := i32_nlt.mp c_28; exact i32_le.mp this, by have := i32_le.mp (i32_nlt.mp c_34); have := i99; omega⟩), rfl⟩
  · refine cw_if_le 24 d_C_isNextYear_4 (by decide) (fun c_4 => ?_) (fun c_4 => ?_)
    · have k_v : (0 : Int32) = lastY σ := (if_pos (by rw [hR.n2] at c_4; exact Nat.eq_zero_of_not_pos (fun q => nI_nle q (by omega) c_4))).symm
      refine cw_iconst (v := 0) d_C_isNextYear_24 (by decide) ?_
      exact k_4 _ (by assumption)
    · have hz : ¬ σ.1.2.1 = 0 := fun q => c_4 (by rw [hR.n2, q]; exact Int32.le_refl 0)
      have k_v : mG M (100 + (σ.1.2.1 - 1)) 3 = lastY σ := by rw [hR.dy (by omega)]; exact (if_neg hz).symm
      refine cw_aload_n d_C_isNextYear_7 rfl ?_
      refine cw_getR fl_C_23 so_C rfl d_C_isNextYear_8 ?_
      refine cw_aload_n d_C_isNextYear_11 rfl ?_
      refine cw_getI fl_C_146 so_C rfl d_C_isNextYear_12 ?_
      refine cw_iconst (v := 1) d_C_isNextYear_15 (by decide) ?_
      refine cw_isub d_C_isNextYear_16 ?_
      refine cw_aaldN (i := σ.1.2.1 - 1) sr_3 (nSub hR.n2 rfl (by omega)) (by omega) (by decide) d_C_isNextYear_17 ?_
      refine cw_getI fl_C_163 (so_Sk (d := σ.1.2.1 - 1) (by omega)) rfl d_C_isNextYear_18 ?_
      refine cw_goto 25 d_C_isNextYear_21 (by decide) ?_
      exact k_4 _ (by assumption)
set_option maxRecDepth 100000 in
theorem s_C_found {M : Mem} {x : Int32} : CS u_C_found [.ref 0, .int x] M (retI (fun r M2 => r = -10 - x ∧ M2 = mS M 0 11 x)) := by
  refine cs_introF (L := [some (.ref 0), some (.int x)]) (by decide +kernel) (fun ad q h => h) (fun ad => Nat.le_of_ble_eq_true rfl) ?_
  refine cw_aload_n d_C_found_0 rfl ?_
  refine cw_iload_n d_C_found_1 rfl ?_
  refine cw_putI fp_C_313 so_C rfl d_C_found_2 ?_
  refine cw_bipush (v := (-10)) d_C_found_5 (by decide) ?_
  refine cw_iload_n d_C_found_7 rfl ?_
  refine cw_isub d_C_found_8 ?_
  refine cw_iret rfl d_C_found_9 ?_
  exact ⟨rfl, rfl⟩
theorem nI_add1 (a : Nat) : nI a + Int32.ofInt 1 = nI (a + 1) := nI_1 a
set_option maxRecDepth 100000 in
theorem l_C_meanOf {M : Mem} {s : Int32} {n p : Nat} (hn : mG M 0 5 = nI n) (hn8 : n ≤ 8) (hp : p < 8) (hc : 0 < cntUp (bit s) n)  : ∀ i, i ≤ n → CW u_C_meanOf (pI (sumUp (fun h => if bit s h then mG M (20 + h) p else 0) n / nI (cntUp (bit s) n)) M) 8 [some (.ref 0), some (.int s), some (.int (nI p)), some (.int (sumUp (fun h => if bit s h then mG M (20 + h) p else 0) i)), some (.int (nI (cntUp (bit s) i))), some (.int (nI i))] [] M := by
  refine up_ind (fun i hi ih => ?_)
  have hcl := cntUp_le (bit s) n
  refine cw_iload d_C_meanOf_8 rfl ?_
  refine cw_aload_n d_C_meanOf_10 rfl ?_
  refine cw_getI fl_C_75 so_C rfl d_C_meanOf_11 ?_
  refine cw_icmp_geN (i) (n) 51 rfl hn (by omega) d_C_meanOf_14 (by decide) (fun c_14 => ?_) (fun c_14 => ?_)
  · have ei : i = n := by omega
    subst ei
    refine cw_iload d_C_meanOf_51 rfl ?_
    refine cw_if_ne 60 d_C_meanOf_53 (by decide) (fun c_53 => ?_) (fun c_53 => ?_)
    · refine cw_iload_n d_C_meanOf_60 rfl ?_
      refine cw_iload d_C_meanOf_61 rfl ?_
      refine cw_idiv d_C_meanOf_63 (by assumption) ?_
      refine cw_iret rfl d_C_meanOf_64 ?_
      first
        | exact ⟨rfl, rfl⟩
        | exact absurd (by assumption) (nI_ne0 hc (by omega))
    · refine cw_iconst (v := 0) d_C_meanOf_56 (by decide) ?_
      refine cw_goto 64 d_C_meanOf_57 (by decide) ?_
      refine cw_iret rfl d_C_meanOf_64 ?_
      first
        | exact ⟨rfl, rfl⟩
        | exact absurd (by assumption) (nI_ne0 hc (by omega))
  · refine cw_iload_n d_C_meanOf_17 rfl ?_
    refine cw_iload d_C_meanOf_18 rfl ?_
    refine cw_ishr d_C_meanOf_20 ?_
    refine cw_iconst (v := 1) d_C_meanOf_21 (by decide) ?_
    refine cw_iand d_C_meanOf_22 ?_
    refine cw_iconst (v := 1) d_C_meanOf_23 (by decide) ?_
    refine cw_icmp_ne 45 d_C_meanOf_24 (by decide) (fun c_24 => ?_) (fun c_24 => ?_)
    · have hbit : bit s i = false := decide_eq_false c_24
      refine cw_iincN (x := i) d_C_meanOf_45 rfl rfl ?_
      refine cw_goto 8 d_C_meanOf_48 (by decide) ?_
      exact cw_cast (by simp only [lset1, kl, sumUp_s, cntUp, hbit, if_true, Bool.false_eq_true, if_false, Int32.add_zero]) rfl rfl (ih c_14)
    · have hbit : bit s i = true := decide_eq_true c_24
      refine cw_iload_n d_C_meanOf_27 rfl ?_
      refine cw_aload_n d_C_meanOf_28 rfl ?_
      refine cw_getR fl_C_11 so_C rfl d_C_meanOf_29 ?_
      refine cw_iload d_C_meanOf_32 rfl ?_
      refine cw_aaldN (i := i) sr_1 rfl (by omega) (by decide) d_C_meanOf_34 ?_
      refine cw_getR fl_C_88 (so_He (h := i) (by omega)) rfl d_C_meanOf_35 ?_
      refine cw_iload_n d_C_meanOf_38 rfl ?_
      refine cw_ialdN (i := p) (sa_pl (h := i) (by omega)) rfl (by omega) (by decide) d_C_meanOf_39 ?_
      refine cw_iadd d_C_meanOf_40 ?_
      refine cw_istore_n d_C_meanOf_41 rfl ?_
      refine cw_iincN (x := cntUp (bit s) i) d_C_meanOf_42 rfl rfl ?_
      refine cw_iincN (x := i) d_C_meanOf_45 rfl rfl ?_
      refine cw_goto 8 d_C_meanOf_48 (by decide) ?_
      exact cw_cast (by simp only [lset1, kl, sumUp_s, cntUp, hbit, if_true, Bool.false_eq_true, if_false, Int32.add_zero]) rfl rfl (ih c_14)
set_option maxRecDepth 100000 in
theorem s_C_meanOf0 {M : Mem} {s : Int32} {n p : Nat} (hn : mG M 0 5 = nI n) (hn8 : n ≤ 8) (hp : p < 8) (hc : 0 < cntUp (bit s) n)  : CS u_C_meanOf [.ref 0, .int s, .int (nI p)] M (pI (sumUp (fun h => if bit s h then mG M (20 + h) p else 0) n / nI (cntUp (bit s) n)) M) := by
  refine cs_introF (L := [some (.ref 0), some (.int s), some (.int (nI p)), none, none, none]) (by decide +kernel) (fun ad q h => h) (fun ad => Nat.le_of_ble_eq_true rfl) ?_
  refine cw_iconst (v := 0) d_C_meanOf_0 (by decide) ?_
  refine cw_istore_n d_C_meanOf_1 rfl ?_
  refine cw_iconst (v := 0) d_C_meanOf_2 (by decide) ?_
  refine cw_istore d_C_meanOf_3 rfl ?_
  refine cw_iconst (v := 0) d_C_meanOf_5 (by decide) ?_
  refine cw_istore d_C_meanOf_6 rfl ?_
  exact l_C_meanOf hn hn8 hp hc 0 (Nat.zero_le n)
theorem s_C_meanOf {M : Mem} {σ : Sg} (hR : RC M σ) (hI : Iv σ) {s : Int32} {p : Nat} (hp : p < 8) (hs : setB s σ.1.1 = true) : CS u_C_meanOf [.ref 0, .int s, .int (nI p)] M (pI (meanS σ s p) M) := by
  have h := s_C_meanOf0 (M := M) (s := s) (p := p) hR.n1 hI.1 hp (cnt_pos hI.1 hs)
  have e : sumUp (fun h => if bit s h then mG M (20 + h) p else 0) σ.1.1 = sumUp (fun h => if bit s h then σ.2 1 h p else 0) σ.1.1 := sumUp_congr (fun i hi => by
    have := hI.1
    rw [hR.pl (by omega) hp])
  rw [e] at h
  exact h
end
section
theorem i_vc : Claimed_1_1 ∧ Claimed_1_2 := sorry
end
