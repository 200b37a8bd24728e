/-! ===== methods: name, bytes, locals, what it returns, its room ===== -/
def u_Fr_init : MI := (⟨"UnlikeDrawn$Fraction", "<init>", "()V"⟩, prog_2_method_1_code, 1, none, 1, 20)
def u_Fr_become : MI := (⟨"UnlikeDrawn$Fraction", "become", "(JJ)V"⟩, prog_2_method_2_code, 5, none, 0, 0)
def u_Fr_cut : MI := (⟨"UnlikeDrawn$Fraction", "cut", "()J"⟩, prog_2_method_3_code, 1, (some .long), 0, 0)
def u_Fr_isAbove : MI := (⟨"UnlikeDrawn$Fraction", "isAbove", "(LUnlikeDrawn$Fraction;)Z"⟩, prog_2_method_4_code, 10, (some .boolean), 1, 20)
def u_Fr_told : MI := (⟨"UnlikeDrawn$Fraction", "told", "(I)J"⟩, prog_2_method_5_code, 9, (some .long), 1, 21)
def u_Ha_init : MI := (⟨"UnlikeDrawn$Hand", "<init>", "()V"⟩, prog_3_method_1_code, 1, none, 1, 23)
def u_Ha_append : MI := (⟨"UnlikeDrawn$Hand", "append", "(I)V"⟩, prog_3_method_2_code, 2, none, 4, 94)
def u_Ha_clear : MI := (⟨"UnlikeDrawn$Hand", "clear", "()V"⟩, prog_3_method_3_code, 1, none, 4, 94)
def u_Ha_understand : MI := (⟨"UnlikeDrawn$Hand", "understand", "()V"⟩, prog_3_method_4_code, 4, none, 3, 71)
def u_Ha_behindPiece : MI := (⟨"UnlikeDrawn$Hand", "behindPiece", "(I)I"⟩, prog_3_method_5_code, 7, (some .int), 2, 45)
def u_Ha_stopAt : MI := (⟨"UnlikeDrawn$Hand", "stopAt", "(I)I"⟩, prog_3_method_6_code, 2, (some .int), 0, 0)
def u_Ha_mark : MI := (⟨"UnlikeDrawn$Hand", "mark", "(II)V"⟩, prog_3_method_7_code, 3, none, 1, 23)
def u_Ha_byteAt : MI := (⟨"UnlikeDrawn$Hand", "byteAt", "(I)I"⟩, prog_3_method_8_code, 2, (some .int), 0, 0)
def u_Ha_isFigure : MI := (⟨"UnlikeDrawn$Hand", "isFigure", "(I)Z"⟩, prog_3_method_9_code, 1, (some .boolean), 0, 0)
def u_He_init : MI := (⟨"UnlikeDrawn$Head", "<init>", "()V"⟩, prog_4_method_1_code, 1, none, 1, 23)
def u_He_offFrom : MI := (⟨"UnlikeDrawn$Head", "offFrom", "([I)I"⟩, prog_4_method_2_code, 4, (some .int), 1, 20)
def u_Kn_init : MI := (⟨"UnlikeDrawn$Knower", "<init>", "()V"⟩, prog_5_method_1_code, 1, none, 1, 20)
def u_Kn_knows : MI := (⟨"UnlikeDrawn$Knower", "knows", "(I)Z"⟩, prog_5_method_2_code, 2, (some .boolean), 0, 0)
def u_Kn_gaze : MI := (⟨"UnlikeDrawn$Knower", "gaze", "(LUnlikeDrawn$Sketch;II)V"⟩, prog_5_method_3_code, 6, none, 1, 21)
def u_Kn_weigh : MI := (⟨"UnlikeDrawn$Knower", "weigh", "(LUnlikeDrawn$Sketch;LUnlikeDrawn$Head;LUnlikeDrawn$Fraction;)V"⟩, prog_5_method_4_code, 11, none, 1, 24)
def u_Sh_init : MI := (⟨"UnlikeDrawn$Sheet", "<init>", "()V"⟩, prog_6_method_1_code, 1, none, 1, 20)
def u_Sh_isLost : MI := (⟨"UnlikeDrawn$Sheet", "isLost", "()Z"⟩, prog_6_method_2_code, 1, (some .boolean), 0, 0)
def u_Sh_begin : MI := (⟨"UnlikeDrawn$Sheet", "begin", "(II)V"⟩, prog_6_method_3_code, 3, none, 1, 23)
def u_Sh_hasRun : MI := (⟨"UnlikeDrawn$Sheet", "hasRun", "(II)Z"⟩, prog_6_method_4_code, 3, (some .boolean), 0, 0)
def u_Sh_put : MI := (⟨"UnlikeDrawn$Sheet", "put", "(II)V"⟩, prog_6_method_5_code, 3, none, 0, 0)
def u_Sk_init : MI := (⟨"UnlikeDrawn$Sketch", "<init>", "()V"⟩, prog_7_method_1_code, 1, none, 1, 20)
def u_Sk_has : MI := (⟨"UnlikeDrawn$Sketch", "has", "(I)Z"⟩, prog_7_method_2_code, 2, (some .boolean), 0, 0)
def u_Sk_isOffByMoreThan : MI := (⟨"UnlikeDrawn$Sketch", "isOffByMoreThan", "(I)Z"⟩, prog_7_method_3_code, 3, (some .boolean), 1, 21)
def u_Sk_distanceTo : MI := (⟨"UnlikeDrawn$Sketch", "distanceTo", "(LUnlikeDrawn$Sketch;I)I"⟩, prog_7_method_4_code, 5, (some .int), 1, 21)
def u_C_init : MI := (⟨"UnlikeDrawn", "<init>", "()V"⟩, prog_1_method_1_code, 2, none, 2, 43)
def u_C_head : MI := (⟨"UnlikeDrawn", "head", "()I"⟩, prog_1_method_2_code, 1, (some .int), 0, 0)
def u_C_place : MI := (⟨"UnlikeDrawn", "place", "(III)I"⟩, prog_1_method_3_code, 6, (some .int), 1, 21)
def u_C_read : MI := (⟨"UnlikeDrawn", "read", "(II)I"⟩, prog_1_method_4_code, 7, (some .int), 1, 21)
def u_C_mean : MI := (⟨"UnlikeDrawn", "mean", "(II)I"⟩, prog_1_method_5_code, 3, (some .int), 1, 25)
def u_C_type : MI := (⟨"UnlikeDrawn", "type", "(II)I"⟩, prog_1_method_6_code, 3, (some .int), 5, 115)
def u_C_wipe : MI := (⟨"UnlikeDrawn", "wipe", "(I)I"⟩, prog_1_method_7_code, 3, (some .int), 5, 114)
def u_C_fault : MI := (⟨"UnlikeDrawn", "fault", "(I)I"⟩, prog_1_method_8_code, 2, (some .int), 1, 20)
def u_C_tenths : MI := (⟨"UnlikeDrawn", "tenths", "(II)I"⟩, prog_1_method_9_code, 3, (some .int), 1, 20)
def u_C_drawn : MI := (⟨"UnlikeDrawn", "drawn", "(IIII)I"⟩, prog_1_method_10_code, 5, (some .int), 2, 44)
def u_C_set : MI := (⟨"UnlikeDrawn", "set", "(II)I"⟩, prog_1_method_11_code, 4, (some .int), 0, 0)
def u_C_draw : MI := (⟨"UnlikeDrawn", "draw", "(IIII)I"⟩, prog_1_method_12_code, 6, (some .int), 3, 67)
def u_C_copied : MI := (⟨"UnlikeDrawn", "copied", "(III)I"⟩, prog_1_method_13_code, 6, (some .int), 3, 67)
def u_C_line : MI := (⟨"UnlikeDrawn", "line", "(II)I"⟩, prog_1_method_14_code, 3, (some .int), 1, 21)
def u_C_about : MI := (⟨"UnlikeDrawn", "about", "(II)I"⟩, prog_1_method_15_code, 4, (some .int), 4, 93)
def u_C_unlike : MI := (⟨"UnlikeDrawn", "unlike", "(II)I"⟩, prog_1_method_16_code, 3, (some .int), 2, 45)
def u_C_knower : MI := (⟨"UnlikeDrawn", "knower", "(II)I"⟩, prog_1_method_17_code, 4, (some .int), 2, 48)
def u_C_look : MI := (⟨"UnlikeDrawn", "look", "(III)I"⟩, prog_1_method_18_code, 4, (some .int), 2, 46)
def u_C_leans : MI := (⟨"UnlikeDrawn", "leans", "(II)I"⟩, prog_1_method_19_code, 3, (some .int), 1, 21)
def u_C_score : MI := (⟨"UnlikeDrawn", "score", "(IIII)J"⟩, prog_1_method_20_code, 5, (some .long), 2, 54)
def u_C_named : MI := (⟨"UnlikeDrawn", "named", "(III)I"⟩, prog_1_method_21_code, 5, (some .int), 3, 82)
def u_C_much : MI := (⟨"UnlikeDrawn", "much", "(IIII)I"⟩, prog_1_method_22_code, 5, (some .int), 5, 128)
def u_C_few : MI := (⟨"UnlikeDrawn", "few", "(IIII)I"⟩, prog_1_method_23_code, 8, (some .int), 4, 102)
def u_C_stands : MI := (⟨"UnlikeDrawn", "stands", "(IIII)I"⟩, prog_1_method_24_code, 8, (some .int), 4, 102)
def u_C_grows : MI := (⟨"UnlikeDrawn", "grows", "(III)J"⟩, prog_1_method_25_code, 16, (some .long), 2, 49)
def u_C_back : MI := (⟨"UnlikeDrawn", "back", "(III)I"⟩, prog_1_method_26_code, 4, (some .int), 2, 49)
def u_C_near : MI := (⟨"UnlikeDrawn", "near", "(II)I"⟩, prog_1_method_27_code, 6, (some .int), 2, 49)
def u_C_witness : MI := (⟨"UnlikeDrawn", "witness", "(III)I"⟩, prog_1_method_28_code, 6, (some .int), 1, 25)
def u_C_plainest : MI := (⟨"UnlikeDrawn", "plainest", "(I)I"⟩, prog_1_method_29_code, 6, (some .int), 2, 48)
def u_C_sheet : MI := (⟨"UnlikeDrawn", "sheet", "(III)I"⟩, prog_1_method_30_code, 4, (some .int), 2, 45)
def u_C_lose : MI := (⟨"UnlikeDrawn", "lose", "(I)I"⟩, prog_1_method_31_code, 3, (some .int), 2, 45)
def u_C_lay : MI := (⟨"UnlikeDrawn", "lay", "(IIII)I"⟩, prog_1_method_32_code, 6, (some .int), 2, 42)
def u_C_get : MI := (⟨"UnlikeDrawn", "get", "(III)I"⟩, prog_1_method_33_code, 5, (some .int), 2, 42)
def u_C_copy : MI := (⟨"UnlikeDrawn", "copy", "(IIIII)I"⟩, prog_1_method_34_code, 8, (some .int), 1, 26)
def u_C_write : MI := (⟨"UnlikeDrawn", "write", "(II)I"⟩, prog_1_method_35_code, 6, (some .int), 1, 22)
def u_C_count : MI := (⟨"UnlikeDrawn", "count", "(I)I"⟩, prog_1_method_36_code, 2, (some .int), 3, 65)
def u_C_digest : MI := (⟨"UnlikeDrawn", "digest", "()J"⟩, prog_1_method_37_code, 5, (some .long), 6, 142)
def u_C_isHead : MI := (⟨"UnlikeDrawn", "isHead", "(I)Z"⟩, prog_1_method_38_code, 2, (some .boolean), 0, 0)
def u_C_isDrawing : MI := (⟨"UnlikeDrawn", "isDrawing", "(I)Z"⟩, prog_1_method_39_code, 2, (some .boolean), 0, 0)
def u_C_isKnower : MI := (⟨"UnlikeDrawn", "isKnower", "(I)Z"⟩, prog_1_method_40_code, 2, (some .boolean), 0, 0)
def u_C_isSet : MI := (⟨"UnlikeDrawn", "isSet", "(I)Z"⟩, prog_1_method_41_code, 2, (some .boolean), 0, 0)
def u_C_isNextYear : MI := (⟨"UnlikeDrawn", "isNextYear", "(I)Z"⟩, prog_1_method_42_code, 3, (some .boolean), 0, 0)
def u_C_isPart : MI := (⟨"UnlikeDrawn", "isPart", "(I)Z"⟩, prog_1_method_43_code, 1, (some .boolean), 0, 0)
def u_C_isPlace : MI := (⟨"UnlikeDrawn", "isPlace", "(I)Z"⟩, prog_1_method_44_code, 1, (some .boolean), 0, 0)
def u_C_isHand : MI := (⟨"UnlikeDrawn", "isHand", "(I)Z"⟩, prog_1_method_45_code, 1, (some .boolean), 0, 0)
def u_C_isSheet : MI := (⟨"UnlikeDrawn", "isSheet", "(I)Z"⟩, prog_1_method_46_code, 1, (some .boolean), 0, 0)
def u_C_isForm : MI := (⟨"UnlikeDrawn", "isForm", "(I)Z"⟩, prog_1_method_47_code, 1, (some .boolean), 0, 0)
def u_C_refusalOfParts : MI := (⟨"UnlikeDrawn", "refusalOfParts", "(IIII)I"⟩, prog_1_method_48_code, 5, (some .int), 1, 21)
def u_C_found : MI := (⟨"UnlikeDrawn", "found", "(I)I"⟩, prog_1_method_49_code, 2, (some .int), 0, 0)
def u_C_findingAt : MI := (⟨"UnlikeDrawn", "findingAt", "(LUnlikeDrawn$Sheet;II)I"⟩, prog_1_method_50_code, 3, (some .int), 1, 20)
def u_C_meanOf : MI := (⟨"UnlikeDrawn", "meanOf", "(II)I"⟩, prog_1_method_51_code, 6, (some .int), 0, 0)
def u_C_fillMean : MI := (⟨"UnlikeDrawn", "fillMean", "(I[I)V"⟩, prog_1_method_52_code, 4, none, 1, 25)
def u_C_drawnAt : MI := (⟨"UnlikeDrawn", "drawnAt", "(III)I"⟩, prog_1_method_53_code, 4, (some .int), 1, 21)
def u_C_outline : MI := (⟨"UnlikeDrawn", "outline", "(LUnlikeDrawn$Sketch;[ILUnlikeDrawn$Hand;)V"⟩, prog_1_method_54_code, 4, none, 2, 44)
def u_C_kindOf : MI := (⟨"UnlikeDrawn", "kindOf", "(LUnlikeDrawn$Sketch;[ILUnlikeDrawn$Hand;)I"⟩, prog_1_method_55_code, 6, (some .int), 1, 21)
def u_C_monsters : MI := (⟨"UnlikeDrawn", "monsters", "()I"⟩, prog_1_method_56_code, 3, (some .int), 2, 43)
def u_C_fromOf : MI := (⟨"UnlikeDrawn", "fromOf", "(I)I"⟩, prog_1_method_57_code, 6, (some .int), 2, 45)
def u_C_agesOf : MI := (⟨"UnlikeDrawn", "agesOf", "(I)I"⟩, prog_1_method_58_code, 4, (some .int), 3, 70)
def u_C_whoseIs : MI := (⟨"UnlikeDrawn", "whoseIs", "(LUnlikeDrawn$Sketch;)I"⟩, prog_1_method_59_code, 6, (some .int), 3, 67)
def u_C_nameFor : MI := (⟨"UnlikeDrawn", "nameFor", "(LUnlikeDrawn$Knower;LUnlikeDrawn$Sketch;)I"⟩, prog_1_method_60_code, 5, (some .int), 2, 54)
def u_C_marginOf : MI := (⟨"UnlikeDrawn", "marginOf", "(LUnlikeDrawn$Knower;LUnlikeDrawn$Sketch;I)I"⟩, prog_1_method_61_code, 9, (some .int), 2, 54)
def u_C_tryParts : MI := (⟨"UnlikeDrawn", "tryParts", "(III)V"⟩, prog_1_method_62_code, 6, none, 2, 44)
def u_C_isNamedBy : MI := (⟨"UnlikeDrawn", "isNamedBy", "(LUnlikeDrawn$Knower;III)Z"⟩, prog_1_method_63_code, 5, (some .boolean), 3, 78)
def u_C_leastNamed : MI := (⟨"UnlikeDrawn", "leastNamed", "(LUnlikeDrawn$Knower;I)I"⟩, prog_1_method_64_code, 4, (some .int), 4, 102)
def u_C_bestNamed : MI := (⟨"UnlikeDrawn", "bestNamed", "(LUnlikeDrawn$Knower;I)I"⟩, prog_1_method_65_code, 7, (some .int), 4, 102)
def u_C_leastMonster : MI := (⟨"UnlikeDrawn", "leastMonster", "(I)I"⟩, prog_1_method_66_code, 3, (some .int), 3, 69)
def u_C_putBack : MI := (⟨"UnlikeDrawn", "putBack", "(III)I"⟩, prog_1_method_67_code, 9, (some .int), 1, 21)
def u_C_furthestOff : MI := (⟨"UnlikeDrawn", "furthestOff", "()I"⟩, prog_1_method_68_code, 3, (some .int), 0, 0)
def u_C_digestOfDrawing : MI := (⟨"UnlikeDrawn", "digestOfDrawing", "(JI)J"⟩, prog_1_method_69_code, 7, (some .long), 5, 116)
def u_C_digestOfKnower : MI := (⟨"UnlikeDrawn", "digestOfKnower", "(JI)J"⟩, prog_1_method_70_code, 7, (some .long), 4, 106)
def u_M_init : MI := (⟨"UnlikeDrawnModel", "<init>", "()V"⟩, prog_9_method_1_code, 2, none, 1, 20)
def u_M_in : MI := (⟨"UnlikeDrawnModel", "in", "(JJJ)Z"⟩, prog_9_method_3_code, 6, (some .boolean), 0, 0)
def u_M_no : MI := (⟨"UnlikeDrawnModel", "no", "(I)J"⟩, prog_9_method_4_code, 1, (some .long), 0, 0)
def u_M_dear : MI := (⟨"UnlikeDrawnModel", "dear", "(I)I"⟩, prog_9_method_5_code, 1, (some .int), 0, 0)
def u_M_isTwo : MI := (⟨"UnlikeDrawnModel", "isTwo", "(I)Z"⟩, prog_9_method_6_code, 1, (some .boolean), 1, 25)
def u_M_amount : MI := (⟨"UnlikeDrawnModel", "amount", "(I)I"⟩, prog_9_method_7_code, 1, (some .int), 0, 0)
def u_M_met : MI := (⟨"UnlikeDrawnModel", "met", "(I)I"⟩, prog_9_method_8_code, 2, (some .int), 0, 0)
def u_M_isSheet : MI := (⟨"UnlikeDrawnModel", "isSheet", "(I)Z"⟩, prog_9_method_9_code, 1, (some .boolean), 1, 25)
def u_M_sheet : MI := (⟨"UnlikeDrawnModel", "sheet", "(III)I"⟩, prog_9_method_10_code, 5, (some .int), 2, 45)
def u_M_lose : MI := (⟨"UnlikeDrawnModel", "lose", "(I)I"⟩, prog_9_method_11_code, 2, (some .int), 2, 45)
def u_M_lacks : MI := (⟨"UnlikeDrawnModel", "lacks", "(III)I"⟩, prog_9_method_12_code, 4, (some .int), 1, 25)
def u_M_cut : MI := (⟨"UnlikeDrawnModel", "cut", "(II)I"⟩, prog_9_method_13_code, 2, (some .int), 0, 0)
def u_M_lay : MI := (⟨"UnlikeDrawnModel", "lay", "(IIII)I"⟩, prog_9_method_14_code, 6, (some .int), 2, 48)
def u_M_get : MI := (⟨"UnlikeDrawnModel", "get", "(III)I"⟩, prog_9_method_15_code, 4, (some .int), 2, 48)
def u_M_copy : MI := (⟨"UnlikeDrawnModel", "copy", "(IIIII)I"⟩, prog_9_method_16_code, 7, (some .int), 2, 45)
def u_M_isHead : MI := (⟨"UnlikeDrawnModel", "isHead", "(I)Z"⟩, prog_9_method_17_code, 2, (some .boolean), 1, 25)
def u_M_isPart : MI := (⟨"UnlikeDrawnModel", "isPart", "(I)Z"⟩, prog_9_method_18_code, 1, (some .boolean), 1, 25)
def u_M_isHand : MI := (⟨"UnlikeDrawnModel", "isHand", "(I)Z"⟩, prog_9_method_19_code, 1, (some .boolean), 1, 25)
def u_M_isSet : MI := (⟨"UnlikeDrawnModel", "isSet", "(I)Z"⟩, prog_9_method_20_code, 2, (some .boolean), 1, 25)
def u_M_head : MI := (⟨"UnlikeDrawnModel", "head", "()I"⟩, prog_9_method_21_code, 2, (some .int), 0, 0)
def u_M_place : MI := (⟨"UnlikeDrawnModel", "place", "(III)I"⟩, prog_9_method_22_code, 5, (some .int), 2, 46)
def u_M_read : MI := (⟨"UnlikeDrawnModel", "read", "(II)I"⟩, prog_9_method_23_code, 4, (some .int), 3, 70)
def u_M_meanOf : MI := (⟨"UnlikeDrawnModel", "meanOf", "(II)I"⟩, prog_9_method_24_code, 7, (some .int), 0, 0)
def u_M_mean : MI := (⟨"UnlikeDrawnModel", "mean", "(II)I"⟩, prog_9_method_25_code, 3, (some .int), 2, 46)
def u_M_type : MI := (⟨"UnlikeDrawnModel", "type", "(II)I"⟩, prog_9_method_26_code, 3, (some .int), 2, 45)
def u_M_wipe : MI := (⟨"UnlikeDrawnModel", "wipe", "(I)I"⟩, prog_9_method_27_code, 3, (some .int), 2, 45)
def u_M_here : MI := (⟨"UnlikeDrawnModel", "here", "(I)I"⟩, prog_9_method_28_code, 2, (some .int), 0, 0)
def u_M_number : MI := (⟨"UnlikeDrawnModel", "number", "(I)I"⟩, prog_9_method_29_code, 4, (some .int), 1, 25)
def u_M_readsPiece : MI := (⟨"UnlikeDrawnModel", "readsPiece", "(I)Z"⟩, prog_9_method_30_code, 6, (some .boolean), 2, 48)
def u_M_clears : MI := (⟨"UnlikeDrawnModel", "clears", "()V"⟩, prog_9_method_31_code, 2, none, 0, 0)
def u_M_reads : MI := (⟨"UnlikeDrawnModel", "reads", "(I)I"⟩, prog_9_method_32_code, 3, (some .int), 3, 73)
def u_M_fault : MI := (⟨"UnlikeDrawnModel", "fault", "(I)I"⟩, prog_9_method_33_code, 2, (some .int), 4, 95)
def u_M_tenths : MI := (⟨"UnlikeDrawnModel", "tenths", "(II)I"⟩, prog_9_method_34_code, 3, (some .int), 4, 95)
def u_M_drawnBy : MI := (⟨"UnlikeDrawnModel", "drawnBy", "(III)I"⟩, prog_9_method_35_code, 4, (some .int), 0, 0)
def u_M_drawn : MI := (⟨"UnlikeDrawnModel", "drawn", "(IIII)I"⟩, prog_9_method_36_code, 5, (some .int), 4, 95)
def u_M_set : MI := (⟨"UnlikeDrawnModel", "set", "(II)I"⟩, prog_9_method_37_code, 4, (some .int), 1, 25)
def u_M_isDrawing : MI := (⟨"UnlikeDrawnModel", "isDrawing", "(I)Z"⟩, prog_9_method_38_code, 2, (some .boolean), 1, 25)
def u_M_isLate : MI := (⟨"UnlikeDrawnModel", "isLate", "(I)Z"⟩, prog_9_method_39_code, 2, (some .boolean), 1, 25)
def u_M_draw : MI := (⟨"UnlikeDrawnModel", "draw", "(IIII)I"⟩, prog_9_method_40_code, 12, (some .int), 4, 95)
def u_M_copied : MI := (⟨"UnlikeDrawnModel", "copied", "(III)I"⟩, prog_9_method_41_code, 6, (some .int), 4, 95)
def u_M_line : MI := (⟨"UnlikeDrawnModel", "line", "(II)I"⟩, prog_9_method_42_code, 3, (some .int), 2, 46)
def u_M_isMonster : MI := (⟨"UnlikeDrawnModel", "isMonster", "(I)Z"⟩, prog_9_method_43_code, 5, (some .boolean), 1, 20)
def u_M_unlikeBy : MI := (⟨"UnlikeDrawnModel", "unlikeBy", "(II)I"⟩, prog_9_method_44_code, 3, (some .int), 1, 20)
def u_M_unlikeOf : MI := (⟨"UnlikeDrawnModel", "unlikeOf", "(II)I"⟩, prog_9_method_45_code, 5, (some .int), 2, 42)
def u_M_unlike : MI := (⟨"UnlikeDrawnModel", "unlike", "(II)I"⟩, prog_9_method_46_code, 3, (some .int), 3, 66)
def u_M_fromOf : MI := (⟨"UnlikeDrawnModel", "fromOf", "(I)I"⟩, prog_9_method_47_code, 5, (some .int), 3, 66)
def u_M_agesOf : MI := (⟨"UnlikeDrawnModel", "agesOf", "(I)I"⟩, prog_9_method_48_code, 4, (some .int), 4, 90)
def u_M_whoseOf : MI := (⟨"UnlikeDrawnModel", "whoseOf", "(I)I"⟩, prog_9_method_49_code, 8, (some .int), 4, 95)
def u_M_aboutOf : MI := (⟨"UnlikeDrawnModel", "aboutOf", "(II)I"⟩, prog_9_method_50_code, 3, (some .int), 5, 122)
def u_M_about : MI := (⟨"UnlikeDrawnModel", "about", "(II)I"⟩, prog_9_method_51_code, 3, (some .int), 6, 144)
def u_M_isKnower : MI := (⟨"UnlikeDrawnModel", "isKnower", "(I)Z"⟩, prog_9_method_52_code, 2, (some .boolean), 1, 25)
def u_M_doesKnow : MI := (⟨"UnlikeDrawnModel", "doesKnow", "(II)Z"⟩, prog_9_method_53_code, 3, (some .boolean), 0, 0)
def u_M_knower : MI := (⟨"UnlikeDrawnModel", "knower", "(II)I"⟩, prog_9_method_54_code, 4, (some .int), 2, 46)
def u_M_look : MI := (⟨"UnlikeDrawnModel", "look", "(III)I"⟩, prog_9_method_55_code, 7, (some .int), 2, 46)
def u_M_leans : MI := (⟨"UnlikeDrawnModel", "leans", "(II)I"⟩, prog_9_method_56_code, 3, (some .int), 2, 46)
def u_M_sees_I : MI := (⟨"UnlikeDrawnModel", "sees", "(I)V"⟩, prog_9_method_57_code, 3, none, 2, 44)
def u_M_sees_IIII : MI := (⟨"UnlikeDrawnModel", "sees", "(IIII)V"⟩, prog_9_method_58_code, 7, none, 1, 26)
def u_M_findScore : MI := (⟨"UnlikeDrawnModel", "findScore", "(II)V"⟩, prog_9_method_59_code, 12, none, 0, 0)
def u_M_divisor : MI := (⟨"UnlikeDrawnModel", "divisor", "(JJ)J"⟩, prog_9_method_60_code, 10, (some .long), 0, 0)
def u_M_part : MI := (⟨"UnlikeDrawnModel", "part", "(JJI)J"⟩, prog_9_method_61_code, 5, (some .long), 1, 29)
def u_M_isMore : MI := (⟨"UnlikeDrawnModel", "isMore", "(JJJJ)Z"⟩, prog_9_method_62_code, 23, (some .boolean), 0, 0)
def u_M_score : MI := (⟨"UnlikeDrawnModel", "score", "(IIII)J"⟩, prog_9_method_63_code, 5, (some .long), 3, 66)
def u_M_namedBy : MI := (⟨"UnlikeDrawnModel", "namedBy", "(I)I"⟩, prog_9_method_64_code, 8, (some .int), 1, 42)
def u_M_marginOf : MI := (⟨"UnlikeDrawnModel", "marginOf", "(II)I"⟩, prog_9_method_65_code, 8, (some .int), 1, 31)
def u_M_namedOf : MI := (⟨"UnlikeDrawnModel", "namedOf", "(III)I"⟩, prog_9_method_66_code, 5, (some .int), 3, 69)
def u_M_named : MI := (⟨"UnlikeDrawnModel", "named", "(III)I"⟩, prog_9_method_67_code, 4, (some .int), 4, 93)
def u_M_much : MI := (⟨"UnlikeDrawnModel", "much", "(IIII)I"⟩, prog_9_method_68_code, 9, (some .int), 2, 69)
def u_M_ones : MI := (⟨"UnlikeDrawnModel", "ones", "(I)I"⟩, prog_9_method_69_code, 3, (some .int), 0, 0)
def u_M_isEnough : MI := (⟨"UnlikeDrawnModel", "isEnough", "(IIIII)Z"⟩, prog_9_method_70_code, 6, (some .boolean), 2, 69)
def u_M_isAsked : MI := (⟨"UnlikeDrawnModel", "isAsked", "(IIII)Z"⟩, prog_9_method_71_code, 5, (some .boolean), 2, 46)
def u_M_few : MI := (⟨"UnlikeDrawnModel", "few", "(IIII)I"⟩, prog_9_method_72_code, 8, (some .int), 3, 94)
def u_M_stands : MI := (⟨"UnlikeDrawnModel", "stands", "(IIII)I"⟩, prog_9_method_73_code, 7, (some .int), 3, 94)
def u_M_grows : MI := (⟨"UnlikeDrawnModel", "grows", "(III)J"⟩, prog_9_method_74_code, 18, (some .long), 2, 53)
def u_M_backOf : MI := (⟨"UnlikeDrawnModel", "backOf", "(II)I"⟩, prog_9_method_75_code, 9, (some .int), 0, 0)
def u_M_back : MI := (⟨"UnlikeDrawnModel", "back", "(III)I"⟩, prog_9_method_76_code, 4, (some .int), 4, 95)
def u_M_nearOf : MI := (⟨"UnlikeDrawnModel", "nearOf", "(II)I"⟩, prog_9_method_77_code, 6, (some .int), 4, 95)
def u_M_near : MI := (⟨"UnlikeDrawnModel", "near", "(II)I"⟩, prog_9_method_78_code, 3, (some .int), 5, 120)
def u_M_witnessOf : MI := (⟨"UnlikeDrawnModel", "witnessOf", "(III)I"⟩, prog_9_method_79_code, 7, (some .int), 1, 26)
def u_M_witness : MI := (⟨"UnlikeDrawnModel", "witness", "(III)I"⟩, prog_9_method_80_code, 4, (some .int), 2, 52)
def u_M_plainest : MI := (⟨"UnlikeDrawnModel", "plainest", "(I)I"⟩, prog_9_method_81_code, 7, (some .int), 2, 46)
def u_M_write : MI := (⟨"UnlikeDrawnModel", "write", "(II)I"⟩, prog_9_method_82_code, 5, (some .int), 2, 46)
def u_M_count : MI := (⟨"UnlikeDrawnModel", "count", "(I)I"⟩, prog_9_method_83_code, 4, (some .int), 2, 44)
def u_M_digest : MI := (⟨"UnlikeDrawnModel", "digest", "()J"⟩, prog_9_method_84_code, 5, (some .long), 6, 144)
def u_J_bitCount : MI := (⟨"java/lang/Integer", "bitCount", "(I)I"⟩, prog_10_method_49_code, 1, (some .int), 0, 0)
def u_J_abs_I : MI := (⟨"java/lang/Math", "abs", "(I)I"⟩, prog_11_method_59_code, 1, (some .int), 0, 0)
def u_J_abs_J : MI := (⟨"java/lang/Math", "abs", "(J)J"⟩, prog_11_method_61_code, 2, (some .long), 0, 0)
def u_J_max_II : MI := (⟨"java/lang/Math", "max", "(II)I"⟩, prog_11_method_65_code, 2, (some .int), 0, 0)
def u_J_max_JJ : MI := (⟨"java/lang/Math", "max", "(JJ)J"⟩, prog_11_method_66_code, 4, (some .long), 0, 0)
def u_J_min : MI := (⟨"java/lang/Math", "min", "(II)I"⟩, prog_11_method_69_code, 2, (some .int), 0, 0)
def u_J_fill : MI := (⟨"java/util/Arrays", "fill", "([II)V"⟩, prog_13_method_103_code, 4, none, 0, 0)
/-! ===== what the pools' entries name ===== -/
theorem fl_C_11 : FL "UnlikeDrawn" 11 6 0 := ⟨_, _, _, rfl, by decide, gt_at 143 (by decide +kernel) rfl⟩
theorem fl_C_17 : FL "UnlikeDrawn" 17 6 1 := ⟨_, _, _, rfl, by decide, gt_at 144 (by decide +kernel) rfl⟩
theorem fl_C_23 : FL "UnlikeDrawn" 23 6 2 := ⟨_, _, _, rfl, by decide, gt_at 145 (by decide +kernel) rfl⟩
theorem fl_C_29 : FL "UnlikeDrawn" 29 6 3 := ⟨_, _, _, rfl, by decide, gt_at 146 (by decide +kernel) rfl⟩
theorem fl_C_35 : FL "UnlikeDrawn" 35 6 4 := ⟨_, _, _, rfl, by decide, gt_at 147 (by decide +kernel) rfl⟩
theorem fl_C_39 : FL "UnlikeDrawn" 39 6 8 := ⟨_, _, _, rfl, by decide, gt_at 151 (by decide +kernel) rfl⟩
theorem fp_C_39 : FP "UnlikeDrawn" 39 6 8 .int := ⟨_, _, _, rfl, by decide, gt_at 151 (by decide +kernel) rfl, rfl, by decide +kernel⟩
theorem fl_C_43 : FL "UnlikeDrawn" 43 6 9 := ⟨_, _, _, rfl, by decide, gt_at 152 (by decide +kernel) rfl⟩
theorem fp_C_43 : FP "UnlikeDrawn" 43 6 9 .int := ⟨_, _, _, rfl, by decide, gt_at 152 (by decide +kernel) rfl, rfl, by decide +kernel⟩
theorem fl_C_46 : FL "UnlikeDrawn" 46 6 10 := ⟨_, _, _, rfl, by decide, gt_at 153 (by decide +kernel) rfl⟩
theorem fp_C_46 : FP "UnlikeDrawn" 46 6 10 .int := ⟨_, _, _, rfl, by decide, gt_at 153 (by decide +kernel) rfl, rfl, by decide +kernel⟩
theorem fl_C_50 : FL "UnlikeDrawn" 50 6 12 := ⟨_, _, _, rfl, by decide, gt_at 155 (by decide +kernel) rfl⟩
theorem fl_C_54 : FL "UnlikeDrawn" 54 6 13 := ⟨_, _, _, rfl, by decide, gt_at 156 (by decide +kernel) rfl⟩
theorem fl_C_58 : FL "UnlikeDrawn" 58 6 14 := ⟨_, _, _, rfl, by decide, gt_at 157 (by decide +kernel) rfl⟩
theorem fl_C_64 : FL "UnlikeDrawn" 64 6 15 := ⟨_, _, _, rfl, by decide, gt_at 158 (by decide +kernel) rfl⟩
theorem fl_C_68 : FL "UnlikeDrawn" 68 6 16 := ⟨_, _, _, rfl, by decide, gt_at 159 (by decide +kernel) rfl⟩
theorem fl_C_75 : FL "UnlikeDrawn" 75 6 5 := ⟨_, _, _, rfl, by decide, gt_at 148 (by decide +kernel) rfl⟩
theorem fp_C_75 : FP "UnlikeDrawn" 75 6 5 .int := ⟨_, _, _, rfl, by decide, gt_at 148 (by decide +kernel) rfl, rfl, by decide +kernel⟩
theorem fl_C_88 : FL "UnlikeDrawn" 88 2 0 := ⟨_, _, _, rfl, by decide, gt_at 84 (by decide +kernel) rfl⟩
theorem fl_C_102 : FL "UnlikeDrawn" 102 4 2 := ⟨_, _, _, rfl, by decide, gt_at 135 (by decide +kernel) rfl⟩
theorem fp_C_102 : FP "UnlikeDrawn" 102 4 2 .int := ⟨_, _, _, rfl, by decide, gt_at 135 (by decide +kernel) rfl, rfl, by decide +kernel⟩
theorem fl_C_111 : FL "UnlikeDrawn" 111 4 0 := ⟨_, _, _, rfl, by decide, gt_at 131 (by decide +kernel) rfl⟩
theorem fl_C_123 : FL "UnlikeDrawn" 123 1 2 := ⟨_, _, _, rfl, by decide, gt_at 99 (by decide +kernel) rfl⟩
theorem fp_C_123 : FP "UnlikeDrawn" 123 1 2 .int := ⟨_, _, _, rfl, by decide, gt_at 99 (by decide +kernel) rfl, rfl, by decide +kernel⟩
theorem fl_C_133 : FL "UnlikeDrawn" 133 1 3 := ⟨_, _, _, rfl, by decide, gt_at 101 (by decide +kernel) rfl⟩
theorem fp_C_133 : FP "UnlikeDrawn" 133 1 3 .int := ⟨_, _, _, rfl, by decide, gt_at 101 (by decide +kernel) rfl, rfl, by decide +kernel⟩
theorem fl_C_136 : FL "UnlikeDrawn" 136 1 1 := ⟨_, _, _, rfl, by decide, gt_at 97 (by decide +kernel) rfl⟩
theorem fl_C_146 : FL "UnlikeDrawn" 146 6 6 := ⟨_, _, _, rfl, by decide, gt_at 149 (by decide +kernel) rfl⟩
theorem fp_C_146 : FP "UnlikeDrawn" 146 6 6 .int := ⟨_, _, _, rfl, by decide, gt_at 149 (by decide +kernel) rfl, rfl, by decide +kernel⟩
theorem fl_C_149 : FL "UnlikeDrawn" 149 5 0 := ⟨_, _, _, rfl, by decide, gt_at 37 (by decide +kernel) rfl⟩
theorem fl_C_160 : FL "UnlikeDrawn" 160 5 2 := ⟨_, _, _, rfl, by decide, gt_at 41 (by decide +kernel) rfl⟩
theorem fp_C_160 : FP "UnlikeDrawn" 160 5 2 .int := ⟨_, _, _, rfl, by decide, gt_at 41 (by decide +kernel) rfl, rfl, by decide +kernel⟩
theorem fl_C_163 : FL "UnlikeDrawn" 163 5 3 := ⟨_, _, _, rfl, by decide, gt_at 42 (by decide +kernel) rfl⟩
theorem fp_C_163 : FP "UnlikeDrawn" 163 5 3 .int := ⟨_, _, _, rfl, by decide, gt_at 42 (by decide +kernel) rfl, rfl, by decide +kernel⟩
theorem fl_C_166 : FL "UnlikeDrawn" 166 5 5 := ⟨_, _, _, rfl, by decide, gt_at 45 (by decide +kernel) rfl⟩
theorem fp_C_166 : FP "UnlikeDrawn" 166 5 5 .int := ⟨_, _, _, rfl, by decide, gt_at 45 (by decide +kernel) rfl, rfl, by decide +kernel⟩
theorem fl_C_173 : FL "UnlikeDrawn" 173 5 4 := ⟨_, _, _, rfl, by decide, gt_at 43 (by decide +kernel) rfl⟩
theorem fp_C_173 : FP "UnlikeDrawn" 173 5 4 .int := ⟨_, _, _, rfl, by decide, gt_at 43 (by decide +kernel) rfl, rfl, by decide +kernel⟩
theorem fl_C_185 : FL "UnlikeDrawn" 185 5 1 := ⟨_, _, _, rfl, by decide, gt_at 40 (by decide +kernel) rfl⟩
theorem fl_C_205 : FL "UnlikeDrawn" 205 6 7 := ⟨_, _, _, rfl, by decide, gt_at 150 (by decide +kernel) rfl⟩
theorem fp_C_205 : FP "UnlikeDrawn" 205 6 7 .int := ⟨_, _, _, rfl, by decide, gt_at 150 (by decide +kernel) rfl, rfl, by decide +kernel⟩
theorem fl_C_208 : FL "UnlikeDrawn" 208 3 1 := ⟨_, _, _, rfl, by decide, gt_at 119 (by decide +kernel) rfl⟩
theorem fp_C_208 : FP "UnlikeDrawn" 208 3 1 .int := ⟨_, _, _, rfl, by decide, gt_at 119 (by decide +kernel) rfl, rfl, by decide +kernel⟩
theorem fl_C_211 : FL "UnlikeDrawn" 211 3 0 := ⟨_, _, _, rfl, by decide, gt_at 117 (by decide +kernel) rfl⟩
theorem fl_C_303 : FL "UnlikeDrawn" 303 4 1 := ⟨_, _, _, rfl, by decide, gt_at 133 (by decide +kernel) rfl⟩
theorem fp_C_303 : FP "UnlikeDrawn" 303 4 1 .int := ⟨_, _, _, rfl, by decide, gt_at 133 (by decide +kernel) rfl, rfl, by decide +kernel⟩
theorem fl_C_313 : FL "UnlikeDrawn" 313 6 11 := ⟨_, _, _, rfl, by decide, gt_at 154 (by decide +kernel) rfl⟩
theorem fp_C_313 : FP "UnlikeDrawn" 313 6 11 .int := ⟨_, _, _, rfl, by decide, gt_at 154 (by decide +kernel) rfl, rfl, by decide +kernel⟩
theorem fl_C_347 : FL "UnlikeDrawn" 347 0 0 := ⟨_, _, _, rfl, by decide, gt_at 67 (by decide +kernel) rfl⟩
theorem fp_C_347 : FP "UnlikeDrawn" 347 0 0 .long := ⟨_, _, _, rfl, by decide, gt_at 67 (by decide +kernel) rfl, rfl, by decide +kernel⟩
theorem fl_C_351 : FL "UnlikeDrawn" 351 0 1 := ⟨_, _, _, rfl, by decide, gt_at 69 (by decide +kernel) rfl⟩
theorem fp_C_351 : FP "UnlikeDrawn" 351 0 1 .long := ⟨_, _, _, rfl, by decide, gt_at 69 (by decide +kernel) rfl, rfl, by decide +kernel⟩
theorem fl_Fr_7 : FL "UnlikeDrawn$Fraction" 7 0 1 := ⟨_, _, _, rfl, by decide, gt_at 68 (by decide +kernel) rfl⟩
theorem fp_Fr_7 : FP "UnlikeDrawn$Fraction" 7 0 1 .long := ⟨_, _, _, rfl, by decide, gt_at 68 (by decide +kernel) rfl, rfl, by decide +kernel⟩
theorem fl_Fr_13 : FL "UnlikeDrawn$Fraction" 13 0 0 := ⟨_, _, _, rfl, by decide, gt_at 66 (by decide +kernel) rfl⟩
theorem fp_Fr_13 : FP "UnlikeDrawn$Fraction" 13 0 0 .long := ⟨_, _, _, rfl, by decide, gt_at 66 (by decide +kernel) rfl, rfl, by decide +kernel⟩
theorem fl_Ha_9 : FL "UnlikeDrawn$Hand" 9 1 0 := ⟨_, _, _, rfl, by decide, gt_at 95 (by decide +kernel) rfl⟩
theorem fl_Ha_15 : FL "UnlikeDrawn$Hand" 15 1 1 := ⟨_, _, _, rfl, by decide, gt_at 96 (by decide +kernel) rfl⟩
theorem fl_Ha_18 : FL "UnlikeDrawn$Hand" 18 1 3 := ⟨_, _, _, rfl, by decide, gt_at 100 (by decide +kernel) rfl⟩
theorem fp_Ha_18 : FP "UnlikeDrawn$Hand" 18 1 3 .int := ⟨_, _, _, rfl, by decide, gt_at 100 (by decide +kernel) rfl, rfl, by decide +kernel⟩
theorem fl_Ha_28 : FL "UnlikeDrawn$Hand" 28 1 2 := ⟨_, _, _, rfl, by decide, gt_at 98 (by decide +kernel) rfl⟩
theorem fp_Ha_28 : FP "UnlikeDrawn$Hand" 28 1 2 .int := ⟨_, _, _, rfl, by decide, gt_at 98 (by decide +kernel) rfl, rfl, by decide +kernel⟩
theorem fl_He_9 : FL "UnlikeDrawn$Head" 9 2 0 := ⟨_, _, _, rfl, by decide, gt_at 83 (by decide +kernel) rfl⟩
theorem fl_Kn_9 : FL "UnlikeDrawn$Knower" 9 3 0 := ⟨_, _, _, rfl, by decide, gt_at 116 (by decide +kernel) rfl⟩
theorem fl_Kn_15 : FL "UnlikeDrawn$Knower" 15 3 1 := ⟨_, _, _, rfl, by decide, gt_at 118 (by decide +kernel) rfl⟩
theorem fp_Kn_15 : FP "UnlikeDrawn$Knower" 15 3 1 .int := ⟨_, _, _, rfl, by decide, gt_at 118 (by decide +kernel) rfl, rfl, by decide +kernel⟩
theorem fl_Kn_25 : FL "UnlikeDrawn$Knower" 25 5 1 := ⟨_, _, _, rfl, by decide, gt_at 39 (by decide +kernel) rfl⟩
theorem fl_Kn_28 : FL "UnlikeDrawn$Knower" 28 2 0 := ⟨_, _, _, rfl, by decide, gt_at 85 (by decide +kernel) rfl⟩
theorem fl_Sh_9 : FL "UnlikeDrawn$Sheet" 9 4 0 := ⟨_, _, _, rfl, by decide, gt_at 130 (by decide +kernel) rfl⟩
theorem fl_Sh_15 : FL "UnlikeDrawn$Sheet" 15 4 1 := ⟨_, _, _, rfl, by decide, gt_at 132 (by decide +kernel) rfl⟩
theorem fp_Sh_15 : FP "UnlikeDrawn$Sheet" 15 4 1 .int := ⟨_, _, _, rfl, by decide, gt_at 132 (by decide +kernel) rfl, rfl, by decide +kernel⟩
theorem fl_Sh_19 : FL "UnlikeDrawn$Sheet" 19 4 2 := ⟨_, _, _, rfl, by decide, gt_at 134 (by decide +kernel) rfl⟩
theorem fp_Sh_19 : FP "UnlikeDrawn$Sheet" 19 4 2 .int := ⟨_, _, _, rfl, by decide, gt_at 134 (by decide +kernel) rfl, rfl, by decide +kernel⟩
theorem fl_Sk_9 : FL "UnlikeDrawn$Sketch" 9 5 0 := ⟨_, _, _, rfl, by decide, gt_at 36 (by decide +kernel) rfl⟩
theorem fl_Sk_15 : FL "UnlikeDrawn$Sketch" 15 5 1 := ⟨_, _, _, rfl, by decide, gt_at 38 (by decide +kernel) rfl⟩
theorem fl_Sk_18 : FL "UnlikeDrawn$Sketch" 18 5 5 := ⟨_, _, _, rfl, by decide, gt_at 44 (by decide +kernel) rfl⟩
theorem fp_Sk_18 : FP "UnlikeDrawn$Sketch" 18 5 5 .int := ⟨_, _, _, rfl, by decide, gt_at 44 (by decide +kernel) rfl, rfl, by decide +kernel⟩
theorem fl_M_7 : FL "UnlikeDrawnModel" 7 7 0 := ⟨_, _, _, rfl, by decide, gt_at 605 (by decide +kernel) rfl⟩
theorem fl_M_13 : FL "UnlikeDrawnModel" 13 7 1 := ⟨_, _, _, rfl, by decide, gt_at 606 (by decide +kernel) rfl⟩
theorem fl_M_16 : FL "UnlikeDrawnModel" 16 7 2 := ⟨_, _, _, rfl, by decide, gt_at 607 (by decide +kernel) rfl⟩
theorem fl_M_19 : FL "UnlikeDrawnModel" 19 7 3 := ⟨_, _, _, rfl, by decide, gt_at 608 (by decide +kernel) rfl⟩
theorem fl_M_22 : FL "UnlikeDrawnModel" 22 7 6 := ⟨_, _, _, rfl, by decide, gt_at 611 (by decide +kernel) rfl⟩
theorem fl_M_25 : FL "UnlikeDrawnModel" 25 7 7 := ⟨_, _, _, rfl, by decide, gt_at 612 (by decide +kernel) rfl⟩
theorem fl_M_28 : FL "UnlikeDrawnModel" 28 7 8 := ⟨_, _, _, rfl, by decide, gt_at 613 (by decide +kernel) rfl⟩
theorem fl_M_31 : FL "UnlikeDrawnModel" 31 7 10 := ⟨_, _, _, rfl, by decide, gt_at 615 (by decide +kernel) rfl⟩
theorem fl_M_34 : FL "UnlikeDrawnModel" 34 7 11 := ⟨_, _, _, rfl, by decide, gt_at 616 (by decide +kernel) rfl⟩
theorem fl_M_37 : FL "UnlikeDrawnModel" 37 7 13 := ⟨_, _, _, rfl, by decide, gt_at 618 (by decide +kernel) rfl⟩
theorem fl_M_40 : FL "UnlikeDrawnModel" 40 7 14 := ⟨_, _, _, rfl, by decide, gt_at 619 (by decide +kernel) rfl⟩
theorem fl_M_43 : FL "UnlikeDrawnModel" 43 7 15 := ⟨_, _, _, rfl, by decide, gt_at 620 (by decide +kernel) rfl⟩
theorem fl_M_46 : FL "UnlikeDrawnModel" 46 7 16 := ⟨_, _, _, rfl, by decide, gt_at 621 (by decide +kernel) rfl⟩
theorem fl_M_49 : FL "UnlikeDrawnModel" 49 7 17 := ⟨_, _, _, rfl, by decide, gt_at 622 (by decide +kernel) rfl⟩
theorem fl_M_52 : FL "UnlikeDrawnModel" 52 7 18 := ⟨_, _, _, rfl, by decide, gt_at 623 (by decide +kernel) rfl⟩
theorem fl_M_55 : FL "UnlikeDrawnModel" 55 7 20 := ⟨_, _, _, rfl, by decide, gt_at 625 (by decide +kernel) rfl⟩
theorem fl_M_58 : FL "UnlikeDrawnModel" 58 7 21 := ⟨_, _, _, rfl, by decide, gt_at 626 (by decide +kernel) rfl⟩
theorem fl_M_61 : FL "UnlikeDrawnModel" 61 7 22 := ⟨_, _, _, rfl, by decide, gt_at 627 (by decide +kernel) rfl⟩
theorem fl_M_64 : FL "UnlikeDrawnModel" 64 7 26 := ⟨_, _, _, rfl, by decide, gt_at 631 (by decide +kernel) rfl⟩
theorem fl_M_73 : FL "UnlikeDrawnModel" 73 7 4 := ⟨_, _, _, rfl, by decide, gt_at 609 (by decide +kernel) rfl⟩
theorem fp_M_73 : FP "UnlikeDrawnModel" 73 7 4 .int := ⟨_, _, _, rfl, by decide, gt_at 609 (by decide +kernel) rfl, rfl, by decide +kernel⟩
theorem fl_M_98 : FL "UnlikeDrawnModel" 98 7 5 := ⟨_, _, _, rfl, by decide, gt_at 610 (by decide +kernel) rfl⟩
theorem fp_M_98 : FP "UnlikeDrawnModel" 98 7 5 .int := ⟨_, _, _, rfl, by decide, gt_at 610 (by decide +kernel) rfl, rfl, by decide +kernel⟩
theorem fl_M_125 : FL "UnlikeDrawnModel" 125 7 9 := ⟨_, _, _, rfl, by decide, gt_at 614 (by decide +kernel) rfl⟩
theorem fp_M_125 : FP "UnlikeDrawnModel" 125 7 9 .int := ⟨_, _, _, rfl, by decide, gt_at 614 (by decide +kernel) rfl, rfl, by decide +kernel⟩
theorem fl_M_157 : FL "UnlikeDrawnModel" 157 7 12 := ⟨_, _, _, rfl, by decide, gt_at 617 (by decide +kernel) rfl⟩
theorem fp_M_157 : FP "UnlikeDrawnModel" 157 7 12 .int := ⟨_, _, _, rfl, by decide, gt_at 617 (by decide +kernel) rfl, rfl, by decide +kernel⟩
theorem fl_M_190 : FL "UnlikeDrawnModel" 190 7 19 := ⟨_, _, _, rfl, by decide, gt_at 624 (by decide +kernel) rfl⟩
theorem fp_M_190 : FP "UnlikeDrawnModel" 190 7 19 .int := ⟨_, _, _, rfl, by decide, gt_at 624 (by decide +kernel) rfl, rfl, by decide +kernel⟩
theorem fl_M_196 : FL "UnlikeDrawnModel" 196 7 23 := ⟨_, _, _, rfl, by decide, gt_at 628 (by decide +kernel) rfl⟩
theorem fp_M_196 : FP "UnlikeDrawnModel" 196 7 23 .boolean := ⟨_, _, _, rfl, by decide, gt_at 628 (by decide +kernel) rfl, rfl, by decide +kernel⟩
theorem fl_M_200 : FL "UnlikeDrawnModel" 200 7 24 := ⟨_, _, _, rfl, by decide, gt_at 629 (by decide +kernel) rfl⟩
theorem fp_M_200 : FP "UnlikeDrawnModel" 200 7 24 .long := ⟨_, _, _, rfl, by decide, gt_at 629 (by decide +kernel) rfl, rfl, by decide +kernel⟩
theorem fl_M_204 : FL "UnlikeDrawnModel" 204 7 25 := ⟨_, _, _, rfl, by decide, gt_at 630 (by decide +kernel) rfl⟩
theorem fp_M_204 : FP "UnlikeDrawnModel" 204 7 25 .long := ⟨_, _, _, rfl, by decide, gt_at 630 (by decide +kernel) rfl, rfl, by decide +kernel⟩
theorem kc_C_221 : Cond.constantLong "UnlikeDrawn" 221 (-9223372036854775806) ∈ gt := gt_at 402 (by decide +kernel) rfl
theorem kc_C_226 : Cond.constantLong "UnlikeDrawn" 226 (-9223372036854775805) ∈ gt := gt_at 407 (by decide +kernel) rfl
theorem kc_C_302 : Cond.constant "UnlikeDrawn" 302 (-2147483648) ∈ gt := gt_at 555 (by decide +kernel) rfl
theorem kc_C_316 : Cond.constantLong "UnlikeDrawn" 316 (17) ∈ gt := gt_at 580 (by decide +kernel) rfl
theorem kc_C_318 : Cond.constantLong "UnlikeDrawn" 318 (31) ∈ gt := gt_at 581 (by decide +kernel) rfl
theorem kc_M_67 : Cond.constantLong "UnlikeDrawnModel" 67 (-9223372036854775808) ∈ gt := gt_at 904 (by decide +kernel) rfl
theorem kc_M_77 : Cond.constantLong "UnlikeDrawnModel" 77 (3) ∈ gt := gt_at 694 (by decide +kernel) rfl
theorem kc_M_83 : Cond.constantLong "UnlikeDrawnModel" 83 (2) ∈ gt := gt_at 698 (by decide +kernel) rfl
theorem kc_M_97 : Cond.constant "UnlikeDrawnModel" 97 (-2147483648) ∈ gt := gt_at 722 (by decide +kernel) rfl
theorem kc_M_101 : Cond.constantLong "UnlikeDrawnModel" 101 (7) ∈ gt := gt_at 742 (by decide +kernel) rfl
theorem kc_M_109 : Cond.constantLong "UnlikeDrawnModel" 109 (99) ∈ gt := gt_at 743 (by decide +kernel) rfl
theorem kc_M_123 : Cond.constantLong "UnlikeDrawnModel" 123 (255) ∈ gt := gt_at 768 (by decide +kernel) rfl
theorem kc_M_131 : Cond.constantLong "UnlikeDrawnModel" 131 (48) ∈ gt := gt_at 798 (by decide +kernel) rfl
theorem kc_M_133 : Cond.constantLong "UnlikeDrawnModel" 133 (57) ∈ gt := gt_at 799 (by decide +kernel) rfl
theorem kc_M_135 : Cond.constantLong "UnlikeDrawnModel" 135 (8) ∈ gt := gt_at 793 (by decide +kernel) rfl
theorem kc_M_155 : Cond.constantLong "UnlikeDrawnModel" 155 (60) ∈ gt := gt_at 818 (by decide +kernel) rfl
theorem kc_M_270 : Cond.constantLong "UnlikeDrawnModel" 270 (17) ∈ gt := gt_at 1013 (by decide +kernel) rfl
theorem kc_M_272 : Cond.constantLong "UnlikeDrawnModel" 272 (31) ∈ gt := gt_at 1014 (by decide +kernel) rfl
theorem kc_J_265 : Cond.constant "java/lang/Integer" 265 (1431655765) ∈ gt := gt_at 483 (by decide +kernel) rfl
theorem kc_J_266 : Cond.constant "java/lang/Integer" 266 (858993459) ∈ gt := gt_at 484 (by decide +kernel) rfl
theorem kc_J_267 : Cond.constant "java/lang/Integer" 267 (252645135) ∈ gt := gt_at 485 (by decide +kernel) rfl
theorem gc_Fr_init : Cond.code u_Fr_init.1 u_Fr_init.2.1 u_Fr_init.2.2.1 u_Fr_init.2.2.2.1 ∈ gt := gt_at 64 (by decide +kernel) rfl
theorem gc_Fr_become : Cond.code u_Fr_become.1 u_Fr_become.2.1 u_Fr_become.2.2.1 u_Fr_become.2.2.2.1 ∈ gt := gt_at 415 (by decide +kernel) rfl
theorem gc_Fr_cut : Cond.code u_Fr_cut.1 u_Fr_cut.2.1 u_Fr_cut.2.2.1 u_Fr_cut.2.2.2.1 ∈ gt := gt_at 439 (by decide +kernel) rfl
theorem gc_Fr_isAbove : Cond.code u_Fr_isAbove.1 u_Fr_isAbove.2.1 u_Fr_isAbove.2.2.1 u_Fr_isAbove.2.2.2.1 ∈ gt := gt_at 435 (by decide +kernel) rfl
theorem gc_Fr_told : Cond.code u_Fr_told.1 u_Fr_told.2.1 u_Fr_told.2.2.1 u_Fr_told.2.2.2.1 ∈ gt := gt_at 419 (by decide +kernel) rfl
theorem gc_Ha_init : Cond.code u_Ha_init.1 u_Ha_init.2.1 u_Ha_init.2.2.1 u_Ha_init.2.2.2.1 ∈ gt := gt_at 92 (by decide +kernel) rfl
theorem gc_Ha_append : Cond.code u_Ha_append.1 u_Ha_append.2.1 u_Ha_append.2.2.1 u_Ha_append.2.2.2.1 ∈ gt := gt_at 253 (by decide +kernel) rfl
theorem gc_Ha_clear : Cond.code u_Ha_clear.1 u_Ha_clear.2.1 u_Ha_clear.2.2.1 u_Ha_clear.2.2.2.1 ∈ gt := gt_at 285 (by decide +kernel) rfl
theorem gc_Ha_understand : Cond.code u_Ha_understand.1 u_Ha_understand.2.1 u_Ha_understand.2.2.1 u_Ha_understand.2.2.2.1 ∈ gt := gt_at 257 (by decide +kernel) rfl
theorem gc_Ha_behindPiece : Cond.code u_Ha_behindPiece.1 u_Ha_behindPiece.2.1 u_Ha_behindPiece.2.2.1 u_Ha_behindPiece.2.2.2.1 ∈ gt := gt_at 261 (by decide +kernel) rfl
theorem gc_Ha_stopAt : Cond.code u_Ha_stopAt.1 u_Ha_stopAt.2.1 u_Ha_stopAt.2.2.1 u_Ha_stopAt.2.2.2.1 ∈ gt := gt_at 269 (by decide +kernel) rfl
theorem gc_Ha_mark : Cond.code u_Ha_mark.1 u_Ha_mark.2.1 u_Ha_mark.2.2.1 u_Ha_mark.2.2.2.1 ∈ gt := gt_at 273 (by decide +kernel) rfl
theorem gc_Ha_byteAt : Cond.code u_Ha_byteAt.1 u_Ha_byteAt.2.1 u_Ha_byteAt.2.2.1 u_Ha_byteAt.2.2.2.1 ∈ gt := gt_at 265 (by decide +kernel) rfl
theorem gc_Ha_isFigure : Cond.code u_Ha_isFigure.1 u_Ha_isFigure.2.1 u_Ha_isFigure.2.2.1 u_Ha_isFigure.2.2.2.1 ∈ gt := gt_at 277 (by decide +kernel) rfl
theorem gc_He_init : Cond.code u_He_init.1 u_He_init.2.1 u_He_init.2.2.1 u_He_init.2.2.2.1 ∈ gt := gt_at 78 (by decide +kernel) rfl
theorem gc_He_offFrom : Cond.code u_He_offFrom.1 u_He_offFrom.2.1 u_He_offFrom.2.2.1 u_He_offFrom.2.2.2.1 ∈ gt := gt_at 522 (by decide +kernel) rfl
theorem gc_Kn_init : Cond.code u_Kn_init.1 u_Kn_init.2.1 u_Kn_init.2.2.1 u_Kn_init.2.2.2.1 ∈ gt := gt_at 114 (by decide +kernel) rfl
theorem gc_Kn_knows : Cond.code u_Kn_knows.1 u_Kn_knows.2.1 u_Kn_knows.2.2.1 u_Kn_knows.2.2.2.1 ∈ gt := gt_at 406 (by decide +kernel) rfl
theorem gc_Kn_gaze : Cond.code u_Kn_gaze.1 u_Kn_gaze.2.1 u_Kn_gaze.2.2.1 u_Kn_gaze.2.2.2.1 ∈ gt := gt_at 392 (by decide +kernel) rfl
theorem gc_Kn_weigh : Cond.code u_Kn_weigh.1 u_Kn_weigh.2.1 u_Kn_weigh.2.2.1 u_Kn_weigh.2.2.2.1 ∈ gt := gt_at 411 (by decide +kernel) rfl
theorem gc_Sh_init : Cond.code u_Sh_init.1 u_Sh_init.2.1 u_Sh_init.2.2.1 u_Sh_init.2.2.2.1 ∈ gt := gt_at 128 (by decide +kernel) rfl
theorem gc_Sh_isLost : Cond.code u_Sh_isLost.1 u_Sh_isLost.2.1 u_Sh_isLost.2.2.1 u_Sh_isLost.2.2.2.1 ∈ gt := gt_at 223 (by decide +kernel) rfl
theorem gc_Sh_begin : Cond.code u_Sh_begin.1 u_Sh_begin.2.1 u_Sh_begin.2.2.1 u_Sh_begin.2.2.2.1 ∈ gt := gt_at 534 (by decide +kernel) rfl
theorem gc_Sh_hasRun : Cond.code u_Sh_hasRun.1 u_Sh_hasRun.2.1 u_Sh_hasRun.2.2.1 u_Sh_hasRun.2.2.2.1 ∈ gt := gt_at 563 (by decide +kernel) rfl
theorem gc_Sh_put : Cond.code u_Sh_put.1 u_Sh_put.2.1 u_Sh_put.2.2.1 u_Sh_put.2.2.2.1 ∈ gt := gt_at 550 (by decide +kernel) rfl
theorem gc_Sk_init : Cond.code u_Sk_init.1 u_Sk_init.2.1 u_Sk_init.2.2.1 u_Sk_init.2.2.2.1 ∈ gt := gt_at 34 (by decide +kernel) rfl
theorem gc_Sk_has : Cond.code u_Sk_has.1 u_Sk_has.2.1 u_Sk_has.2.2.1 u_Sk_has.2.2.2.1 ∈ gt := gt_at 329 (by decide +kernel) rfl
theorem gc_Sk_isOffByMoreThan : Cond.code u_Sk_isOffByMoreThan.1 u_Sk_isOffByMoreThan.2.1 u_Sk_isOffByMoreThan.2.2.1 u_Sk_isOffByMoreThan.2.2.2.1 ∈ gt := gt_at 352 (by decide +kernel) rfl
theorem gc_Sk_distanceTo : Cond.code u_Sk_distanceTo.1 u_Sk_distanceTo.2.1 u_Sk_distanceTo.2.2.1 u_Sk_distanceTo.2.2.2.1 ∈ gt := gt_at 364 (by decide +kernel) rfl
theorem gc_C_init : Cond.code u_C_init.1 u_C_init.2.1 u_C_init.2.2.1 u_C_init.2.2.2.1 ∈ gt := gt_at 17 (by decide +kernel) rfl
theorem gc_C_head : Cond.code u_C_head.1 u_C_head.2.1 u_C_head.2.2.1 u_C_head.2.2.2.1 ∈ gt := gt_at 198 (by decide +kernel) rfl
theorem gc_C_place : Cond.code u_C_place.1 u_C_place.2.1 u_C_place.2.2.1 u_C_place.2.2.2.1 ∈ gt := gt_at 202 (by decide +kernel) rfl
theorem gc_C_read : Cond.code u_C_read.1 u_C_read.2.1 u_C_read.2.2.1 u_C_read.2.2.2.1 ∈ gt := gt_at 216 (by decide +kernel) rfl
theorem gc_C_mean : Cond.code u_C_mean.1 u_C_mean.2.1 u_C_mean.2.2.1 u_C_mean.2.2.2.1 ∈ gt := gt_at 234 (by decide +kernel) rfl
theorem gc_C_type : Cond.code u_C_type.1 u_C_type.2.1 u_C_type.2.2.1 u_C_type.2.2.2.1 ∈ gt := gt_at 246 (by decide +kernel) rfl
theorem gc_C_wipe : Cond.code u_C_wipe.1 u_C_wipe.2.1 u_C_wipe.2.2.1 u_C_wipe.2.2.2.1 ∈ gt := gt_at 281 (by decide +kernel) rfl
theorem gc_C_fault : Cond.code u_C_fault.1 u_C_fault.2.1 u_C_fault.2.2.1 u_C_fault.2.2.2.1 ∈ gt := gt_at 289 (by decide +kernel) rfl
theorem gc_C_tenths : Cond.code u_C_tenths.1 u_C_tenths.2.1 u_C_tenths.2.2.1 u_C_tenths.2.2.2.1 ∈ gt := gt_at 293 (by decide +kernel) rfl
theorem gc_C_drawn : Cond.code u_C_drawn.1 u_C_drawn.2.1 u_C_drawn.2.2.1 u_C_drawn.2.2.2.1 ∈ gt := gt_at 297 (by decide +kernel) rfl
theorem gc_C_set : Cond.code u_C_set.1 u_C_set.2.1 u_C_set.2.2.1 u_C_set.2.2.2.1 ∈ gt := gt_at 307 (by decide +kernel) rfl
theorem gc_C_draw : Cond.code u_C_draw.1 u_C_draw.2.1 u_C_draw.2.2.1 u_C_draw.2.2.2.1 ∈ gt := gt_at 311 (by decide +kernel) rfl
theorem gc_C_copied : Cond.code u_C_copied.1 u_C_copied.2.1 u_C_copied.2.2.1 u_C_copied.2.2.2.1 ∈ gt := gt_at 333 (by decide +kernel) rfl
theorem gc_C_line : Cond.code u_C_line.1 u_C_line.2.1 u_C_line.2.2.1 u_C_line.2.2.2.1 ∈ gt := gt_at 344 (by decide +kernel) rfl
theorem gc_C_about : Cond.code u_C_about.1 u_C_about.2.1 u_C_about.2.2.1 u_C_about.2.2.2.1 ∈ gt := gt_at 348 (by decide +kernel) rfl
theorem gc_C_unlike : Cond.code u_C_unlike.1 u_C_unlike.2.1 u_C_unlike.2.2.1 u_C_unlike.2.2.2.1 ∈ gt := gt_at 376 (by decide +kernel) rfl
theorem gc_C_knower : Cond.code u_C_knower.1 u_C_knower.2.1 u_C_knower.2.2.1 u_C_knower.2.2.2.1 ∈ gt := gt_at 380 (by decide +kernel) rfl
theorem gc_C_look : Cond.code u_C_look.1 u_C_look.2.1 u_C_look.2.2.1 u_C_look.2.2.2.1 ∈ gt := gt_at 384 (by decide +kernel) rfl
theorem gc_C_leans : Cond.code u_C_leans.1 u_C_leans.2.1 u_C_leans.2.2.1 u_C_leans.2.2.2.1 ∈ gt := gt_at 397 (by decide +kernel) rfl
theorem gc_C_score : Cond.code u_C_score.1 u_C_score.2.1 u_C_score.2.2.1 u_C_score.2.2.2.1 ∈ gt := gt_at 401 (by decide +kernel) rfl
theorem gc_C_named : Cond.code u_C_named.1 u_C_named.2.1 u_C_named.2.2.1 u_C_named.2.2.2.1 ∈ gt := gt_at 426 (by decide +kernel) rfl
theorem gc_C_much : Cond.code u_C_much.1 u_C_much.2.1 u_C_much.2.2.1 u_C_much.2.2.2.1 ∈ gt := gt_at 451 (by decide +kernel) rfl
theorem gc_C_few : Cond.code u_C_few.1 u_C_few.2.1 u_C_few.2.2.1 u_C_few.2.2.2.1 ∈ gt := gt_at 475 (by decide +kernel) rfl
theorem gc_C_stands : Cond.code u_C_stands.1 u_C_stands.2.1 u_C_stands.2.2.1 u_C_stands.2.2.2.1 ∈ gt := gt_at 489 (by decide +kernel) rfl
theorem gc_C_grows : Cond.code u_C_grows.1 u_C_grows.2.1 u_C_grows.2.2.1 u_C_grows.2.2.2.1 ∈ gt := gt_at 493 (by decide +kernel) rfl
theorem gc_C_back : Cond.code u_C_back.1 u_C_back.2.1 u_C_back.2.2.1 u_C_back.2.2.2.1 ∈ gt := gt_at 497 (by decide +kernel) rfl
theorem gc_C_near : Cond.code u_C_near.1 u_C_near.2.1 u_C_near.2.2.1 u_C_near.2.2.2.1 ∈ gt := gt_at 505 (by decide +kernel) rfl
theorem gc_C_witness : Cond.code u_C_witness.1 u_C_witness.2.1 u_C_witness.2.2.1 u_C_witness.2.2.2.1 ∈ gt := gt_at 510 (by decide +kernel) rfl
theorem gc_C_plainest : Cond.code u_C_plainest.1 u_C_plainest.2.1 u_C_plainest.2.2.1 u_C_plainest.2.2.2.1 ∈ gt := gt_at 518 (by decide +kernel) rfl
theorem gc_C_sheet : Cond.code u_C_sheet.1 u_C_sheet.2.1 u_C_sheet.2.2.1 u_C_sheet.2.2.2.1 ∈ gt := gt_at 527 (by decide +kernel) rfl
theorem gc_C_lose : Cond.code u_C_lose.1 u_C_lose.2.1 u_C_lose.2.2.1 u_C_lose.2.2.2.1 ∈ gt := gt_at 539 (by decide +kernel) rfl
theorem gc_C_lay : Cond.code u_C_lay.1 u_C_lay.2.1 u_C_lay.2.2.1 u_C_lay.2.2.2.1 ∈ gt := gt_at 543 (by decide +kernel) rfl
theorem gc_C_get : Cond.code u_C_get.1 u_C_get.2.1 u_C_get.2.2.1 u_C_get.2.2.2.1 ∈ gt := gt_at 554 (by decide +kernel) rfl
theorem gc_C_copy : Cond.code u_C_copy.1 u_C_copy.2.1 u_C_copy.2.2.1 u_C_copy.2.2.2.1 ∈ gt := gt_at 559 (by decide +kernel) rfl
theorem gc_C_write : Cond.code u_C_write.1 u_C_write.2.1 u_C_write.2.2.1 u_C_write.2.2.2.1 ∈ gt := gt_at 567 (by decide +kernel) rfl
theorem gc_C_count : Cond.code u_C_count.1 u_C_count.2.1 u_C_count.2.2.1 u_C_count.2.2.2.1 ∈ gt := gt_at 571 (by decide +kernel) rfl
theorem gc_C_digest : Cond.code u_C_digest.1 u_C_digest.2.1 u_C_digest.2.2.1 u_C_digest.2.2.2.1 ∈ gt := gt_at 579 (by decide +kernel) rfl
theorem gc_C_isHead : Cond.code u_C_isHead.1 u_C_isHead.2.1 u_C_isHead.2.2.1 u_C_isHead.2.2.2.1 ∈ gt := gt_at 206 (by decide +kernel) rfl
theorem gc_C_isDrawing : Cond.code u_C_isDrawing.1 u_C_isDrawing.2.1 u_C_isDrawing.2.2.1 u_C_isDrawing.2.2.2.1 ∈ gt := gt_at 337 (by decide +kernel) rfl
theorem gc_C_isKnower : Cond.code u_C_isKnower.1 u_C_isKnower.2.1 u_C_isKnower.2.2.1 u_C_isKnower.2.2.2.1 ∈ gt := gt_at 388 (by decide +kernel) rfl
theorem gc_C_isSet : Cond.code u_C_isSet.1 u_C_isSet.2.1 u_C_isSet.2.2.1 u_C_isSet.2.2.2.1 ∈ gt := gt_at 238 (by decide +kernel) rfl
theorem gc_C_isNextYear : Cond.code u_C_isNextYear.1 u_C_isNextYear.2.1 u_C_isNextYear.2.2.1 u_C_isNextYear.2.2.2.1 ∈ gt := gt_at 315 (by decide +kernel) rfl
theorem gc_C_isPart : Cond.code u_C_isPart.1 u_C_isPart.2.1 u_C_isPart.2.2.1 u_C_isPart.2.2.2.1 ∈ gt := gt_at 209 (by decide +kernel) rfl
theorem gc_C_isPlace : Cond.code u_C_isPlace.1 u_C_isPlace.2.1 u_C_isPlace.2.2.1 u_C_isPlace.2.2.2.1 ∈ gt := gt_at 212 (by decide +kernel) rfl
theorem gc_C_isHand : Cond.code u_C_isHand.1 u_C_isHand.2.1 u_C_isHand.2.2.1 u_C_isHand.2.2.2.1 ∈ gt := gt_at 249 (by decide +kernel) rfl
theorem gc_C_isSheet : Cond.code u_C_isSheet.1 u_C_isSheet.2.1 u_C_isSheet.2.2.1 u_C_isSheet.2.2.2.1 ∈ gt := gt_at 219 (by decide +kernel) rfl
theorem gc_C_isForm : Cond.code u_C_isForm.1 u_C_isForm.2.1 u_C_isForm.2.2.1 u_C_isForm.2.2.2.1 ∈ gt := gt_at 530 (by decide +kernel) rfl
theorem gc_C_refusalOfParts : Cond.code u_C_refusalOfParts.1 u_C_refusalOfParts.2.1 u_C_refusalOfParts.2.2.1 u_C_refusalOfParts.2.2.2.1 ∈ gt := gt_at 479 (by decide +kernel) rfl
theorem gc_C_found : Cond.code u_C_found.1 u_C_found.2.1 u_C_found.2.2.1 u_C_found.2.2.2.1 ∈ gt := gt_at 227 (by decide +kernel) rfl
theorem gc_C_findingAt : Cond.code u_C_findingAt.1 u_C_findingAt.2.1 u_C_findingAt.2.2.1 u_C_findingAt.2.2.2.1 ∈ gt := gt_at 546 (by decide +kernel) rfl
theorem gc_C_meanOf : Cond.code u_C_meanOf.1 u_C_meanOf.2.1 u_C_meanOf.2.2.1 u_C_meanOf.2.2.2.1 ∈ gt := gt_at 242 (by decide +kernel) rfl
theorem gc_C_fillMean : Cond.code u_C_fillMean.1 u_C_fillMean.2.1 u_C_fillMean.2.2.1 u_C_fillMean.2.2.2.1 ∈ gt := gt_at 319 (by decide +kernel) rfl
theorem gc_C_drawnAt : Cond.code u_C_drawnAt.1 u_C_drawnAt.2.1 u_C_drawnAt.2.2.1 u_C_drawnAt.2.2.2.1 ∈ gt := gt_at 300 (by decide +kernel) rfl
theorem gc_C_outline : Cond.code u_C_outline.1 u_C_outline.2.1 u_C_outline.2.2.1 u_C_outline.2.2.2.1 ∈ gt := gt_at 322 (by decide +kernel) rfl
theorem gc_C_kindOf : Cond.code u_C_kindOf.1 u_C_kindOf.2.1 u_C_kindOf.2.2.1 u_C_kindOf.2.2.2.1 ∈ gt := gt_at 325 (by decide +kernel) rfl
theorem gc_C_monsters : Cond.code u_C_monsters.1 u_C_monsters.2.1 u_C_monsters.2.2.1 u_C_monsters.2.2.2.1 ∈ gt := gt_at 575 (by decide +kernel) rfl
theorem gc_C_fromOf : Cond.code u_C_fromOf.1 u_C_fromOf.2.1 u_C_fromOf.2.2.1 u_C_fromOf.2.2.2.1 ∈ gt := gt_at 360 (by decide +kernel) rfl
theorem gc_C_agesOf : Cond.code u_C_agesOf.1 u_C_agesOf.2.1 u_C_agesOf.2.2.1 u_C_agesOf.2.2.2.1 ∈ gt := gt_at 368 (by decide +kernel) rfl
theorem gc_C_whoseIs : Cond.code u_C_whoseIs.1 u_C_whoseIs.2.1 u_C_whoseIs.2.2.1 u_C_whoseIs.2.2.2.1 ∈ gt := gt_at 372 (by decide +kernel) rfl
theorem gc_C_nameFor : Cond.code u_C_nameFor.1 u_C_nameFor.2.1 u_C_nameFor.2.2.1 u_C_nameFor.2.2.2.1 ∈ gt := gt_at 430 (by decide +kernel) rfl
theorem gc_C_marginOf : Cond.code u_C_marginOf.1 u_C_marginOf.2.1 u_C_marginOf.2.2.1 u_C_marginOf.2.2.2.1 ∈ gt := gt_at 443 (by decide +kernel) rfl
theorem gc_C_tryParts : Cond.code u_C_tryParts.1 u_C_tryParts.2.1 u_C_tryParts.2.2.1 u_C_tryParts.2.2.2.1 ∈ gt := gt_at 459 (by decide +kernel) rfl
theorem gc_C_isNamedBy : Cond.code u_C_isNamedBy.1 u_C_isNamedBy.2.1 u_C_isNamedBy.2.2.1 u_C_isNamedBy.2.2.2.1 ∈ gt := gt_at 467 (by decide +kernel) rfl
theorem gc_C_leastNamed : Cond.code u_C_leastNamed.1 u_C_leastNamed.2.1 u_C_leastNamed.2.2.1 u_C_leastNamed.2.2.2.1 ∈ gt := gt_at 463 (by decide +kernel) rfl
theorem gc_C_bestNamed : Cond.code u_C_bestNamed.1 u_C_bestNamed.2.1 u_C_bestNamed.2.2.1 u_C_bestNamed.2.2.2.1 ∈ gt := gt_at 471 (by decide +kernel) rfl
theorem gc_C_leastMonster : Cond.code u_C_leastMonster.1 u_C_leastMonster.2.1 u_C_leastMonster.2.2.1 u_C_leastMonster.2.2.2.1 ∈ gt := gt_at 455 (by decide +kernel) rfl
theorem gc_C_putBack : Cond.code u_C_putBack.1 u_C_putBack.2.1 u_C_putBack.2.2.1 u_C_putBack.2.2.2.1 ∈ gt := gt_at 501 (by decide +kernel) rfl
theorem gc_C_furthestOff : Cond.code u_C_furthestOff.1 u_C_furthestOff.2.1 u_C_furthestOff.2.2.1 u_C_furthestOff.2.2.2.1 ∈ gt := gt_at 514 (by decide +kernel) rfl
theorem gc_C_digestOfDrawing : Cond.code u_C_digestOfDrawing.1 u_C_digestOfDrawing.2.1 u_C_digestOfDrawing.2.2.1 u_C_digestOfDrawing.2.2.2.1 ∈ gt := gt_at 590 (by decide +kernel) rfl
theorem gc_C_digestOfKnower : Cond.code u_C_digestOfKnower.1 u_C_digestOfKnower.2.1 u_C_digestOfKnower.2.2.1 u_C_digestOfKnower.2.2.2.1 ∈ gt := gt_at 596 (by decide +kernel) rfl
theorem gc_M_init : Cond.code u_M_init.1 u_M_init.2.1 u_M_init.2.2.1 u_M_init.2.2.2.1 ∈ gt := gt_at 603 (by decide +kernel) rfl
theorem gc_M_in : Cond.code u_M_in.1 u_M_in.2.1 u_M_in.2.2.1 u_M_in.2.2.2.1 ∈ gt := gt_at 697 (by decide +kernel) rfl
theorem gc_M_no : Cond.code u_M_no.1 u_M_no.2.1 u_M_no.2.2.1 u_M_no.2.2.2.1 ∈ gt := gt_at 903 (by decide +kernel) rfl
theorem gc_M_dear : Cond.code u_M_dear.1 u_M_dear.2.1 u_M_dear.2.2.1 u_M_dear.2.2.2.1 ∈ gt := gt_at 806 (by decide +kernel) rfl
theorem gc_M_isTwo : Cond.code u_M_isTwo.1 u_M_isTwo.2.1 u_M_isTwo.2.2.1 u_M_isTwo.2.2.2.1 ∈ gt := gt_at 900 (by decide +kernel) rfl
theorem gc_M_amount : Cond.code u_M_amount.1 u_M_amount.2.1 u_M_amount.2.2.1 u_M_amount.2.2.2.1 ∈ gt := gt_at 853 (by decide +kernel) rfl
theorem gc_M_met : Cond.code u_M_met.1 u_M_met.2.1 u_M_met.2.2.1 u_M_met.2.2.2.1 ∈ gt := gt_at 702 (by decide +kernel) rfl
theorem gc_M_isSheet : Cond.code u_M_isSheet.1 u_M_isSheet.2.1 u_M_isSheet.2.2.1 u_M_isSheet.2.2.2.1 ∈ gt := gt_at 693 (by decide +kernel) rfl
theorem gc_M_sheet : Cond.code u_M_sheet.1 u_M_sheet.2.1 u_M_sheet.2.2.1 u_M_sheet.2.2.2.1 ∈ gt := gt_at 690 (by decide +kernel) rfl
theorem gc_M_lose : Cond.code u_M_lose.1 u_M_lose.2.1 u_M_lose.2.2.1 u_M_lose.2.2.2.1 ∈ gt := gt_at 706 (by decide +kernel) rfl
theorem gc_M_lacks : Cond.code u_M_lacks.1 u_M_lacks.2.1 u_M_lacks.2.2.1 u_M_lacks.2.2.2.1 ∈ gt := gt_at 714 (by decide +kernel) rfl
theorem gc_M_cut : Cond.code u_M_cut.1 u_M_cut.2.1 u_M_cut.2.2.1 u_M_cut.2.2.2.1 ∈ gt := gt_at 717 (by decide +kernel) rfl
theorem gc_M_lay : Cond.code u_M_lay.1 u_M_lay.2.1 u_M_lay.2.2.1 u_M_lay.2.2.2.1 ∈ gt := gt_at 710 (by decide +kernel) rfl
theorem gc_M_get : Cond.code u_M_get.1 u_M_get.2.1 u_M_get.2.2.1 u_M_get.2.2.2.1 ∈ gt := gt_at 721 (by decide +kernel) rfl
theorem gc_M_copy : Cond.code u_M_copy.1 u_M_copy.2.1 u_M_copy.2.2.1 u_M_copy.2.2.2.1 ∈ gt := gt_at 726 (by decide +kernel) rfl
theorem gc_M_isHead : Cond.code u_M_isHead.1 u_M_isHead.2.1 u_M_isHead.2.2.1 u_M_isHead.2.2.2.1 ∈ gt := gt_at 738 (by decide +kernel) rfl
theorem gc_M_isPart : Cond.code u_M_isPart.1 u_M_isPart.2.1 u_M_isPart.2.2.1 u_M_isPart.2.2.2.1 ∈ gt := gt_at 741 (by decide +kernel) rfl
theorem gc_M_isHand : Cond.code u_M_isHand.1 u_M_isHand.2.1 u_M_isHand.2.2.1 u_M_isHand.2.2.2.1 ∈ gt := gt_at 767 (by decide +kernel) rfl
theorem gc_M_isSet : Cond.code u_M_isSet.1 u_M_isSet.2.1 u_M_isSet.2.2.1 u_M_isSet.2.2.2.1 ∈ gt := gt_at 756 (by decide +kernel) rfl
theorem gc_M_head : Cond.code u_M_head.1 u_M_head.2.1 u_M_head.2.2.1 u_M_head.2.2.2.1 ∈ gt := gt_at 730 (by decide +kernel) rfl
theorem gc_M_place : Cond.code u_M_place.1 u_M_place.2.1 u_M_place.2.2.1 u_M_place.2.2.2.1 ∈ gt := gt_at 734 (by decide +kernel) rfl
theorem gc_M_read : Cond.code u_M_read.1 u_M_read.2.1 u_M_read.2.2.1 u_M_read.2.2.2.1 ∈ gt := gt_at 747 (by decide +kernel) rfl
theorem gc_M_meanOf : Cond.code u_M_meanOf.1 u_M_meanOf.2.1 u_M_meanOf.2.2.1 u_M_meanOf.2.2.2.1 ∈ gt := gt_at 760 (by decide +kernel) rfl
theorem gc_M_mean : Cond.code u_M_mean.1 u_M_mean.2.1 u_M_mean.2.2.1 u_M_mean.2.2.2.1 ∈ gt := gt_at 752 (by decide +kernel) rfl
theorem gc_M_type : Cond.code u_M_type.1 u_M_type.2.1 u_M_type.2.2.1 u_M_type.2.2.2.1 ∈ gt := gt_at 764 (by decide +kernel) rfl
theorem gc_M_wipe : Cond.code u_M_wipe.1 u_M_wipe.2.1 u_M_wipe.2.2.1 u_M_wipe.2.2.2.1 ∈ gt := gt_at 772 (by decide +kernel) rfl
theorem gc_M_here : Cond.code u_M_here.1 u_M_here.2.1 u_M_here.2.2.1 u_M_here.2.2.2.1 ∈ gt := gt_at 792 (by decide +kernel) rfl
theorem gc_M_number : Cond.code u_M_number.1 u_M_number.2.1 u_M_number.2.2.1 u_M_number.2.2.2.1 ∈ gt := gt_at 797 (by decide +kernel) rfl
theorem gc_M_readsPiece : Cond.code u_M_readsPiece.1 u_M_readsPiece.2.1 u_M_readsPiece.2.2.1 u_M_readsPiece.2.2.2.1 ∈ gt := gt_at 788 (by decide +kernel) rfl
theorem gc_M_clears : Cond.code u_M_clears.1 u_M_clears.2.1 u_M_clears.2.2.1 u_M_clears.2.2.2.1 ∈ gt := gt_at 784 (by decide +kernel) rfl
theorem gc_M_reads : Cond.code u_M_reads.1 u_M_reads.2.1 u_M_reads.2.2.1 u_M_reads.2.2.2.1 ∈ gt := gt_at 780 (by decide +kernel) rfl
theorem gc_M_fault : Cond.code u_M_fault.1 u_M_fault.2.1 u_M_fault.2.2.1 u_M_fault.2.2.2.1 ∈ gt := gt_at 776 (by decide +kernel) rfl
theorem gc_M_tenths : Cond.code u_M_tenths.1 u_M_tenths.2.1 u_M_tenths.2.2.1 u_M_tenths.2.2.2.1 ∈ gt := gt_at 803 (by decide +kernel) rfl
theorem gc_M_drawnBy : Cond.code u_M_drawnBy.1 u_M_drawnBy.2.1 u_M_drawnBy.2.2.1 u_M_drawnBy.2.2.2.1 ∈ gt := gt_at 813 (by decide +kernel) rfl
theorem gc_M_drawn : Cond.code u_M_drawn.1 u_M_drawn.2.1 u_M_drawn.2.2.1 u_M_drawn.2.2.2.1 ∈ gt := gt_at 810 (by decide +kernel) rfl
theorem gc_M_set : Cond.code u_M_set.1 u_M_set.2.1 u_M_set.2.2.1 u_M_set.2.2.2.1 ∈ gt := gt_at 817 (by decide +kernel) rfl
theorem gc_M_isDrawing : Cond.code u_M_isDrawing.1 u_M_isDrawing.2.1 u_M_isDrawing.2.2.1 u_M_isDrawing.2.2.2.1 ∈ gt := gt_at 834 (by decide +kernel) rfl
theorem gc_M_isLate : Cond.code u_M_isLate.1 u_M_isLate.2.1 u_M_isLate.2.2.1 u_M_isLate.2.2.2.1 ∈ gt := gt_at 826 (by decide +kernel) rfl
theorem gc_M_draw : Cond.code u_M_draw.1 u_M_draw.2.1 u_M_draw.2.2.1 u_M_draw.2.2.2.1 ∈ gt := gt_at 822 (by decide +kernel) rfl
theorem gc_M_copied : Cond.code u_M_copied.1 u_M_copied.2.1 u_M_copied.2.2.1 u_M_copied.2.2.2.1 ∈ gt := gt_at 830 (by decide +kernel) rfl
theorem gc_M_line : Cond.code u_M_line.1 u_M_line.2.1 u_M_line.2.2.1 u_M_line.2.2.2.1 ∈ gt := gt_at 838 (by decide +kernel) rfl
theorem gc_M_isMonster : Cond.code u_M_isMonster.1 u_M_isMonster.2.1 u_M_isMonster.2.2.1 u_M_isMonster.2.2.2.1 ∈ gt := gt_at 865 (by decide +kernel) rfl
theorem gc_M_unlikeBy : Cond.code u_M_unlikeBy.1 u_M_unlikeBy.2.1 u_M_unlikeBy.2.2.1 u_M_unlikeBy.2.2.2.1 ∈ gt := gt_at 850 (by decide +kernel) rfl
theorem gc_M_unlikeOf : Cond.code u_M_unlikeOf.1 u_M_unlikeOf.2.1 u_M_unlikeOf.2.2.1 u_M_unlikeOf.2.2.2.1 ∈ gt := gt_at 846 (by decide +kernel) rfl
theorem gc_M_unlike : Cond.code u_M_unlike.1 u_M_unlike.2.1 u_M_unlike.2.2.1 u_M_unlike.2.2.2.1 ∈ gt := gt_at 842 (by decide +kernel) rfl
theorem gc_M_fromOf : Cond.code u_M_fromOf.1 u_M_fromOf.2.1 u_M_fromOf.2.2.1 u_M_fromOf.2.2.2.1 ∈ gt := gt_at 869 (by decide +kernel) rfl
theorem gc_M_agesOf : Cond.code u_M_agesOf.1 u_M_agesOf.2.1 u_M_agesOf.2.2.1 u_M_agesOf.2.2.2.1 ∈ gt := gt_at 873 (by decide +kernel) rfl
theorem gc_M_whoseOf : Cond.code u_M_whoseOf.1 u_M_whoseOf.2.1 u_M_whoseOf.2.2.1 u_M_whoseOf.2.2.2.1 ∈ gt := gt_at 877 (by decide +kernel) rfl
theorem gc_M_aboutOf : Cond.code u_M_aboutOf.1 u_M_aboutOf.2.1 u_M_aboutOf.2.2.1 u_M_aboutOf.2.2.2.1 ∈ gt := gt_at 861 (by decide +kernel) rfl
theorem gc_M_about : Cond.code u_M_about.1 u_M_about.2.1 u_M_about.2.2.1 u_M_about.2.2.2.1 ∈ gt := gt_at 857 (by decide +kernel) rfl
theorem gc_M_isKnower : Cond.code u_M_isKnower.1 u_M_isKnower.2.1 u_M_isKnower.2.2.1 u_M_isKnower.2.2.2.1 ∈ gt := gt_at 889 (by decide +kernel) rfl
theorem gc_M_doesKnow : Cond.code u_M_doesKnow.1 u_M_doesKnow.2.1 u_M_doesKnow.2.2.1 u_M_doesKnow.2.2.2.1 ∈ gt := gt_at 908 (by decide +kernel) rfl
theorem gc_M_knower : Cond.code u_M_knower.1 u_M_knower.2.1 u_M_knower.2.2.1 u_M_knower.2.2.2.1 ∈ gt := gt_at 881 (by decide +kernel) rfl
theorem gc_M_look : Cond.code u_M_look.1 u_M_look.2.1 u_M_look.2.2.1 u_M_look.2.2.2.1 ∈ gt := gt_at 885 (by decide +kernel) rfl
theorem gc_M_leans : Cond.code u_M_leans.1 u_M_leans.2.1 u_M_leans.2.2.1 u_M_leans.2.2.2.1 ∈ gt := gt_at 893 (by decide +kernel) rfl
theorem gc_M_sees_I : Cond.code u_M_sees_I.1 u_M_sees_I.2.1 u_M_sees_I.2.2.1 u_M_sees_I.2.2.2.1 ∈ gt := gt_at 912 (by decide +kernel) rfl
theorem gc_M_sees_IIII : Cond.code u_M_sees_IIII.1 u_M_sees_IIII.2.1 u_M_sees_IIII.2.2.1 u_M_sees_IIII.2.2.2.1 ∈ gt := gt_at 949 (by decide +kernel) rfl
theorem gc_M_findScore : Cond.code u_M_findScore.1 u_M_findScore.2.1 u_M_findScore.2.2.1 u_M_findScore.2.2.2.1 ∈ gt := gt_at 916 (by decide +kernel) rfl
theorem gc_M_divisor : Cond.code u_M_divisor.1 u_M_divisor.2.1 u_M_divisor.2.2.1 u_M_divisor.2.2.2.1 ∈ gt := gt_at 922 (by decide +kernel) rfl
theorem gc_M_part : Cond.code u_M_part.1 u_M_part.2.1 u_M_part.2.2.1 u_M_part.2.2.2.1 ∈ gt := gt_at 919 (by decide +kernel) rfl
theorem gc_M_isMore : Cond.code u_M_isMore.1 u_M_isMore.2.1 u_M_isMore.2.2.1 u_M_isMore.2.2.2.1 ∈ gt := gt_at 937 (by decide +kernel) rfl
theorem gc_M_score : Cond.code u_M_score.1 u_M_score.2.1 u_M_score.2.2.1 u_M_score.2.2.2.1 ∈ gt := gt_at 897 (by decide +kernel) rfl
theorem gc_M_namedBy : Cond.code u_M_namedBy.1 u_M_namedBy.2.1 u_M_namedBy.2.2.1 u_M_namedBy.2.2.2.1 ∈ gt := gt_at 934 (by decide +kernel) rfl
theorem gc_M_marginOf : Cond.code u_M_marginOf.1 u_M_marginOf.2.1 u_M_marginOf.2.2.1 u_M_marginOf.2.2.2.1 ∈ gt := gt_at 941 (by decide +kernel) rfl
theorem gc_M_namedOf : Cond.code u_M_namedOf.1 u_M_namedOf.2.1 u_M_namedOf.2.2.1 u_M_namedOf.2.2.2.1 ∈ gt := gt_at 930 (by decide +kernel) rfl
theorem gc_M_named : Cond.code u_M_named.1 u_M_named.2.1 u_M_named.2.2.1 u_M_named.2.2.2.1 ∈ gt := gt_at 926 (by decide +kernel) rfl
theorem gc_M_much : Cond.code u_M_much.1 u_M_much.2.1 u_M_much.2.2.1 u_M_much.2.2.2.1 ∈ gt := gt_at 945 (by decide +kernel) rfl
theorem gc_M_ones : Cond.code u_M_ones.1 u_M_ones.2.1 u_M_ones.2.2.1 u_M_ones.2.2.2.1 ∈ gt := gt_at 960 (by decide +kernel) rfl
theorem gc_M_isEnough : Cond.code u_M_isEnough.1 u_M_isEnough.2.1 u_M_isEnough.2.2.1 u_M_isEnough.2.2.2.1 ∈ gt := gt_at 964 (by decide +kernel) rfl
theorem gc_M_isAsked : Cond.code u_M_isAsked.1 u_M_isAsked.2.1 u_M_isAsked.2.2.1 u_M_isAsked.2.2.2.1 ∈ gt := gt_at 957 (by decide +kernel) rfl
theorem gc_M_few : Cond.code u_M_few.1 u_M_few.2.1 u_M_few.2.2.1 u_M_few.2.2.2.1 ∈ gt := gt_at 953 (by decide +kernel) rfl
theorem gc_M_stands : Cond.code u_M_stands.1 u_M_stands.2.1 u_M_stands.2.2.1 u_M_stands.2.2.2.1 ∈ gt := gt_at 968 (by decide +kernel) rfl
theorem gc_M_grows : Cond.code u_M_grows.1 u_M_grows.2.1 u_M_grows.2.2.1 u_M_grows.2.2.2.1 ∈ gt := gt_at 972 (by decide +kernel) rfl
theorem gc_M_backOf : Cond.code u_M_backOf.1 u_M_backOf.2.1 u_M_backOf.2.2.1 u_M_backOf.2.2.2.1 ∈ gt := gt_at 980 (by decide +kernel) rfl
theorem gc_M_back : Cond.code u_M_back.1 u_M_back.2.1 u_M_back.2.2.1 u_M_back.2.2.2.1 ∈ gt := gt_at 976 (by decide +kernel) rfl
theorem gc_M_nearOf : Cond.code u_M_nearOf.1 u_M_nearOf.2.1 u_M_nearOf.2.2.1 u_M_nearOf.2.2.2.1 ∈ gt := gt_at 988 (by decide +kernel) rfl
theorem gc_M_near : Cond.code u_M_near.1 u_M_near.2.1 u_M_near.2.2.1 u_M_near.2.2.2.1 ∈ gt := gt_at 984 (by decide +kernel) rfl
theorem gc_M_witnessOf : Cond.code u_M_witnessOf.1 u_M_witnessOf.2.1 u_M_witnessOf.2.2.1 u_M_witnessOf.2.2.2.1 ∈ gt := gt_at 996 (by decide +kernel) rfl
theorem gc_M_witness : Cond.code u_M_witness.1 u_M_witness.2.1 u_M_witness.2.2.1 u_M_witness.2.2.2.1 ∈ gt := gt_at 992 (by decide +kernel) rfl
theorem gc_M_plainest : Cond.code u_M_plainest.1 u_M_plainest.2.1 u_M_plainest.2.2.1 u_M_plainest.2.2.2.1 ∈ gt := gt_at 1000 (by decide +kernel) rfl
theorem gc_M_write : Cond.code u_M_write.1 u_M_write.2.1 u_M_write.2.2.1 u_M_write.2.2.2.1 ∈ gt := gt_at 1004 (by decide +kernel) rfl
theorem gc_M_count : Cond.code u_M_count.1 u_M_count.2.1 u_M_count.2.2.1 u_M_count.2.2.2.1 ∈ gt := gt_at 1008 (by decide +kernel) rfl
theorem gc_M_digest : Cond.code u_M_digest.1 u_M_digest.2.1 u_M_digest.2.2.1 u_M_digest.2.2.2.1 ∈ gt := gt_at 1012 (by decide +kernel) rfl
theorem gc_J_bitCount : Cond.code u_J_bitCount.1 u_J_bitCount.2.1 u_J_bitCount.2.2.1 u_J_bitCount.2.2.2.1 ∈ gt := gt_at 482 (by decide +kernel) rfl
theorem gc_J_abs_I : Cond.code u_J_abs_I.1 u_J_abs_I.2.1 u_J_abs_I.2.2.1 u_J_abs_I.2.2.2.1 ∈ gt := gt_at 356 (by decide +kernel) rfl
theorem gc_J_abs_J : Cond.code u_J_abs_J.1 u_J_abs_J.2.1 u_J_abs_J.2.2.1 u_J_abs_J.2.2.2.1 ∈ gt := gt_at 422 (by decide +kernel) rfl
theorem gc_J_max_II : Cond.code u_J_max_II.1 u_J_max_II.2.1 u_J_max_II.2.2.1 u_J_max_II.2.2.2.1 ∈ gt := gt_at 303 (by decide +kernel) rfl
theorem gc_J_max_JJ : Cond.code u_J_max_JJ.1 u_J_max_JJ.2.1 u_J_max_JJ.2.2.1 u_J_max_JJ.2.2.2.1 ∈ gt := gt_at 447 (by decide +kernel) rfl
theorem gc_J_min : Cond.code u_J_min.1 u_J_min.2.1 u_J_min.2.2.1 u_J_min.2.2.2.1 ∈ gt := gt_at 230 (by decide +kernel) rfl
theorem gc_J_fill : Cond.code u_J_fill.1 u_J_fill.2.1 u_J_fill.2.2.1 u_J_fill.2.2.2.1 ∈ gt := gt_at 82 (by decide +kernel) rfl
theorem ml_C_78 : VL "UnlikeDrawn" 78 6 u_C_isHead 1 := ⟨⟨gt_at 203 (by decide +kernel) rfl, gt_at 205 (by decide +kernel) rfl, gt_sel (q := (⟨"UnlikeDrawn", "isHead", "(I)Z"⟩, 17)) 0 (by decide +kernel), gt_at 1 (by decide +kernel) rfl, gc_C_isHead⟩, ⟨by decide +kernel, by decide +kernel, by decide +kernel⟩, _, _, rfl⟩
theorem ml_C_82 : SL "UnlikeDrawn" 82 u_C_isPart 1 := ⟨⟨gt_at 207 (by decide +kernel) rfl, gt_at 208 (by decide +kernel) rfl, gt_at 1 (by decide +kernel) rfl, gc_C_isPart⟩, ⟨by decide +kernel, by decide +kernel, by decide +kernel⟩⟩
theorem ml_C_85 : SL "UnlikeDrawn" 85 u_C_isPlace 1 := ⟨⟨gt_at 210 (by decide +kernel) rfl, gt_at 211 (by decide +kernel) rfl, gt_at 1 (by decide +kernel) rfl, gc_C_isPlace⟩, ⟨by decide +kernel, by decide +kernel, by decide +kernel⟩⟩
theorem ml_C_91 : SL "UnlikeDrawn" 91 u_C_isSheet 1 := ⟨⟨gt_at 217 (by decide +kernel) rfl, gt_at 218 (by decide +kernel) rfl, gt_at 1 (by decide +kernel) rfl, gc_C_isSheet⟩, ⟨by decide +kernel, by decide +kernel, by decide +kernel⟩⟩
theorem ml_C_94 : VL "UnlikeDrawn" 94 4 u_Sh_isLost 0 := ⟨⟨gt_at 220 (by decide +kernel) rfl, gt_at 221 (by decide +kernel) rfl, gt_at 222 (by decide +kernel) rfl, gt_at 8 (by decide +kernel) rfl, gc_Sh_isLost⟩, ⟨by decide +kernel, by decide +kernel, by decide +kernel⟩, _, _, rfl⟩
theorem ml_C_98 : VL "UnlikeDrawn" 98 6 u_C_found 1 := ⟨⟨gt_at 224 (by decide +kernel) rfl, gt_at 226 (by decide +kernel) rfl, gt_sel (q := (⟨"UnlikeDrawn", "found", "(I)I"⟩, 17)) 1 (by decide +kernel), gt_at 1 (by decide +kernel) rfl, gc_C_found⟩, ⟨by decide +kernel, by decide +kernel, by decide +kernel⟩, _, _, rfl⟩
theorem ml_C_105 : SL "UnlikeDrawn" 105 u_J_min 2 := ⟨⟨gt_at 228 (by decide +kernel) rfl, gt_at 229 (by decide +kernel) rfl, gt_at 10 (by decide +kernel) rfl, gc_J_min⟩, ⟨by decide +kernel, by decide +kernel, by decide +kernel⟩⟩
theorem ml_C_114 : VL "UnlikeDrawn" 114 6 u_C_isSet 1 := ⟨⟨gt_at 235 (by decide +kernel) rfl, gt_at 237 (by decide +kernel) rfl, gt_sel (q := (⟨"UnlikeDrawn", "isSet", "(I)Z"⟩, 17)) 2 (by decide +kernel), gt_at 1 (by decide +kernel) rfl, gc_C_isSet⟩, ⟨by decide +kernel, by decide +kernel, by decide +kernel⟩, _, _, rfl⟩
theorem ml_C_117 : VL "UnlikeDrawn" 117 6 u_C_meanOf 2 := ⟨⟨gt_at 239 (by decide +kernel) rfl, gt_at 241 (by decide +kernel) rfl, gt_sel (q := (⟨"UnlikeDrawn", "meanOf", "(II)I"⟩, 17)) 3 (by decide +kernel), gt_at 1 (by decide +kernel) rfl, gc_C_meanOf⟩, ⟨by decide +kernel, by decide +kernel, by decide +kernel⟩, _, _, rfl⟩
theorem ml_C_120 : SL "UnlikeDrawn" 120 u_C_isHand 1 := ⟨⟨gt_at 247 (by decide +kernel) rfl, gt_at 248 (by decide +kernel) rfl, gt_at 1 (by decide +kernel) rfl, gc_C_isHand⟩, ⟨by decide +kernel, by decide +kernel, by decide +kernel⟩⟩
theorem ml_C_126 : VL "UnlikeDrawn" 126 1 u_Ha_append 1 := ⟨⟨gt_at 250 (by decide +kernel) rfl, gt_at 251 (by decide +kernel) rfl, gt_at 252 (by decide +kernel) rfl, gt_at 6 (by decide +kernel) rfl, gc_Ha_append⟩, ⟨by decide +kernel, by decide +kernel, by decide +kernel⟩, _, _, rfl⟩
theorem ml_C_130 : VL "UnlikeDrawn" 130 1 u_Ha_clear 0 := ⟨⟨gt_at 282 (by decide +kernel) rfl, gt_at 283 (by decide +kernel) rfl, gt_at 284 (by decide +kernel) rfl, gt_at 6 (by decide +kernel) rfl, gc_Ha_clear⟩, ⟨by decide +kernel, by decide +kernel, by decide +kernel⟩, _, _, rfl⟩
theorem ml_C_139 : SL "UnlikeDrawn" 139 u_C_drawnAt 3 := ⟨⟨gt_at 298 (by decide +kernel) rfl, gt_at 299 (by decide +kernel) rfl, gt_at 1 (by decide +kernel) rfl, gc_C_drawnAt⟩, ⟨by decide +kernel, by decide +kernel, by decide +kernel⟩⟩
theorem ml_C_143 : VL "UnlikeDrawn" 143 6 u_C_isNextYear 1 := ⟨⟨gt_at 312 (by decide +kernel) rfl, gt_at 314 (by decide +kernel) rfl, gt_sel (q := (⟨"UnlikeDrawn", "isNextYear", "(I)Z"⟩, 17)) 9 (by decide +kernel), gt_at 1 (by decide +kernel) rfl, gc_C_isNextYear⟩, ⟨by decide +kernel, by decide +kernel, by decide +kernel⟩, _, _, rfl⟩
theorem ml_C_152 : VL "UnlikeDrawn" 152 6 u_C_fillMean 2 := ⟨⟨gt_at 316 (by decide +kernel) rfl, gt_at 318 (by decide +kernel) rfl, gt_sel (q := (⟨"UnlikeDrawn", "fillMean", "(I[I)V"⟩, 17)) 10 (by decide +kernel), gt_at 1 (by decide +kernel) rfl, gc_C_fillMean⟩, ⟨by decide +kernel, by decide +kernel, by decide +kernel⟩, _, _, rfl⟩
theorem ml_C_156 : SL "UnlikeDrawn" 156 u_C_outline 3 := ⟨⟨gt_at 320 (by decide +kernel) rfl, gt_at 321 (by decide +kernel) rfl, gt_at 1 (by decide +kernel) rfl, gc_C_outline⟩, ⟨by decide +kernel, by decide +kernel, by decide +kernel⟩⟩
theorem ml_C_169 : SL "UnlikeDrawn" 169 u_C_kindOf 3 := ⟨⟨gt_at 323 (by decide +kernel) rfl, gt_at 324 (by decide +kernel) rfl, gt_at 1 (by decide +kernel) rfl, gc_C_kindOf⟩, ⟨by decide +kernel, by decide +kernel, by decide +kernel⟩⟩
theorem ml_C_176 : VL "UnlikeDrawn" 176 6 u_C_isDrawing 1 := ⟨⟨gt_at 334 (by decide +kernel) rfl, gt_at 336 (by decide +kernel) rfl, gt_sel (q := (⟨"UnlikeDrawn", "isDrawing", "(I)Z"⟩, 17)) 11 (by decide +kernel), gt_at 1 (by decide +kernel) rfl, gc_C_isDrawing⟩, ⟨by decide +kernel, by decide +kernel, by decide +kernel⟩, _, _, rfl⟩
theorem ml_C_179 : Cond.methodLink "UnlikeDrawn" 179 arraycopyName ∈ gt := gt_at 338 (by decide +kernel) rfl
theorem ml_C_188 : VL "UnlikeDrawn" 188 5 u_Sk_isOffByMoreThan 1 := ⟨⟨gt_at 349 (by decide +kernel) rfl, gt_at 350 (by decide +kernel) rfl, gt_at 351 (by decide +kernel) rfl, gt_at 2 (by decide +kernel) rfl, gc_Sk_isOffByMoreThan⟩, ⟨by decide +kernel, by decide +kernel, by decide +kernel⟩, _, _, rfl⟩
theorem ml_C_191 : VL "UnlikeDrawn" 191 6 u_C_fromOf 1 := ⟨⟨gt_at 357 (by decide +kernel) rfl, gt_at 359 (by decide +kernel) rfl, gt_sel (q := (⟨"UnlikeDrawn", "fromOf", "(I)I"⟩, 17)) 12 (by decide +kernel), gt_at 1 (by decide +kernel) rfl, gc_C_fromOf⟩, ⟨by decide +kernel, by decide +kernel, by decide +kernel⟩, _, _, rfl⟩
theorem ml_C_194 : VL "UnlikeDrawn" 194 6 u_C_agesOf 1 := ⟨⟨gt_at 365 (by decide +kernel) rfl, gt_at 367 (by decide +kernel) rfl, gt_sel (q := (⟨"UnlikeDrawn", "agesOf", "(I)I"⟩, 17)) 13 (by decide +kernel), gt_at 1 (by decide +kernel) rfl, gc_C_agesOf⟩, ⟨by decide +kernel, by decide +kernel, by decide +kernel⟩, _, _, rfl⟩
theorem ml_C_197 : VL "UnlikeDrawn" 197 6 u_C_whoseIs 1 := ⟨⟨gt_at 369 (by decide +kernel) rfl, gt_at 371 (by decide +kernel) rfl, gt_sel (q := (⟨"UnlikeDrawn", "whoseIs", "(LUnlikeDrawn$Sketch;)I"⟩, 17)) 14 (by decide +kernel), gt_at 1 (by decide +kernel) rfl, gc_C_whoseIs⟩, ⟨by decide +kernel, by decide +kernel, by decide +kernel⟩, _, _, rfl⟩
theorem ml_C_201 : VL "UnlikeDrawn" 201 5 u_Sk_distanceTo 2 := ⟨⟨gt_at 361 (by decide +kernel) rfl, gt_at 362 (by decide +kernel) rfl, gt_at 363 (by decide +kernel) rfl, gt_at 2 (by decide +kernel) rfl, gc_Sk_distanceTo⟩, ⟨by decide +kernel, by decide +kernel, by decide +kernel⟩, _, _, rfl⟩
theorem ml_C_214 : VL "UnlikeDrawn" 214 6 u_C_isKnower 1 := ⟨⟨gt_at 385 (by decide +kernel) rfl, gt_at 387 (by decide +kernel) rfl, gt_sel (q := (⟨"UnlikeDrawn", "isKnower", "(I)Z"⟩, 17)) 15 (by decide +kernel), gt_at 1 (by decide +kernel) rfl, gc_C_isKnower⟩, ⟨by decide +kernel, by decide +kernel, by decide +kernel⟩, _, _, rfl⟩
theorem ml_C_217 : VL "UnlikeDrawn" 217 3 u_Kn_gaze 3 := ⟨⟨gt_at 389 (by decide +kernel) rfl, gt_at 390 (by decide +kernel) rfl, gt_at 391 (by decide +kernel) rfl, gt_at 7 (by decide +kernel) rfl, gc_Kn_gaze⟩, ⟨by decide +kernel, by decide +kernel, by decide +kernel⟩, _, _, rfl⟩
theorem ml_C_223 : VL "UnlikeDrawn" 223 3 u_Kn_knows 1 := ⟨⟨gt_at 403 (by decide +kernel) rfl, gt_at 404 (by decide +kernel) rfl, gt_at 405 (by decide +kernel) rfl, gt_at 7 (by decide +kernel) rfl, gc_Kn_knows⟩, ⟨by decide +kernel, by decide +kernel, by decide +kernel⟩, _, _, rfl⟩
theorem ml_C_228 : VL "UnlikeDrawn" 228 3 u_Kn_weigh 3 := ⟨⟨gt_at 408 (by decide +kernel) rfl, gt_at 409 (by decide +kernel) rfl, gt_at 410 (by decide +kernel) rfl, gt_at 7 (by decide +kernel) rfl, gc_Kn_weigh⟩, ⟨by decide +kernel, by decide +kernel, by decide +kernel⟩, _, _, rfl⟩
theorem ml_C_232 : VL "UnlikeDrawn" 232 0 u_Fr_told 1 := ⟨⟨gt_at 416 (by decide +kernel) rfl, gt_at 417 (by decide +kernel) rfl, gt_at 418 (by decide +kernel) rfl, gt_at 3 (by decide +kernel) rfl, gc_Fr_told⟩, ⟨by decide +kernel, by decide +kernel, by decide +kernel⟩, _, _, rfl⟩
theorem ml_C_236 : VL "UnlikeDrawn" 236 6 u_C_nameFor 2 := ⟨⟨gt_at 427 (by decide +kernel) rfl, gt_at 429 (by decide +kernel) rfl, gt_sel (q := (⟨"UnlikeDrawn", "nameFor", "(LUnlikeDrawn$Knower;LUnlikeDrawn$Sketch;)I"⟩, 17)) 16 (by decide +kernel), gt_at 1 (by decide +kernel) rfl, gc_C_nameFor⟩, ⟨by decide +kernel, by decide +kernel, by decide +kernel⟩, _, _, rfl⟩
theorem ml_C_240 : VL "UnlikeDrawn" 240 6 u_C_marginOf 3 := ⟨⟨gt_at 440 (by decide +kernel) rfl, gt_at 442 (by decide +kernel) rfl, gt_sel (q := (⟨"UnlikeDrawn", "marginOf", "(LUnlikeDrawn$Knower;LUnlikeDrawn$Sketch;I)I"⟩, 17)) 17 (by decide +kernel), gt_at 1 (by decide +kernel) rfl, gc_C_marginOf⟩, ⟨by decide +kernel, by decide +kernel, by decide +kernel⟩, _, _, rfl⟩
theorem ml_C_244 : VL "UnlikeDrawn" 244 6 u_C_leastMonster 1 := ⟨⟨gt_at 452 (by decide +kernel) rfl, gt_at 454 (by decide +kernel) rfl, gt_sel (q := (⟨"UnlikeDrawn", "leastMonster", "(I)I"⟩, 17)) 18 (by decide +kernel), gt_at 1 (by decide +kernel) rfl, gc_C_leastMonster⟩, ⟨by decide +kernel, by decide +kernel, by decide +kernel⟩, _, _, rfl⟩
theorem ml_C_247 : VL "UnlikeDrawn" 247 6 u_C_leastNamed 2 := ⟨⟨gt_at 460 (by decide +kernel) rfl, gt_at 462 (by decide +kernel) rfl, gt_sel (q := (⟨"UnlikeDrawn", "leastNamed", "(LUnlikeDrawn$Knower;I)I"⟩, 17)) 20 (by decide +kernel), gt_at 1 (by decide +kernel) rfl, gc_C_leastNamed⟩, ⟨by decide +kernel, by decide +kernel, by decide +kernel⟩, _, _, rfl⟩
theorem ml_C_251 : VL "UnlikeDrawn" 251 6 u_C_bestNamed 2 := ⟨⟨gt_at 468 (by decide +kernel) rfl, gt_at 470 (by decide +kernel) rfl, gt_sel (q := (⟨"UnlikeDrawn", "bestNamed", "(LUnlikeDrawn$Knower;I)I"⟩, 17)) 22 (by decide +kernel), gt_at 1 (by decide +kernel) rfl, gc_C_bestNamed⟩, ⟨by decide +kernel, by decide +kernel, by decide +kernel⟩, _, _, rfl⟩
theorem ml_C_254 : VL "UnlikeDrawn" 254 6 u_C_refusalOfParts 4 := ⟨⟨gt_at 476 (by decide +kernel) rfl, gt_at 478 (by decide +kernel) rfl, gt_sel (q := (⟨"UnlikeDrawn", "refusalOfParts", "(IIII)I"⟩, 17)) 23 (by decide +kernel), gt_at 1 (by decide +kernel) rfl, gc_C_refusalOfParts⟩, ⟨by decide +kernel, by decide +kernel, by decide +kernel⟩, _, _, rfl⟩
theorem ml_C_258 : SL "UnlikeDrawn" 258 u_J_bitCount 1 := ⟨⟨gt_at 480 (by decide +kernel) rfl, gt_at 481 (by decide +kernel) rfl, gt_at 12 (by decide +kernel) rfl, gc_J_bitCount⟩, ⟨by decide +kernel, by decide +kernel, by decide +kernel⟩⟩
theorem ml_C_263 : VL "UnlikeDrawn" 263 6 u_C_isNamedBy 4 := ⟨⟨gt_at 464 (by decide +kernel) rfl, gt_at 466 (by decide +kernel) rfl, gt_sel (q := (⟨"UnlikeDrawn", "isNamedBy", "(LUnlikeDrawn$Knower;III)Z"⟩, 17)) 21 (by decide +kernel), gt_at 1 (by decide +kernel) rfl, gc_C_isNamedBy⟩, ⟨by decide +kernel, by decide +kernel, by decide +kernel⟩, _, _, rfl⟩
theorem ml_C_267 : VL "UnlikeDrawn" 267 5 u_Sk_has 1 := ⟨⟨gt_at 326 (by decide +kernel) rfl, gt_at 327 (by decide +kernel) rfl, gt_at 328 (by decide +kernel) rfl, gt_at 2 (by decide +kernel) rfl, gc_Sk_has⟩, ⟨by decide +kernel, by decide +kernel, by decide +kernel⟩, _, _, rfl⟩
theorem ml_C_270 : VL "UnlikeDrawn" 270 0 u_Fr_become 2 := ⟨⟨gt_at 431 (by decide +kernel) rfl, gt_at 413 (by decide +kernel) rfl, gt_at 414 (by decide +kernel) rfl, gt_at 3 (by decide +kernel) rfl, gc_Fr_become⟩, ⟨by decide +kernel, by decide +kernel, by decide +kernel⟩, _, _, rfl⟩
theorem ml_C_274 : VL "UnlikeDrawn" 274 6 u_C_putBack 3 := ⟨⟨gt_at 498 (by decide +kernel) rfl, gt_at 500 (by decide +kernel) rfl, gt_sel (q := (⟨"UnlikeDrawn", "putBack", "(III)I"⟩, 17)) 24 (by decide +kernel), gt_at 1 (by decide +kernel) rfl, gc_C_putBack⟩, ⟨by decide +kernel, by decide +kernel, by decide +kernel⟩, _, _, rfl⟩
theorem ml_C_277 : SL "UnlikeDrawn" 277 u_J_abs_I 1 := ⟨⟨gt_at 506 (by decide +kernel) rfl, gt_at 355 (by decide +kernel) rfl, gt_at 10 (by decide +kernel) rfl, gc_J_abs_I⟩, ⟨by decide +kernel, by decide +kernel, by decide +kernel⟩⟩
theorem ml_C_280 : VL "UnlikeDrawn" 280 6 u_C_furthestOff 0 := ⟨⟨gt_at 511 (by decide +kernel) rfl, gt_at 513 (by decide +kernel) rfl, gt_sel (q := (⟨"UnlikeDrawn", "furthestOff", "()I"⟩, 17)) 25 (by decide +kernel), gt_at 1 (by decide +kernel) rfl, gc_C_furthestOff⟩, ⟨by decide +kernel, by decide +kernel, by decide +kernel⟩, _, _, rfl⟩
theorem ml_C_284 : VL "UnlikeDrawn" 284 2 u_He_offFrom 1 := ⟨⟨gt_at 519 (by decide +kernel) rfl, gt_at 520 (by decide +kernel) rfl, gt_at 521 (by decide +kernel) rfl, gt_at 4 (by decide +kernel) rfl, gc_He_offFrom⟩, ⟨by decide +kernel, by decide +kernel, by decide +kernel⟩, _, _, rfl⟩
theorem ml_C_288 : SL "UnlikeDrawn" 288 u_C_isForm 1 := ⟨⟨gt_at 528 (by decide +kernel) rfl, gt_at 529 (by decide +kernel) rfl, gt_at 1 (by decide +kernel) rfl, gc_C_isForm⟩, ⟨by decide +kernel, by decide +kernel, by decide +kernel⟩⟩
theorem ml_C_291 : VL "UnlikeDrawn" 291 4 u_Sh_begin 2 := ⟨⟨gt_at 531 (by decide +kernel) rfl, gt_at 532 (by decide +kernel) rfl, gt_at 533 (by decide +kernel) rfl, gt_at 8 (by decide +kernel) rfl, gc_Sh_begin⟩, ⟨by decide +kernel, by decide +kernel, by decide +kernel⟩, _, _, rfl⟩
theorem ml_C_295 : SL "UnlikeDrawn" 295 u_C_findingAt 3 := ⟨⟨gt_at 544 (by decide +kernel) rfl, gt_at 545 (by decide +kernel) rfl, gt_at 1 (by decide +kernel) rfl, gc_C_findingAt⟩, ⟨by decide +kernel, by decide +kernel, by decide +kernel⟩⟩
theorem ml_C_299 : VL "UnlikeDrawn" 299 4 u_Sh_put 2 := ⟨⟨gt_at 547 (by decide +kernel) rfl, gt_at 548 (by decide +kernel) rfl, gt_at 549 (by decide +kernel) rfl, gt_at 8 (by decide +kernel) rfl, gc_Sh_put⟩, ⟨by decide +kernel, by decide +kernel, by decide +kernel⟩, _, _, rfl⟩
theorem ml_C_306 : VL "UnlikeDrawn" 306 4 u_Sh_hasRun 2 := ⟨⟨gt_at 560 (by decide +kernel) rfl, gt_at 561 (by decide +kernel) rfl, gt_at 562 (by decide +kernel) rfl, gt_at 8 (by decide +kernel) rfl, gc_Sh_hasRun⟩, ⟨by decide +kernel, by decide +kernel, by decide +kernel⟩, _, _, rfl⟩
theorem ml_C_310 : VL "UnlikeDrawn" 310 6 u_C_monsters 0 := ⟨⟨gt_at 572 (by decide +kernel) rfl, gt_at 574 (by decide +kernel) rfl, gt_sel (q := (⟨"UnlikeDrawn", "monsters", "()I"⟩, 17)) 26 (by decide +kernel), gt_at 1 (by decide +kernel) rfl, gc_C_monsters⟩, ⟨by decide +kernel, by decide +kernel, by decide +kernel⟩, _, _, rfl⟩
theorem ml_C_320 : VL "UnlikeDrawn" 320 6 u_C_count 1 := ⟨⟨gt_at 582 (by decide +kernel) rfl, gt_at 569 (by decide +kernel) rfl, gt_at 570 (by decide +kernel) rfl, gt_at 1 (by decide +kernel) rfl, gc_C_count⟩, ⟨by decide +kernel, by decide +kernel, by decide +kernel⟩, _, _, rfl⟩
theorem ml_C_323 : VL "UnlikeDrawn" 323 6 u_C_fault 1 := ⟨⟨gt_at 583 (by decide +kernel) rfl, gt_at 287 (by decide +kernel) rfl, gt_at 288 (by decide +kernel) rfl, gt_at 1 (by decide +kernel) rfl, gc_C_fault⟩, ⟨by decide +kernel, by decide +kernel, by decide +kernel⟩, _, _, rfl⟩
theorem ml_C_325 : VL "UnlikeDrawn" 325 6 u_C_tenths 2 := ⟨⟨gt_at 584 (by decide +kernel) rfl, gt_at 291 (by decide +kernel) rfl, gt_at 292 (by decide +kernel) rfl, gt_at 1 (by decide +kernel) rfl, gc_C_tenths⟩, ⟨by decide +kernel, by decide +kernel, by decide +kernel⟩, _, _, rfl⟩
theorem ml_C_327 : VL "UnlikeDrawn" 327 6 u_C_near 2 := ⟨⟨gt_at 585 (by decide +kernel) rfl, gt_at 503 (by decide +kernel) rfl, gt_at 504 (by decide +kernel) rfl, gt_at 1 (by decide +kernel) rfl, gc_C_near⟩, ⟨by decide +kernel, by decide +kernel, by decide +kernel⟩, _, _, rfl⟩
theorem ml_C_330 : VL "UnlikeDrawn" 330 6 u_C_witness 3 := ⟨⟨gt_at 586 (by decide +kernel) rfl, gt_at 508 (by decide +kernel) rfl, gt_at 509 (by decide +kernel) rfl, gt_at 1 (by decide +kernel) rfl, gc_C_witness⟩, ⟨by decide +kernel, by decide +kernel, by decide +kernel⟩, _, _, rfl⟩
theorem ml_C_333 : VL "UnlikeDrawn" 333 6 u_C_digestOfDrawing 2 := ⟨⟨gt_at 587 (by decide +kernel) rfl, gt_at 589 (by decide +kernel) rfl, gt_sel (q := (⟨"UnlikeDrawn", "digestOfDrawing", "(JI)J"⟩, 17)) 27 (by decide +kernel), gt_at 1 (by decide +kernel) rfl, gc_C_digestOfDrawing⟩, ⟨by decide +kernel, by decide +kernel, by decide +kernel⟩, _, _, rfl⟩
theorem ml_C_337 : VL "UnlikeDrawn" 337 6 u_C_digestOfKnower 2 := ⟨⟨gt_at 593 (by decide +kernel) rfl, gt_at 595 (by decide +kernel) rfl, gt_sel (q := (⟨"UnlikeDrawn", "digestOfKnower", "(JI)J"⟩, 17)) 28 (by decide +kernel), gt_at 1 (by decide +kernel) rfl, gc_C_digestOfKnower⟩, ⟨by decide +kernel, by decide +kernel, by decide +kernel⟩, _, _, rfl⟩
theorem ml_C_340 : SL "UnlikeDrawn" 340 u_J_max_II 2 := ⟨⟨gt_at 301 (by decide +kernel) rfl, gt_at 302 (by decide +kernel) rfl, gt_at 10 (by decide +kernel) rfl, gc_J_max_II⟩, ⟨by decide +kernel, by decide +kernel, by decide +kernel⟩⟩
theorem ml_C_343 : VL "UnlikeDrawn" 343 0 u_Fr_isAbove 1 := ⟨⟨gt_at 432 (by decide +kernel) rfl, gt_at 433 (by decide +kernel) rfl, gt_at 434 (by decide +kernel) rfl, gt_at 3 (by decide +kernel) rfl, gc_Fr_isAbove⟩, ⟨by decide +kernel, by decide +kernel, by decide +kernel⟩, _, _, rfl⟩
theorem ml_C_354 : VL "UnlikeDrawn" 354 0 u_Fr_cut 0 := ⟨⟨gt_at 444 (by decide +kernel) rfl, gt_at 437 (by decide +kernel) rfl, gt_at 438 (by decide +kernel) rfl, gt_at 3 (by decide +kernel) rfl, gc_Fr_cut⟩, ⟨by decide +kernel, by decide +kernel, by decide +kernel⟩, _, _, rfl⟩
theorem ml_C_358 : SL "UnlikeDrawn" 358 u_J_max_JJ 2 := ⟨⟨gt_at 445 (by decide +kernel) rfl, gt_at 446 (by decide +kernel) rfl, gt_at 10 (by decide +kernel) rfl, gc_J_max_JJ⟩, ⟨by decide +kernel, by decide +kernel, by decide +kernel⟩⟩
theorem ml_C_361 : VL "UnlikeDrawn" 361 6 u_C_tryParts 3 := ⟨⟨gt_at 456 (by decide +kernel) rfl, gt_at 458 (by decide +kernel) rfl, gt_sel (q := (⟨"UnlikeDrawn", "tryParts", "(III)V"⟩, 17)) 19 (by decide +kernel), gt_at 1 (by decide +kernel) rfl, gc_C_tryParts⟩, ⟨by decide +kernel, by decide +kernel, by decide +kernel⟩, _, _, rfl⟩
theorem ml_C_365 : VL "UnlikeDrawn" 365 6 u_C_about 2 := ⟨⟨gt_at 591 (by decide +kernel) rfl, gt_at 346 (by decide +kernel) rfl, gt_at 347 (by decide +kernel) rfl, gt_at 1 (by decide +kernel) rfl, gc_C_about⟩, ⟨by decide +kernel, by decide +kernel, by decide +kernel⟩, _, _, rfl⟩
theorem ml_C_368 : VL "UnlikeDrawn" 368 6 u_C_line 2 := ⟨⟨gt_at 592 (by decide +kernel) rfl, gt_at 342 (by decide +kernel) rfl, gt_at 343 (by decide +kernel) rfl, gt_at 1 (by decide +kernel) rfl, gc_C_line⟩, ⟨by decide +kernel, by decide +kernel, by decide +kernel⟩, _, _, rfl⟩
theorem ml_C_371 : VL "UnlikeDrawn" 371 6 u_C_leans 2 := ⟨⟨gt_at 597 (by decide +kernel) rfl, gt_at 395 (by decide +kernel) rfl, gt_at 396 (by decide +kernel) rfl, gt_at 1 (by decide +kernel) rfl, gc_C_leans⟩, ⟨by decide +kernel, by decide +kernel, by decide +kernel⟩, _, _, rfl⟩
theorem ml_C_374 : VL "UnlikeDrawn" 374 6 u_C_named 3 := ⟨⟨gt_at 598 (by decide +kernel) rfl, gt_at 424 (by decide +kernel) rfl, gt_at 425 (by decide +kernel) rfl, gt_at 1 (by decide +kernel) rfl, gc_C_named⟩, ⟨by decide +kernel, by decide +kernel, by decide +kernel⟩, _, _, rfl⟩
theorem ml_Fr_16 : VL "UnlikeDrawn$Fraction" 16 0 u_Fr_cut 0 := ⟨⟨gt_at 436 (by decide +kernel) rfl, gt_at 437 (by decide +kernel) rfl, gt_at 438 (by decide +kernel) rfl, gt_at 3 (by decide +kernel) rfl, gc_Fr_cut⟩, ⟨by decide +kernel, by decide +kernel, by decide +kernel⟩, _, _, rfl⟩
theorem ml_Fr_20 : SL "UnlikeDrawn$Fraction" 20 u_J_abs_J 1 := ⟨⟨gt_at 420 (by decide +kernel) rfl, gt_at 421 (by decide +kernel) rfl, gt_at 10 (by decide +kernel) rfl, gc_J_abs_J⟩, ⟨by decide +kernel, by decide +kernel, by decide +kernel⟩⟩
theorem ml_Ha_22 : SL "UnlikeDrawn$Hand" 22 u_J_fill 2 := ⟨⟨gt_at 94 (by decide +kernel) rfl, gt_at 81 (by decide +kernel) rfl, gt_at 5 (by decide +kernel) rfl, gc_J_fill⟩, ⟨by decide +kernel, by decide +kernel, by decide +kernel⟩⟩
theorem ml_Ha_31 : VL "UnlikeDrawn$Hand" 31 1 u_Ha_understand 0 := ⟨⟨gt_at 254 (by decide +kernel) rfl, gt_at 256 (by decide +kernel) rfl, gt_sel (q := (⟨"UnlikeDrawn$Hand", "understand", "()V"⟩, 4)) 4 (by decide +kernel), gt_at 6 (by decide +kernel) rfl, gc_Ha_understand⟩, ⟨by decide +kernel, by decide +kernel, by decide +kernel⟩, _, _, rfl⟩
theorem ml_Ha_34 : VL "UnlikeDrawn$Hand" 34 1 u_Ha_behindPiece 1 := ⟨⟨gt_at 258 (by decide +kernel) rfl, gt_at 260 (by decide +kernel) rfl, gt_sel (q := (⟨"UnlikeDrawn$Hand", "behindPiece", "(I)I"⟩, 4)) 5 (by decide +kernel), gt_at 6 (by decide +kernel) rfl, gc_Ha_behindPiece⟩, ⟨by decide +kernel, by decide +kernel, by decide +kernel⟩, _, _, rfl⟩
theorem ml_Ha_38 : VL "UnlikeDrawn$Hand" 38 1 u_Ha_byteAt 1 := ⟨⟨gt_at 262 (by decide +kernel) rfl, gt_at 264 (by decide +kernel) rfl, gt_sel (q := (⟨"UnlikeDrawn$Hand", "byteAt", "(I)I"⟩, 4)) 6 (by decide +kernel), gt_at 6 (by decide +kernel) rfl, gc_Ha_byteAt⟩, ⟨by decide +kernel, by decide +kernel, by decide +kernel⟩, _, _, rfl⟩
theorem ml_Ha_41 : VL "UnlikeDrawn$Hand" 41 1 u_Ha_stopAt 1 := ⟨⟨gt_at 266 (by decide +kernel) rfl, gt_at 268 (by decide +kernel) rfl, gt_sel (q := (⟨"UnlikeDrawn$Hand", "stopAt", "(I)I"⟩, 4)) 7 (by decide +kernel), gt_at 6 (by decide +kernel) rfl, gc_Ha_stopAt⟩, ⟨by decide +kernel, by decide +kernel, by decide +kernel⟩, _, _, rfl⟩
theorem ml_Ha_44 : VL "UnlikeDrawn$Hand" 44 1 u_Ha_mark 2 := ⟨⟨gt_at 270 (by decide +kernel) rfl, gt_at 272 (by decide +kernel) rfl, gt_sel (q := (⟨"UnlikeDrawn$Hand", "mark", "(II)V"⟩, 4)) 8 (by decide +kernel), gt_at 6 (by decide +kernel) rfl, gc_Ha_mark⟩, ⟨by decide +kernel, by decide +kernel, by decide +kernel⟩, _, _, rfl⟩
theorem ml_Ha_48 : SL "UnlikeDrawn$Hand" 48 u_Ha_isFigure 1 := ⟨⟨gt_at 275 (by decide +kernel) rfl, gt_at 276 (by decide +kernel) rfl, gt_at 6 (by decide +kernel) rfl, gc_Ha_isFigure⟩, ⟨by decide +kernel, by decide +kernel, by decide +kernel⟩⟩
theorem ml_He_15 : SL "UnlikeDrawn$Head" 15 u_J_fill 2 := ⟨⟨gt_at 80 (by decide +kernel) rfl, gt_at 81 (by decide +kernel) rfl, gt_at 5 (by decide +kernel) rfl, gc_J_fill⟩, ⟨by decide +kernel, by decide +kernel, by decide +kernel⟩⟩
theorem ml_He_21 : SL "UnlikeDrawn$Head" 21 u_J_abs_I 1 := ⟨⟨gt_at 523 (by decide +kernel) rfl, gt_at 355 (by decide +kernel) rfl, gt_at 10 (by decide +kernel) rfl, gc_J_abs_I⟩, ⟨by decide +kernel, by decide +kernel, by decide +kernel⟩⟩
theorem ml_Kn_19 : VL "UnlikeDrawn$Knower" 19 5 u_Sk_has 1 := ⟨⟨gt_at 393 (by decide +kernel) rfl, gt_at 327 (by decide +kernel) rfl, gt_at 328 (by decide +kernel) rfl, gt_at 2 (by decide +kernel) rfl, gc_Sk_has⟩, ⟨by decide +kernel, by decide +kernel, by decide +kernel⟩, _, _, rfl⟩
theorem ml_Kn_33 : VL "UnlikeDrawn$Knower" 33 0 u_Fr_become 2 := ⟨⟨gt_at 412 (by decide +kernel) rfl, gt_at 413 (by decide +kernel) rfl, gt_at 414 (by decide +kernel) rfl, gt_at 3 (by decide +kernel) rfl, gc_Fr_become⟩, ⟨by decide +kernel, by decide +kernel, by decide +kernel⟩, _, _, rfl⟩
theorem ml_Sh_22 : SL "UnlikeDrawn$Sheet" 22 u_J_fill 2 := ⟨⟨gt_at 535 (by decide +kernel) rfl, gt_at 81 (by decide +kernel) rfl, gt_at 5 (by decide +kernel) rfl, gc_J_fill⟩, ⟨by decide +kernel, by decide +kernel, by decide +kernel⟩⟩
theorem ml_Sk_22 : VL "UnlikeDrawn$Sketch" 22 5 u_Sk_has 1 := ⟨⟨gt_at 353 (by decide +kernel) rfl, gt_at 327 (by decide +kernel) rfl, gt_at 328 (by decide +kernel) rfl, gt_at 2 (by decide +kernel) rfl, gc_Sk_has⟩, ⟨by decide +kernel, by decide +kernel, by decide +kernel⟩, _, _, rfl⟩
theorem ml_Sk_26 : SL "UnlikeDrawn$Sketch" 26 u_J_abs_I 1 := ⟨⟨gt_at 354 (by decide +kernel) rfl, gt_at 355 (by decide +kernel) rfl, gt_at 10 (by decide +kernel) rfl, gc_J_abs_I⟩, ⟨by decide +kernel, by decide +kernel, by decide +kernel⟩⟩
theorem ml_M_69 : SL "UnlikeDrawnModel" 69 u_M_in 3 := ⟨⟨gt_at 695 (by decide +kernel) rfl, gt_at 696 (by decide +kernel) rfl, gt_at 9 (by decide +kernel) rfl, gc_M_in⟩, ⟨by decide +kernel, by decide +kernel, by decide +kernel⟩⟩
theorem ml_M_79 : SL "UnlikeDrawnModel" 79 u_M_isSheet 1 := ⟨⟨gt_at 691 (by decide +kernel) rfl, gt_at 692 (by decide +kernel) rfl, gt_at 9 (by decide +kernel) rfl, gc_M_isSheet⟩, ⟨by decide +kernel, by decide +kernel, by decide +kernel⟩⟩
theorem ml_M_85 : VL "UnlikeDrawnModel" 85 7 u_M_met 1 := ⟨⟨gt_at 699 (by decide +kernel) rfl, gt_at 701 (by decide +kernel) rfl, gt_sel (q := (⟨"UnlikeDrawnModel", "met", "(I)I"⟩, 27)) 29 (by decide +kernel), gt_at 9 (by decide +kernel) rfl, gc_M_met⟩, ⟨by decide +kernel, by decide +kernel, by decide +kernel⟩, _, _, rfl⟩
theorem ml_M_89 : VL "UnlikeDrawnModel" 89 7 u_M_lacks 3 := ⟨⟨gt_at 711 (by decide +kernel) rfl, gt_at 713 (by decide +kernel) rfl, gt_sel (q := (⟨"UnlikeDrawnModel", "lacks", "(III)I"⟩, 27)) 30 (by decide +kernel), gt_at 9 (by decide +kernel) rfl, gc_M_lacks⟩, ⟨by decide +kernel, by decide +kernel, by decide +kernel⟩, _, _, rfl⟩
theorem ml_M_93 : SL "UnlikeDrawnModel" 93 u_M_cut 2 := ⟨⟨gt_at 715 (by decide +kernel) rfl, gt_at 716 (by decide +kernel) rfl, gt_at 9 (by decide +kernel) rfl, gc_M_cut⟩, ⟨by decide +kernel, by decide +kernel, by decide +kernel⟩⟩
theorem ml_M_103 : VL "UnlikeDrawnModel" 103 7 u_M_isHead 1 := ⟨⟨gt_at 735 (by decide +kernel) rfl, gt_at 737 (by decide +kernel) rfl, gt_sel (q := (⟨"UnlikeDrawnModel", "isHead", "(I)Z"⟩, 27)) 31 (by decide +kernel), gt_at 9 (by decide +kernel) rfl, gc_M_isHead⟩, ⟨by decide +kernel, by decide +kernel, by decide +kernel⟩, _, _, rfl⟩
theorem ml_M_106 : SL "UnlikeDrawnModel" 106 u_M_isPart 1 := ⟨⟨gt_at 739 (by decide +kernel) rfl, gt_at 740 (by decide +kernel) rfl, gt_at 9 (by decide +kernel) rfl, gc_M_isPart⟩, ⟨by decide +kernel, by decide +kernel, by decide +kernel⟩⟩
theorem ml_M_111 : VL "UnlikeDrawnModel" 111 7 u_M_place 3 := ⟨⟨gt_at 748 (by decide +kernel) rfl, gt_at 732 (by decide +kernel) rfl, gt_at 733 (by decide +kernel) rfl, gt_at 9 (by decide +kernel) rfl, gc_M_place⟩, ⟨by decide +kernel, by decide +kernel, by decide +kernel⟩, _, _, rfl⟩
theorem ml_M_114 : VL "UnlikeDrawnModel" 114 7 u_M_isSet 1 := ⟨⟨gt_at 753 (by decide +kernel) rfl, gt_at 755 (by decide +kernel) rfl, gt_sel (q := (⟨"UnlikeDrawnModel", "isSet", "(I)Z"⟩, 27)) 32 (by decide +kernel), gt_at 9 (by decide +kernel) rfl, gc_M_isSet⟩, ⟨by decide +kernel, by decide +kernel, by decide +kernel⟩, _, _, rfl⟩
theorem ml_M_117 : VL "UnlikeDrawnModel" 117 7 u_M_meanOf 2 := ⟨⟨gt_at 757 (by decide +kernel) rfl, gt_at 759 (by decide +kernel) rfl, gt_sel (q := (⟨"UnlikeDrawnModel", "meanOf", "(II)I"⟩, 27)) 33 (by decide +kernel), gt_at 9 (by decide +kernel) rfl, gc_M_meanOf⟩, ⟨by decide +kernel, by decide +kernel, by decide +kernel⟩, _, _, rfl⟩
theorem ml_M_120 : SL "UnlikeDrawnModel" 120 u_M_isHand 1 := ⟨⟨gt_at 765 (by decide +kernel) rfl, gt_at 766 (by decide +kernel) rfl, gt_at 9 (by decide +kernel) rfl, gc_M_isHand⟩, ⟨by decide +kernel, by decide +kernel, by decide +kernel⟩⟩
theorem ml_M_128 : VL "UnlikeDrawnModel" 128 7 u_M_here 1 := ⟨⟨gt_at 789 (by decide +kernel) rfl, gt_at 791 (by decide +kernel) rfl, gt_sel (q := (⟨"UnlikeDrawnModel", "here", "(I)I"⟩, 27)) 37 (by decide +kernel), gt_at 9 (by decide +kernel) rfl, gc_M_here⟩, ⟨by decide +kernel, by decide +kernel, by decide +kernel⟩, _, _, rfl⟩
theorem ml_M_137 : VL "UnlikeDrawnModel" 137 7 u_M_number 1 := ⟨⟨gt_at 794 (by decide +kernel) rfl, gt_at 796 (by decide +kernel) rfl, gt_sel (q := (⟨"UnlikeDrawnModel", "number", "(I)I"⟩, 27)) 38 (by decide +kernel), gt_at 9 (by decide +kernel) rfl, gc_M_number⟩, ⟨by decide +kernel, by decide +kernel, by decide +kernel⟩, _, _, rfl⟩
theorem ml_M_140 : VL "UnlikeDrawnModel" 140 7 u_M_clears 0 := ⟨⟨gt_at 781 (by decide +kernel) rfl, gt_at 783 (by decide +kernel) rfl, gt_sel (q := (⟨"UnlikeDrawnModel", "clears", "()V"⟩, 27)) 35 (by decide +kernel), gt_at 9 (by decide +kernel) rfl, gc_M_clears⟩, ⟨by decide +kernel, by decide +kernel, by decide +kernel⟩, _, _, rfl⟩
theorem ml_M_143 : VL "UnlikeDrawnModel" 143 7 u_M_readsPiece 1 := ⟨⟨gt_at 785 (by decide +kernel) rfl, gt_at 787 (by decide +kernel) rfl, gt_sel (q := (⟨"UnlikeDrawnModel", "readsPiece", "(I)Z"⟩, 27)) 36 (by decide +kernel), gt_at 9 (by decide +kernel) rfl, gc_M_readsPiece⟩, ⟨by decide +kernel, by decide +kernel, by decide +kernel⟩, _, _, rfl⟩
theorem ml_M_146 : VL "UnlikeDrawnModel" 146 7 u_M_reads 1 := ⟨⟨gt_at 777 (by decide +kernel) rfl, gt_at 779 (by decide +kernel) rfl, gt_sel (q := (⟨"UnlikeDrawnModel", "reads", "(I)I"⟩, 27)) 34 (by decide +kernel), gt_at 9 (by decide +kernel) rfl, gc_M_reads⟩, ⟨by decide +kernel, by decide +kernel, by decide +kernel⟩, _, _, rfl⟩
theorem ml_M_149 : SL "UnlikeDrawnModel" 149 u_M_dear 1 := ⟨⟨gt_at 804 (by decide +kernel) rfl, gt_at 805 (by decide +kernel) rfl, gt_at 9 (by decide +kernel) rfl, gc_M_dear⟩, ⟨by decide +kernel, by decide +kernel, by decide +kernel⟩⟩
theorem ml_M_152 : SL "UnlikeDrawnModel" 152 u_M_drawnBy 3 := ⟨⟨gt_at 811 (by decide +kernel) rfl, gt_at 812 (by decide +kernel) rfl, gt_at 9 (by decide +kernel) rfl, gc_M_drawnBy⟩, ⟨by decide +kernel, by decide +kernel, by decide +kernel⟩⟩
theorem ml_M_160 : VL "UnlikeDrawnModel" 160 7 u_M_isLate 1 := ⟨⟨gt_at 823 (by decide +kernel) rfl, gt_at 825 (by decide +kernel) rfl, gt_sel (q := (⟨"UnlikeDrawnModel", "isLate", "(I)Z"⟩, 27)) 39 (by decide +kernel), gt_at 9 (by decide +kernel) rfl, gc_M_isLate⟩, ⟨by decide +kernel, by decide +kernel, by decide +kernel⟩, _, _, rfl⟩
theorem ml_M_163 : VL "UnlikeDrawnModel" 163 7 u_M_isDrawing 1 := ⟨⟨gt_at 831 (by decide +kernel) rfl, gt_at 833 (by decide +kernel) rfl, gt_sel (q := (⟨"UnlikeDrawnModel", "isDrawing", "(I)Z"⟩, 27)) 40 (by decide +kernel), gt_at 9 (by decide +kernel) rfl, gc_M_isDrawing⟩, ⟨by decide +kernel, by decide +kernel, by decide +kernel⟩, _, _, rfl⟩
theorem ml_M_166 : SL "UnlikeDrawnModel" 166 u_M_amount 1 := ⟨⟨gt_at 851 (by decide +kernel) rfl, gt_at 852 (by decide +kernel) rfl, gt_at 9 (by decide +kernel) rfl, gc_M_amount⟩, ⟨by decide +kernel, by decide +kernel, by decide +kernel⟩⟩
theorem ml_M_169 : VL "UnlikeDrawnModel" 169 7 u_M_unlikeBy 2 := ⟨⟨gt_at 847 (by decide +kernel) rfl, gt_at 849 (by decide +kernel) rfl, gt_sel (q := (⟨"UnlikeDrawnModel", "unlikeBy", "(II)I"⟩, 27)) 42 (by decide +kernel), gt_at 9 (by decide +kernel) rfl, gc_M_unlikeBy⟩, ⟨by decide +kernel, by decide +kernel, by decide +kernel⟩, _, _, rfl⟩
theorem ml_M_172 : VL "UnlikeDrawnModel" 172 7 u_M_unlikeOf 2 := ⟨⟨gt_at 843 (by decide +kernel) rfl, gt_at 845 (by decide +kernel) rfl, gt_sel (q := (⟨"UnlikeDrawnModel", "unlikeOf", "(II)I"⟩, 27)) 41 (by decide +kernel), gt_at 9 (by decide +kernel) rfl, gc_M_unlikeOf⟩, ⟨by decide +kernel, by decide +kernel, by decide +kernel⟩, _, _, rfl⟩
theorem ml_M_175 : VL "UnlikeDrawnModel" 175 7 u_M_fromOf 1 := ⟨⟨gt_at 866 (by decide +kernel) rfl, gt_at 868 (by decide +kernel) rfl, gt_sel (q := (⟨"UnlikeDrawnModel", "fromOf", "(I)I"⟩, 27)) 45 (by decide +kernel), gt_at 9 (by decide +kernel) rfl, gc_M_fromOf⟩, ⟨by decide +kernel, by decide +kernel, by decide +kernel⟩, _, _, rfl⟩
theorem ml_M_178 : VL "UnlikeDrawnModel" 178 7 u_M_isMonster 1 := ⟨⟨gt_at 862 (by decide +kernel) rfl, gt_at 864 (by decide +kernel) rfl, gt_sel (q := (⟨"UnlikeDrawnModel", "isMonster", "(I)Z"⟩, 27)) 44 (by decide +kernel), gt_at 9 (by decide +kernel) rfl, gc_M_isMonster⟩, ⟨by decide +kernel, by decide +kernel, by decide +kernel⟩, _, _, rfl⟩
theorem ml_M_181 : VL "UnlikeDrawnModel" 181 7 u_M_agesOf 1 := ⟨⟨gt_at 870 (by decide +kernel) rfl, gt_at 872 (by decide +kernel) rfl, gt_sel (q := (⟨"UnlikeDrawnModel", "agesOf", "(I)I"⟩, 27)) 46 (by decide +kernel), gt_at 9 (by decide +kernel) rfl, gc_M_agesOf⟩, ⟨by decide +kernel, by decide +kernel, by decide +kernel⟩, _, _, rfl⟩
theorem ml_M_184 : VL "UnlikeDrawnModel" 184 7 u_M_whoseOf 1 := ⟨⟨gt_at 874 (by decide +kernel) rfl, gt_at 876 (by decide +kernel) rfl, gt_sel (q := (⟨"UnlikeDrawnModel", "whoseOf", "(I)I"⟩, 27)) 47 (by decide +kernel), gt_at 9 (by decide +kernel) rfl, gc_M_whoseOf⟩, ⟨by decide +kernel, by decide +kernel, by decide +kernel⟩, _, _, rfl⟩
theorem ml_M_187 : VL "UnlikeDrawnModel" 187 7 u_M_aboutOf 2 := ⟨⟨gt_at 858 (by decide +kernel) rfl, gt_at 860 (by decide +kernel) rfl, gt_sel (q := (⟨"UnlikeDrawnModel", "aboutOf", "(II)I"⟩, 27)) 43 (by decide +kernel), gt_at 9 (by decide +kernel) rfl, gc_M_aboutOf⟩, ⟨by decide +kernel, by decide +kernel, by decide +kernel⟩, _, _, rfl⟩
theorem ml_M_193 : VL "UnlikeDrawnModel" 193 7 u_M_isKnower 1 := ⟨⟨gt_at 886 (by decide +kernel) rfl, gt_at 888 (by decide +kernel) rfl, gt_sel (q := (⟨"UnlikeDrawnModel", "isKnower", "(I)Z"⟩, 27)) 48 (by decide +kernel), gt_at 9 (by decide +kernel) rfl, gc_M_isKnower⟩, ⟨by decide +kernel, by decide +kernel, by decide +kernel⟩, _, _, rfl⟩
theorem ml_M_207 : SL "UnlikeDrawnModel" 207 u_M_divisor 2 := ⟨⟨gt_at 920 (by decide +kernel) rfl, gt_at 921 (by decide +kernel) rfl, gt_at 9 (by decide +kernel) rfl, gc_M_divisor⟩, ⟨by decide +kernel, by decide +kernel, by decide +kernel⟩⟩
theorem ml_M_211 : SL "UnlikeDrawnModel" 211 u_M_isTwo 1 := ⟨⟨gt_at 898 (by decide +kernel) rfl, gt_at 899 (by decide +kernel) rfl, gt_at 9 (by decide +kernel) rfl, gc_M_isTwo⟩, ⟨by decide +kernel, by decide +kernel, by decide +kernel⟩⟩
theorem ml_M_214 : SL "UnlikeDrawnModel" 214 u_M_no 1 := ⟨⟨gt_at 901 (by decide +kernel) rfl, gt_at 902 (by decide +kernel) rfl, gt_at 9 (by decide +kernel) rfl, gc_M_no⟩, ⟨by decide +kernel, by decide +kernel, by decide +kernel⟩⟩
theorem ml_M_218 : VL "UnlikeDrawnModel" 218 7 u_M_doesKnow 2 := ⟨⟨gt_at 905 (by decide +kernel) rfl, gt_at 907 (by decide +kernel) rfl, gt_sel (q := (⟨"UnlikeDrawnModel", "doesKnow", "(II)Z"⟩, 27)) 49 (by decide +kernel), gt_at 9 (by decide +kernel) rfl, gc_M_doesKnow⟩, ⟨by decide +kernel, by decide +kernel, by decide +kernel⟩, _, _, rfl⟩
theorem ml_M_222 : VL "UnlikeDrawnModel" 222 7 u_M_sees_I 1 := ⟨⟨gt_at 909 (by decide +kernel) rfl, gt_at 911 (by decide +kernel) rfl, gt_sel (q := (⟨"UnlikeDrawnModel", "sees", "(I)V"⟩, 27)) 50 (by decide +kernel), gt_at 9 (by decide +kernel) rfl, gc_M_sees_I⟩, ⟨by decide +kernel, by decide +kernel, by decide +kernel⟩, _, _, rfl⟩
theorem ml_M_226 : VL "UnlikeDrawnModel" 226 7 u_M_findScore 2 := ⟨⟨gt_at 913 (by decide +kernel) rfl, gt_at 915 (by decide +kernel) rfl, gt_sel (q := (⟨"UnlikeDrawnModel", "findScore", "(II)V"⟩, 27)) 51 (by decide +kernel), gt_at 9 (by decide +kernel) rfl, gc_M_findScore⟩, ⟨by decide +kernel, by decide +kernel, by decide +kernel⟩, _, _, rfl⟩
theorem ml_M_230 : SL "UnlikeDrawnModel" 230 u_M_part 3 := ⟨⟨gt_at 917 (by decide +kernel) rfl, gt_at 918 (by decide +kernel) rfl, gt_at 9 (by decide +kernel) rfl, gc_M_part⟩, ⟨by decide +kernel, by decide +kernel, by decide +kernel⟩⟩
theorem ml_M_234 : SL "UnlikeDrawnModel" 234 u_M_isMore 4 := ⟨⟨gt_at 935 (by decide +kernel) rfl, gt_at 936 (by decide +kernel) rfl, gt_at 9 (by decide +kernel) rfl, gc_M_isMore⟩, ⟨by decide +kernel, by decide +kernel, by decide +kernel⟩⟩
theorem ml_M_238 : VL "UnlikeDrawnModel" 238 7 u_M_namedBy 1 := ⟨⟨gt_at 931 (by decide +kernel) rfl, gt_at 933 (by decide +kernel) rfl, gt_sel (q := (⟨"UnlikeDrawnModel", "namedBy", "(I)I"⟩, 27)) 53 (by decide +kernel), gt_at 9 (by decide +kernel) rfl, gc_M_namedBy⟩, ⟨by decide +kernel, by decide +kernel, by decide +kernel⟩, _, _, rfl⟩
theorem ml_M_241 : VL "UnlikeDrawnModel" 241 7 u_M_marginOf 2 := ⟨⟨gt_at 938 (by decide +kernel) rfl, gt_at 940 (by decide +kernel) rfl, gt_sel (q := (⟨"UnlikeDrawnModel", "marginOf", "(II)I"⟩, 27)) 54 (by decide +kernel), gt_at 9 (by decide +kernel) rfl, gc_M_marginOf⟩, ⟨by decide +kernel, by decide +kernel, by decide +kernel⟩, _, _, rfl⟩
theorem ml_M_244 : VL "UnlikeDrawnModel" 244 7 u_M_namedOf 3 := ⟨⟨gt_at 927 (by decide +kernel) rfl, gt_at 929 (by decide +kernel) rfl, gt_sel (q := (⟨"UnlikeDrawnModel", "namedOf", "(III)I"⟩, 27)) 52 (by decide +kernel), gt_at 9 (by decide +kernel) rfl, gc_M_namedOf⟩, ⟨by decide +kernel, by decide +kernel, by decide +kernel⟩, _, _, rfl⟩
theorem ml_M_247 : VL "UnlikeDrawnModel" 247 7 u_M_sees_IIII 4 := ⟨⟨gt_at 946 (by decide +kernel) rfl, gt_at 948 (by decide +kernel) rfl, gt_sel (q := (⟨"UnlikeDrawnModel", "sees", "(IIII)V"⟩, 27)) 55 (by decide +kernel), gt_at 9 (by decide +kernel) rfl, gc_M_sees_IIII⟩, ⟨by decide +kernel, by decide +kernel, by decide +kernel⟩, _, _, rfl⟩
theorem ml_M_250 : VL "UnlikeDrawnModel" 250 7 u_M_isAsked 4 := ⟨⟨gt_at 954 (by decide +kernel) rfl, gt_at 956 (by decide +kernel) rfl, gt_sel (q := (⟨"UnlikeDrawnModel", "isAsked", "(IIII)Z"⟩, 27)) 56 (by decide +kernel), gt_at 9 (by decide +kernel) rfl, gc_M_isAsked⟩, ⟨by decide +kernel, by decide +kernel, by decide +kernel⟩, _, _, rfl⟩
theorem ml_M_254 : SL "UnlikeDrawnModel" 254 u_M_ones 1 := ⟨⟨gt_at 958 (by decide +kernel) rfl, gt_at 959 (by decide +kernel) rfl, gt_at 9 (by decide +kernel) rfl, gc_M_ones⟩, ⟨by decide +kernel, by decide +kernel, by decide +kernel⟩⟩
theorem ml_M_257 : VL "UnlikeDrawnModel" 257 7 u_M_isEnough 5 := ⟨⟨gt_at 961 (by decide +kernel) rfl, gt_at 963 (by decide +kernel) rfl, gt_sel (q := (⟨"UnlikeDrawnModel", "isEnough", "(IIIII)Z"⟩, 27)) 57 (by decide +kernel), gt_at 9 (by decide +kernel) rfl, gc_M_isEnough⟩, ⟨by decide +kernel, by decide +kernel, by decide +kernel⟩, _, _, rfl⟩
theorem ml_M_261 : VL "UnlikeDrawnModel" 261 7 u_M_backOf 2 := ⟨⟨gt_at 977 (by decide +kernel) rfl, gt_at 979 (by decide +kernel) rfl, gt_sel (q := (⟨"UnlikeDrawnModel", "backOf", "(II)I"⟩, 27)) 58 (by decide +kernel), gt_at 9 (by decide +kernel) rfl, gc_M_backOf⟩, ⟨by decide +kernel, by decide +kernel, by decide +kernel⟩, _, _, rfl⟩
theorem ml_M_264 : VL "UnlikeDrawnModel" 264 7 u_M_nearOf 2 := ⟨⟨gt_at 985 (by decide +kernel) rfl, gt_at 987 (by decide +kernel) rfl, gt_sel (q := (⟨"UnlikeDrawnModel", "nearOf", "(II)I"⟩, 27)) 59 (by decide +kernel), gt_at 9 (by decide +kernel) rfl, gc_M_nearOf⟩, ⟨by decide +kernel, by decide +kernel, by decide +kernel⟩, _, _, rfl⟩
theorem ml_M_267 : VL "UnlikeDrawnModel" 267 7 u_M_witnessOf 3 := ⟨⟨gt_at 993 (by decide +kernel) rfl, gt_at 995 (by decide +kernel) rfl, gt_sel (q := (⟨"UnlikeDrawnModel", "witnessOf", "(III)I"⟩, 27)) 60 (by decide +kernel), gt_at 9 (by decide +kernel) rfl, gc_M_witnessOf⟩, ⟨by decide +kernel, by decide +kernel, by decide +kernel⟩, _, _, rfl⟩
theorem ml_M_274 : VL "UnlikeDrawnModel" 274 7 u_M_count 1 := ⟨⟨gt_at 1015 (by decide +kernel) rfl, gt_at 1006 (by decide +kernel) rfl, gt_at 1007 (by decide +kernel) rfl, gt_at 9 (by decide +kernel) rfl, gc_M_count⟩, ⟨by decide +kernel, by decide +kernel, by decide +kernel⟩, _, _, rfl⟩
theorem ml_nest : u_Ha_mark.1.cls = "UnlikeDrawn$Hand" ∧ u_C_isPart.1 = ⟨"UnlikeDrawn", "isPart", "(I)Z"⟩ ∧ Cond.static u_C_isPart.1 ∈ gt ∧ Cond.initialized u_C_isPart.1.cls ∈ gt ∧ Cond.code u_C_isPart.1 u_C_isPart.2.1 u_C_isPart.2.2.1 u_C_isPart.2.2.2.1 ∈ gt := ⟨rfl, rfl, gt_at 208 (by decide +kernel) rfl, gt_at 1 (by decide +kernel) rfl, gc_C_isPart⟩
