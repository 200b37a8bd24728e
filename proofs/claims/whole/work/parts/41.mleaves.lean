/-! ===== the reference: tests, leaves ===== -/
set_option maxRecDepth 100000 in
theorem s_M_in {M : Mem} {v lo hi : Int64} : CS u_M_in [.long v, .long lo, .long hi] M (pI (b2 (inJ v lo hi)) M) := by
  refine cs_introF (L := [some (.long v), none, some (.long lo), none, some (.long hi), none]) (by decide +kernel) (fun ad q h => h) (fun ad => Nat.le_of_ble_eq_true rfl) ?_
  refine cw_lload_n d_M_in_0 rfl ?_
  refine cw_lload_n d_M_in_1 rfl ?_
  refine cw_lcmp d_M_in_2 ?_
  refine cw_if_lt 17 d_M_in_3 (by decide) (fun c_3 => ?_) (fun c_3 => ?_)
  · refine cw_iconst (v := 0) d_M_in_17 (by decide) ?_
    refine cw_zret rfl d_M_in_18 (by first | exact Or.inl rfl | exact Or.inr rfl | exact b2_01 _) ?_
    exact ⟨by first
      | exact b2_0 (decide_eq_false (fun q => by have := i64_lt.mp (lgc_lt.mp c_3); omega))
      | exact b2_0 (decide_eq_false (fun q => by have := i64_lt.mp (lgc_gt.mp c_10); omega))
      | exact b2_1 (decide_eq_true ⟨i64_le.mp (i64_nlt.mp (fun q => c_3 (lgc_lt.mpr q))), i64_le.mp (i64_nlt.mp (fun q => c_10 (lgc_gt.mpr q)))⟩), rfl⟩
  · refine cw_lload_n d_M_in_6 rfl ?_
    refine cw_lload d_M_in_7 rfl ?_
    refine cw_lcmp d_M_in_9 ?_
    refine cw_if_gt 17 d_M_in_10 (by decide) (fun c_10 => ?_) (fun c_10 => ?_)
    · refine cw_iconst (v := 0) d_M_in_17 (by decide) ?_
      refine cw_zret rfl d_M_in_18 (by first | exact Or.inl rfl | exact Or.inr rfl | exact b2_01 _) ?_
      exact ⟨by first
        | exact b2_0 (decide_eq_false (fun q => by have := i64_lt.mp (lgc_lt.mp c_3); omega))
        | exact b2_0 (decide_eq_false (fun q => by have := i64_lt.mp (lgc_gt.mp c_10); omega))
        | exact b2_1 (decide_eq_true ⟨i64_le.mp (i64_nlt.mp (fun q => c_3 (lgc_lt.mpr q))), i64_le.mp (i64_nlt.mp (fun q => c_10 (lgc_gt.mpr q)))⟩), rfl⟩
    · refine cw_iconst (v := 1) d_M_in_13 (by decide) ?_
      refine cw_goto 18 d_M_in_14 (by decide) ?_
      refine cw_zret rfl d_M_in_18 (by first | exact Or.inl rfl | exact Or.inr rfl | exact b2_01 _) ?_
      exact ⟨by first
        | exact b2_0 (decide_eq_false (fun q => by have := i64_lt.mp (lgc_lt.mp c_3); omega))
        | exact b2_0 (decide_eq_false (fun q => by have := i64_lt.mp (lgc_gt.mp c_10); omega))
        | exact b2_1 (decide_eq_true ⟨i64_le.mp (i64_nlt.mp (fun q => c_3 (lgc_lt.mpr q))), i64_le.mp (i64_nlt.mp (fun q => c_10 (lgc_gt.mpr q)))⟩), rfl⟩
set_option maxRecDepth 100000 in
theorem s_M_no {M : Mem} {x : Int32} : CS u_M_no [.int x] M (pJ (-9223372036854775808 - x.toInt64) M) := by
  refine cs_introF (L := [some (.int x)]) (by decide +kernel) (fun ad q h => h) (fun ad => Nat.le_of_ble_eq_true rfl) ?_
  refine cw_ldc2_w kc_M_67 d_M_no_0 ?_
  refine cw_iload_n d_M_no_3 rfl ?_
  refine cw_i2l d_M_no_4 ?_
  refine cw_lsub d_M_no_5 ?_
  refine cw_lret rfl d_M_no_6 ?_
  exact ⟨rfl, rfl⟩
set_option maxRecDepth 100000 in
theorem s_M_dear {M : Mem} {x : Int32} : CS u_M_dear [.int x] M (pI (-10000 + x) M) := by
  refine cs_introF (L := [some (.int x)]) (by decide +kernel) (fun ad q h => h) (fun ad => Nat.le_of_ble_eq_true rfl) ?_
  refine cw_sipush (v := (-10000)) d_M_dear_0 (by decide) ?_
  refine cw_iload_n d_M_dear_3 rfl ?_
  refine cw_iadd d_M_dear_4 ?_
  refine cw_iret rfl d_M_dear_5 ?_
  exact ⟨rfl, rfl⟩
set_option maxRecDepth 100000 in
theorem s_M_amount {M : Mem} {x : Int32} : CS u_M_amount [.int x] M (pI (absS x) M) := by
  refine cs_introF (L := [some (.int x)]) (by decide +kernel) (fun ad q h => h) (fun ad => Nat.le_of_ble_eq_true rfl) ?_
  refine cw_iload_n d_M_amount_0 rfl ?_
  refine cw_if_ge 9 d_M_amount_1 (by decide) (fun c_1 => ?_) (fun c_1 => ?_)
  · refine cw_iload_n d_M_amount_9 rfl ?_
    refine cw_iret rfl d_M_amount_10 ?_
    exact ⟨by first | exact (if_pos (by assumption)).symm | exact (if_neg (by assumption)).symm, rfl⟩
  · refine cw_iload_n d_M_amount_4 rfl ?_
    refine cw_ineg d_M_amount_5 ?_
    refine cw_goto 10 d_M_amount_6 (by decide) ?_
    refine cw_iret rfl d_M_amount_10 ?_
    exact ⟨by first | exact (if_pos (by assumption)).symm | exact (if_neg (by assumption)).symm, rfl⟩
set_option maxRecDepth 100000 in
theorem s_M_met {M : Mem} {x : Int32} : CS u_M_met [.ref 1000, .int x] M (retI (fun r M2 => r = -10 - x ∧ M2 = mS M 1000 4 x)) := by
  refine cs_introF (L := [some (.ref 1000), some (.int x)]) (by decide +kernel) (fun ad q h => h) (fun ad => Nat.le_of_ble_eq_true rfl) ?_
  refine cw_aload_n d_M_met_0 rfl ?_
  refine cw_iload_n d_M_met_1 rfl ?_
  refine cw_putI fp_M_73 so_M rfl d_M_met_2 ?_
  refine cw_bipush (v := (-10)) d_M_met_5 (by decide) ?_
  refine cw_iload_n d_M_met_7 rfl ?_
  refine cw_isub d_M_met_8 ?_
  refine cw_iret rfl d_M_met_9 ?_
  exact ⟨rfl, rfl⟩
set_option maxRecDepth 100000 in
theorem s_M_isTwo {M : Mem} {x : Int32} : CS u_M_isTwo [.int x] M (pI (b2 (ixB x 2)) M) := by
  refine cs_introF (L := [some (.int x)]) (by decide +kernel) (fun ad q h => h) (fun ad => Nat.le_of_ble_eq_true rfl) ?_
  refine cw_iload_n d_M_isTwo_0 rfl ?_
  refine cw_i2l d_M_isTwo_1 ?_
  refine cw_lconst (v := 0) d_M_isTwo_2 (by decide) ?_
  refine cw_lconst (v := 1) d_M_isTwo_3 (by decide) ?_
  refine cw_staticP (s_M_in) rfl ml_M_69 rfl rfl d_M_isTwo_4 ?_
  refine cw_top (y := b2 (ixB x 2)) (by rw [inJ_ix 2 (by decide)]) ?_
  refine cw_zret rfl d_M_isTwo_7 (by first | exact Or.inl rfl | exact Or.inr rfl | exact b2_01 _) ?_
  exact ⟨rfl, rfl⟩
set_option maxRecDepth 100000 in
theorem s_M_isSheet {M : Mem} {x : Int32} : CS u_M_isSheet [.int x] M (pI (b2 (ixB x 4)) M) := by
  refine cs_introF (L := [some (.int x)]) (by decide +kernel) (fun ad q h => h) (fun ad => Nat.le_of_ble_eq_true rfl) ?_
  refine cw_iload_n d_M_isSheet_0 rfl ?_
  refine cw_i2l d_M_isSheet_1 ?_
  refine cw_lconst (v := 0) d_M_isSheet_2 (by decide) ?_
  refine cw_ldc2_w kc_M_77 d_M_isSheet_3 ?_
  refine cw_staticP (s_M_in) rfl ml_M_69 rfl rfl d_M_isSheet_6 ?_
  refine cw_top (y := b2 (ixB x 4)) (by rw [inJ_ix 4 (by decide)]) ?_
  refine cw_zret rfl d_M_isSheet_9 (by first | exact Or.inl rfl | exact Or.inr rfl | exact b2_01 _) ?_
  exact ⟨rfl, rfl⟩
set_option maxRecDepth 100000 in
theorem s_M_isPart {M : Mem} {x : Int32} : CS u_M_isPart [.int x] M (pI (b2 (ixB x 8)) M) := by
  refine cs_introF (L := [some (.int x)]) (by decide +kernel) (fun ad q h => h) (fun ad => Nat.le_of_ble_eq_true rfl) ?_
  refine cw_iload_n d_M_isPart_0 rfl ?_
  refine cw_i2l d_M_isPart_1 ?_
  refine cw_lconst (v := 0) d_M_isPart_2 (by decide) ?_
  refine cw_ldc2_w kc_M_101 d_M_isPart_3 ?_
  refine cw_staticP (s_M_in) rfl ml_M_69 rfl rfl d_M_isPart_6 ?_
  refine cw_top (y := b2 (ixB x 8)) (by rw [inJ_ix 8 (by decide)]) ?_
  refine cw_zret rfl d_M_isPart_9 (by first | exact Or.inl rfl | exact Or.inr rfl | exact b2_01 _) ?_
  exact ⟨rfl, rfl⟩
set_option maxRecDepth 100000 in
theorem s_M_isHand {M : Mem} {x : Int32} : CS u_M_isHand [.int x] M (pI (b2 (ixB x 4)) M) := by
  refine cs_introF (L := [some (.int x)]) (by decide +kernel) (fun ad q h => h) (fun ad => Nat.le_of_ble_eq_true rfl) ?_
  refine cw_iload_n d_M_isHand_0 rfl ?_
  refine cw_i2l d_M_isHand_1 ?_
  refine cw_lconst (v := 0) d_M_isHand_2 (by decide) ?_
  refine cw_ldc2_w kc_M_77 d_M_isHand_3 ?_
  refine cw_staticP (s_M_in) rfl ml_M_69 rfl rfl d_M_isHand_6 ?_
  refine cw_top (y := b2 (ixB x 4)) (by rw [inJ_ix 4 (by decide)]) ?_
  refine cw_zret rfl d_M_isHand_9 (by first | exact Or.inl rfl | exact Or.inr rfl | exact b2_01 _) ?_
  exact ⟨rfl, rfl⟩
theorem inJ_cnt {x y : Int32} {n : Nat} (h : y = nI n) (hn : n < 1000) : inJ x.toInt64 0 (y - 1).toInt64 = ixB x n := by
  refine inJ_ix n ?_
  rw [Int32.toInt_toInt64, h, Int32.toInt_sub, nI_toInt (by omega), show (1 : Int32).toInt = 1 from rfl, Int.bmod_eq_of_le (by omega) (by omega)]
theorem inJ_set {x y : Int32} {n : Nat} (h : y = nI n) (hn : n ≤ 8) : inJ x.toInt64 1 (1 <<< (y &&& 31) - 1).toInt64 = setB x n := by
  have hp := pow8 hn
  unfold inJ setB
  rw [Int32.toInt_toInt64, Int32.toInt_toInt64, h, shl1 n hn, Int32.toInt_sub, nI_toInt (by omega), show (1 : Int32).toInt = 1 from rfl, show (1 : Int64).toInt = 1 from rfl, Int.bmod_eq_of_le (by omega) (by omega)]
  exact decide_eq_decide.mpr ⟨fun q => by omega, fun q => by omega⟩
set_option maxRecDepth 100000 in
theorem s_M_isHead {M : Mem} {σ : Sg} (hR : RM M σ) (hI : Iv σ) {x : Int32} : CS u_M_isHead [.ref 1000, .int x] M (pI (b2 (ixB x σ.1.1)) M) := by
  obtain ⟨hn1, hn2, hn3⟩ := hI.n
  refine cs_introF (L := [some (.ref 1000), some (.int x)]) (by decide +kernel) (fun ad q h => h) (fun ad => Nat.le_of_ble_eq_true rfl) ?_
  refine cw_iload_n d_M_isHead_0 rfl ?_
  refine cw_i2l d_M_isHead_1 ?_
  refine cw_lconst (v := 0) d_M_isHead_2 (by decide) ?_
  refine cw_aload_n d_M_isHead_3 rfl ?_
  refine cw_getI fl_M_98 so_M rfl d_M_isHead_4 ?_
  refine cw_iconst (v := 1) d_M_isHead_7 (by decide) ?_
  refine cw_isub d_M_isHead_8 ?_
  refine cw_i2l d_M_isHead_9 ?_
  refine cw_staticP (s_M_in) rfl ml_M_69 rfl rfl d_M_isHead_10 ?_
  refine cw_top (y := b2 (ixB x σ.1.1)) (by rw [inJ_cnt hR.n1 (by omega)]) ?_
  refine cw_zret rfl d_M_isHead_13 (by first | exact Or.inl rfl | exact Or.inr rfl | exact b2_01 _) ?_
  exact ⟨rfl, rfl⟩
set_option maxRecDepth 100000 in
theorem s_M_isDrawing {M : Mem} {σ : Sg} (hR : RM M σ) (hI : Iv σ) {x : Int32} : CS u_M_isDrawing [.ref 1000, .int x] M (pI (b2 (ixB x σ.1.2.1)) M) := by
  obtain ⟨hn1, hn2, hn3⟩ := hI.n
  refine cs_introF (L := [some (.ref 1000), some (.int x)]) (by decide +kernel) (fun ad q h => h) (fun ad => Nat.le_of_ble_eq_true rfl) ?_
  refine cw_iload_n d_M_isDrawing_0 rfl ?_
  refine cw_i2l d_M_isDrawing_1 ?_
  refine cw_lconst (v := 0) d_M_isDrawing_2 (by decide) ?_
  refine cw_aload_n d_M_isDrawing_3 rfl ?_
  refine cw_getI fl_M_157 so_M rfl d_M_isDrawing_4 ?_
  refine cw_iconst (v := 1) d_M_isDrawing_7 (by decide) ?_
  refine cw_isub d_M_isDrawing_8 ?_
  refine cw_i2l d_M_isDrawing_9 ?_
  refine cw_staticP (s_M_in) rfl ml_M_69 rfl rfl d_M_isDrawing_10 ?_
  refine cw_top (y := b2 (ixB x σ.1.2.1)) (by rw [inJ_cnt hR.n2 (by omega)]) ?_
  refine cw_zret rfl d_M_isDrawing_13 (by first | exact Or.inl rfl | exact Or.inr rfl | exact b2_01 _) ?_
  exact ⟨rfl, rfl⟩
set_option maxRecDepth 100000 in
theorem s_M_isKnower {M : Mem} {σ : Sg} (hR : RM M σ) (hI : Iv σ) {x : Int32} : CS u_M_isKnower [.ref 1000, .int x] M (pI (b2 (ixB x σ.1.2.2)) M) := by
  obtain ⟨hn1, hn2, hn3⟩ := hI.n
  refine cs_introF (L := [some (.ref 1000), some (.int x)]) (by decide +kernel) (fun ad q h => h) (fun ad => Nat.le_of_ble_eq_true rfl) ?_
  refine cw_iload_n d_M_isKnower_0 rfl ?_
  refine cw_i2l d_M_isKnower_1 ?_
  refine cw_lconst (v := 0) d_M_isKnower_2 (by decide) ?_
  refine cw_aload_n d_M_isKnower_3 rfl ?_
  refine cw_getI fl_M_190 so_M rfl d_M_isKnower_4 ?_
  refine cw_iconst (v := 1) d_M_isKnower_7 (by decide) ?_
  refine cw_isub d_M_isKnower_8 ?_
  refine cw_i2l d_M_isKnower_9 ?_
  refine cw_staticP (s_M_in) rfl ml_M_69 rfl rfl d_M_isKnower_10 ?_
  refine cw_top (y := b2 (ixB x σ.1.2.2)) (by rw [inJ_cnt hR.n3 (by omega)]) ?_
  refine cw_zret rfl d_M_isKnower_13 (by first | exact Or.inl rfl | exact Or.inr rfl | exact b2_01 _) ?_
  exact ⟨rfl, rfl⟩
set_option maxRecDepth 100000 in
theorem s_M_isSet {M : Mem} {σ : Sg} (hR : RM M σ) (hI : Iv σ) {x : Int32} : CS u_M_isSet [.ref 1000, .int x] M (pI (b2 (setB x σ.1.1)) M) := by
  obtain ⟨hn1, hn2, hn3⟩ := hI.n
  refine cs_introF (L := [some (.ref 1000), some (.int x)]) (by decide +kernel) (fun ad q h => h) (fun ad => Nat.le_of_ble_eq_true rfl) ?_
  refine cw_iload_n d_M_isSet_0 rfl ?_
  refine cw_i2l d_M_isSet_1 ?_
  refine cw_lconst (v := 1) d_M_isSet_2 (by decide) ?_
  refine cw_iconst (v := 1) d_M_isSet_3 (by decide) ?_
  refine cw_aload_n d_M_isSet_4 rfl ?_
  refine cw_getI fl_M_98 so_M rfl d_M_isSet_5 ?_
  refine cw_ishl d_M_isSet_8 ?_
  refine cw_iconst (v := 1) d_M_isSet_9 (by decide) ?_
  refine cw_isub d_M_isSet_10 ?_
  refine cw_i2l d_M_isSet_11 ?_
  refine cw_staticP (s_M_in) rfl ml_M_69 rfl rfl d_M_isSet_12 ?_
  refine cw_top (y := b2 (setB x σ.1.1)) (by rw [inJ_set hR.n1 hn1]) ?_
  refine cw_zret rfl d_M_isSet_15 (by first | exact Or.inl rfl | exact Or.inr rfl | exact b2_01 _) ?_
  exact ⟨rfl, rfl⟩
set_option maxRecDepth 100000 in
theorem l_M_meanOf {M : Mem} {σ : Sg} (hR : RM M σ) (hI : Iv σ) {s : Int32} {p : Nat} (hp : p < 8) (hs : setB s σ.1.1 = true)  : ∀ i, i ≤ σ.1.1 → ∀ o6, CW u_M_meanOf (pI (meanS σ s p) M) 8 [some (.ref 1000), some (.int s), some (.int (nI p)), some (.int (sumUp (fun h => if bit s h then σ.2 1 h p else 0) i)), some (.int (nI (cntUp (bit s) i))), some (.int (nI i)), o6] [] M := by
  obtain ⟨hn1, hn2, hn3⟩ := hI.n
  have hc := cnt_pos hn1 hs
  have hcl := cntUp_le (bit s) σ.1.1
  refine up_ind (fun i hi ih o6 => ?_)
  refine cw_iload d_M_meanOf_8 rfl ?_
  refine cw_aload_n d_M_meanOf_10 rfl ?_
  refine cw_getI fl_M_98 so_M rfl d_M_meanOf_11 ?_
  refine cw_icmp_geN (i) (σ.1.1) 79 rfl hR.n1 (by omega) d_M_meanOf_14 (by decide) (fun c_14 => ?_) (fun c_14 => ?_)
  · refine cw_iload_n d_M_meanOf_79 rfl ?_
    refine cw_iload d_M_meanOf_80 rfl ?_
    refine cw_idiv d_M_meanOf_82 (by rw [show i = σ.1.1 by omega]; exact nI_ne0 hc (by omega)) ?_
    refine cw_iret rfl d_M_meanOf_83 ?_
    have ei : i = σ.1.1 := by omega
    subst ei
    exact ⟨rfl, rfl⟩
  · refine cw_iload_n d_M_meanOf_17 rfl ?_
    refine cw_iload d_M_meanOf_18 rfl ?_
    refine cw_ishr d_M_meanOf_20 ?_
    refine cw_iconst (v := 1) d_M_meanOf_21 (by decide) ?_
    refine cw_iand d_M_meanOf_22 ?_
    refine cw_iconst (v := 1) d_M_meanOf_23 (by decide) ?_
    refine cw_tern2 32 (b2 (bit s i)) ?_ (fun k_24 => ?_)
    · refine cw_istore d_M_meanOf_32 rfl ?_
      refine cw_iload_n d_M_meanOf_34 rfl ?_
      refine cw_iload d_M_meanOf_35 rfl ?_
      refine cw_tern1 56 (if bit s i then σ.2 1 i p else 0) ?_ (fun k_37 => ?_)
      · refine cw_iadd d_M_meanOf_56 ?_
        refine cw_istore_n d_M_meanOf_57 rfl ?_
        refine cw_iload d_M_meanOf_58 rfl ?_
        refine cw_iload d_M_meanOf_60 rfl ?_
        refine cw_tern1 70 (nI (if bit s i then 1 else 0)) ?_ (fun k_62 => ?_)
        · refine cw_iadd d_M_meanOf_70 ?_
          refine cw_top (y := nI (cntUp (bit s) (i + 1))) (by rw [nI_add]; congr 1; simp only [cntUp]; split <;> rfl) ?_
          refine cw_istore d_M_meanOf_71 rfl ?_
          refine cw_iincN (x := i) d_M_meanOf_73 rfl rfl ?_
          refine cw_goto 8 d_M_meanOf_76 (by decide) ?_
          exact ih c_14 _
        · refine cw_bif_eq 69 d_M_meanOf_62 (by decide) (fun c_62 => ?_) (fun c_62 => ?_)
          · refine cw_iconst (v := 0) d_M_meanOf_69 (by decide) ?_
            exact k_62 _ (by first | rw [if_neg (Bool.eq_false_iff.mp c_62)]; rfl | rw [if_pos c_62]; rfl)
          · refine cw_iconst (v := 1) d_M_meanOf_65 (by decide) ?_
            refine cw_goto 70 d_M_meanOf_66 (by decide) ?_
            exact k_62 _ (by first | rw [if_neg (Bool.eq_false_iff.mp c_62)]; rfl | rw [if_pos c_62]; rfl)
      · refine cw_bif_eq 55 d_M_meanOf_37 (by decide) (fun c_37 => ?_) (fun c_37 => ?_)
        · refine cw_iconst (v := 0) d_M_meanOf_55 (by decide) ?_
          exact k_37 _ (by first | exact (if_neg (Bool.eq_false_iff.mp c_37)).symm | exact (hR.pl c_14 hp).trans (if_pos c_37).symm)
        · refine cw_aload_n d_M_meanOf_40 rfl ?_
          refine cw_getR fl_M_22 so_M rfl d_M_meanOf_41 ?_
          refine cw_bipush (v := 8) d_M_meanOf_44 (by decide) ?_
          refine cw_iload d_M_meanOf_46 rfl ?_
          refine cw_imul d_M_meanOf_48 ?_
          refine cw_iload_n d_M_meanOf_49 rfl ?_
          refine cw_iadd d_M_meanOf_50 ?_
          refine cw_ialdN (i := (8 * i) + p) sm_places (nAdd (nMul rfl rfl) rfl) (by omega) (by decide) d_M_meanOf_51 ?_
          refine cw_goto 56 d_M_meanOf_52 (by decide) ?_
          exact k_37 _ (by first | exact (if_neg (Bool.eq_false_iff.mp c_37)).symm | exact (hR.pl c_14 hp).trans (if_pos c_37).symm)
    · refine cw_icmp_ne 31 d_M_meanOf_24 (by decide) (fun c_24 => ?_) (fun c_24 => ?_)
      · refine cw_iconst (v := 0) d_M_meanOf_31 (by decide) ?_
        exact k_24 _ (by first | exact b2_0 (decide_eq_false c_24) | exact b2_1 (decide_eq_true c_24))
      · refine cw_iconst (v := 1) d_M_meanOf_27 (by decide) ?_
        refine cw_goto 32 d_M_meanOf_28 (by decide) ?_
        exact k_24 _ (by first | exact b2_0 (decide_eq_false c_24) | exact b2_1 (decide_eq_true c_24))
set_option maxRecDepth 100000 in
theorem s_M_meanOf {M : Mem} {σ : Sg} (hR : RM M σ) (hI : Iv σ) {s : Int32} {p : Nat} (hp : p < 8) (hs : setB s σ.1.1 = true)  : CS u_M_meanOf [.ref 1000, .int s, .int (nI p)] M (pI (meanS σ s p) M) := by
  refine cs_introF (L := [some (.ref 1000), some (.int s), some (.int (nI p)), none, none, none, none]) (by decide +kernel) (fun ad q h => h) (fun ad => Nat.le_of_ble_eq_true rfl) ?_
  refine cw_iconst (v := 0) d_M_meanOf_0 (by decide) ?_
  refine cw_istore_n d_M_meanOf_1 rfl ?_
  refine cw_iconst (v := 0) d_M_meanOf_2 (by decide) ?_
  refine cw_istore d_M_meanOf_3 rfl ?_
  refine cw_iconst (v := 0) d_M_meanOf_5 (by decide) ?_
  refine cw_istore d_M_meanOf_6 rfl ?_
  exact l_M_meanOf hR hI hp hs 0 (by omega) _
set_option maxRecDepth 100000 in
theorem s_M_cut {M : Mem} {f v : Int32} : CS u_M_cut [.int f, .int v] M (pI (cutS f v) M) := by
  refine cs_introF (L := [some (.int f), some (.int v)]) (by decide +kernel) (fun ad q h => h) (fun ad => Nat.le_of_ble_eq_true rfl) ?_
  refine cw_iload_n d_M_cut_0 rfl ?_
  refine cw_if_ne 9 d_M_cut_1 (by decide) (fun c_1 => ?_) (fun c_1 => ?_)
  · refine cw_iload_n d_M_cut_9 rfl ?_
    refine cw_iconst (v := 1) d_M_cut_10 (by decide) ?_
    refine cw_icmp_ne 19 d_M_cut_11 (by decide) (fun c_11 => ?_) (fun c_11 => ?_)
    · refine cw_iload_n d_M_cut_19 rfl ?_
      refine cw_iret rfl d_M_cut_20 ?_
      exact ⟨by unfold cutS; rw [if_neg c_1]; first | exact (if_pos c_11).symm | exact (if_neg c_11).symm, rfl⟩
    · refine cw_iload_n d_M_cut_14 rfl ?_
      refine cw_i2s d_M_cut_15 ?_
      refine cw_goto 20 d_M_cut_16 (by decide) ?_
      refine cw_iret rfl d_M_cut_20 ?_
      exact ⟨by unfold cutS; rw [if_neg c_1]; first | exact (if_pos c_11).symm | exact (if_neg c_11).symm, rfl⟩
  · refine cw_iload_n d_M_cut_4 rfl ?_
    refine cw_i2b d_M_cut_5 ?_
    refine cw_goto 20 d_M_cut_6 (by decide) ?_
    refine cw_iret rfl d_M_cut_20 ?_
    exact ⟨by unfold cutS; rw [if_pos c_1], rfl⟩
