/-! ===== the class: tests and leaves ===== -/
set_option maxRecDepth 100000 in
theorem s_J_abs_I {M : Mem} {x : Int32} : CS u_J_abs_I [.int x] M (pI (if 0 ≤ x then x else -x) M) := by
  refine cs_introF (L := [some (.int x)]) (by decide +kernel) (fun ad q h => h) (fun ad => Nat.le_of_ble_eq_true rfl) ?_
  refine cw_iload_n d_J_abs_I_0 rfl ?_
  refine cw_if_ge 9 d_J_abs_I_1 (by decide) (fun c_1 => ?_) (fun c_1 => ?_)
  · refine cw_iload_n d_J_abs_I_9 rfl ?_
    refine cw_iret rfl d_J_abs_I_10 ?_
    exact ⟨by first | exact (if_pos (by assumption)).symm | exact (if_neg (by assumption)).symm, rfl⟩
  · refine cw_iload_n d_J_abs_I_4 rfl ?_
    refine cw_ineg d_J_abs_I_5 ?_
    refine cw_goto 10 d_J_abs_I_6 (by decide) ?_
    refine cw_iret rfl d_J_abs_I_10 ?_
    exact ⟨by first | exact (if_pos (by assumption)).symm | exact (if_neg (by assumption)).symm, rfl⟩
set_option maxRecDepth 100000 in
theorem s_J_abs_J {M : Mem} {x : Int64} : CS u_J_abs_J [.long x] M (pJ (if 0 ≤ x then x else -x) M) := by
  refine cs_introF (L := [some (.long x), none]) (by decide +kernel) (fun ad q h => h) (fun ad => Nat.le_of_ble_eq_true rfl) ?_
  refine cw_lload_n d_J_abs_J_0 rfl ?_
  refine cw_lconst (v := 0) d_J_abs_J_1 (by decide) ?_
  refine cw_lcmp d_J_abs_J_2 ?_
  refine cw_if_ge 11 d_J_abs_J_3 (by decide) (fun c_3 => ?_) (fun c_3 => ?_)
  · refine cw_lload_n d_J_abs_J_11 rfl ?_
    refine cw_lret rfl d_J_abs_J_12 ?_
    exact ⟨by first | exact (if_pos (lgc_ge.mp (by assumption))).symm | exact (if_neg (fun q => absurd (lgc_ge.mpr q) (by assumption))).symm, rfl⟩
  · refine cw_lload_n d_J_abs_J_6 rfl ?_
    refine cw_lneg d_J_abs_J_7 ?_
    refine cw_goto 12 d_J_abs_J_8 (by decide) ?_
    refine cw_lret rfl d_J_abs_J_12 ?_
    exact ⟨by first | exact (if_pos (lgc_ge.mp (by assumption))).symm | exact (if_neg (fun q => absurd (lgc_ge.mpr q) (by assumption))).symm, rfl⟩
set_option maxRecDepth 100000 in
theorem s_J_max_II {M : Mem} {x y : Int32} : CS u_J_max_II [.int x, .int y] M (pI (if x < y then y else x) M) := by
  refine cs_introF (L := [some (.int x), some (.int y)]) (by decide +kernel) (fun ad q h => h) (fun ad => Nat.le_of_ble_eq_true rfl) ?_
  refine cw_iload_n d_J_max_II_0 rfl ?_
  refine cw_iload_n d_J_max_II_1 rfl ?_
  refine cw_icmp_lt 9 d_J_max_II_2 (by decide) (fun c_2 => ?_) (fun c_2 => ?_)
  · refine cw_iload_n d_J_max_II_9 rfl ?_
    refine cw_iret rfl d_J_max_II_10 ?_
    exact ⟨by first | exact (if_pos (by assumption)).symm | exact (if_neg (by assumption)).symm, rfl⟩
  · refine cw_iload_n d_J_max_II_5 rfl ?_
    refine cw_goto 10 d_J_max_II_6 (by decide) ?_
    refine cw_iret rfl d_J_max_II_10 ?_
    exact ⟨by first | exact (if_pos (by assumption)).symm | exact (if_neg (by assumption)).symm, rfl⟩
set_option maxRecDepth 100000 in
theorem s_J_min {M : Mem} {x y : Int32} : CS u_J_min [.int x, .int y] M (pI (if y < x then y else x) M) := by
  refine cs_introF (L := [some (.int x), some (.int y)]) (by decide +kernel) (fun ad q h => h) (fun ad => Nat.le_of_ble_eq_true rfl) ?_
  refine cw_iload_n d_J_min_0 rfl ?_
  refine cw_iload_n d_J_min_1 rfl ?_
  refine cw_icmp_gt 9 d_J_min_2 (by decide) (fun c_2 => ?_) (fun c_2 => ?_)
  · refine cw_iload_n d_J_min_9 rfl ?_
    refine cw_iret rfl d_J_min_10 ?_
    exact ⟨by first | exact (if_pos (by assumption)).symm | exact (if_neg (by assumption)).symm, rfl⟩
  · refine cw_iload_n d_J_min_5 rfl ?_
    refine cw_goto 10 d_J_min_6 (by decide) ?_
    refine cw_iret rfl d_J_min_10 ?_
    exact ⟨by first | exact (if_pos (by assumption)).symm | exact (if_neg (by assumption)).symm, rfl⟩
set_option maxRecDepth 100000 in
theorem s_J_max_JJ {M : Mem} {x y : Int64} : CS u_J_max_JJ [.long x, .long y] M (pJ (if x < y then y else x) M) := by
  refine cs_introF (L := [some (.long x), none, some (.long y), none]) (by decide +kernel) (fun ad q h => h) (fun ad => Nat.le_of_ble_eq_true rfl) ?_
  refine cw_lload_n d_J_max_JJ_0 rfl ?_
  refine cw_lload_n d_J_max_JJ_1 rfl ?_
  refine cw_lcmp d_J_max_JJ_2 ?_
  refine cw_if_lt 10 d_J_max_JJ_3 (by decide) (fun c_3 => ?_) (fun c_3 => ?_)
  · refine cw_lload_n d_J_max_JJ_10 rfl ?_
    refine cw_lret rfl d_J_max_JJ_11 ?_
    exact ⟨by first | exact (if_pos (lgc_lt.mp (by assumption))).symm | exact (if_neg (fun q => absurd (lgc_lt.mpr q) (by assumption))).symm, rfl⟩
  · refine cw_lload_n d_J_max_JJ_6 rfl ?_
    refine cw_goto 11 d_J_max_JJ_7 (by decide) ?_
    refine cw_lret rfl d_J_max_JJ_11 ?_
    exact ⟨by first | exact (if_pos (lgc_lt.mp (by assumption))).symm | exact (if_neg (fun q => absurd (lgc_lt.mpr q) (by assumption))).symm, rfl⟩
set_option maxRecDepth 100000 in
theorem s_C_isPart {M : Mem} {x : Int32} : CS u_C_isPart [.int x] M (pI (b2 (ixB x 8)) M) := by
  refine cs_introF (L := [some (.int x)]) (by decide +kernel) (fun ad q h => h) (fun ad => Nat.le_of_ble_eq_true rfl) ?_
  refine cw_iload_n d_C_isPart_0 rfl ?_
  refine cw_if_lt 14 d_C_isPart_1 (by decide) (fun c_1 => ?_) (fun c_1 => ?_)
  · refine cw_iconst (v := 0) d_C_isPart_14 (by decide) ?_
    refine cw_zret rfl d_C_isPart_15 (by first | exact Or.inl rfl | exact Or.inr rfl | exact b2_01 _) ?_
    exact ⟨by first | exact (ixB_f (by assumption)).symm | exact (ixB_g (by assumption) rfl (by decide)).symm | exact (ixB_h (by assumption) (by assumption) rfl (by decide)).symm, rfl⟩
  · refine cw_iload_n d_C_isPart_4 rfl ?_
    refine cw_bipush (v := 8) d_C_isPart_5 (by decide) ?_
    refine cw_icmp_ge 14 d_C_isPart_7 (by decide) (fun c_7 => ?_) (fun c_7 => ?_)
    · refine cw_iconst (v := 0) d_C_isPart_14 (by decide) ?_
      refine cw_zret rfl d_C_isPart_15 (by first | exact Or.inl rfl | exact Or.inr rfl | exact b2_01 _) ?_
      exact ⟨by first | exact (ixB_f (by assumption)).symm | exact (ixB_g (by assumption) rfl (by decide)).symm | exact (ixB_h (by assumption) (by assumption) rfl (by decide)).symm, rfl⟩
    · refine cw_iconst (v := 1) d_C_isPart_10 (by decide) ?_
      refine cw_goto 15 d_C_isPart_11 (by decide) ?_
      refine cw_zret rfl d_C_isPart_15 (by first | exact Or.inl rfl | exact Or.inr rfl | exact b2_01 _) ?_
      exact ⟨by first | exact (ixB_f (by assumption)).symm | exact (ixB_g (by assumption) rfl (by decide)).symm | exact (ixB_h (by assumption) (by assumption) rfl (by decide)).symm, rfl⟩
set_option maxRecDepth 100000 in
theorem s_C_isHand {M : Mem} {x : Int32} : CS u_C_isHand [.int x] M (pI (b2 (ixB x 4)) M) := by
  refine cs_introF (L := [some (.int x)]) (by decide +kernel) (fun ad q h => h) (fun ad => Nat.le_of_ble_eq_true rfl) ?_
  refine cw_iload_n d_C_isHand_0 rfl ?_
  refine cw_if_lt 13 d_C_isHand_1 (by decide) (fun c_1 => ?_) (fun c_1 => ?_)
  · refine cw_iconst (v := 0) d_C_isHand_13 (by decide) ?_
    refine cw_zret rfl d_C_isHand_14 (by first | exact Or.inl rfl | exact Or.inr rfl | exact b2_01 _) ?_
    exact ⟨by first | exact (ixB_f (by assumption)).symm | exact (ixB_g (by assumption) rfl (by decide)).symm | exact (ixB_h (by assumption) (by assumption) rfl (by decide)).symm, rfl⟩
  · refine cw_iload_n d_C_isHand_4 rfl ?_
    refine cw_iconst (v := 4) d_C_isHand_5 (by decide) ?_
    refine cw_icmp_ge 13 d_C_isHand_6 (by decide) (fun c_6 => ?_) (fun c_6 => ?_)
    · refine cw_iconst (v := 0) d_C_isHand_13 (by decide) ?_
      refine cw_zret rfl d_C_isHand_14 (by first | exact Or.inl rfl | exact Or.inr rfl | exact b2_01 _) ?_
      exact ⟨by first | exact (ixB_f (by assumption)).symm | exact (ixB_g (by assumption) rfl (by decide)).symm | exact (ixB_h (by assumption) (by assumption) rfl (by decide)).symm, rfl⟩
    · refine cw_iconst (v := 1) d_C_isHand_9 (by decide) ?_
      refine cw_goto 14 d_C_isHand_10 (by decide) ?_
      refine cw_zret rfl d_C_isHand_14 (by first | exact Or.inl rfl | exact Or.inr rfl | exact b2_01 _) ?_
      exact ⟨by first | exact (ixB_f (by assumption)).symm | exact (ixB_g (by assumption) rfl (by decide)).symm | exact (ixB_h (by assumption) (by assumption) rfl (by decide)).symm, rfl⟩
set_option maxRecDepth 100000 in
theorem s_C_isSheet {M : Mem} {x : Int32} : CS u_C_isSheet [.int x] M (pI (b2 (ixB x 4)) M) := by
  refine cs_introF (L := [some (.int x)]) (by decide +kernel) (fun ad q h => h) (fun ad => Nat.le_of_ble_eq_true rfl) ?_
  refine cw_iload_n d_C_isSheet_0 rfl ?_
  refine cw_if_lt 13 d_C_isSheet_1 (by decide) (fun c_1 => ?_) (fun c_1 => ?_)
  · refine cw_iconst (v := 0) d_C_isSheet_13 (by decide) ?_
    refine cw_zret rfl d_C_isSheet_14 (by first | exact Or.inl rfl | exact Or.inr rfl | exact b2_01 _) ?_
    exact ⟨by first | exact (ixB_f (by assumption)).symm | exact (ixB_g (by assumption) rfl (by decide)).symm | exact (ixB_h (by assumption) (by assumption) rfl (by decide)).symm, rfl⟩
  · refine cw_iload_n d_C_isSheet_4 rfl ?_
    refine cw_iconst (v := 4) d_C_isSheet_5 (by decide) ?_
    refine cw_icmp_ge 13 d_C_isSheet_6 (by decide) (fun c_6 => ?_) (fun c_6 => ?_)
    · refine cw_iconst (v := 0) d_C_isSheet_13 (by decide) ?_
      refine cw_zret rfl d_C_isSheet_14 (by first | exact Or.inl rfl | exact Or.inr rfl | exact b2_01 _) ?_
      exact ⟨by first | exact (ixB_f (by assumption)).symm | exact (ixB_g (by assumption) rfl (by decide)).symm | exact (ixB_h (by assumption) (by assumption) rfl (by decide)).symm, rfl⟩
    · refine cw_iconst (v := 1) d_C_isSheet_9 (by decide) ?_
      refine cw_goto 14 d_C_isSheet_10 (by decide) ?_
      refine cw_zret rfl d_C_isSheet_14 (by first | exact Or.inl rfl | exact Or.inr rfl | exact b2_01 _) ?_
      exact ⟨by first | exact (ixB_f (by assumption)).symm | exact (ixB_g (by assumption) rfl (by decide)).symm | exact (ixB_h (by assumption) (by assumption) rfl (by decide)).symm, rfl⟩
set_option maxRecDepth 100000 in
theorem s_C_isHead {M : Mem} {σ : Sg} (hR : RC M σ) (hI : Iv σ) {x : Int32} : CS u_C_isHead [.ref 0, .int x] M (pI (b2 (ixB x σ.1.1)) M) := by
  refine cs_introF (L := [some (.ref 0), some (.int x)]) (by decide +kernel) (fun ad q h => h) (fun ad => Nat.le_of_ble_eq_true rfl) ?_
  refine cw_iload_n d_C_isHead_0 rfl ?_
  refine cw_if_lt 16 d_C_isHead_1 (by decide) (fun c_1 => ?_) (fun c_1 => ?_)
  · refine cw_iconst (v := 0) d_C_isHead_16 (by decide) ?_
    refine cw_zret rfl d_C_isHead_17 (by first | exact Or.inl rfl | exact Or.inr rfl | exact b2_01 _) ?_
    exact ⟨by first | exact (ixB_f (by assumption)).symm | exact (ixB_g (by assumption) hR.1 (by have := hI.n; omega)).symm | exact (ixB_h (by assumption) (by assumption) hR.1 (by have := hI.n; omega)).symm, rfl⟩
  · refine cw_iload_n d_C_isHead_4 rfl ?_
    refine cw_aload_n d_C_isHead_5 rfl ?_
    refine cw_getI fl_C_75 so_C rfl d_C_isHead_6 ?_
    refine cw_icmp_ge 16 d_C_isHead_9 (by decide) (fun c_9 => ?_) (fun c_9 => ?_)
    · refine cw_iconst (v := 0) d_C_isHead_16 (by decide) ?_
      refine cw_zret rfl d_C_isHead_17 (by first | exact Or.inl rfl | exact Or.inr rfl | exact b2_01 _) ?_
      exact ⟨by first | exact (ixB_f (by assumption)).symm | exact (ixB_g (by assumption) hR.1 (by have := hI.n; omega)).symm | exact (ixB_h (by assumption) (by assumption) hR.1 (by have := hI.n; omega)).symm, rfl⟩
    · refine cw_iconst (v := 1) d_C_isHead_12 (by decide) ?_
      refine cw_goto 17 d_C_isHead_13 (by decide) ?_
      refine cw_zret rfl d_C_isHead_17 (by first | exact Or.inl rfl | exact Or.inr rfl | exact b2_01 _) ?_
      exact ⟨by first | exact (ixB_f (by assumption)).symm | exact (ixB_g (by assumption) hR.1 (by have := hI.n; omega)).symm | exact (ixB_h (by assumption) (by assumption) hR.1 (by have := hI.n; omega)).symm, rfl⟩
set_option maxRecDepth 100000 in
theorem s_C_isDrawing {M : Mem} {σ : Sg} (hR : RC M σ) (hI : Iv σ) {x : Int32} : CS u_C_isDrawing [.ref 0, .int x] M (pI (b2 (ixB x σ.1.2.1)) M) := by
  refine cs_introF (L := [some (.ref 0), some (.int x)]) (by decide +kernel) (fun ad q h => h) (fun ad => Nat.le_of_ble_eq_true rfl) ?_
  refine cw_iload_n d_C_isDrawing_0 rfl ?_
  refine cw_if_lt 16 d_C_isDrawing_1 (by decide) (fun c_1 => ?_) (fun c_1 => ?_)
  · refine cw_iconst (v := 0) d_C_isDrawing_16 (by decide) ?_
    refine cw_zret rfl d_C_isDrawing_17 (by first | exact Or.inl rfl | exact Or.inr rfl | exact b2_01 _) ?_
    exact ⟨by first | exact (ixB_f (by assumption)).symm | exact (ixB_g (by assumption) hR.2.1 (by have := hI.n; omega)).symm | exact (ixB_h (by assumption) (by assumption) hR.2.1 (by have := hI.n; omega)).symm, rfl⟩
  · refine cw_iload_n d_C_isDrawing_4 rfl ?_
    refine cw_aload_n d_C_isDrawing_5 rfl ?_
    refine cw_getI fl_C_146 so_C rfl d_C_isDrawing_6 ?_
    refine cw_icmp_ge 16 d_C_isDrawing_9 (by decide) (fun c_9 => ?_) (fun c_9 => ?_)
    · refine cw_iconst (v := 0) d_C_isDrawing_16 (by decide) ?_
      refine cw_zret rfl d_C_isDrawing_17 (by first | exact Or.inl rfl | exact Or.inr rfl | exact b2_01 _) ?_
      exact ⟨by first | exact (ixB_f (by assumption)).symm | exact (ixB_g (by assumption) hR.2.1 (by have := hI.n; omega)).symm | exact (ixB_h (by assumption) (by assumption) hR.2.1 (by have := hI.n; omega)).symm, rfl⟩
    · refine cw_iconst (v := 1) d_C_isDrawing_12 (by decide) ?_
      refine cw_goto 17 d_C_isDrawing_13 (by decide) ?_
      refine cw_zret rfl d_C_isDrawing_17 (by first | exact Or.inl rfl | exact Or.inr rfl | exact b2_01 _) ?_
      exact ⟨by first | exact (ixB_f (by assumption)).symm | exact (ixB_g (by assumption) hR.2.1 (by have := hI.n; omega)).symm | exact (ixB_h (by assumption) (by assumption) hR.2.1 (by have := hI.n; omega)).symm, rfl⟩
set_option maxRecDepth 100000 in
theorem s_C_isKnower {M : Mem} {σ : Sg} (hR : RC M σ) (hI : Iv σ) {x : Int32} : CS u_C_isKnower [.ref 0, .int x] M (pI (b2 (ixB x σ.1.2.2)) M) := by
  refine cs_introF (L := [some (.ref 0), some (.int x)]) (by decide +kernel) (fun ad q h => h) (fun ad => Nat.le_of_ble_eq_true rfl) ?_
  refine cw_iload_n d_C_isKnower_0 rfl ?_
  refine cw_if_lt 16 d_C_isKnower_1 (by decide) (fun c_1 => ?_) (fun c_1 => ?_)
  · refine cw_iconst (v := 0) d_C_isKnower_16 (by decide) ?_
    refine cw_zret rfl d_C_isKnower_17 (by first | exact Or.inl rfl | exact Or.inr rfl | exact b2_01 _) ?_
    exact ⟨by first | exact (ixB_f (by assumption)).symm | exact (ixB_g (by assumption) hR.2.2.1 (by have := hI.n; omega)).symm | exact (ixB_h (by assumption) (by assumption) hR.2.2.1 (by have := hI.n; omega)).symm, rfl⟩
  · refine cw_iload_n d_C_isKnower_4 rfl ?_
    refine cw_aload_n d_C_isKnower_5 rfl ?_
    refine cw_getI fl_C_205 so_C rfl d_C_isKnower_6 ?_
    refine cw_icmp_ge 16 d_C_isKnower_9 (by decide) (fun c_9 => ?_) (fun c_9 => ?_)
    · refine cw_iconst (v := 0) d_C_isKnower_16 (by decide) ?_
      refine cw_zret rfl d_C_isKnower_17 (by first | exact Or.inl rfl | exact Or.inr rfl | exact b2_01 _) ?_
      exact ⟨by first | exact (ixB_f (by assumption)).symm | exact (ixB_g (by assumption) hR.2.2.1 (by have := hI.n; omega)).symm | exact (ixB_h (by assumption) (by assumption) hR.2.2.1 (by have := hI.n; omega)).symm, rfl⟩
    · refine cw_iconst (v := 1) d_C_isKnower_12 (by decide) ?_
      refine cw_goto 17 d_C_isKnower_13 (by decide) ?_
      refine cw_zret rfl d_C_isKnower_17 (by first | exact Or.inl rfl | exact Or.inr rfl | exact b2_01 _) ?_
      exact ⟨by first | exact (ixB_f (by assumption)).symm | exact (ixB_g (by assumption) hR.2.2.1 (by have := hI.n; omega)).symm | exact (ixB_h (by assumption) (by assumption) hR.2.2.1 (by have := hI.n; omega)).symm, rfl⟩
