/-! ===== the class: sheets, knowers, fractions ===== -/
def popN (k : Nat) : Nat := cntUp (fun i => k.testBit i) 8
def us (x : Int32) (k : Int32) : Int32 := (x.toUInt32 >>> (k.toUInt32 &&& Int32.toUInt32 31)).toInt32
def bc1 (x : Int32) : Int32 := x - (us x 1 &&& 1431655765)
def bc2 (x : Int32) : Int32 := (x &&& 858993459) + (us x 2 &&& 858993459)
def bc3 (x : Int32) : Int32 := (x + us x 4) &&& 252645135
def bc4 (x : Int32) : Int32 := x + us x 8
def bc5 (x : Int32) : Int32 := x + us x 16
def bcS (x : Int32) : Int32 := bc5 (bc4 (bc3 (bc2 (bc1 x)))) &&& 63
theorem bc_ok : ∀ k, k < 256 → bcS (nI k) = nI (popN k) := by decide +kernel
set_option maxRecDepth 100000 in
theorem s_J_bitCount0 {M : Mem} {x : Int32} : CS u_J_bitCount [.int x] M (pI (bcS x) M) := by
  refine cs_introF (L := [some (.int x)]) (by decide +kernel) (fun ad q h => h) (fun ad => Nat.le_of_ble_eq_true rfl) ?_
  refine cw_iload_n d_J_bitCount_0 rfl ?_
  refine cw_iload_n d_J_bitCount_1 rfl ?_
  refine cw_iconst (v := 1) d_J_bitCount_2 (by decide) ?_
  refine cw_iushr d_J_bitCount_3 ?_
  refine cw_ldc_w kc_J_265 d_J_bitCount_4 ?_
  refine cw_iand d_J_bitCount_7 ?_
  refine cw_isub d_J_bitCount_8 ?_
  refine cw_istore_n d_J_bitCount_9 rfl ?_
  refine cw_iload_n d_J_bitCount_10 rfl ?_
  refine cw_ldc_w kc_J_266 d_J_bitCount_11 ?_
  refine cw_iand d_J_bitCount_14 ?_
  refine cw_iload_n d_J_bitCount_15 rfl ?_
  refine cw_iconst (v := 2) d_J_bitCount_16 (by decide) ?_
  refine cw_iushr d_J_bitCount_17 ?_
  refine cw_ldc_w kc_J_266 d_J_bitCount_18 ?_
  refine cw_iand d_J_bitCount_21 ?_
  refine cw_iadd d_J_bitCount_22 ?_
  refine cw_istore_n d_J_bitCount_23 rfl ?_
  refine cw_iload_n d_J_bitCount_24 rfl ?_
  refine cw_iload_n d_J_bitCount_25 rfl ?_
  refine cw_iconst (v := 4) d_J_bitCount_26 (by decide) ?_
  refine cw_iushr d_J_bitCount_27 ?_
  refine cw_iadd d_J_bitCount_28 ?_
  refine cw_ldc_w kc_J_267 d_J_bitCount_29 ?_
  refine cw_iand d_J_bitCount_32 ?_
  refine cw_istore_n d_J_bitCount_33 rfl ?_
  refine cw_iload_n d_J_bitCount_34 rfl ?_
  refine cw_iload_n d_J_bitCount_35 rfl ?_
  refine cw_bipush (v := 8) d_J_bitCount_36 (by decide) ?_
  refine cw_iushr d_J_bitCount_38 ?_
  refine cw_iadd d_J_bitCount_39 ?_
  refine cw_istore_n d_J_bitCount_40 rfl ?_
  refine cw_iload_n d_J_bitCount_41 rfl ?_
  refine cw_iload_n d_J_bitCount_42 rfl ?_
  refine cw_bipush (v := 16) d_J_bitCount_43 (by decide) ?_
  refine cw_iushr d_J_bitCount_45 ?_
  refine cw_iadd d_J_bitCount_46 ?_
  refine cw_istore_n d_J_bitCount_47 rfl ?_
  refine cw_iload_n d_J_bitCount_48 rfl ?_
  refine cw_bipush (v := 63) d_J_bitCount_49 (by decide) ?_
  refine cw_iand d_J_bitCount_51 ?_
  refine cw_iret rfl d_J_bitCount_52 ?_
  exact ⟨rfl, rfl⟩
theorem s_J_bitCount {M : Mem} {k : Nat} (hk : k < 256) : CS u_J_bitCount [.int (nI k)] M (pI (nI (popN k)) M) := by
  have h := s_J_bitCount0 (M := M) (x := nI k)
  rw [bc_ok k hk] at h
  exact h
def cutS (f v : Int32) : Int32 := if f = 0 then v.toInt8.toInt32 else if f = 1 then v.toInt16.toInt32 else v
def runB (n i k : Int32) : Bool := decide (0 ≤ i.toInt ∧ 0 ≤ k.toInt ∧ i.toInt + k.toInt ≤ n.toInt)
set_option maxRecDepth 100000 in
theorem s_Sh_isLost {M : Mem} {s : Nat} (hs : s < 4) : CS u_Sh_isLost [.ref (80 + s)] M (pI (b2 (decide (mG M (80 + s) 1 = -1))) M) := by
  refine cs_introF (L := [some (.ref (80 + s))]) (by decide +kernel) (fun ad q h => h) (fun ad => Nat.le_of_ble_eq_true rfl) ?_
  refine cw_aload_n d_Sh_isLost_0 rfl ?_
  refine cw_getI fl_Sh_15 (so_Sh (h := s) (by omega)) rfl d_Sh_isLost_1 ?_
  refine cw_iconst (v := (-1)) d_Sh_isLost_4 (by decide) ?_
  refine cw_icmp_ne 12 d_Sh_isLost_5 (by decide) (fun c_5 => ?_) (fun c_5 => ?_)
  · refine cw_iconst (v := 0) d_Sh_isLost_12 (by decide) ?_
    refine cw_zret rfl d_Sh_isLost_13 (by first | exact Or.inl rfl | exact Or.inr rfl | exact b2_01 _) ?_
    exact ⟨by first | exact b2_0 (decide_eq_false c_5) | exact b2_1 (decide_eq_true c_5), rfl⟩
  · refine cw_iconst (v := 1) d_Sh_isLost_8 (by decide) ?_
    refine cw_goto 13 d_Sh_isLost_9 (by decide) ?_
    refine cw_zret rfl d_Sh_isLost_13 (by first | exact Or.inl rfl | exact Or.inr rfl | exact b2_01 _) ?_
    exact ⟨by first | exact b2_0 (decide_eq_false c_5) | exact b2_1 (decide_eq_true c_5), rfl⟩
set_option maxRecDepth 100000 in
theorem s_Sh_begin {M : Mem} {s : Nat} {f k : Int32} (hs : s < 4) : CS u_Sh_begin [.ref (80 + s), .int f, .int k] M (retV (fun M2 => M2 = mRow (mS (mS M (80 + s) 1 f) (80 + s) 2 k) (90 + s) 60 (fun _ => 0))) := by
  refine cs_introF (L := [some (.ref (80 + s)), some (.int f), some (.int k)]) (by decide +kernel) (fun ad q h => h) (fun ad => Nat.le_of_ble_eq_true rfl) ?_
  refine cw_aload_n d_Sh_begin_0 rfl ?_
  refine cw_iload_n d_Sh_begin_1 rfl ?_
  refine cw_putI fp_Sh_15 (so_Sh (h := s) (by omega)) rfl d_Sh_begin_2 ?_
  refine cw_aload_n d_Sh_begin_5 rfl ?_
  refine cw_iload_n d_Sh_begin_6 rfl ?_
  refine cw_putI fp_Sh_19 (so_Sh (h := s) (by omega)) rfl d_Sh_begin_7 ?_
  refine cw_aload_n d_Sh_begin_10 rfl ?_
  refine cw_getR fl_Sh_9 (so_Sh (h := s) (by omega)) rfl d_Sh_begin_11 ?_
  refine cw_iconst (v := 0) d_Sh_begin_14 (by decide) ?_
  refine cw_staticV (s_J_fill (a := 90 + s) (sa_it hs) (by decide)) rfl ml_Sh_22 rfl rfl d_Sh_begin_15 (fun M_15 q_15 => ?_)
  subst q_15
  refine cw_vret rfl d_Sh_begin_18 ?_
  rfl
set_option maxRecDepth 100000 in
theorem s_Sh_hasRun {M : Mem} {s : Nat} {i k : Int32} (hs : s < 4) (hz : rD (mG M (80 + s) 2) 0 60) : CS u_Sh_hasRun [.ref (80 + s), .int i, .int k] M (pI (b2 (runB (mG M (80 + s) 2) i k)) M) := by
  refine cs_introF (L := [some (.ref (80 + s)), some (.int i), some (.int k)]) (by decide +kernel) (fun ad q h => h) (fun ad => Nat.le_of_ble_eq_true rfl) ?_
  refine cw_iload_n d_Sh_hasRun_0 rfl ?_
  refine cw_if_lt 30 d_Sh_hasRun_1 (by decide) (fun c_1 => ?_) (fun c_1 => ?_)
  · refine cw_iconst (v := 0) d_Sh_hasRun_30 (by decide) ?_
    refine cw_zret rfl d_Sh_hasRun_31 (by first | exact Or.inl rfl | exact Or.inr rfl | exact b2_01 _) ?_
    exact ⟨by first
      | exact b2_0 (decide_eq_false (fun q => by have := i32_lt.mp c_1; have := i0; omega))
      | exact b2_0 (decide_eq_false (fun q => by have := i32_lt.mp c_5; have := i0; omega))
      | exact b2_0 (decide_eq_false (fun q => by omega))
      | exact b2_1 (decide_eq_true ⟨by omega, by omega, by omega⟩), rfl⟩
  · refine cw_iload_n d_Sh_hasRun_4 rfl ?_
    refine cw_if_lt 30 d_Sh_hasRun_5 (by decide) (fun c_5 => ?_) (fun c_5 => ?_)
    · refine cw_iconst (v := 0) d_Sh_hasRun_30 (by decide) ?_
      refine cw_zret rfl d_Sh_hasRun_31 (by first | exact Or.inl rfl | exact Or.inr rfl | exact b2_01 _) ?_
      exact ⟨by first
        | exact b2_0 (decide_eq_false (fun q => by have := i32_lt.mp c_1; have := i0; omega))
        | exact b2_0 (decide_eq_false (fun q => by have := i32_lt.mp c_5; have := i0; omega))
        | exact b2_0 (decide_eq_false (fun q => by omega))
        | exact b2_1 (decide_eq_true ⟨by omega, by omega, by omega⟩), rfl⟩
    · refine cw_iload_n d_Sh_hasRun_8 rfl ?_
      refine cw_aload_n d_Sh_hasRun_9 rfl ?_
      refine cw_getI fl_Sh_19 (so_Sh (h := s) (by omega)) rfl d_Sh_hasRun_10 ?_
      refine cw_icmp_gt 30 d_Sh_hasRun_13 (by decide) (fun c_13 => ?_) (fun c_13 => ?_)
      · have h13 := i32_lt.mp c_13
        refine cw_iconst (v := 0) d_Sh_hasRun_30 (by decide) ?_
        refine cw_zret rfl d_Sh_hasRun_31 (by first | exact Or.inl rfl | exact Or.inr rfl | exact b2_01 _) ?_
        exact ⟨by first
          | exact b2_0 (decide_eq_false (fun q => by have := i32_lt.mp c_1; have := i0; omega))
          | exact b2_0 (decide_eq_false (fun q => by have := i32_lt.mp c_5; have := i0; omega))
          | exact b2_0 (decide_eq_false (fun q => by omega))
          | exact b2_1 (decide_eq_true ⟨by omega, by omega, by omega⟩), rfl⟩
      · have hk0 := i32_le.mp (i32_nlt.mp c_5)
        have hk1 := i32_le.mp (i32_nlt.mp c_13)
        have hi0 := i32_le.mp (i32_nlt.mp c_1)
        have e0 := i0
        have hsub : (mG M (80 + s) 2 - k).toInt = (mG M (80 + s) 2).toInt - k.toInt := by
          rw [Int32.toInt_sub]
          have := hz.1
          have := hz.2
          rw [Int.bmod_eq_of_le] <;> omega
        refine cw_iload_n d_Sh_hasRun_16 rfl ?_
        refine cw_aload_n d_Sh_hasRun_17 rfl ?_
        refine cw_getI fl_Sh_19 (so_Sh (h := s) (by omega)) rfl d_Sh_hasRun_18 ?_
        refine cw_iload_n d_Sh_hasRun_21 rfl ?_
        refine cw_isub d_Sh_hasRun_22 ?_
        refine cw_icmp_gt 30 d_Sh_hasRun_23 (by decide) (fun c_23 => ?_) (fun c_23 => ?_)
        · rw [i32_lt, hsub] at c_23
          refine cw_iconst (v := 0) d_Sh_hasRun_30 (by decide) ?_
          refine cw_zret rfl d_Sh_hasRun_31 (by first | exact Or.inl rfl | exact Or.inr rfl | exact b2_01 _) ?_
          exact ⟨by first
            | exact b2_0 (decide_eq_false (fun q => by have := i32_lt.mp c_1; have := i0; omega))
            | exact b2_0 (decide_eq_false (fun q => by have := i32_lt.mp c_5; have := i0; omega))
            | exact b2_0 (decide_eq_false (fun q => by omega))
            | exact b2_1 (decide_eq_true ⟨by omega, by omega, by omega⟩), rfl⟩
        · rw [i32_nlt, i32_le, hsub] at c_23
          refine cw_iconst (v := 1) d_Sh_hasRun_26 (by decide) ?_
          refine cw_goto 31 d_Sh_hasRun_27 (by decide) ?_
          refine cw_zret rfl d_Sh_hasRun_31 (by first | exact Or.inl rfl | exact Or.inr rfl | exact b2_01 _) ?_
          exact ⟨by first
            | exact b2_0 (decide_eq_false (fun q => by have := i32_lt.mp c_1; have := i0; omega))
            | exact b2_0 (decide_eq_false (fun q => by have := i32_lt.mp c_5; have := i0; omega))
            | exact b2_0 (decide_eq_false (fun q => by omega))
            | exact b2_1 (decide_eq_true ⟨by omega, by omega, by omega⟩), rfl⟩
set_option maxRecDepth 100000 in
theorem s_Sh_put {M : Mem} {s i : Nat} {v : Int32} (hs : s < 4) (hi : i < 60) (hz : ¬ mG M (80 + s) 2 ≤ nI i) : CS u_Sh_put [.ref (80 + s), .int (nI i), .int v] M (retV (fun M2 => M2 = mS M (90 + s) i (cutS (mG M (80 + s) 1) v))) := by
  refine cs_introF (L := [some (.ref (80 + s)), some (.int (nI i)), some (.int v)]) (by decide +kernel) (fun ad q h => h) (fun ad => Nat.le_of_ble_eq_true rfl) ?_
  refine cw_iload_n d_Sh_put_0 rfl ?_
  refine cw_if_lt 18 d_Sh_put_1 (by decide) (fun c_1 => ?_) (fun c_1 => ?_)
  · exact absurd c_1 (nI_pos (by omega))
  · refine cw_iload_n d_Sh_put_4 rfl ?_
    refine cw_aload_n d_Sh_put_5 rfl ?_
    refine cw_getI fl_Sh_19 (so_Sh (h := s) (by omega)) rfl d_Sh_put_6 ?_
    refine cw_icmp_ge 18 d_Sh_put_9 (by decide) (fun c_9 => ?_) (fun c_9 => ?_)
    · exact absurd c_9 hz
    · refine cw_iload_n d_Sh_put_12 rfl ?_
      refine cw_bipush (v := 60) d_Sh_put_13 (by decide) ?_
      refine cw_icmp_lt 19 d_Sh_put_15 (by decide) (fun c_15 => ?_) (fun c_15 => ?_)
      · refine cw_aload_n d_Sh_put_19 rfl ?_
        refine cw_getI fl_Sh_15 (so_Sh (h := s) (by omega)) rfl d_Sh_put_20 ?_
        refine cw_if_ne 37 d_Sh_put_23 (by decide) (fun c_23 => ?_) (fun c_23 => ?_)
        · refine cw_aload_n d_Sh_put_37 rfl ?_
          refine cw_getI fl_Sh_15 (so_Sh (h := s) (by omega)) rfl d_Sh_put_38 ?_
          refine cw_iconst (v := 1) d_Sh_put_41 (by decide) ?_
          refine cw_icmp_ne 56 d_Sh_put_42 (by decide) (fun c_42 => ?_) (fun c_42 => ?_)
          · have hcut : cutS (mG M (80 + s) 1) v = v := by unfold cutS; rw [if_neg c_23, if_neg c_42]
            refine cw_aload_n d_Sh_put_56 rfl ?_
            refine cw_getR fl_Sh_9 (so_Sh (h := s) (by omega)) rfl d_Sh_put_57 ?_
            refine cw_iload_n d_Sh_put_60 rfl ?_
            refine cw_iload_n d_Sh_put_61 rfl ?_
            refine cw_iastN (i := i) (sa_it (h := s) (by omega)) rfl (by omega) (by decide) d_Sh_put_62 ?_
            refine cw_vret rfl d_Sh_put_63 ?_
            rw [hcut]
          · have hcut : cutS (mG M (80 + s) 1) v = v.toInt16.toInt32 := by unfold cutS; rw [if_neg c_23, if_pos c_42]
            refine cw_aload_n d_Sh_put_45 rfl ?_
            refine cw_getR fl_Sh_9 (so_Sh (h := s) (by omega)) rfl d_Sh_put_46 ?_
            refine cw_iload_n d_Sh_put_49 rfl ?_
            refine cw_iload_n d_Sh_put_50 rfl ?_
            refine cw_i2s d_Sh_put_51 ?_
            refine cw_iastN (i := i) (sa_it (h := s) (by omega)) rfl (by omega) (by decide) d_Sh_put_52 ?_
            refine cw_goto 63 d_Sh_put_53 (by decide) ?_
            refine cw_vret rfl d_Sh_put_63 ?_
            rw [hcut]
        · have hcut : cutS (mG M (80 + s) 1) v = v.toInt8.toInt32 := if_pos c_23
          refine cw_aload_n d_Sh_put_26 rfl ?_
          refine cw_getR fl_Sh_9 (so_Sh (h := s) (by omega)) rfl d_Sh_put_27 ?_
          refine cw_iload_n d_Sh_put_30 rfl ?_
          refine cw_iload_n d_Sh_put_31 rfl ?_
          refine cw_i2b d_Sh_put_32 ?_
          refine cw_iastN (i := i) (sa_it (h := s) (by omega)) rfl (by omega) (by decide) d_Sh_put_33 ?_
          refine cw_goto 63 d_Sh_put_34 (by decide) ?_
          refine cw_vret rfl d_Sh_put_63 ?_
          rw [hcut]
      · exact absurd (nI_lt (b := 60) hi (by decide)) c_15
set_option maxRecDepth 100000 in
theorem s_Kn_knows {M : Mem} {k h : Nat} (hk : k < 4) : CS u_Kn_knows [.ref (60 + k), .int (nI h)] M (pI (b2 (bit (mG M (60 + k) 1) h)) M) := by
  refine cs_introF (L := [some (.ref (60 + k)), some (.int (nI h))]) (by decide +kernel) (fun ad q h => h) (fun ad => Nat.le_of_ble_eq_true rfl) ?_
  refine cw_aload_n d_Kn_knows_0 rfl ?_
  refine cw_getI fl_Kn_15 (so_Kn (h := k) (by omega)) rfl d_Kn_knows_1 ?_
  refine cw_iload_n d_Kn_knows_4 rfl ?_
  refine cw_ishr d_Kn_knows_5 ?_
  refine cw_iconst (v := 1) d_Kn_knows_6 (by decide) ?_
  refine cw_iand d_Kn_knows_7 ?_
  refine cw_iconst (v := 1) d_Kn_knows_8 (by decide) ?_
  refine cw_icmp_ne 16 d_Kn_knows_9 (by decide) (fun c_9 => ?_) (fun c_9 => ?_)
  · refine cw_iconst (v := 0) d_Kn_knows_16 (by decide) ?_
    refine cw_zret rfl d_Kn_knows_17 (by first | exact Or.inl rfl | exact Or.inr rfl | exact b2_01 _) ?_
    exact ⟨by first | exact b2_0 (decide_eq_false c_9) | exact b2_1 (decide_eq_true c_9), rfl⟩
  · refine cw_iconst (v := 1) d_Kn_knows_12 (by decide) ?_
    refine cw_goto 17 d_Kn_knows_13 (by decide) ?_
    refine cw_zret rfl d_Kn_knows_17 (by first | exact Or.inl rfl | exact Or.inr rfl | exact b2_01 _) ?_
    exact ⟨by first | exact b2_0 (decide_eq_false c_9) | exact b2_1 (decide_eq_true c_9), rfl⟩
def gazeP (v m mi la : Int32) : Int32 := if v = LO then m else m + (v - m) * mi / (mi + la)
theorem mRow_at {M : Mem} {r n : Nat} {f : Nat → Int32} : mG (mRow M r n f) r n = mG M r n := by simp [mRow, mG]
theorem mRow_same {M : Mem} {r n : Nat} {f : Nat → Int32} (h : f n = mG M r n) : mRow M r n f = mRow M r (n + 1) f := by
  rw [← mRow_s, h]
  unfold mS
  apply Prod.ext
  · funext a b
    by_cases q : a = r ∧ b = n
    · obtain ⟨rfl, rfl⟩ := q
      simp [mRow, mG]
    · simp only [if_neg q]
  · rfl
set_option maxRecDepth 100000 in
theorem l_Kn_gaze {M : Mem} {k d : Nat} {mi la : Int32} (hk : k < 4) (hd : d < 31) (hsp : ¬ mi + la ≤ 0)  : ∀ i, i ≤ 8 → CW u_Kn_gaze (retV (fun M2 => M2 = mRow M (70 + k) 8 (fun p => gazeP (mG M (300 + d) p) (mG M (70 + k) p) mi la))) 8 [some (.ref (60 + k)), some (.ref (100 + d)), some (.int mi), some (.int la), some (.int (mi + la)), some (.int (nI i))] [] (mRow M (70 + k) i (fun p => gazeP (mG M (300 + d) p) (mG M (70 + k) p) mi la)) := by
  refine up_ind (fun i hi ih => ?_)
  have e1 : mG (mRow M (70 + k) i (fun p => gazeP (mG M (300 + d) p) (mG M (70 + k) p) mi la)) (300 + d) i = mG M (300 + d) i := mRow_out (by omega)
  have hne : ¬ mi + la = 0 := fun q => hsp (by rw [q]; exact Int32.le_refl 0)
  refine cw_iload d_Kn_gaze_8 rfl ?_
  refine cw_bipush (v := 8) d_Kn_gaze_10 (by decide) ?_
  refine cw_icmp_geN (i) (8) 65 rfl rfl (by omega) d_Kn_gaze_12 (by decide) (fun c_12 => ?_) (fun c_12 => ?_)
  · refine cw_vret rfl d_Kn_gaze_65 ?_
    have ei : i = 8 := by omega
    subst ei
    rfl
  · refine cw_iload d_Kn_gaze_15 rfl ?_
    refine cw_if_le 65 d_Kn_gaze_17 (by decide) (fun c_17 => ?_) (fun c_17 => ?_)
    · exact absurd c_17 hsp
    · refine cw_aload_n d_Kn_gaze_20 rfl ?_
      refine cw_iload d_Kn_gaze_21 rfl ?_
      refine cw_virtP (s_Sk_has hd (p := i) (by omega)) rfl ml_Kn_19 (so_Sk (d := d) (by omega)) rfl rfl d_Kn_gaze_23 ?_
      refine cw_bif_eq 59 d_Kn_gaze_26 (by decide) (fun c_26 => ?_) (fun c_26 => ?_)
      · have hf : (fun p => gazeP (mG M (300 + d) p) (mG M (70 + k) p) mi la) i = mG M (70 + k) i := if_pos (Classical.not_not.mp (e1 ▸ of_decide_eq_false c_26))
        refine cw_iincN (x := i) d_Kn_gaze_59 rfl rfl ?_
        refine cw_goto 8 d_Kn_gaze_62 (by decide) ?_
        first
          | exact cw_cast (by simp only [lset1, kl]) rfl (by rw [← hf]; exact mRow_s (f := (fun p => gazeP (mG M (300 + d) p) (mG M (70 + k) p) mi la))) (ih c_12)
          | exact cw_cast (by simp only [lset1, kl]) rfl (mRow_same (f := (fun p => gazeP (mG M (300 + d) p) (mG M (70 + k) p) mi la)) hf) (ih c_12)
      · have hf : (fun p => gazeP (mG M (300 + d) p) (mG M (70 + k) p) mi la) i = mG M (70 + k) i + (mG M (300 + d) i - mG M (70 + k) i) * mi / (mi + la) := if_neg (e1 ▸ of_decide_eq_true c_26)
        refine cw_aload_n d_Kn_gaze_29 rfl ?_
        refine cw_getR fl_Kn_9 (so_Kn (h := k) (by omega)) rfl d_Kn_gaze_30 ?_
        refine cw_iload d_Kn_gaze_33 rfl ?_
        refine cw_dup2 d_Kn_gaze_35 ?_
        refine cw_ialdN (i := i) (sa_km (h := k) (by omega)) rfl (by omega) (by decide) d_Kn_gaze_36 ?_
        refine cw_top mRow_at ?_
        refine cw_aload_n d_Kn_gaze_37 rfl ?_
        refine cw_getR fl_Kn_25 (so_Sk (d := d) (by omega)) rfl d_Kn_gaze_38 ?_
        refine cw_iload d_Kn_gaze_41 rfl ?_
        refine cw_ialdN (i := i) (sa_li (d := d) (by omega)) rfl (by omega) (by decide) d_Kn_gaze_43 ?_
        refine cw_top e1 ?_
        refine cw_aload_n d_Kn_gaze_44 rfl ?_
        refine cw_getR fl_Kn_9 (so_Kn (h := k) (by omega)) rfl d_Kn_gaze_45 ?_
        refine cw_iload d_Kn_gaze_48 rfl ?_
        refine cw_ialdN (i := i) (sa_km (h := k) (by omega)) rfl (by omega) (by decide) d_Kn_gaze_50 ?_
        refine cw_top mRow_at ?_
        refine cw_isub d_Kn_gaze_51 ?_
        refine cw_iload_n d_Kn_gaze_52 rfl ?_
        refine cw_imul d_Kn_gaze_53 ?_
        refine cw_iload d_Kn_gaze_54 rfl ?_
        refine cw_idiv d_Kn_gaze_56 hne ?_
        refine cw_iadd d_Kn_gaze_57 ?_
        refine cw_iastN (i := i) (sa_km (h := k) (by omega)) rfl (by omega) (by decide) d_Kn_gaze_58 ?_
        refine cw_iincN (x := i) d_Kn_gaze_59 rfl rfl ?_
        refine cw_goto 8 d_Kn_gaze_62 (by decide) ?_
        first
          | exact cw_cast (by simp only [lset1, kl]) rfl (by rw [← hf]; exact mRow_s (f := (fun p => gazeP (mG M (300 + d) p) (mG M (70 + k) p) mi la))) (ih c_12)
          | exact cw_cast (by simp only [lset1, kl]) rfl (mRow_same (f := (fun p => gazeP (mG M (300 + d) p) (mG M (70 + k) p) mi la)) hf) (ih c_12)
set_option maxRecDepth 100000 in
theorem s_Kn_gaze {M : Mem} {k d : Nat} {mi la : Int32} (hk : k < 4) (hd : d < 31) (hsp : ¬ mi + la ≤ 0)  : CS u_Kn_gaze [.ref (60 + k), .ref (100 + d), .int mi, .int la] M (retV (fun M2 => M2 = mRow M (70 + k) 8 (fun p => gazeP (mG M (300 + d) p) (mG M (70 + k) p) mi la))) := by
  refine cs_introF (L := [some (.ref (60 + k)), some (.ref (100 + d)), some (.int mi), some (.int la), none, none]) (by decide +kernel) (fun ad q h => h) (fun ad => Nat.le_of_ble_eq_true rfl) ?_
  refine cw_iload_n d_Kn_gaze_0 rfl ?_
  refine cw_iload_n d_Kn_gaze_1 rfl ?_
  refine cw_iadd d_Kn_gaze_2 ?_
  refine cw_istore d_Kn_gaze_3 rfl ?_
  refine cw_iconst (v := 0) d_Kn_gaze_5 (by decide) ?_
  refine cw_istore d_Kn_gaze_6 rfl ?_
  exact cw_mem mRow_0.symm (l_Kn_gaze hk hd hsp 0 (by omega))
def jS2 (M : Mem) (a : Nat) (x y : Int64) : Mem := jS (jS M a 0 x) a 1 y
set_option maxRecDepth 100000 in
theorem s_Fr_become {M : Mem} {a : Nat} (ha : SO a 0 [fJ, fJ]) {x y : Int64} : CS u_Fr_become [.ref a, .long x, .long y] M (retV (fun M2 => M2 = jS2 M a x y)) := by
  refine cs_introF (L := [some (.ref a), some (.long x), none, some (.long y), none]) (by decide +kernel) (fun ad q h => h) (fun ad => Nat.le_of_ble_eq_true rfl) ?_
  refine cw_aload_n d_Fr_become_0 rfl ?_
  refine cw_lload_n d_Fr_become_1 rfl ?_
  refine cw_putJ fp_Fr_13 ha rfl d_Fr_become_2 ?_
  refine cw_aload_n d_Fr_become_5 rfl ?_
  refine cw_lload_n d_Fr_become_6 rfl ?_
  refine cw_putJ fp_Fr_7 ha rfl d_Fr_become_7 ?_
  refine cw_vret rfl d_Fr_become_10 ?_
  rfl
def cutJ (x y : Int64) : Int64 := if y = 0 then 0 else x / y
def abvB (x y z w : Int64) : Bool := if cutJ x y = cutJ z w then decide ((z - cutJ z w * w) * y < (x - cutJ x y * y) * w) else decide (cutJ z w < cutJ x y)
set_option maxRecDepth 100000 in
theorem s_Fr_cut {M : Mem} {a : Nat} (ha : SO a 0 [fJ, fJ])  : CS u_Fr_cut [.ref a] M (pJ (cutJ (jG M a 0) (jG M a 1)) M) := by
  refine cs_introF (L := [some (.ref a)]) (by decide +kernel) (fun ad q h => h) (fun ad => Nat.le_of_ble_eq_true rfl) ?_
  refine cw_aload_n d_Fr_cut_0 rfl ?_
  refine cw_getJ fl_Fr_7 ha rfl d_Fr_cut_1 ?_
  refine cw_lconst (v := 0) d_Fr_cut_4 (by decide) ?_
  refine cw_lcmp d_Fr_cut_5 ?_
  refine cw_if_ne 13 d_Fr_cut_6 (by decide) (fun c_6 => ?_) (fun c_6 => ?_)
  · refine cw_aload_n d_Fr_cut_13 rfl ?_
    refine cw_getJ fl_Fr_13 ha rfl d_Fr_cut_14 ?_
    refine cw_aload_n d_Fr_cut_17 rfl ?_
    refine cw_getJ fl_Fr_7 ha rfl d_Fr_cut_18 ?_
    refine cw_ldiv d_Fr_cut_21 (fun q => c_6 (lgc_eq.mpr q)) ?_
    refine cw_lret rfl d_Fr_cut_22 ?_
    exact ⟨by first | exact (if_pos (lgc_eq.mp c_6)).symm | exact (if_neg (fun q => c_6 (lgc_eq.mpr q))).symm, rfl⟩
  · refine cw_lconst (v := 0) d_Fr_cut_9 (by decide) ?_
    refine cw_goto 22 d_Fr_cut_10 (by decide) ?_
    refine cw_lret rfl d_Fr_cut_22 ?_
    exact ⟨by first | exact (if_pos (lgc_eq.mp c_6)).symm | exact (if_neg (fun q => c_6 (lgc_eq.mpr q))).symm, rfl⟩
set_option maxRecDepth 100000 in
theorem s_Fr_isAbove {M : Mem} {a b : Nat} (ha : SO a 0 [fJ, fJ]) (hb : SO b 0 [fJ, fJ]) : CS u_Fr_isAbove [.ref a, .ref b] M (pI (b2 (abvB (jG M a 0) (jG M a 1) (jG M b 0) (jG M b 1))) M) := by
  refine cs_introF (L := [some (.ref a), some (.ref b), none, none, none, none, none, none, none, none]) (by decide +kernel) (fun ad q h => h) (fun ad => Nat.le_of_ble_eq_true rfl) ?_
  refine cw_aload_n d_Fr_isAbove_0 rfl ?_
  refine cw_virtPJ (s_Fr_cut ha) rfl ml_Fr_16 ha rfl rfl d_Fr_isAbove_1 ?_
  refine cw_lstore_n d_Fr_isAbove_4 rfl ?_
  refine cw_aload_n d_Fr_isAbove_5 rfl ?_
  refine cw_virtPJ (s_Fr_cut hb) rfl ml_Fr_16 hb rfl rfl d_Fr_isAbove_6 ?_
  refine cw_lstore d_Fr_isAbove_9 rfl ?_
  refine cw_lload_n d_Fr_isAbove_11 rfl ?_
  refine cw_lload d_Fr_isAbove_12 rfl ?_
  refine cw_lcmp d_Fr_isAbove_14 ?_
  refine cw_if_eq 31 d_Fr_isAbove_15 (by decide) (fun c_15 => ?_) (fun c_15 => ?_)
  · have hq : abvB (jG M a 0) (jG M a 1) (jG M b 0) (jG M b 1) = _ := if_pos (lgc_eq.mp c_15)
    refine cw_aload_n d_Fr_isAbove_31 rfl ?_
    refine cw_getJ fl_Fr_13 ha rfl d_Fr_isAbove_32 ?_
    refine cw_lload_n d_Fr_isAbove_35 rfl ?_
    refine cw_aload_n d_Fr_isAbove_36 rfl ?_
    refine cw_getJ fl_Fr_7 ha rfl d_Fr_isAbove_37 ?_
    refine cw_lmul d_Fr_isAbove_40 ?_
    refine cw_lsub d_Fr_isAbove_41 ?_
    refine cw_lstore d_Fr_isAbove_42 rfl ?_
    refine cw_aload_n d_Fr_isAbove_44 rfl ?_
    refine cw_getJ fl_Fr_13 hb rfl d_Fr_isAbove_45 ?_
    refine cw_lload d_Fr_isAbove_48 rfl ?_
    refine cw_aload_n d_Fr_isAbove_50 rfl ?_
    refine cw_getJ fl_Fr_7 hb rfl d_Fr_isAbove_51 ?_
    refine cw_lmul d_Fr_isAbove_54 ?_
    refine cw_lsub d_Fr_isAbove_55 ?_
    refine cw_lstore d_Fr_isAbove_56 rfl ?_
    refine cw_lload d_Fr_isAbove_58 rfl ?_
    refine cw_aload_n d_Fr_isAbove_60 rfl ?_
    refine cw_getJ fl_Fr_7 hb rfl d_Fr_isAbove_61 ?_
    refine cw_lmul d_Fr_isAbove_64 ?_
    refine cw_lload d_Fr_isAbove_65 rfl ?_
    refine cw_aload_n d_Fr_isAbove_67 rfl ?_
    refine cw_getJ fl_Fr_7 ha rfl d_Fr_isAbove_68 ?_
    refine cw_lmul d_Fr_isAbove_71 ?_
    refine cw_lcmp d_Fr_isAbove_72 ?_
    refine cw_if_le 80 d_Fr_isAbove_73 (by decide) (fun c_73 => ?_) (fun c_73 => ?_)
    · refine cw_iconst (v := 0) d_Fr_isAbove_80 (by decide) ?_
      refine cw_zret rfl d_Fr_isAbove_81 (by first | exact Or.inl rfl | exact Or.inr rfl | exact b2_01 _) ?_
      exact ⟨by rw [hq]; first | exact b2_0 (decide_eq_false (fun q => absurd (lgc_le.mp c_73) (i64_nle.mpr q))) | exact b2_1 (decide_eq_true (i64_nle.mp (fun q => c_73 (lgc_le.mpr q)))), rfl⟩
    · refine cw_iconst (v := 1) d_Fr_isAbove_76 (by decide) ?_
      refine cw_goto 81 d_Fr_isAbove_77 (by decide) ?_
      refine cw_zret rfl d_Fr_isAbove_81 (by first | exact Or.inl rfl | exact Or.inr rfl | exact b2_01 _) ?_
      exact ⟨by rw [hq]; first | exact b2_0 (decide_eq_false (fun q => absurd (lgc_le.mp c_73) (i64_nle.mpr q))) | exact b2_1 (decide_eq_true (i64_nle.mp (fun q => c_73 (lgc_le.mpr q)))), rfl⟩
  · have hq : abvB (jG M a 0) (jG M a 1) (jG M b 0) (jG M b 1) = _ := if_neg (fun q => c_15 (lgc_eq.mpr q))
    refine cw_lload_n d_Fr_isAbove_18 rfl ?_
    refine cw_lload d_Fr_isAbove_19 rfl ?_
    refine cw_lcmp d_Fr_isAbove_21 ?_
    refine cw_if_le 29 d_Fr_isAbove_22 (by decide) (fun c_22 => ?_) (fun c_22 => ?_)
    · refine cw_iconst (v := 0) d_Fr_isAbove_29 (by decide) ?_
      refine cw_zret rfl d_Fr_isAbove_30 (by first | exact Or.inl rfl | exact Or.inr rfl | exact b2_01 _) ?_
      exact ⟨by rw [hq]; first | exact b2_0 (decide_eq_false (fun q => absurd (lgc_le.mp c_22) (i64_nle.mpr q))) | exact b2_1 (decide_eq_true (i64_nle.mp (fun q => c_22 (lgc_le.mpr q)))), rfl⟩
    · refine cw_iconst (v := 1) d_Fr_isAbove_25 (by decide) ?_
      refine cw_goto 30 d_Fr_isAbove_26 (by decide) ?_
      refine cw_zret rfl d_Fr_isAbove_30 (by first | exact Or.inl rfl | exact Or.inr rfl | exact b2_01 _) ?_
      exact ⟨by rw [hq]; first | exact b2_0 (decide_eq_false (fun q => absurd (lgc_le.mp c_22) (i64_nle.mpr q))) | exact b2_1 (decide_eq_true (i64_nle.mp (fun q => c_22 (lgc_le.mpr q)))), rfl⟩
def absJ (x : Int64) : Int64 := if 0 ≤ x then x else -x
def gcdJ : Nat → Int64 → Int64 → Int64
  | 0, x, _ => x
  | n + 1, x, y => if y = 0 then x else gcdJ n y (x - x / y * y)
def finJ (a b : Int64) (w : Int32) (g : Int64) : Int64 := if g = 0 then (if w = 0 then 0 else 1) else (if w = 0 then a / g else b / g)
set_option maxRecDepth 100000 in
theorem l_Fr_told {M : Mem} {a : Nat} (ha : SO a 0 [fJ, fJ]) {w : Int32}  : ∀ (n i : Nat) (x y : Int64) (o7 : Option Value), i + n = 100 → CW u_Fr_told (pJ (finJ (jG M a 0) (jG M a 1) w (gcdJ n x y)) M) 17 [some (.ref a), some (.int w), some (.long x), none, some (.long y), none, some (.int (nI i)), o7, none] [] M := by
  intro n
  induction n with
  | zero =>
    intro i x y o7 hi
    have hg : gcdJ 0 x y = x := rfl
    rw [hg]
    refine cw_iload d_Fr_told_17 rfl ?_
    refine cw_bipush (v := 100) d_Fr_told_19 (by decide) ?_
    refine cw_icmp_geN (i) (100) 50 rfl rfl (by omega) d_Fr_told_21 (by decide) (fun c_21 => ?_) (fun c_21 => ?_)
    · refine cw_lload_n d_Fr_told_50 rfl ?_
      refine cw_lconst (v := 0) d_Fr_told_51 (by decide) ?_
      refine cw_lcmp d_Fr_told_52 ?_
      refine cw_if_ne 66 d_Fr_told_53 (by decide) (fun c_53 => ?_) (fun c_53 => ?_)
      · have hz : ¬ x = 0 := fun q => c_53 (lgc_eq.mpr q)
        refine cw_iload_n d_Fr_told_66 rfl ?_
        refine cw_if_ne 79 d_Fr_told_67 (by decide) (fun c_67 => ?_) (fun c_67 => ?_)
        · refine cw_aload_n d_Fr_told_79 rfl ?_
          refine cw_getJ fl_Fr_7 ha rfl d_Fr_told_80 ?_
          refine cw_lload_n d_Fr_told_83 rfl ?_
          refine cw_ldiv d_Fr_told_84 hz ?_
          refine cw_lret rfl d_Fr_told_85 ?_
          exact ⟨by unfold finJ; rw [if_neg hz]; first | exact (if_pos c_67).symm | exact (if_neg c_67).symm, rfl⟩
        · refine cw_aload_n d_Fr_told_70 rfl ?_
          refine cw_getJ fl_Fr_13 ha rfl d_Fr_told_71 ?_
          refine cw_lload_n d_Fr_told_74 rfl ?_
          refine cw_ldiv d_Fr_told_75 hz ?_
          refine cw_goto 85 d_Fr_told_76 (by decide) ?_
          refine cw_lret rfl d_Fr_told_85 ?_
          exact ⟨by unfold finJ; rw [if_neg hz]; first | exact (if_pos c_67).symm | exact (if_neg c_67).symm, rfl⟩
      · have hz : x = 0 := lgc_eq.mp c_53
        refine cw_iload_n d_Fr_told_56 rfl ?_
        refine cw_if_ne 64 d_Fr_told_57 (by decide) (fun c_57 => ?_) (fun c_57 => ?_)
        · refine cw_lconst (v := 1) d_Fr_told_64 (by decide) ?_
          refine cw_lret rfl d_Fr_told_65 ?_
          exact ⟨by unfold finJ; rw [if_pos hz]; first | exact (if_pos c_57).symm | exact (if_neg c_57).symm, rfl⟩
        · refine cw_lconst (v := 0) d_Fr_told_60 (by decide) ?_
          refine cw_goto 65 d_Fr_told_61 (by decide) ?_
          refine cw_lret rfl d_Fr_told_65 ?_
          exact ⟨by unfold finJ; rw [if_pos hz]; first | exact (if_pos c_57).symm | exact (if_neg c_57).symm, rfl⟩
    · exact absurd c_21 (by omega)
  | succ n ih =>
    intro i x y o7 hi
    refine cw_iload d_Fr_told_17 rfl ?_
    refine cw_bipush (v := 100) d_Fr_told_19 (by decide) ?_
    refine cw_icmp_geN (i) (100) 50 rfl rfl (by omega) d_Fr_told_21 (by decide) (fun c_21 => ?_) (fun c_21 => ?_)
    · exact absurd c_21 (by omega)
    · refine cw_lload d_Fr_told_24 rfl ?_
      refine cw_lconst (v := 0) d_Fr_told_26 (by decide) ?_
      refine cw_lcmp d_Fr_told_27 ?_
      refine cw_if_eq 50 d_Fr_told_28 (by decide) (fun c_28 => ?_) (fun c_28 => ?_)
      · have hy : y = 0 := lgc_eq.mp c_28
        have hg : gcdJ (n + 1) x y = x := if_pos hy
        rw [hg]
        refine cw_lload_n d_Fr_told_50 rfl ?_
        refine cw_lconst (v := 0) d_Fr_told_51 (by decide) ?_
        refine cw_lcmp d_Fr_told_52 ?_
        refine cw_if_ne 66 d_Fr_told_53 (by decide) (fun c_53 => ?_) (fun c_53 => ?_)
        · have hz : ¬ x = 0 := fun q => c_53 (lgc_eq.mpr q)
          refine cw_iload_n d_Fr_told_66 rfl ?_
          refine cw_if_ne 79 d_Fr_told_67 (by decide) (fun c_67 => ?_) (fun c_67 => ?_)
          · refine cw_aload_n d_Fr_told_79 rfl ?_
            refine cw_getJ fl_Fr_7 ha rfl d_Fr_told_80 ?_
            refine cw_lload_n d_Fr_told_83 rfl ?_
            refine cw_ldiv d_Fr_told_84 hz ?_
            refine cw_lret rfl d_Fr_told_85 ?_
            exact ⟨by unfold finJ; rw [if_neg hz]; first | exact (if_pos c_67).symm | exact (if_neg c_67).symm, rfl⟩
          · refine cw_aload_n d_Fr_told_70 rfl ?_
            refine cw_getJ fl_Fr_13 ha rfl d_Fr_told_71 ?_
            refine cw_lload_n d_Fr_told_74 rfl ?_
            refine cw_ldiv d_Fr_told_75 hz ?_
            refine cw_goto 85 d_Fr_told_76 (by decide) ?_
            refine cw_lret rfl d_Fr_told_85 ?_
            exact ⟨by unfold finJ; rw [if_neg hz]; first | exact (if_pos c_67).symm | exact (if_neg c_67).symm, rfl⟩
        · have hz : x = 0 := lgc_eq.mp c_53
          refine cw_iload_n d_Fr_told_56 rfl ?_
          refine cw_if_ne 64 d_Fr_told_57 (by decide) (fun c_57 => ?_) (fun c_57 => ?_)
          · refine cw_lconst (v := 1) d_Fr_told_64 (by decide) ?_
            refine cw_lret rfl d_Fr_told_65 ?_
            exact ⟨by unfold finJ; rw [if_pos hz]; first | exact (if_pos c_57).symm | exact (if_neg c_57).symm, rfl⟩
          · refine cw_lconst (v := 0) d_Fr_told_60 (by decide) ?_
            refine cw_goto 65 d_Fr_told_61 (by decide) ?_
            refine cw_lret rfl d_Fr_told_65 ?_
            exact ⟨by unfold finJ; rw [if_pos hz]; first | exact (if_pos c_57).symm | exact (if_neg c_57).symm, rfl⟩
      · have hy : ¬ y = 0 := fun q => c_28 (lgc_eq.mpr q)
        have hg : gcdJ (n + 1) x y = gcdJ n y (x - x / y * y) := if_neg hy
        rw [hg]
        refine cw_lload_n d_Fr_told_31 rfl ?_
        refine cw_lload d_Fr_told_32 rfl ?_
        refine cw_lrem d_Fr_told_34 hy ?_
        refine cw_lstore d_Fr_told_35 rfl ?_
        refine cw_lload d_Fr_told_37 rfl ?_
        refine cw_lstore_n d_Fr_told_39 rfl ?_
        refine cw_lload d_Fr_told_40 rfl ?_
        refine cw_lstore d_Fr_told_42 rfl ?_
        refine cw_iincN (x := i) d_Fr_told_44 rfl rfl ?_
        refine cw_goto 17 d_Fr_told_47 (by decide) ?_
        exact ih (i + 1) y (x - x / y * y) _ (by omega)
set_option maxRecDepth 100000 in
theorem s_Fr_told {M : Mem} {a : Nat} (ha : SO a 0 [fJ, fJ]) {w : Int32} : CS u_Fr_told [.ref a, .int w] M (pJ (finJ (jG M a 0) (jG M a 1) w (gcdJ 100 (absJ (jG M a 0)) (jG M a 1))) M) := by
  refine cs_introF (L := [some (.ref a), some (.int w), none, none, none, none, none, none, none]) (by decide +kernel) (fun ad q h => h) (fun ad => Nat.le_of_ble_eq_true rfl) ?_
  refine cw_aload_n d_Fr_told_0 rfl ?_
  refine cw_getJ fl_Fr_13 ha rfl d_Fr_told_1 ?_
  refine cw_staticPJ (s_J_abs_J) rfl ml_Fr_20 rfl rfl d_Fr_told_4 ?_
  refine cw_lstore_n d_Fr_told_7 rfl ?_
  refine cw_aload_n d_Fr_told_8 rfl ?_
  refine cw_getJ fl_Fr_7 ha rfl d_Fr_told_9 ?_
  refine cw_lstore d_Fr_told_12 rfl ?_
  refine cw_iconst (v := 0) d_Fr_told_14 (by decide) ?_
  refine cw_istore d_Fr_told_15 rfl ?_
  exact l_Fr_told ha 100 0 _ _ _ rfl
def wgA (ln mn pl : Nat → Int32) (p : Nat) : Int64 := if ln p = LO then 0 else (pl p - mn p).toInt64 * (ln p - mn p).toInt64
def wgB (ln mn pl : Nat → Int32) (p : Nat) : Int64 := if ln p = LO then 0 else (pl p - mn p).toInt64 * (pl p - mn p).toInt64
def wgX (ln mn pl : Nat → Int32) : Int64 := if sumUpJ (wgA ln mn pl) 8 < 0 ∨ sumUpJ (wgB ln mn pl) 8 = 0 then 0 else sumUpJ (wgA ln mn pl) 8 * sumUpJ (wgA ln mn pl) 8
def wgY (ln mn pl : Nat → Int32) : Int64 := if sumUpJ (wgA ln mn pl) 8 < 0 ∨ sumUpJ (wgB ln mn pl) 8 = 0 then 1 else sumUpJ (wgB ln mn pl) 8
set_option maxRecDepth 100000 in
theorem l_Kn_weigh {M : Mem} {k d h a : Nat} (hk : k < 4) (hd : d < 31) (hh : h < 8) (ha : SO a 0 [fJ, fJ])  : ∀ i, i ≤ 8 → ∀ o9, CW u_Kn_weigh (retV (fun M2 => M2 = jS2 M a (wgX (mG M (300 + d)) (mG M (70 + k)) (mG M (20 + h))) (wgY (mG M (300 + d)) (mG M (70 + k)) (mG M (20 + h))))) 9 [some (.ref (60 + k)), some (.ref (100 + d)), some (.ref (10 + h)), some (.ref a), some (.long (sumUpJ (wgA (mG M (300 + d)) (mG M (70 + k)) (mG M (20 + h))) i)), none, some (.long (sumUpJ (wgB (mG M (300 + d)) (mG M (70 + k)) (mG M (20 + h))) i)), none, some (.int (nI i)), o9, none] [] M := by
  refine up_ind (fun i hi ih o9 => ?_)
  refine cw_iload d_Kn_weigh_9 rfl ?_
  refine cw_bipush (v := 8) d_Kn_weigh_11 (by decide) ?_
  refine cw_icmp_geN (i) (8) 83 rfl rfl (by omega) d_Kn_weigh_13 (by decide) (fun c_13 => ?_) (fun c_13 => ?_)
  · have ei : i = 8 := by omega
    subst ei
    refine cw_lload d_Kn_weigh_83 rfl ?_
    refine cw_lconst (v := 0) d_Kn_weigh_85 (by decide) ?_
    refine cw_lcmp d_Kn_weigh_86 ?_
    refine cw_if_lt 97 d_Kn_weigh_87 (by decide) (fun c_87 => ?_) (fun c_87 => ?_)
    · have hx : wgX (mG M (300 + d)) (mG M (70 + k)) (mG M (20 + h)) = 0 := if_pos (Or.inl (lgc_lt.mp c_87))
      have hy : wgY (mG M (300 + d)) (mG M (70 + k)) (mG M (20 + h)) = 1 := if_pos (Or.inl (lgc_lt.mp c_87))
      refine cw_aload_n d_Kn_weigh_97 rfl ?_
      refine cw_lconst (v := 0) d_Kn_weigh_98 (by decide) ?_
      refine cw_lconst (v := 1) d_Kn_weigh_99 (by decide) ?_
      refine cw_virtV (s_Fr_become ha) rfl ml_Kn_33 ha rfl rfl d_Kn_weigh_100 (fun M_100 q_100 => ?_)
      subst q_100
      refine cw_goto 117 d_Kn_weigh_103 (by decide) ?_
      refine cw_vret rfl d_Kn_weigh_117 ?_
      rw [hx, hy]
    · refine cw_lload d_Kn_weigh_90 rfl ?_
      refine cw_lconst (v := 0) d_Kn_weigh_92 (by decide) ?_
      refine cw_lcmp d_Kn_weigh_93 ?_
      refine cw_if_ne 106 d_Kn_weigh_94 (by decide) (fun c_94 => ?_) (fun c_94 => ?_)
      · have hw : ¬ (sumUpJ (wgA (mG M (300 + d)) (mG M (70 + k)) (mG M (20 + h))) 8 < 0 ∨ sumUpJ (wgB (mG M (300 + d)) (mG M (70 + k)) (mG M (20 + h))) 8 = 0) := fun q => q.elim (fun z => c_87 (lgc_lt.mpr z)) (fun z => c_94 (lgc_eq.mpr z))
        have hx : wgX (mG M (300 + d)) (mG M (70 + k)) (mG M (20 + h)) = _ := if_neg hw
        have hy : wgY (mG M (300 + d)) (mG M (70 + k)) (mG M (20 + h)) = _ := if_neg hw
        refine cw_aload_n d_Kn_weigh_106 rfl ?_
        refine cw_lload d_Kn_weigh_107 rfl ?_
        refine cw_lload d_Kn_weigh_109 rfl ?_
        refine cw_lmul d_Kn_weigh_111 ?_
        refine cw_lload d_Kn_weigh_112 rfl ?_
        refine cw_virtV (s_Fr_become ha) rfl ml_Kn_33 ha rfl rfl d_Kn_weigh_114 (fun M_114 q_114 => ?_)
        subst q_114
        refine cw_vret rfl d_Kn_weigh_117 ?_
        rw [hx, hy]
      · have hx : wgX (mG M (300 + d)) (mG M (70 + k)) (mG M (20 + h)) = 0 := if_pos (Or.inr (lgc_eq.mp c_94))
        have hy : wgY (mG M (300 + d)) (mG M (70 + k)) (mG M (20 + h)) = 1 := if_pos (Or.inr (lgc_eq.mp c_94))
        refine cw_aload_n d_Kn_weigh_97 rfl ?_
        refine cw_lconst (v := 0) d_Kn_weigh_98 (by decide) ?_
        refine cw_lconst (v := 1) d_Kn_weigh_99 (by decide) ?_
        refine cw_virtV (s_Fr_become ha) rfl ml_Kn_33 ha rfl rfl d_Kn_weigh_100 (fun M_100 q_100 => ?_)
        subst q_100
        refine cw_goto 117 d_Kn_weigh_103 (by decide) ?_
        refine cw_vret rfl d_Kn_weigh_117 ?_
        rw [hx, hy]
  · refine cw_aload_n d_Kn_weigh_16 rfl ?_
    refine cw_iload d_Kn_weigh_17 rfl ?_
    refine cw_virtP (s_Sk_has hd (p := i) (by omega)) rfl ml_Kn_19 (so_Sk (d := d) (by omega)) rfl rfl d_Kn_weigh_19 ?_
    refine cw_bif_eq 77 d_Kn_weigh_22 (by decide) (fun c_22 => ?_) (fun c_22 => ?_)
    · have hl := Classical.not_not.mp (of_decide_eq_false c_22)
      refine cw_iincN (x := i) d_Kn_weigh_77 rfl rfl ?_
      refine cw_goto 9 d_Kn_weigh_80 (by decide) ?_
      exact cw_cast (by simp only [lset1, lset2, kl, sumUpJ, wgA, wgB, hl, if_true, if_false, Int64.add_zero]; rfl) rfl rfl (ih c_13 _)
    · have hl := of_decide_eq_true c_22
      refine cw_aload_n d_Kn_weigh_25 rfl ?_
      refine cw_getR fl_Kn_28 (so_He (h := h) (by omega)) rfl d_Kn_weigh_26 ?_
      refine cw_iload d_Kn_weigh_29 rfl ?_
      refine cw_ialdN (i := i) (sa_pl (h := h) (by omega)) rfl (by omega) (by decide) d_Kn_weigh_31 ?_
      refine cw_aload_n d_Kn_weigh_32 rfl ?_
      refine cw_getR fl_Kn_9 (so_Kn (h := k) (by omega)) rfl d_Kn_weigh_33 ?_
      refine cw_iload d_Kn_weigh_36 rfl ?_
      refine cw_ialdN (i := i) (sa_km (h := k) (by omega)) rfl (by omega) (by decide) d_Kn_weigh_38 ?_
      refine cw_isub d_Kn_weigh_39 ?_
      refine cw_i2l d_Kn_weigh_40 ?_
      refine cw_lstore d_Kn_weigh_41 rfl ?_
      refine cw_lload d_Kn_weigh_43 rfl ?_
      refine cw_lload d_Kn_weigh_45 rfl ?_
      refine cw_aload_n d_Kn_weigh_47 rfl ?_
      refine cw_getR fl_Kn_25 (so_Sk (d := d) (by omega)) rfl d_Kn_weigh_48 ?_
      refine cw_iload d_Kn_weigh_51 rfl ?_
      refine cw_ialdN (i := i) (sa_li (d := d) (by omega)) rfl (by omega) (by decide) d_Kn_weigh_53 ?_
      refine cw_aload_n d_Kn_weigh_54 rfl ?_
      refine cw_getR fl_Kn_9 (so_Kn (h := k) (by omega)) rfl d_Kn_weigh_55 ?_
      refine cw_iload d_Kn_weigh_58 rfl ?_
      refine cw_ialdN (i := i) (sa_km (h := k) (by omega)) rfl (by omega) (by decide) d_Kn_weigh_60 ?_
      refine cw_isub d_Kn_weigh_61 ?_
      refine cw_i2l d_Kn_weigh_62 ?_
      refine cw_lmul d_Kn_weigh_63 ?_
      refine cw_ladd d_Kn_weigh_64 ?_
      refine cw_lstore d_Kn_weigh_65 rfl ?_
      refine cw_lload d_Kn_weigh_67 rfl ?_
      refine cw_lload d_Kn_weigh_69 rfl ?_
      refine cw_lload d_Kn_weigh_71 rfl ?_
      refine cw_lmul d_Kn_weigh_73 ?_
      refine cw_ladd d_Kn_weigh_74 ?_
      refine cw_lstore d_Kn_weigh_75 rfl ?_
      refine cw_iincN (x := i) d_Kn_weigh_77 rfl rfl ?_
      refine cw_goto 9 d_Kn_weigh_80 (by decide) ?_
      exact cw_cast (by simp only [lset1, lset2, kl, sumUpJ, wgA, wgB, hl, if_true, if_false, Int64.add_zero]; rfl) rfl rfl (ih c_13 _)
set_option maxRecDepth 100000 in
theorem s_Kn_weigh {M : Mem} {k d h a : Nat} (hk : k < 4) (hd : d < 31) (hh : h < 8) (ha : SO a 0 [fJ, fJ])  : CS u_Kn_weigh [.ref (60 + k), .ref (100 + d), .ref (10 + h), .ref a] M (retV (fun M2 => M2 = jS2 M a (wgX (mG M (300 + d)) (mG M (70 + k)) (mG M (20 + h))) (wgY (mG M (300 + d)) (mG M (70 + k)) (mG M (20 + h))))) := by
  refine cs_introF (L := [some (.ref (60 + k)), some (.ref (100 + d)), some (.ref (10 + h)), some (.ref a), none, none, none, none, none, none, none]) (by decide +kernel) (fun ad q h => h) (fun ad => Nat.le_of_ble_eq_true rfl) ?_
  refine cw_lconst (v := 0) d_Kn_weigh_0 (by decide) ?_
  refine cw_lstore d_Kn_weigh_1 rfl ?_
  refine cw_lconst (v := 0) d_Kn_weigh_3 (by decide) ?_
  refine cw_lstore d_Kn_weigh_4 rfl ?_
  refine cw_iconst (v := 0) d_Kn_weigh_6 (by decide) ?_
  refine cw_istore d_Kn_weigh_7 rfl ?_
  exact l_Kn_weigh hk hd hh ha 0 (by omega) _
