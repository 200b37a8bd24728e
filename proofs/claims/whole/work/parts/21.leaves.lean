/-! ===== the class: leaves ===== -/
theorem b2_0 {b : Bool} (h : b = false) : 0 = b2 b := by rw [h]; rfl
theorem b2_1 {b : Bool} (h : b = true) : 1 = b2 b := by rw [h]; rfl
theorem i0 : (0 : Int32).toInt = 0 := rfl
theorem i1 : (1 : Int32).toInt = 1 := rfl
theorem i8 : (8 : Int32).toInt = 8 := rfl
theorem i60 : (60 : Int32).toInt = 60 := rfl
theorem i99 : (99 : Int32).toInt = 99 := rfl
theorem setB_a {x : Int32} {n : Nat} (h : x ≤ 0) : 0 = b2 (setB x n) := b2_0 (decide_eq_false (by have := i32_le.mp h; have := i0; omega))
theorem setB_b {x y : Int32} {n : Nat} (h : y ≤ x) (hy : y = nI (2 ^ n)) (hn : n ≤ 8) : 0 = b2 (setB x n) := b2_0 (decide_eq_false (by
  have h1 := i32_le.mp h
  have := pow8 hn
  rw [hy, nI_toInt (by omega)] at h1
  omega))
theorem setB_c {x y : Int32} {n : Nat} (h0 : ¬ x ≤ 0) (h : ¬ y ≤ x) (hy : y = nI (2 ^ n)) (hn : n ≤ 8) : 1 = b2 (setB x n) := b2_1 (decide_eq_true (by
  have h1 : ¬ y.toInt ≤ x.toInt := fun q => h (i32_le.mpr q)
  have h2 : ¬ x.toInt ≤ (0 : Int32).toInt := fun q => h0 (i32_le.mpr q)
  have := pow8 hn
  have := i0
  rw [hy, nI_toInt (by omega)] at h1
  omega))
def lastY (σ : Sg) : Int32 := if σ.1.2.1 = 0 then 0 else σ.2 6 (σ.1.2.1 - 1) 0
def lateB (σ : Sg) (y : Int32) : Bool := decide ((lastY σ).toInt ≤ y.toInt ∧ y.toInt ≤ 99)
theorem ixB_p {x y : Int32} {n : Nat} (h : y < x) (hy : y = nI n) (hn : n + 1 < 2 ^ 31) : 0 = b2 (ixB x (n + 1)) := b2_0 (decide_eq_false (by
  have h1 := i32_lt.mp h
  rw [hy, nI_toInt (by omega)] at h1
  omega))
theorem ixB_q {x y : Int32} {n : Nat} (h0 : ¬ x < 0) (h : ¬ y < x) (hy : y = nI n) (hn : n + 1 < 2 ^ 31) : 1 = b2 (ixB x (n + 1)) := b2_1 (decide_eq_true (by
  have h1 : ¬ y.toInt < x.toInt := fun q => h (i32_lt.mpr q)
  have h2 : ¬ x.toInt < (0 : Int32).toInt := fun q => h0 (i32_lt.mpr q)
  have := i0
  rw [hy, nI_toInt (by omega)] at h1
  omega))
set_option maxRecDepth 100000 in
theorem s_C_isPlace {M : Mem} {x : Int32} : CS u_C_isPlace [.int x] M (pI (b2 (ixB x (99 + 1))) M) := by
  refine cs_introF (L := [some (.int x)]) (by decide +kernel) (fun ad q h => h) (fun ad => Nat.le_of_ble_eq_true rfl) ?_
  refine cw_iload_n d_C_isPlace_0 rfl ?_
  refine cw_if_lt 14 d_C_isPlace_1 (by decide) (fun c_1 => ?_) (fun c_1 => ?_)
  · refine cw_iconst (v := 0) d_C_isPlace_14 (by decide) ?_
    refine cw_zret rfl d_C_isPlace_15 (by first | exact Or.inl rfl | exact Or.inr rfl | exact b2_01 _) ?_
    exact ⟨by first | exact (ixB_f (by assumption)).symm | exact ixB_p (by assumption) rfl (by decide) | exact ixB_q (by assumption) (by assumption) rfl (by decide), rfl⟩
  · refine cw_iload_n d_C_isPlace_4 rfl ?_
    refine cw_bipush (v := 99) d_C_isPlace_5 (by decide) ?_
    refine cw_icmp_gt 14 d_C_isPlace_7 (by decide) (fun c_7 => ?_) (fun c_7 => ?_)
    · refine cw_iconst (v := 0) d_C_isPlace_14 (by decide) ?_
      refine cw_zret rfl d_C_isPlace_15 (by first | exact Or.inl rfl | exact Or.inr rfl | exact b2_01 _) ?_
      exact ⟨by first | exact (ixB_f (by assumption)).symm | exact ixB_p (by assumption) rfl (by decide) | exact ixB_q (by assumption) (by assumption) rfl (by decide), rfl⟩
    · refine cw_iconst (v := 1) d_C_isPlace_10 (by decide) ?_
      refine cw_goto 15 d_C_isPlace_11 (by decide) ?_
      refine cw_zret rfl d_C_isPlace_15 (by first | exact Or.inl rfl | exact Or.inr rfl | exact b2_01 _) ?_
      exact ⟨by first | exact (ixB_f (by assumption)).symm | exact ixB_p (by assumption) rfl (by decide) | exact ixB_q (by assumption) (by assumption) rfl (by decide), rfl⟩
set_option maxRecDepth 100000 in
theorem s_C_isForm {M : Mem} {x : Int32} : CS u_C_isForm [.int x] M (pI (b2 (ixB x (2 + 1))) M) := by
  refine cs_introF (L := [some (.int x)]) (by decide +kernel) (fun ad q h => h) (fun ad => Nat.le_of_ble_eq_true rfl) ?_
  refine cw_iload_n d_C_isForm_0 rfl ?_
  refine cw_if_lt 13 d_C_isForm_1 (by decide) (fun c_1 => ?_) (fun c_1 => ?_)
  · refine cw_iconst (v := 0) d_C_isForm_13 (by decide) ?_
    refine cw_zret rfl d_C_isForm_14 (by first | exact Or.inl rfl | exact Or.inr rfl | exact b2_01 _) ?_
    exact ⟨by first | exact (ixB_f (by assumption)).symm | exact ixB_p (by assumption) rfl (by decide) | exact ixB_q (by assumption) (by assumption) rfl (by decide), rfl⟩
  · refine cw_iload_n d_C_isForm_4 rfl ?_
    refine cw_iconst (v := 2) d_C_isForm_5 (by decide) ?_
    refine cw_icmp_gt 13 d_C_isForm_6 (by decide) (fun c_6 => ?_) (fun c_6 => ?_)
    · refine cw_iconst (v := 0) d_C_isForm_13 (by decide) ?_
      refine cw_zret rfl d_C_isForm_14 (by first | exact Or.inl rfl | exact Or.inr rfl | exact b2_01 _) ?_
      exact ⟨by first | exact (ixB_f (by assumption)).symm | exact ixB_p (by assumption) rfl (by decide) | exact ixB_q (by assumption) (by assumption) rfl (by decide), rfl⟩
    · refine cw_iconst (v := 1) d_C_isForm_9 (by decide) ?_
      refine cw_goto 14 d_C_isForm_10 (by decide) ?_
      refine cw_zret rfl d_C_isForm_14 (by first | exact Or.inl rfl | exact Or.inr rfl | exact b2_01 _) ?_
      exact ⟨by first | exact (ixB_f (by assumption)).symm | exact ixB_p (by assumption) rfl (by decide) | exact ixB_q (by assumption) (by assumption) rfl (by decide), rfl⟩
set_option maxRecDepth 100000 in
theorem s_C_isSet {M : Mem} {σ : Sg} (hR : RC M σ) (hI : Iv σ) {x : Int32} : CS u_C_isSet [.ref 0, .int x] M (pI (b2 (setB x σ.1.1)) M) := by
  have hs : (1 : Int32) <<< (mG M 0 5 &&& 31) = nI (2 ^ σ.1.1) := by rw [hR.n1]; exact shl1 _ hI.1
  refine cs_introF (L := [some (.ref 0), some (.int x)]) (by decide +kernel) (fun ad q h => h) (fun ad => Nat.le_of_ble_eq_true rfl) ?_
  refine cw_iload_n d_C_isSet_0 rfl ?_
  refine cw_if_le 18 d_C_isSet_1 (by decide) (fun c_1 => ?_) (fun c_1 => ?_)
  · refine cw_iconst (v := 0) d_C_isSet_18 (by decide) ?_
    refine cw_zret rfl d_C_isSet_19 (by first | exact Or.inl rfl | exact Or.inr rfl | exact b2_01 _) ?_
    exact ⟨by first | exact setB_a (by assumption) | exact setB_b (by assumption) hs hI.1 | exact setB_c (by assumption) (by assumption) hs hI.1, rfl⟩
  · refine cw_iload_n d_C_isSet_4 rfl ?_
    refine cw_iconst (v := 1) d_C_isSet_5 (by decide) ?_
    refine cw_aload_n d_C_isSet_6 rfl ?_
    refine cw_getI fl_C_75 so_C rfl d_C_isSet_7 ?_
    refine cw_ishl d_C_isSet_10 ?_
    refine cw_icmp_ge 18 d_C_isSet_11 (by decide) (fun c_11 => ?_) (fun c_11 => ?_)
    · refine cw_iconst (v := 0) d_C_isSet_18 (by decide) ?_
      refine cw_zret rfl d_C_isSet_19 (by first | exact Or.inl rfl | exact Or.inr rfl | exact b2_01 _) ?_
      exact ⟨by first | exact setB_a (by assumption) | exact setB_b (by assumption) hs hI.1 | exact setB_c (by assumption) (by assumption) hs hI.1, rfl⟩
    · refine cw_iconst (v := 1) d_C_isSet_14 (by decide) ?_
      refine cw_goto 19 d_C_isSet_15 (by decide) ?_
      refine cw_zret rfl d_C_isSet_19 (by first | exact Or.inl rfl | exact Or.inr rfl | exact b2_01 _) ?_
      exact ⟨by first | exact setB_a (by assumption) | exact setB_b (by assumption) hs hI.1 | exact setB_c (by assumption) (by assumption) hs hI.1, rfl⟩
set_option maxRecDepth 100000 in
theorem s_C_isNextYear {M : Mem} {σ : Sg} (hR : RC M σ) (hI : Iv σ) {x : Int32} : CS u_C_isNextYear [.ref 0, .int x] M (pI (b2 (lateB σ x)) M) := by
  obtain ⟨hn1, hn2, hn3⟩ := hI.n
  refine cs_introF (L := [some (.ref 0), some (.int x), none]) (by decide +kernel) (fun ad q h => h) (fun ad => Nat.le_of_ble_eq_true rfl) ?_
  refine cw_aload_n d_C_isNextYear_0 rfl ?_
  refine cw_getI fl_C_146 so_C rfl d_C_isNextYear_1 ?_
  refine cw_tern1 25 (lastY σ) ?_ (fun k_4 => ?_)
  · refine cw_istore_n d_C_isNextYear_25 rfl ?_
    refine cw_iload_n d_C_isNextYear_26 rfl ?_
    refine cw_iload_n d_C_isNextYear_27 rfl ?_
    refine cw_icmp_lt 41 d_C_isNextYear_28 (by decide) (fun c_28 => ?_) (fun c_28 => ?_)
    · refine cw_iconst (v := 0) d_C_isNextYear_41 (by decide) ?_
      refine cw_zret rfl d_C_isNextYear_42 (by first | exact Or.inl rfl | exact Or.inr rfl | exact b2_01 _) ?_
      exact ⟨by first
        | exact b2_0 (decide_eq_false (by have := i32_lt.mp c_28; omega))
        | exact b2_0 (decide_eq_false (by have := i32_lt.mp c_34; have := i99; omega))
        | exact b2_1 (decide_eq_true ⟨by have := i32_nlt.mp c_28; exact i32_le.mp this, by have := i32_le.mp (i32_nlt.mp c_34); have := i99; omega⟩), rfl⟩
    · refine cw_iload_n d_C_isNextYear_31 rfl ?_
      refine cw_bipush (v := 99) d_C_isNextYear_32 (by decide) ?_
      refine cw_icmp_gt 41 d_C_isNextYear_34 (by decide) (fun c_34 => ?_) (fun c_34 => ?_)
      · refine cw_iconst (v := 0) d_C_isNextYear_41 (by decide) ?_
        refine cw_zret rfl d_C_isNextYear_42 (by first | exact Or.inl rfl | exact Or.inr rfl | exact b2_01 _) ?_
        exact ⟨by first
          | exact b2_0 (decide_eq_false (by have := i32_lt.mp c_28; omega))
          | exact b2_0 (decide_eq_false (by have := i32_lt.mp c_34; have := i99; omega))
          | exact b2_1 (decide_eq_true ⟨by have := i32_nlt.mp c_28; exact i32_le.mp this, by have := i32_le.mp (i32_nlt.mp c_34); have := i99; omega⟩), rfl⟩
      · refine cw_iconst (v := 1) d_C_isNextYear_37 (by decide) ?_
        refine cw_goto 42 d_C_isNextYear_38 (by decide) ?_
        refine cw_zret rfl d_C_isNextYear_42 (by first | exact Or.inl rfl | exact Or.inr rfl | exact b2_01 _) ?_
        exact ⟨by first
          | exact b2_0 (decide_eq_false (by have := i32_lt.mp c_28; omega))
          | exact b2_0 (decide_eq_false (by have := i32_lt.mp c_34; have := i99; omega))
          | exact b2_1 (decide_eq_true ⟨by have := i32_nlt.mp c_28; exact i32_le.mp this, by have := i32_le.mp (i32_nlt.mp c_34); have := i99; omega⟩), rfl⟩
  · refine cw_if_le 24 d_C_isNextYear_4 (by decide) (fun c_4 => ?_) (fun c_4 => ?_)
    · have k_v : (0 : Int32) = lastY σ := (if_pos (by rw [hR.n2] at c_4; exact Nat.eq_zero_of_not_pos (fun q => nI_nle q (by omega) c_4))).symm
      refine cw_iconst (v := 0) d_C_isNextYear_24 (by decide) ?_
      exact k_4 _ (by assumption)
    · have hz : ¬ σ.1.2.1 = 0 := fun q => c_4 (by rw [hR.n2, q]; exact Int32.le_refl 0)
      have k_v : mG M (100 + (σ.1.2.1 - 1)) 3 = lastY σ := by rw [hR.dy (by omega)]; exact (if_neg hz).symm
      refine cw_aload_n d_C_isNextYear_7 rfl ?_
      refine cw_getR fl_C_23 so_C rfl d_C_isNextYear_8 ?_
      refine cw_aload_n d_C_isNextYear_11 rfl ?_
      refine cw_getI fl_C_146 so_C rfl d_C_isNextYear_12 ?_
      refine cw_iconst (v := 1) d_C_isNextYear_15 (by decide) ?_
      refine cw_isub d_C_isNextYear_16 ?_
      refine cw_aaldN (i := σ.1.2.1 - 1) sr_3 (nSub hR.n2 rfl (by omega)) (by omega) (by decide) d_C_isNextYear_17 ?_
      refine cw_getI fl_C_163 (so_Sk (d := σ.1.2.1 - 1) (by omega)) rfl d_C_isNextYear_18 ?_
      refine cw_goto 25 d_C_isNextYear_21 (by decide) ?_
      exact k_4 _ (by assumption)
set_option maxRecDepth 100000 in
theorem s_C_found {M : Mem} {x : Int32} : CS u_C_found [.ref 0, .int x] M (retI (fun r M2 => r = -10 - x ∧ M2 = mS M 0 11 x)) := by
  refine cs_introF (L := [some (.ref 0), some (.int x)]) (by decide +kernel) (fun ad q h => h) (fun ad => Nat.le_of_ble_eq_true rfl) ?_
  refine cw_aload_n d_C_found_0 rfl ?_
  refine cw_iload_n d_C_found_1 rfl ?_
  refine cw_putI fp_C_313 so_C rfl d_C_found_2 ?_
  refine cw_bipush (v := (-10)) d_C_found_5 (by decide) ?_
  refine cw_iload_n d_C_found_7 rfl ?_
  refine cw_isub d_C_found_8 ?_
  refine cw_iret rfl d_C_found_9 ?_
  exact ⟨rfl, rfl⟩
theorem nI_add1 (a : Nat) : nI a + Int32.ofInt 1 = nI (a + 1) := nI_1 a
set_option maxRecDepth 100000 in
theorem l_C_meanOf {M : Mem} {s : Int32} {n p : Nat} (hn : mG M 0 5 = nI n) (hn8 : n ≤ 8) (hp : p < 8) (hc : 0 < cntUp (bit s) n)  : ∀ i, i ≤ n → CW u_C_meanOf (pI (sumUp (fun h => if bit s h then mG M (20 + h) p else 0) n / nI (cntUp (bit s) n)) M) 8 [some (.ref 0), some (.int s), some (.int (nI p)), some (.int (sumUp (fun h => if bit s h then mG M (20 + h) p else 0) i)), some (.int (nI (cntUp (bit s) i))), some (.int (nI i))] [] M := by
  refine up_ind (fun i hi ih => ?_)
  have hcl := cntUp_le (bit s) n
  refine cw_iload d_C_meanOf_8 rfl ?_
  refine cw_aload_n d_C_meanOf_10 rfl ?_
  refine cw_getI fl_C_75 so_C rfl d_C_meanOf_11 ?_
  refine cw_icmp_geN (i) (n) 51 rfl hn (by omega) d_C_meanOf_14 (by decide) (fun c_14 => ?_) (fun c_14 => ?_)
  · have ei : i = n := by omega
    subst ei
    refine cw_iload d_C_meanOf_51 rfl ?_
    refine cw_if_ne 60 d_C_meanOf_53 (by decide) (fun c_53 => ?_) (fun c_53 => ?_)
    · refine cw_iload_n d_C_meanOf_60 rfl ?_
      refine cw_iload d_C_meanOf_61 rfl ?_
      refine cw_idiv d_C_meanOf_63 (by assumption) ?_
      refine cw_iret rfl d_C_meanOf_64 ?_
      first
        | exact ⟨rfl, rfl⟩
        | exact absurd (by assumption) (nI_ne0 hc (by omega))
    · refine cw_iconst (v := 0) d_C_meanOf_56 (by decide) ?_
      refine cw_goto 64 d_C_meanOf_57 (by decide) ?_
      refine cw_iret rfl d_C_meanOf_64 ?_
      first
        | exact ⟨rfl, rfl⟩
        | exact absurd (by assumption) (nI_ne0 hc (by omega))
  · refine cw_iload_n d_C_meanOf_17 rfl ?_
    refine cw_iload d_C_meanOf_18 rfl ?_
    refine cw_ishr d_C_meanOf_20 ?_
    refine cw_iconst (v := 1) d_C_meanOf_21 (by decide) ?_
    refine cw_iand d_C_meanOf_22 ?_
    refine cw_iconst (v := 1) d_C_meanOf_23 (by decide) ?_
    refine cw_icmp_ne 45 d_C_meanOf_24 (by decide) (fun c_24 => ?_) (fun c_24 => ?_)
    · have hbit : bit s i = false := decide_eq_false c_24
      refine cw_iincN (x := i) d_C_meanOf_45 rfl rfl ?_
      refine cw_goto 8 d_C_meanOf_48 (by decide) ?_
      exact cw_cast (by simp only [lset1, kl, sumUp_s, cntUp, hbit, if_true, Bool.false_eq_true, if_false, Int32.add_zero]) rfl rfl (ih c_14)
    · have hbit : bit s i = true := decide_eq_true c_24
      refine cw_iload_n d_C_meanOf_27 rfl ?_
      refine cw_aload_n d_C_meanOf_28 rfl ?_
      refine cw_getR fl_C_11 so_C rfl d_C_meanOf_29 ?_
      refine cw_iload d_C_meanOf_32 rfl ?_
      refine cw_aaldN (i := i) sr_1 rfl (by omega) (by decide) d_C_meanOf_34 ?_
      refine cw_getR fl_C_88 (so_He (h := i) (by omega)) rfl d_C_meanOf_35 ?_
      refine cw_iload_n d_C_meanOf_38 rfl ?_
      refine cw_ialdN (i := p) (sa_pl (h := i) (by omega)) rfl (by omega) (by decide) d_C_meanOf_39 ?_
      refine cw_iadd d_C_meanOf_40 ?_
      refine cw_istore_n d_C_meanOf_41 rfl ?_
      refine cw_iincN (x := cntUp (bit s) i) d_C_meanOf_42 rfl rfl ?_
      refine cw_iincN (x := i) d_C_meanOf_45 rfl rfl ?_
      refine cw_goto 8 d_C_meanOf_48 (by decide) ?_
      exact cw_cast (by simp only [lset1, kl, sumUp_s, cntUp, hbit, if_true, Bool.false_eq_true, if_false, Int32.add_zero]) rfl rfl (ih c_14)
set_option maxRecDepth 100000 in
theorem s_C_meanOf0 {M : Mem} {s : Int32} {n p : Nat} (hn : mG M 0 5 = nI n) (hn8 : n ≤ 8) (hp : p < 8) (hc : 0 < cntUp (bit s) n)  : CS u_C_meanOf [.ref 0, .int s, .int (nI p)] M (pI (sumUp (fun h => if bit s h then mG M (20 + h) p else 0) n / nI (cntUp (bit s) n)) M) := by
  refine cs_introF (L := [some (.ref 0), some (.int s), some (.int (nI p)), none, none, none]) (by decide +kernel) (fun ad q h => h) (fun ad => Nat.le_of_ble_eq_true rfl) ?_
  refine cw_iconst (v := 0) d_C_meanOf_0 (by decide) ?_
  refine cw_istore_n d_C_meanOf_1 rfl ?_
  refine cw_iconst (v := 0) d_C_meanOf_2 (by decide) ?_
  refine cw_istore d_C_meanOf_3 rfl ?_
  refine cw_iconst (v := 0) d_C_meanOf_5 (by decide) ?_
  refine cw_istore d_C_meanOf_6 rfl ?_
  exact l_C_meanOf hn hn8 hp hc 0 (Nat.zero_le n)
theorem s_C_meanOf {M : Mem} {σ : Sg} (hR : RC M σ) (hI : Iv σ) {s : Int32} {p : Nat} (hp : p < 8) (hs : setB s σ.1.1 = true) : CS u_C_meanOf [.ref 0, .int s, .int (nI p)] M (pI (meanS σ s p) M) := by
  have h := s_C_meanOf0 (M := M) (s := s) (p := p) hR.n1 hI.1 hp (cnt_pos hI.1 hs)
  have e : sumUp (fun h => if bit s h then mG M (20 + h) p else 0) σ.1.1 = sumUp (fun h => if bit s h then σ.2 1 h p else 0) σ.1.1 := sumUp_congr (fun i hi => by
    have := hI.1
    rw [hR.pl (by omega) hp])
  rw [e] at h
  exact h
