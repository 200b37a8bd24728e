/-! ===== the class: rows and sketches ===== -/
set_option maxRecDepth 100000 in
theorem l_C_fillMean {M : Mem} {σ : Sg} (hR : RC M σ) (hI : Iv σ) {s : Int32} {r : Nat} (hs : setB s σ.1.1 = true) (hr : SA r 8) (hl : ¬ live σ r)  : ∀ i, i ≤ 8 → CW u_C_fillMean (retV (fun M2 => M2 = mRow M r 8 (meanS σ s))) 2 [some (.ref 0), some (.int s), some (.ref r), some (.int (nI i))] [] (mRow M r i (meanS σ s)) := by
  refine up_ind (fun i hi ih => ?_)
  have hR2 : RC (mRow M r i (meanS σ s)) σ := hR.kp hI (mRow_kp hl)
  refine cw_iload_n d_C_fillMean_2 rfl ?_
  refine cw_bipush (v := 8) d_C_fillMean_3 (by decide) ?_
  refine cw_icmp_geN (i) (8) 23 rfl rfl (by omega) d_C_fillMean_5 (by decide) (fun c_5 => ?_) (fun c_5 => ?_)
  · refine cw_vret rfl d_C_fillMean_23 ?_
    have ei : i = 8 := by omega
    subst ei
    rfl
  · refine cw_aload_n d_C_fillMean_8 rfl ?_
    refine cw_iload_n d_C_fillMean_9 rfl ?_
    refine cw_aload_n d_C_fillMean_10 rfl ?_
    refine cw_iload_n d_C_fillMean_11 rfl ?_
    refine cw_iload_n d_C_fillMean_12 rfl ?_
    refine cw_virtP (s_C_meanOf hR2 hI (p := i) (by omega) hs) rfl ml_C_117 so_C rfl rfl d_C_fillMean_13 ?_
    refine cw_iastN (i := i) hr rfl (by omega) (by decide) d_C_fillMean_16 ?_
    refine cw_iincN (x := i) d_C_fillMean_17 rfl rfl ?_
    refine cw_goto 2 d_C_fillMean_20 (by decide) ?_
    exact cw_cast (by simp only [lset1, kl]) rfl mRow_s (ih c_5)
set_option maxRecDepth 100000 in
theorem s_C_fillMean {M : Mem} {σ : Sg} (hR : RC M σ) (hI : Iv σ) {s : Int32} {r : Nat} (hs : setB s σ.1.1 = true) (hr : SA r 8) (hl : ¬ live σ r)  : CS u_C_fillMean [.ref 0, .int s, .ref r] M (retV (fun M2 => M2 = mRow M r 8 (meanS σ s))) := by
  refine cs_introF (L := [some (.ref 0), some (.int s), some (.ref r), none]) (by decide +kernel) (fun ad q h => h) (fun ad => Nat.le_of_ble_eq_true rfl) ?_
  refine cw_iconst (v := 0) d_C_fillMean_0 (by decide) ?_
  refine cw_istore_n d_C_fillMean_1 rfl ?_
  exact cw_mem mRow_0.symm (l_C_fillMean hR hI hs hr hl 0 (by omega))
set_option maxRecDepth 100000 in
theorem s_C_drawnAt {M : Mem} {m pl t : Int32} : CS u_C_drawnAt [.int m, .int pl, .int t] M (pI (drawnS m pl t) M) := by
  refine cs_introF (L := [some (.int m), some (.int pl), some (.int t), none]) (by decide +kernel) (fun ad q h => h) (fun ad => Nat.le_of_ble_eq_true rfl) ?_
  refine cw_iload_n d_C_drawnAt_0 rfl ?_
  refine cw_sipush (v := (-9999)) d_C_drawnAt_1 (by decide) ?_
  refine cw_icmp_eq 14 d_C_drawnAt_4 (by decide) (fun c_4 => ?_) (fun c_4 => ?_)
  · have hq : drawnS m pl t = LO := if_pos (Or.inl c_4)
    refine cw_sipush (v := (-9999)) d_C_drawnAt_14 (by decide) ?_
    refine cw_iret rfl d_C_drawnAt_17 ?_
    exact ⟨hq.symm, rfl⟩
  · refine cw_iload_n d_C_drawnAt_7 rfl ?_
    refine cw_sipush (v := (-9999)) d_C_drawnAt_8 (by decide) ?_
    refine cw_icmp_ne 18 d_C_drawnAt_11 (by decide) (fun c_11 => ?_) (fun c_11 => ?_)
    · have hq : drawnS m pl t = clS (m + (pl - m) * t / 10) := if_neg (fun q => q.elim c_4 c_11)
      refine cw_iload_n d_C_drawnAt_18 rfl ?_
      refine cw_iload_n d_C_drawnAt_19 rfl ?_
      refine cw_iload_n d_C_drawnAt_20 rfl ?_
      refine cw_isub d_C_drawnAt_21 ?_
      refine cw_iload_n d_C_drawnAt_22 rfl ?_
      refine cw_imul d_C_drawnAt_23 ?_
      refine cw_bipush (v := 10) d_C_drawnAt_24 (by decide) ?_
      refine cw_idiv d_C_drawnAt_26 (by decide) ?_
      refine cw_iadd d_C_drawnAt_27 ?_
      refine cw_istore_n d_C_drawnAt_28 rfl ?_
      refine cw_sipush (v := (-7000)) d_C_drawnAt_29 (by decide) ?_
      refine cw_sipush (v := 7000) d_C_drawnAt_32 (by decide) ?_
      refine cw_iload_n d_C_drawnAt_35 rfl ?_
      refine cw_staticP (s_J_min) rfl ml_C_105 rfl rfl d_C_drawnAt_36 ?_
      refine cw_staticP (s_J_max_II) rfl ml_C_340 rfl rfl d_C_drawnAt_39 ?_
      refine cw_iret rfl d_C_drawnAt_42 ?_
      exact ⟨by rw [hq, clS_mm], rfl⟩
    · have hq : drawnS m pl t = LO := if_pos (Or.inr c_11)
      refine cw_sipush (v := (-9999)) d_C_drawnAt_14 (by decide) ?_
      refine cw_iret rfl d_C_drawnAt_17 ?_
      exact ⟨hq.symm, rfl⟩
set_option maxRecDepth 100000 in
theorem l_C_outline {M : Mem} {d r a : Nat} (hd : d < 31) (hr : SA r 8) (ha : a < 4) (hrd : r ≠ 300 + d)  : ∀ i, i ≤ 8 → CW u_C_outline (retV (fun M2 => M2 = mRow M (300 + d) 8 (fun p => drawnS (mG M (200 + d) p) (mG M r p) (mG M (50 + a) p)))) 2 [some (.ref (100 + d)), some (.ref r), some (.ref (30 + a)), some (.int (nI i))] [] (mRow M (300 + d) i (fun p => drawnS (mG M (200 + d) p) (mG M r p) (mG M (50 + a) p))) := by
  refine up_ind (fun i hi ih => ?_)
  refine cw_iload_n d_C_outline_2 rfl ?_
  refine cw_bipush (v := 8) d_C_outline_3 (by decide) ?_
  refine cw_icmp_geN (i) (8) 38 rfl rfl (by omega) d_C_outline_5 (by decide) (fun c_5 => ?_) (fun c_5 => ?_)
  · refine cw_vret rfl d_C_outline_38 ?_
    have ei : i = 8 := by omega
    subst ei
    rfl
  · refine cw_aload_n d_C_outline_8 rfl ?_
    refine cw_getR fl_C_185 (so_Sk (d := d) (by omega)) rfl d_C_outline_9 ?_
    refine cw_iload_n d_C_outline_12 rfl ?_
    refine cw_aload_n d_C_outline_13 rfl ?_
    refine cw_getR fl_C_149 (so_Sk (d := d) (by omega)) rfl d_C_outline_14 ?_
    refine cw_iload_n d_C_outline_17 rfl ?_
    refine cw_ialdN (i := i) (sa_ba (d := d) (by omega)) rfl (by omega) (by decide) d_C_outline_18 ?_
    refine cw_top (mRow_out (by omega)) ?_
    refine cw_aload_n d_C_outline_19 rfl ?_
    refine cw_iload_n d_C_outline_20 rfl ?_
    refine cw_ialdN (i := i) hr rfl (by omega) (by decide) d_C_outline_21 ?_
    refine cw_top (mRow_out (by omega)) ?_
    refine cw_aload_n d_C_outline_22 rfl ?_
    refine cw_getR fl_C_136 (so_Ha (h := a) (by omega)) rfl d_C_outline_23 ?_
    refine cw_iload_n d_C_outline_26 rfl ?_
    refine cw_ialdN (i := i) (sa_tn (h := a) (by omega)) rfl (by omega) (by decide) d_C_outline_27 ?_
    refine cw_top (mRow_out (by omega)) ?_
    refine cw_staticP (s_C_drawnAt) rfl ml_C_139 rfl rfl d_C_outline_28 ?_
    refine cw_iastN (i := i) (sa_li (d := d) (by omega)) rfl (by omega) (by decide) d_C_outline_31 ?_
    refine cw_iincN (x := i) d_C_outline_32 rfl rfl ?_
    refine cw_goto 2 d_C_outline_35 (by decide) ?_
    exact cw_cast (by simp only [lset1, kl]) rfl (mRow_s (f := (fun p => drawnS (mG M (200 + d) p) (mG M r p) (mG M (50 + a) p)))) (ih c_5)
set_option maxRecDepth 100000 in
theorem s_C_outline {M : Mem} {d r a : Nat} (hd : d < 31) (hr : SA r 8) (ha : a < 4) (hrd : r ≠ 300 + d)  : CS u_C_outline [.ref (100 + d), .ref r, .ref (30 + a)] M (retV (fun M2 => M2 = mRow M (300 + d) 8 (fun p => drawnS (mG M (200 + d) p) (mG M r p) (mG M (50 + a) p)))) := by
  refine cs_introF (L := [some (.ref (100 + d)), some (.ref r), some (.ref (30 + a)), none]) (by decide +kernel) (fun ad q h => h) (fun ad => Nat.le_of_ble_eq_true rfl) ?_
  refine cw_iconst (v := 0) d_C_outline_0 (by decide) ?_
  refine cw_istore_n d_C_outline_1 rfl ?_
  exact cw_mem mRow_0.symm (l_C_outline hd hr ha hrd 0 (by omega))
set_option maxRecDepth 100000 in
theorem s_Sk_has {M : Mem} {d p : Nat} (hd : d < 31) (hp : p < 8) : CS u_Sk_has [.ref (100 + d), .int (nI p)] M (pI (b2 (decide (¬ mG M (300 + d) p = LO))) M) := by
  refine cs_introF (L := [some (.ref (100 + d)), some (.int (nI p))]) (by decide +kernel) (fun ad q h => h) (fun ad => Nat.le_of_ble_eq_true rfl) ?_
  refine cw_aload_n d_Sk_has_0 rfl ?_
  refine cw_getR fl_Sk_15 (so_Sk (d := d) (by omega)) rfl d_Sk_has_1 ?_
  refine cw_iload_n d_Sk_has_4 rfl ?_
  refine cw_ialdN (i := p) (sa_li (d := d) (by omega)) rfl (by omega) (by decide) d_Sk_has_5 ?_
  refine cw_sipush (v := (-9999)) d_Sk_has_6 (by decide) ?_
  refine cw_icmp_eq 16 d_Sk_has_9 (by decide) (fun c_9 => ?_) (fun c_9 => ?_)
  · refine cw_iconst (v := 0) d_Sk_has_16 (by decide) ?_
    refine cw_zret rfl d_Sk_has_17 (by first | exact Or.inl rfl | exact Or.inr rfl | exact b2_01 _) ?_
    exact ⟨by first | exact b2_0 (decide_eq_false (fun q => q c_9)) | exact b2_1 (decide_eq_true c_9), rfl⟩
  · refine cw_iconst (v := 1) d_Sk_has_12 (by decide) ?_
    refine cw_goto 17 d_Sk_has_13 (by decide) ?_
    refine cw_zret rfl d_Sk_has_17 (by first | exact Or.inl rfl | exact Or.inr rfl | exact b2_01 _) ?_
    exact ⟨by first | exact b2_0 (decide_eq_false (fun q => q c_9)) | exact b2_1 (decide_eq_true c_9), rfl⟩
set_option maxRecDepth 100000 in
theorem l_Sk_off {M : Mem} {d : Nat} {x : Int32} (hd : d < 31)  : ∀ i, i ≤ 8 → anyUp (offP x (mG M (300 + d)) (mG M (200 + d))) i = false → CW u_Sk_isOffByMoreThan (pI (b2 (offB x (mG M (300 + d)) (mG M (200 + d)))) M) 2 [some (.ref (100 + d)), some (.int x), some (.int (nI i))] [] M := by
  refine up_ind (fun i hi ih ha => ?_)
  refine cw_iload_n d_Sk_isOffByMoreThan_2 rfl ?_
  refine cw_bipush (v := 8) d_Sk_isOffByMoreThan_3 (by decide) ?_
  refine cw_icmp_geN (i) (8) 44 rfl rfl (by omega) d_Sk_isOffByMoreThan_5 (by decide) (fun c_5 => ?_) (fun c_5 => ?_)
  · refine cw_iconst (v := 0) d_Sk_isOffByMoreThan_44 (by decide) ?_
    refine cw_zret rfl d_Sk_isOffByMoreThan_45 (by first | exact Or.inl rfl | exact Or.inr rfl | exact b2_01 _) ?_
    have ei : i = 8 := by omega
    subst ei
    exact ⟨b2_0 ha, rfl⟩
  · refine cw_aload_n d_Sk_isOffByMoreThan_8 rfl ?_
    refine cw_iload_n d_Sk_isOffByMoreThan_9 rfl ?_
    refine cw_virtP (s_Sk_has hd (p := i) (by omega)) rfl ml_Sk_22 (so_Sk (d := d) (by omega)) rfl rfl d_Sk_isOffByMoreThan_10 ?_
    refine cw_bif_eq 38 d_Sk_isOffByMoreThan_13 (by decide) (fun c_13 => ?_) (fun c_13 => ?_)
    · have hf : offP x (mG M (300 + d)) (mG M (200 + d)) i = false := decide_eq_false (fun q => of_decide_eq_false c_13 q.1)
      refine cw_iincN (x := i) d_Sk_isOffByMoreThan_38 rfl rfl ?_
      refine cw_goto 2 d_Sk_isOffByMoreThan_41 (by decide) ?_
      exact cw_cast (by simp only [lset1, kl]) rfl rfl (ih c_5 (by simp only [anyUp, ha, hf, Bool.or_false]))
    · refine cw_aload_n d_Sk_isOffByMoreThan_16 rfl ?_
      refine cw_getR fl_Sk_15 (so_Sk (d := d) (by omega)) rfl d_Sk_isOffByMoreThan_17 ?_
      refine cw_iload_n d_Sk_isOffByMoreThan_20 rfl ?_
      refine cw_ialdN (i := i) (sa_li (d := d) (by omega)) rfl (by omega) (by decide) d_Sk_isOffByMoreThan_21 ?_
      refine cw_aload_n d_Sk_isOffByMoreThan_22 rfl ?_
      refine cw_getR fl_Sk_9 (so_Sk (d := d) (by omega)) rfl d_Sk_isOffByMoreThan_23 ?_
      refine cw_iload_n d_Sk_isOffByMoreThan_26 rfl ?_
      refine cw_ialdN (i := i) (sa_ba (d := d) (by omega)) rfl (by omega) (by decide) d_Sk_isOffByMoreThan_27 ?_
      refine cw_isub d_Sk_isOffByMoreThan_28 ?_
      refine cw_staticP (s_J_abs_I) rfl ml_Sk_26 rfl rfl d_Sk_isOffByMoreThan_29 ?_
      refine cw_iload_n d_Sk_isOffByMoreThan_32 rfl ?_
      refine cw_icmp_le 38 d_Sk_isOffByMoreThan_33 (by decide) (fun c_33 => ?_) (fun c_33 => ?_)
      · have hf : offP x (mG M (300 + d)) (mG M (200 + d)) i = false := decide_eq_false (fun q => absurd c_33 (i32_nle.mpr q.2))
        refine cw_iincN (x := i) d_Sk_isOffByMoreThan_38 rfl rfl ?_
        refine cw_goto 2 d_Sk_isOffByMoreThan_41 (by decide) ?_
        exact cw_cast (by simp only [lset1, kl]) rfl rfl (ih c_5 (by simp only [anyUp, ha, hf, Bool.or_false]))
      · have hf : offP x (mG M (300 + d)) (mG M (200 + d)) i = true := decide_eq_true ⟨of_decide_eq_true c_13, i32_nle.mp c_33⟩
        refine cw_iconst (v := 1) d_Sk_isOffByMoreThan_36 (by decide) ?_
        refine cw_zret rfl d_Sk_isOffByMoreThan_37 (by first | exact Or.inl rfl | exact Or.inr rfl | exact b2_01 _) ?_
        exact ⟨b2_1 (anyUp_t c_5 hf), rfl⟩
set_option maxRecDepth 100000 in
theorem s_Sk_off {M : Mem} {d : Nat} {x : Int32} (hd : d < 31)  : CS u_Sk_isOffByMoreThan [.ref (100 + d), .int x] M (pI (b2 (offB x (mG M (300 + d)) (mG M (200 + d)))) M) := by
  refine cs_introF (L := [some (.ref (100 + d)), some (.int x), none]) (by decide +kernel) (fun ad q h => h) (fun ad => Nat.le_of_ble_eq_true rfl) ?_
  refine cw_iconst (v := 0) d_Sk_isOffByMoreThan_0 (by decide) ?_
  refine cw_istore_n d_Sk_isOffByMoreThan_1 rfl ?_
  exact l_Sk_off hd 0 (by omega) rfl
set_option maxRecDepth 100000 in
theorem l_Sk_dist {M : Mem} {d e : Nat} {x : Int32} (hd : d < 31) (he : e < 31)  : ∀ i, i ≤ 8 → CW u_Sk_distanceTo (pI (distS x (mG M (300 + d)) (mG M (300 + e))) M) 5 [some (.ref (100 + d)), some (.ref (100 + e)), some (.int x), some (.int (sumUp (fun p => distP x (mG M (300 + d) p) (mG M (300 + e) p)) i)), some (.int (nI i))] [] M := by
  refine up_ind (fun i hi ih => ?_)
  refine cw_iload d_Sk_distanceTo_5 rfl ?_
  refine cw_bipush (v := 8) d_Sk_distanceTo_7 (by decide) ?_
  refine cw_icmp_geN (i) (8) 82 rfl rfl (by omega) d_Sk_distanceTo_9 (by decide) (fun c_9 => ?_) (fun c_9 => ?_)
  · refine cw_iload_n d_Sk_distanceTo_82 rfl ?_
    refine cw_iret rfl d_Sk_distanceTo_83 ?_
    have ei : i = 8 := by omega
    subst ei
    exact ⟨rfl, rfl⟩
  · refine cw_aload_n d_Sk_distanceTo_12 rfl ?_
    refine cw_iload d_Sk_distanceTo_13 rfl ?_
    refine cw_virtP (s_Sk_has hd (p := i) (by omega)) rfl ml_Sk_22 (so_Sk (d := d) (by omega)) rfl rfl d_Sk_distanceTo_15 ?_
    refine cw_bif_eq 54 d_Sk_distanceTo_18 (by decide) (fun c_18 => ?_) (fun c_18 => ?_)
    · refine cw_aload_n d_Sk_distanceTo_54 rfl ?_
      refine cw_iload d_Sk_distanceTo_55 rfl ?_
      refine cw_virtP (s_Sk_has hd (p := i) (by omega)) rfl ml_Sk_22 (so_Sk (d := d) (by omega)) rfl rfl d_Sk_distanceTo_57 ?_
      refine cw_bif_ne 72 d_Sk_distanceTo_60 (by decide) (fun c_60 => ?_) (fun c_60 => ?_)
      · refine cw_iload_n d_Sk_distanceTo_72 rfl ?_
        refine cw_iload_n d_Sk_distanceTo_73 rfl ?_
        refine cw_iadd d_Sk_distanceTo_74 ?_
        refine cw_istore_n d_Sk_distanceTo_75 rfl ?_
        refine cw_iincN (x := i) d_Sk_distanceTo_76 rfl rfl ?_
        refine cw_goto 5 d_Sk_distanceTo_79 (by decide) ?_
        exact cw_cast (by clear ih; simp only [lset1, kl, sumUp_s]; simp_all [distP, absS] <;> (intro q; exact absurd q.symm (by assumption))) rfl rfl (ih c_9)
      · refine cw_aload_n d_Sk_distanceTo_63 rfl ?_
        refine cw_iload d_Sk_distanceTo_64 rfl ?_
        refine cw_virtP (s_Sk_has he (p := i) (by omega)) rfl ml_Sk_22 (so_Sk (d := e) (by omega)) rfl rfl d_Sk_distanceTo_66 ?_
        refine cw_bif_eq 76 d_Sk_distanceTo_69 (by decide) (fun c_69 => ?_) (fun c_69 => ?_)
        · refine cw_iincN (x := i) d_Sk_distanceTo_76 rfl rfl ?_
          refine cw_goto 5 d_Sk_distanceTo_79 (by decide) ?_
          exact cw_cast (by clear ih; simp only [lset1, kl, sumUp_s]; simp_all [distP, absS] <;> (intro q; exact absurd q.symm (by assumption))) rfl rfl (ih c_9)
        · refine cw_iload_n d_Sk_distanceTo_72 rfl ?_
          refine cw_iload_n d_Sk_distanceTo_73 rfl ?_
          refine cw_iadd d_Sk_distanceTo_74 ?_
          refine cw_istore_n d_Sk_distanceTo_75 rfl ?_
          refine cw_iincN (x := i) d_Sk_distanceTo_76 rfl rfl ?_
          refine cw_goto 5 d_Sk_distanceTo_79 (by decide) ?_
          exact cw_cast (by clear ih; simp only [lset1, kl, sumUp_s]; simp_all [distP, absS] <;> (intro q; exact absurd q.symm (by assumption))) rfl rfl (ih c_9)
    · refine cw_aload_n d_Sk_distanceTo_21 rfl ?_
      refine cw_iload d_Sk_distanceTo_22 rfl ?_
      refine cw_virtP (s_Sk_has he (p := i) (by omega)) rfl ml_Sk_22 (so_Sk (d := e) (by omega)) rfl rfl d_Sk_distanceTo_24 ?_
      refine cw_bif_eq 54 d_Sk_distanceTo_27 (by decide) (fun c_27 => ?_) (fun c_27 => ?_)
      · refine cw_aload_n d_Sk_distanceTo_54 rfl ?_
        refine cw_iload d_Sk_distanceTo_55 rfl ?_
        refine cw_virtP (s_Sk_has hd (p := i) (by omega)) rfl ml_Sk_22 (so_Sk (d := d) (by omega)) rfl rfl d_Sk_distanceTo_57 ?_
        refine cw_bif_ne 72 d_Sk_distanceTo_60 (by decide) (fun c_60 => ?_) (fun c_60 => ?_)
        · refine cw_iload_n d_Sk_distanceTo_72 rfl ?_
          refine cw_iload_n d_Sk_distanceTo_73 rfl ?_
          refine cw_iadd d_Sk_distanceTo_74 ?_
          refine cw_istore_n d_Sk_distanceTo_75 rfl ?_
          refine cw_iincN (x := i) d_Sk_distanceTo_76 rfl rfl ?_
          refine cw_goto 5 d_Sk_distanceTo_79 (by decide) ?_
          exact cw_cast (by clear ih; simp only [lset1, kl, sumUp_s]; simp_all [distP, absS] <;> (intro q; exact absurd q.symm (by assumption))) rfl rfl (ih c_9)
        · refine cw_aload_n d_Sk_distanceTo_63 rfl ?_
          refine cw_iload d_Sk_distanceTo_64 rfl ?_
          refine cw_virtP (s_Sk_has he (p := i) (by omega)) rfl ml_Sk_22 (so_Sk (d := e) (by omega)) rfl rfl d_Sk_distanceTo_66 ?_
          refine cw_bif_eq 76 d_Sk_distanceTo_69 (by decide) (fun c_69 => ?_) (fun c_69 => ?_)
          · refine cw_iincN (x := i) d_Sk_distanceTo_76 rfl rfl ?_
            refine cw_goto 5 d_Sk_distanceTo_79 (by decide) ?_
            exact cw_cast (by clear ih; simp only [lset1, kl, sumUp_s]; simp_all [distP, absS] <;> (intro q; exact absurd q.symm (by assumption))) rfl rfl (ih c_9)
          · refine cw_iload_n d_Sk_distanceTo_72 rfl ?_
            refine cw_iload_n d_Sk_distanceTo_73 rfl ?_
            refine cw_iadd d_Sk_distanceTo_74 ?_
            refine cw_istore_n d_Sk_distanceTo_75 rfl ?_
            refine cw_iincN (x := i) d_Sk_distanceTo_76 rfl rfl ?_
            refine cw_goto 5 d_Sk_distanceTo_79 (by decide) ?_
            exact cw_cast (by clear ih; simp only [lset1, kl, sumUp_s]; simp_all [distP, absS] <;> (intro q; exact absurd q.symm (by assumption))) rfl rfl (ih c_9)
      · refine cw_iload_n d_Sk_distanceTo_30 rfl ?_
        refine cw_aload_n d_Sk_distanceTo_31 rfl ?_
        refine cw_getR fl_Sk_15 (so_Sk (d := d) (by omega)) rfl d_Sk_distanceTo_32 ?_
        refine cw_iload d_Sk_distanceTo_35 rfl ?_
        refine cw_ialdN (i := i) (sa_li (d := d) (by omega)) rfl (by omega) (by decide) d_Sk_distanceTo_37 ?_
        refine cw_aload_n d_Sk_distanceTo_38 rfl ?_
        refine cw_getR fl_Sk_15 (so_Sk (d := e) (by omega)) rfl d_Sk_distanceTo_39 ?_
        refine cw_iload d_Sk_distanceTo_42 rfl ?_
        refine cw_ialdN (i := i) (sa_li (d := e) (by omega)) rfl (by omega) (by decide) d_Sk_distanceTo_44 ?_
        refine cw_isub d_Sk_distanceTo_45 ?_
        refine cw_staticP (s_J_abs_I) rfl ml_Sk_26 rfl rfl d_Sk_distanceTo_46 ?_
        refine cw_iadd d_Sk_distanceTo_49 ?_
        refine cw_istore_n d_Sk_distanceTo_50 rfl ?_
        refine cw_goto 76 d_Sk_distanceTo_51 (by decide) ?_
        refine cw_iincN (x := i) d_Sk_distanceTo_76 rfl rfl ?_
        refine cw_goto 5 d_Sk_distanceTo_79 (by decide) ?_
        exact cw_cast (by clear ih; simp only [lset1, kl, sumUp_s]; simp_all [distP, absS] <;> (intro q; exact absurd q.symm (by assumption))) rfl rfl (ih c_9)
set_option maxRecDepth 100000 in
theorem s_Sk_dist {M : Mem} {d e : Nat} {x : Int32} (hd : d < 31) (he : e < 31)  : CS u_Sk_distanceTo [.ref (100 + d), .ref (100 + e), .int x] M (pI (distS x (mG M (300 + d)) (mG M (300 + e))) M) := by
  refine cs_introF (L := [some (.ref (100 + d)), some (.ref (100 + e)), some (.int x), none, none]) (by decide +kernel) (fun ad q h => h) (fun ad => Nat.le_of_ble_eq_true rfl) ?_
  refine cw_iconst (v := 0) d_Sk_distanceTo_0 (by decide) ?_
  refine cw_istore_n d_Sk_distanceTo_1 rfl ?_
  refine cw_iconst (v := 0) d_Sk_distanceTo_2 (by decide) ?_
  refine cw_istore d_Sk_distanceTo_3 rfl ?_
  exact l_Sk_dist hd he 0 (by omega)
set_option maxRecDepth 100000 in
theorem l_He_offFrom {M : Mem} {h r : Nat} (hh : h < 8) (hr : SA r 8)  : ∀ i, i ≤ 8 → CW u_He_offFrom (pI (sumUp (fun p => absS (mG M (20 + h) p - mG M r p)) 8) M) 4 [some (.ref (10 + h)), some (.ref r), some (.int (sumUp (fun p => absS (mG M (20 + h) p - mG M r p)) i)), some (.int (nI i))] [] M := by
  refine up_ind (fun i hi ih => ?_)
  refine cw_iload_n d_He_offFrom_4 rfl ?_
  refine cw_bipush (v := 8) d_He_offFrom_5 (by decide) ?_
  refine cw_icmp_geN (i) (8) 32 rfl rfl (by omega) d_He_offFrom_7 (by decide) (fun c_7 => ?_) (fun c_7 => ?_)
  · refine cw_iload_n d_He_offFrom_32 rfl ?_
    refine cw_iret rfl d_He_offFrom_33 ?_
    have ei : i = 8 := by omega
    subst ei
    exact ⟨rfl, rfl⟩
  · refine cw_iload_n d_He_offFrom_10 rfl ?_
    refine cw_aload_n d_He_offFrom_11 rfl ?_
    refine cw_getR fl_He_9 (so_He (h := h) (by omega)) rfl d_He_offFrom_12 ?_
    refine cw_iload_n d_He_offFrom_15 rfl ?_
    refine cw_ialdN (i := i) (sa_pl (h := h) (by omega)) rfl (by omega) (by decide) d_He_offFrom_16 ?_
    refine cw_aload_n d_He_offFrom_17 rfl ?_
    refine cw_iload_n d_He_offFrom_18 rfl ?_
    refine cw_ialdN (i := i) hr rfl (by omega) (by decide) d_He_offFrom_19 ?_
    refine cw_isub d_He_offFrom_20 ?_
    refine cw_staticP (s_J_abs_I) rfl ml_He_21 rfl rfl d_He_offFrom_21 ?_
    refine cw_iadd d_He_offFrom_24 ?_
    refine cw_istore_n d_He_offFrom_25 rfl ?_
    refine cw_iincN (x := i) d_He_offFrom_26 rfl rfl ?_
    refine cw_goto 4 d_He_offFrom_29 (by decide) ?_
    exact ih c_7
set_option maxRecDepth 100000 in
theorem s_He_offFrom {M : Mem} {h r : Nat} (hh : h < 8) (hr : SA r 8)  : CS u_He_offFrom [.ref (10 + h), .ref r] M (pI (sumUp (fun p => absS (mG M (20 + h) p - mG M r p)) 8) M) := by
  refine cs_introF (L := [some (.ref (10 + h)), some (.ref r), none, none]) (by decide +kernel) (fun ad q h => h) (fun ad => Nat.le_of_ble_eq_true rfl) ?_
  refine cw_iconst (v := 0) d_He_offFrom_0 (by decide) ?_
  refine cw_istore_n d_He_offFrom_1 rfl ?_
  refine cw_iconst (v := 0) d_He_offFrom_2 (by decide) ?_
  refine cw_istore_n d_He_offFrom_3 rfl ?_
  exact l_He_offFrom hh hr 0 (by omega)
def oppP (mn pl ten : Nat → Int32) (p : Nat) : Bool := decide (¬ pl p = mn p ∧ ten p < 0)
def kindS (ln mn pl ten : Nat → Int32) : Int32 := if anyUp (fun p => decide (ln p = LO)) 8 then 3 else if anyUp (fun p => decide (¬ ln p = pl p)) 8 = false then 0 else if anyUp (oppP mn pl ten) 8 then 2 else 1
set_option maxRecDepth 100000 in
theorem l_C_kindOf {M : Mem} {d r a : Nat} (hd : d < 31) (hr : SA r 8) (ha : a < 4)  : ∀ i, i ≤ 8 → anyUp (fun p => decide (mG M (300 + d) p = LO)) i = false → CW u_C_kindOf (pI (kindS (mG M (300 + d)) (mG M (200 + d)) (mG M r) (mG M (50 + a))) M) 8 [some (.ref (100 + d)), some (.ref r), some (.ref (30 + a)), some (.int (b2 (!anyUp (fun p => decide (¬ mG M (300 + d) p = mG M r p)) i))), some (.int (b2 (anyUp (oppP (mG M (200 + d)) (mG M r) (mG M (50 + a))) i))), some (.int (nI i))] [] M := by
  refine up_ind (fun i hi ih hz => ?_)
  refine cw_iload d_C_kindOf_8 rfl ?_
  refine cw_bipush (v := 8) d_C_kindOf_10 (by decide) ?_
  refine cw_icmp_geN (i) (8) 75 rfl rfl (by omega) d_C_kindOf_12 (by decide) (fun c_12 => ?_) (fun c_12 => ?_)
  · have ei : i = 8 := by omega
    subst ei
    refine cw_iload_n d_C_kindOf_75 rfl ?_
    refine cw_bif_eq 81 d_C_kindOf_76 (by decide) (fun c_76 => ?_) (fun c_76 => ?_)
    · refine cw_iload d_C_kindOf_81 rfl ?_
      refine cw_bif_eq 90 d_C_kindOf_83 (by decide) (fun c_83 => ?_) (fun c_83 => ?_)
      · refine cw_iconst (v := 1) d_C_kindOf_90 (by decide) ?_
        refine cw_iret rfl d_C_kindOf_91 ?_
        exact ⟨by unfold kindS; rw [if_neg (by rw [hz]; decide), if_neg (by simpa using c_76)]; first | exact (if_pos c_83).symm | exact (if_neg (by rw [c_83]; decide)).symm, rfl⟩
      · refine cw_iconst (v := 2) d_C_kindOf_86 (by decide) ?_
        refine cw_goto 91 d_C_kindOf_87 (by decide) ?_
        refine cw_iret rfl d_C_kindOf_91 ?_
        exact ⟨by unfold kindS; rw [if_neg (by rw [hz]; decide), if_neg (by simpa using c_76)]; first | exact (if_pos c_83).symm | exact (if_neg (by rw [c_83]; decide)).symm, rfl⟩
    · refine cw_iconst (v := 0) d_C_kindOf_79 (by decide) ?_
      refine cw_iret rfl d_C_kindOf_80 ?_
      exact ⟨by unfold kindS; rw [if_neg (by rw [hz]; decide), if_pos (by simpa using c_76)], rfl⟩
  · refine cw_aload_n d_C_kindOf_15 rfl ?_
    refine cw_iload d_C_kindOf_16 rfl ?_
    refine cw_virtP (s_Sk_has hd (p := i) (by omega)) rfl ml_C_267 (so_Sk (d := d) (by omega)) rfl rfl d_C_kindOf_18 ?_
    refine cw_bif_ne 26 d_C_kindOf_21 (by decide) (fun c_21 => ?_) (fun c_21 => ?_)
    · have h4 : anyUp (fun p => decide (mG M (300 + d) p = LO)) (i + 1) = false := by simp only [anyUp, hz, Bool.false_or]; exact decide_eq_false (of_decide_eq_true c_21)
      refine cw_aload_n d_C_kindOf_26 rfl ?_
      refine cw_getR fl_C_185 (so_Sk (d := d) (by omega)) rfl d_C_kindOf_27 ?_
      refine cw_iload d_C_kindOf_30 rfl ?_
      refine cw_ialdN (i := i) (sa_li (d := d) (by omega)) rfl (by omega) (by decide) d_C_kindOf_32 ?_
      refine cw_aload_n d_C_kindOf_33 rfl ?_
      refine cw_iload d_C_kindOf_34 rfl ?_
      refine cw_ialdN (i := i) hr rfl (by omega) (by decide) d_C_kindOf_36 ?_
      refine cw_icmp_eq 42 d_C_kindOf_37 (by decide) (fun c_37 => ?_) (fun c_37 => ?_)
      · have h5 : (!anyUp (fun p => decide (¬ mG M (300 + d) p = mG M r p)) i) = (!anyUp (fun p => decide (¬ mG M (300 + d) p = mG M r p)) (i + 1)) := by simp only [anyUp, decide_eq_false (fun q : ¬ mG M (300 + d) i = mG M r i => q c_37), Bool.or_false]
        refine cw_aload_n d_C_kindOf_42 rfl ?_
        refine cw_iload d_C_kindOf_43 rfl ?_
        refine cw_ialdN (i := i) hr rfl (by omega) (by decide) d_C_kindOf_45 ?_
        refine cw_aload_n d_C_kindOf_46 rfl ?_
        refine cw_getR fl_C_149 (so_Sk (d := d) (by omega)) rfl d_C_kindOf_47 ?_
        refine cw_iload d_C_kindOf_50 rfl ?_
        refine cw_ialdN (i := i) (sa_ba (d := d) (by omega)) rfl (by omega) (by decide) d_C_kindOf_52 ?_
        refine cw_icmp_eq 69 d_C_kindOf_53 (by decide) (fun c_53 => ?_) (fun c_53 => ?_)
        · have h6 : anyUp (oppP (mG M (200 + d)) (mG M r) (mG M (50 + a))) i = anyUp (oppP (mG M (200 + d)) (mG M r) (mG M (50 + a))) (i + 1) := by simp only [anyUp, show (oppP (mG M (200 + d)) (mG M r) (mG M (50 + a))) i = false from decide_eq_false (fun q => q.1 c_53), Bool.or_false]
          refine cw_iincN (x := i) d_C_kindOf_69 rfl rfl ?_
          refine cw_goto 8 d_C_kindOf_72 (by decide) ?_
          refine cw_cast ?_ rfl rfl (ih c_12 h4)
          rw [← h5, ← h6]
          rfl
        · refine cw_aload_n d_C_kindOf_56 rfl ?_
          refine cw_getR fl_C_136 (so_Ha (h := a) (by omega)) rfl d_C_kindOf_57 ?_
          refine cw_iload d_C_kindOf_60 rfl ?_
          refine cw_ialdN (i := i) (sa_tn (h := a) (by omega)) rfl (by omega) (by decide) d_C_kindOf_62 ?_
          refine cw_if_ge 69 d_C_kindOf_63 (by decide) (fun c_63 => ?_) (fun c_63 => ?_)
          · have h6 : anyUp (oppP (mG M (200 + d)) (mG M r) (mG M (50 + a))) i = anyUp (oppP (mG M (200 + d)) (mG M r) (mG M (50 + a))) (i + 1) := by simp only [anyUp, show (oppP (mG M (200 + d)) (mG M r) (mG M (50 + a))) i = false from decide_eq_false (fun q => absurd c_63 (i32_nle.mpr q.2)), Bool.or_false]
            refine cw_iincN (x := i) d_C_kindOf_69 rfl rfl ?_
            refine cw_goto 8 d_C_kindOf_72 (by decide) ?_
            refine cw_cast ?_ rfl rfl (ih c_12 h4)
            rw [← h5, ← h6]
            rfl
          · have h6 : true = anyUp (oppP (mG M (200 + d)) (mG M r) (mG M (50 + a))) (i + 1) := by simp only [anyUp, show (oppP (mG M (200 + d)) (mG M r) (mG M (50 + a))) i = true from decide_eq_true ⟨c_53, i32_nle.mp c_63⟩, Bool.or_true]
            refine cw_iconst (v := 1) d_C_kindOf_66 (by decide) ?_
            refine cw_istore d_C_kindOf_67 rfl ?_
            refine cw_iincN (x := i) d_C_kindOf_69 rfl rfl ?_
            refine cw_goto 8 d_C_kindOf_72 (by decide) ?_
            refine cw_cast ?_ rfl rfl (ih c_12 h4)
            rw [← h5, ← h6]
            rfl
      · have h5 : false = (!anyUp (fun p => decide (¬ mG M (300 + d) p = mG M r p)) (i + 1)) := by simp only [anyUp, decide_eq_true c_37, Bool.or_true, Bool.not_true]
        refine cw_iconst (v := 0) d_C_kindOf_40 (by decide) ?_
        refine cw_istore_n d_C_kindOf_41 rfl ?_
        refine cw_aload_n d_C_kindOf_42 rfl ?_
        refine cw_iload d_C_kindOf_43 rfl ?_
        refine cw_ialdN (i := i) hr rfl (by omega) (by decide) d_C_kindOf_45 ?_
        refine cw_aload_n d_C_kindOf_46 rfl ?_
        refine cw_getR fl_C_149 (so_Sk (d := d) (by omega)) rfl d_C_kindOf_47 ?_
        refine cw_iload d_C_kindOf_50 rfl ?_
        refine cw_ialdN (i := i) (sa_ba (d := d) (by omega)) rfl (by omega) (by decide) d_C_kindOf_52 ?_
        refine cw_icmp_eq 69 d_C_kindOf_53 (by decide) (fun c_53 => ?_) (fun c_53 => ?_)
        · have h6 : anyUp (oppP (mG M (200 + d)) (mG M r) (mG M (50 + a))) i = anyUp (oppP (mG M (200 + d)) (mG M r) (mG M (50 + a))) (i + 1) := by simp only [anyUp, show (oppP (mG M (200 + d)) (mG M r) (mG M (50 + a))) i = false from decide_eq_false (fun q => q.1 c_53), Bool.or_false]
          refine cw_iincN (x := i) d_C_kindOf_69 rfl rfl ?_
          refine cw_goto 8 d_C_kindOf_72 (by decide) ?_
          refine cw_cast ?_ rfl rfl (ih c_12 h4)
          rw [← h5, ← h6]
          rfl
        · refine cw_aload_n d_C_kindOf_56 rfl ?_
          refine cw_getR fl_C_136 (so_Ha (h := a) (by omega)) rfl d_C_kindOf_57 ?_
          refine cw_iload d_C_kindOf_60 rfl ?_
          refine cw_ialdN (i := i) (sa_tn (h := a) (by omega)) rfl (by omega) (by decide) d_C_kindOf_62 ?_
          refine cw_if_ge 69 d_C_kindOf_63 (by decide) (fun c_63 => ?_) (fun c_63 => ?_)
          · have h6 : anyUp (oppP (mG M (200 + d)) (mG M r) (mG M (50 + a))) i = anyUp (oppP (mG M (200 + d)) (mG M r) (mG M (50 + a))) (i + 1) := by simp only [anyUp, show (oppP (mG M (200 + d)) (mG M r) (mG M (50 + a))) i = false from decide_eq_false (fun q => absurd c_63 (i32_nle.mpr q.2)), Bool.or_false]
            refine cw_iincN (x := i) d_C_kindOf_69 rfl rfl ?_
            refine cw_goto 8 d_C_kindOf_72 (by decide) ?_
            refine cw_cast ?_ rfl rfl (ih c_12 h4)
            rw [← h5, ← h6]
            rfl
          · have h6 : true = anyUp (oppP (mG M (200 + d)) (mG M r) (mG M (50 + a))) (i + 1) := by simp only [anyUp, show (oppP (mG M (200 + d)) (mG M r) (mG M (50 + a))) i = true from decide_eq_true ⟨c_53, i32_nle.mp c_63⟩, Bool.or_true]
            refine cw_iconst (v := 1) d_C_kindOf_66 (by decide) ?_
            refine cw_istore d_C_kindOf_67 rfl ?_
            refine cw_iincN (x := i) d_C_kindOf_69 rfl rfl ?_
            refine cw_goto 8 d_C_kindOf_72 (by decide) ?_
            refine cw_cast ?_ rfl rfl (ih c_12 h4)
            rw [← h5, ← h6]
            rfl
    · have h3 : anyUp (fun p => decide (mG M (300 + d) p = LO)) 8 = true := anyUp_t c_12 (decide_eq_true (Classical.not_not.mp (of_decide_eq_false c_21)))
      refine cw_iconst (v := 3) d_C_kindOf_24 (by decide) ?_
      refine cw_iret rfl d_C_kindOf_25 ?_
      exact ⟨(if_pos h3).symm, rfl⟩
set_option maxRecDepth 100000 in
theorem s_C_kindOf {M : Mem} {d r a : Nat} (hd : d < 31) (hr : SA r 8) (ha : a < 4)  : CS u_C_kindOf [.ref (100 + d), .ref r, .ref (30 + a)] M (pI (kindS (mG M (300 + d)) (mG M (200 + d)) (mG M r) (mG M (50 + a))) M) := by
  refine cs_introF (L := [some (.ref (100 + d)), some (.ref r), some (.ref (30 + a)), none, none, none]) (by decide +kernel) (fun ad q h => h) (fun ad => Nat.le_of_ble_eq_true rfl) ?_
  refine cw_iconst (v := 1) d_C_kindOf_0 (by decide) ?_
  refine cw_istore_n d_C_kindOf_1 rfl ?_
  refine cw_iconst (v := 0) d_C_kindOf_2 (by decide) ?_
  refine cw_istore d_C_kindOf_3 rfl ?_
  refine cw_iconst (v := 0) d_C_kindOf_5 (by decide) ?_
  refine cw_istore d_C_kindOf_6 rfl ?_
  exact l_C_kindOf hd hr ha 0 (by omega) rfl
set_option maxRecDepth 100000 in
theorem l_C_monsters {M : Mem} {n : Nat} (hn : mG M 0 6 = nI n) (hn2 : n ≤ 30)  : ∀ i, i ≤ n → CW u_C_monsters (pI (nI (cntUp (fun d => offB (mG M 0 8) (mG M (300 + d)) (mG M (200 + d))) n)) M) 4 [some (.ref 0), some (.int (nI (cntUp (fun d => offB (mG M 0 8) (mG M (300 + d)) (mG M (200 + d))) i))), some (.int (nI i))] [] M := by
  refine up_ind (fun i hi ih => ?_)
  refine cw_iload_n d_C_monsters_4 rfl ?_
  refine cw_aload_n d_C_monsters_5 rfl ?_
  refine cw_getI fl_C_146 so_C rfl d_C_monsters_6 ?_
  refine cw_icmp_geN (i) (n) 37 rfl hn (by omega) d_C_monsters_9 (by decide) (fun c_9 => ?_) (fun c_9 => ?_)
  · refine cw_iload_n d_C_monsters_37 rfl ?_
    refine cw_iret rfl d_C_monsters_38 ?_
    have ei : i = n := by omega
    subst ei
    exact ⟨rfl, rfl⟩
  · refine cw_aload_n d_C_monsters_12 rfl ?_
    refine cw_getR fl_C_23 so_C rfl d_C_monsters_13 ?_
    refine cw_iload_n d_C_monsters_16 rfl ?_
    refine cw_aaldN (i := i) sr_3 rfl (by omega) (by decide) d_C_monsters_17 ?_
    refine cw_aload_n d_C_monsters_18 rfl ?_
    refine cw_getI fl_C_39 so_C rfl d_C_monsters_19 ?_
    refine cw_virtP (s_Sk_off (d := i) (by omega)) rfl ml_C_188 (so_Sk (d := i) (by omega)) rfl rfl d_C_monsters_22 ?_
    refine cw_bif_eq 31 d_C_monsters_25 (by decide) (fun c_25 => ?_) (fun c_25 => ?_)
    · refine cw_iincN (x := i) d_C_monsters_31 rfl rfl ?_
      refine cw_goto 4 d_C_monsters_34 (by decide) ?_
      exact cw_cast (by simp only [lset1, kl, cntUp, c_25, if_true, Bool.false_eq_true, if_false]) rfl rfl (ih c_9)
    · refine cw_iincN (x := cntUp (fun d => offB (mG M 0 8) (mG M (300 + d)) (mG M (200 + d))) i) d_C_monsters_28 rfl rfl ?_
      refine cw_iincN (x := i) d_C_monsters_31 rfl rfl ?_
      refine cw_goto 4 d_C_monsters_34 (by decide) ?_
      exact cw_cast (by simp only [lset1, kl, cntUp, c_25, if_true, Bool.false_eq_true, if_false]) rfl rfl (ih c_9)
set_option maxRecDepth 100000 in
theorem s_C_monsters {M : Mem} {n : Nat} (hn : mG M 0 6 = nI n) (hn2 : n ≤ 30)  : CS u_C_monsters [.ref 0] M (pI (nI (cntUp (fun d => offB (mG M 0 8) (mG M (300 + d)) (mG M (200 + d))) n)) M) := by
  refine cs_introF (L := [some (.ref 0), none, none]) (by decide +kernel) (fun ad q h => h) (fun ad => Nat.le_of_ble_eq_true rfl) ?_
  refine cw_iconst (v := 0) d_C_monsters_0 (by decide) ?_
  refine cw_istore_n d_C_monsters_1 rfl ?_
  refine cw_iconst (v := 0) d_C_monsters_2 (by decide) ?_
  refine cw_istore_n d_C_monsters_3 rfl ?_
  exact l_C_monsters hn hn2 0 (by omega)
set_option maxRecDepth 100000 in
theorem l_J_fill {M : Mem} {a n : Nat} {v : Int32} (ha : SA a n) (hn : n < 1000)  : ∀ i, i ≤ n → CW u_J_fill (retV (fun M2 => M2 = mRow M a n (fun _ => v))) 5 [some (.ref a), some (.int v), some (.int (nI i)), some (.int (nI n))] [] (mRow M a i (fun _ => v)) := by
  refine up_ind (fun i hi ih => ?_)
  refine cw_iload_n d_J_fill_5 rfl ?_
  refine cw_iload_n d_J_fill_6 rfl ?_
  refine cw_icmp_geN (i) (n) 20 rfl rfl (by omega) d_J_fill_7 (by decide) (fun c_7 => ?_) (fun c_7 => ?_)
  · refine cw_vret rfl d_J_fill_20 ?_
    have ei : i = n := by omega
    subst ei
    rfl
  · refine cw_aload_n d_J_fill_10 rfl ?_
    refine cw_iload_n d_J_fill_11 rfl ?_
    refine cw_iload_n d_J_fill_12 rfl ?_
    refine cw_iastN (i := i) ha rfl (by omega) hn d_J_fill_13 ?_
    refine cw_iincN (x := i) d_J_fill_14 rfl rfl ?_
    refine cw_goto 5 d_J_fill_17 (by decide) ?_
    exact cw_cast (by simp only [lset1, kl]) rfl (mRow_s (f := fun _ => v)) (ih c_7)
set_option maxRecDepth 100000 in
theorem s_J_fill {M : Mem} {a n : Nat} {v : Int32} (ha : SA a n) (hn : n < 1000)  : CS u_J_fill [.ref a, .int v] M (retV (fun M2 => M2 = mRow M a n (fun _ => v))) := by
  refine cs_introF (L := [some (.ref a), some (.int v), none, none]) (by decide +kernel) (fun ad q h => h) (fun ad => Nat.le_of_ble_eq_true rfl) ?_
  refine cw_iconst (v := 0) d_J_fill_0 (by decide) ?_
  refine cw_istore_n d_J_fill_1 rfl ?_
  refine cw_aload_n d_J_fill_2 rfl ?_
  refine cw_alen ha d_J_fill_3 ?_
  refine cw_istore_n d_J_fill_4 rfl ?_
  exact cw_mem mRow_0.symm (l_J_fill ha hn 0 (by omega))
