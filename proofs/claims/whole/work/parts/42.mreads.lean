/-! ===== the reference reads a hand ===== -/
theorem cs_post {u : MI} {As : List Value} {M : Mem} {post post' : Option Value → Mem → Prop} (h : ∀ v M2, post v M2 → post' v M2) (k : CS u As M post) : CS u As M post' := by
  intro l D dA ad
  have hk := k l D dA ad
  intro p e ha hc hkk s m args below hf happ hP hK
  obtain ⟨t, o, a1, b1, b2, ⟨⟨v, M2, q1, q2, q3⟩, q4⟩, q5⟩ := hk p e ha hc hkk s m args below hf happ hP hK
  exact ⟨t, o, a1, b1, b2, ⟨⟨v, M2, q1, h v M2 q2, q3⟩, q4⟩, q5⟩
def finM (M : Mem) (i : Nat) (f : Nat → Int32) : Mem := mS (mRow M 1011 8 f) 1000 9 (nI i)
theorem finM_s {M : Mem} {i k : Nat} {f : Nat → Int32} : mS (finM M i f) 1000 9 (nI k) = finM M k f := by
  unfold finM mS
  apply Prod.ext
  · funext a b
    by_cases q : a = 1000 ∧ b = 9
    · simp only [if_pos q]
    · simp only [if_neg q]
  · rfl
theorem finM_r {M : Mem} {i : Nat} {f g : Nat → Int32} : mRow (finM M i f) 1011 8 g = finM M i g := by
  unfold finM mS mRow
  apply Prod.ext
  · funext k j
    by_cases q : k = 1011 ∧ j < 8
    · have : ¬ (k = 1000 ∧ j = 9) := by omega
      simp only [if_pos q, if_neg this]
    · simp only [if_neg q]
  · rfl
theorem finM_a {M : Mem} {i : Nat} {f : Nat → Int32} : mG (finM M i f) 1000 9 = nI i := mS_at
theorem finM_t {M : Mem} {i p : Nat} {f : Nat → Int32} (h : p < 8) : mG (finM M i f) 1011 p = f p := (mS_k (by omega)).trans (mRow_in h)
theorem finM_kq {M : Mem} {i : Nat} {f : Nat → Int32} : kq M (finM M i f) := (mRow_kq (fun j => by unfold scM; omega)).tr (mS_kq (by unfold scM; omega))
theorem finM_c {M : Mem} {i : Nat} {f g : Nat → Int32} (h : ∀ p, p < 8 → f p = g p) : finM M i f = finM M i g := by
  unfold finM
  rw [mRow_congr h]
set_option maxRecDepth 100000 in
theorem s_M_drawnBy {M : Mem} {pl m t : Int32} : CS u_M_drawnBy [.int pl, .int m, .int t] M (pI (drawnS m pl t) M) := by
  refine cs_introF (L := [some (.int pl), some (.int m), some (.int t), none]) (by decide +kernel) (fun ad q h => h) (fun ad => Nat.le_of_ble_eq_true rfl) ?_
  refine cw_iload_n d_M_drawnBy_0 rfl ?_
  refine cw_sipush (v := (-9999)) d_M_drawnBy_1 (by decide) ?_
  refine cw_icmp_eq 14 d_M_drawnBy_4 (by decide) (fun c_4 => ?_) (fun c_4 => ?_)
  · have hq : drawnS m pl t = LO := if_pos (Or.inl c_4)
    refine cw_sipush (v := (-9999)) d_M_drawnBy_14 (by decide) ?_
    refine cw_iret rfl d_M_drawnBy_17 ?_
    exact ⟨hq.symm, rfl⟩
  · refine cw_iload_n d_M_drawnBy_7 rfl ?_
    refine cw_sipush (v := (-9999)) d_M_drawnBy_8 (by decide) ?_
    refine cw_icmp_ne 18 d_M_drawnBy_11 (by decide) (fun c_11 => ?_) (fun c_11 => ?_)
    · have hq : drawnS m pl t = clS (m + (pl - m) * t / 10) := if_neg (fun q => q.elim c_4 c_11)
      refine cw_iload_n d_M_drawnBy_18 rfl ?_
      refine cw_iload_n d_M_drawnBy_19 rfl ?_
      refine cw_iload_n d_M_drawnBy_20 rfl ?_
      refine cw_isub d_M_drawnBy_21 ?_
      refine cw_iload_n d_M_drawnBy_22 rfl ?_
      refine cw_imul d_M_drawnBy_23 ?_
      refine cw_bipush (v := 10) d_M_drawnBy_24 (by decide) ?_
      refine cw_idiv d_M_drawnBy_26 (by decide) ?_
      refine cw_iadd d_M_drawnBy_27 ?_
      refine cw_istore_n d_M_drawnBy_28 rfl ?_
      refine cw_iload_n d_M_drawnBy_29 rfl ?_
      refine cw_sipush (v := 7000) d_M_drawnBy_30 (by decide) ?_
      refine cw_icmp_le 42 d_M_drawnBy_33 (by decide) (fun c_33 => ?_) (fun c_33 => ?_)
      · refine cw_iload_n d_M_drawnBy_42 rfl ?_
        refine cw_sipush (v := (-7000)) d_M_drawnBy_43 (by decide) ?_
        refine cw_icmp_ge 55 d_M_drawnBy_46 (by decide) (fun c_46 => ?_) (fun c_46 => ?_)
        · refine cw_iload_n d_M_drawnBy_55 rfl ?_
          refine cw_iret rfl d_M_drawnBy_56 ?_
          exact ⟨by rw [hq]; unfold clS; rw [if_neg (i32_nlt.mpr c_33)]; first | exact (if_neg (i32_nlt.mpr c_46)).symm | exact (if_pos (i32_nle.mp c_46)).symm, rfl⟩
        · refine cw_sipush (v := (-7000)) d_M_drawnBy_49 (by decide) ?_
          refine cw_goto 56 d_M_drawnBy_52 (by decide) ?_
          refine cw_iret rfl d_M_drawnBy_56 ?_
          exact ⟨by rw [hq]; unfold clS; rw [if_neg (i32_nlt.mpr c_33)]; first | exact (if_neg (i32_nlt.mpr c_46)).symm | exact (if_pos (i32_nle.mp c_46)).symm, rfl⟩
      · refine cw_sipush (v := 7000) d_M_drawnBy_36 (by decide) ?_
        refine cw_goto 56 d_M_drawnBy_39 (by decide) ?_
        refine cw_iret rfl d_M_drawnBy_56 ?_
        exact ⟨by rw [hq]; unfold clS; exact (if_pos (i32_nle.mp c_33)).symm, rfl⟩
    · have hq : drawnS m pl t = LO := if_pos (Or.inr c_11)
      refine cw_sipush (v := (-9999)) d_M_drawnBy_14 (by decide) ?_
      refine cw_iret rfl d_M_drawnBy_17 ?_
      exact ⟨hq.symm, rfl⟩
set_option maxRecDepth 100000 in
theorem s_M_here {M : Mem} {σ : Sg} (hR : RM M σ) (hI : Iv σ) {a : Nat} (ha : a < 4) {i : Nat} {f : Nat → Int32} (hi : i < 100) : CS u_M_here [.ref 1000, .int (nI a)] (finM M i f) (pI (txB (σ.2 2 a) (hLen σ a) i) (finM M i f)) := by
  obtain ⟨hL1, hL2⟩ := hLen_ok hI a
  have hR1 : RM (finM M i f) σ := RM_kq hR finM_kq
  have hty := (hR1.ty ha).trans hL1
  refine cs_introF (L := [some (.ref 1000), some (.int (nI a))]) (by decide +kernel) (fun ad q h => h) (fun ad => Nat.le_of_ble_eq_true rfl) ?_
  refine cw_aload_n d_M_here_0 rfl ?_
  refine cw_getI fl_M_125 so_M rfl d_M_here_1 ?_
  refine cw_aload_n d_M_here_4 rfl ?_
  refine cw_getR fl_M_28 so_M rfl d_M_here_5 ?_
  refine cw_iload_n d_M_here_8 rfl ?_
  refine cw_ialdN (i := a) sm_typed rfl (by omega) (by decide) d_M_here_9 ?_
  refine cw_icmp_geN (i) (hLen σ a) 30 finM_a hty (by omega) d_M_here_10 (by decide) (fun c_10 => ?_) (fun c_10 => ?_)
  · refine cw_iconst (v := (-1)) d_M_here_30 (by decide) ?_
    refine cw_iret rfl d_M_here_31 ?_
    exact ⟨by first | exact (if_neg (by omega)).symm | exact (hR1.tx ha (by omega)).trans (if_pos (by omega)).symm, rfl⟩
  · refine cw_aload_n d_M_here_13 rfl ?_
    refine cw_getR fl_M_25 so_M rfl d_M_here_14 ?_
    refine cw_bipush (v := 40) d_M_here_17 (by decide) ?_
    refine cw_iload_n d_M_here_19 rfl ?_
    refine cw_imul d_M_here_20 ?_
    refine cw_aload_n d_M_here_21 rfl ?_
    refine cw_getI fl_M_125 so_M rfl d_M_here_22 ?_
    refine cw_iadd d_M_here_25 ?_
    refine cw_ialdN (i := (40 * a) + i) sm_text (nAdd (nMul rfl rfl) finM_a) (by omega) (by decide) d_M_here_26 ?_
    refine cw_goto 31 d_M_here_27 (by decide) ?_
    refine cw_iret rfl d_M_here_31 ?_
    exact ⟨by first | exact (if_neg (by omega)).symm | exact (hR1.tx ha (by omega)).trans (if_pos (by omega)).symm, rfl⟩
theorem fig_in {b : Int32} (h : txF b = true) : 0 ≤ (b - 48).toInt ∧ (b - 48).toInt ≤ 9 := by
  have h1 := of_decide_eq_true h
  rw [Int32.toInt_sub, show (48 : Int32).toInt = 48 from rfl, Int.bmod_eq_of_le (by omega) (by omega)]
  omega
theorem fig_2 {b c : Int32} (h : txF b = true) (h2 : txF c = true) : 0 ≤ (10 * (b - 48) + c - 48).toInt ∧ (10 * (b - 48) + c - 48).toInt ≤ 99 := by
  have h1 := fig_in h
  have h3 := of_decide_eq_true h2
  have e1 : (10 * (b - 48)).toInt = 10 * (b - 48).toInt := by rw [Int32.toInt_mul, show (10 : Int32).toInt = 10 from rfl, Int.bmod_eq_of_le (by omega) (by omega)]
  have e2 : (10 * (b - 48) + c).toInt = 10 * (b - 48).toInt + c.toInt := by rw [Int32.toInt_add, e1, Int.bmod_eq_of_le (by omega) (by omega)]
  rw [Int32.toInt_sub, e2, show (48 : Int32).toInt = 48 from rfl, Int.bmod_eq_of_le (by omega) (by omega)]
  omega
theorem z10 (b : Int32) : (10 : Int32) * 0 + b - 48 = b - 48 := by rw [Int32.mul_zero, Int32.zero_add]
def nmV (tx : Nat → Int32) (len i : Nat) : Int32 × Nat := if txF (txB tx len i) = false then (-1, i) else if txF (txB tx len (i + 1)) = false then (if 60 < (txB tx len i - 48) then (-1, i) else (txB tx len i - 48, i + 1)) else (if 60 < 10 * (txB tx len i - 48) + txB tx len (i + 1) - 48 then (-1, i) else (10 * (txB tx len i - 48) + txB tx len (i + 1) - 48, i + 2))
theorem inJ_fig {x : Int32} : inJ x.toInt64 48 57 = txF x := by
  unfold inJ txF
  rw [Int32.toInt_toInt64, show (48 : Int64).toInt = 48 from rfl, show (57 : Int64).toInt = 57 from rfl]
set_option maxRecDepth 100000 in
theorem s_M_number {M : Mem} {σ : Sg} (hR : RM M σ) (hI : Iv σ) {a : Nat} (ha : a < 4) {i : Nat} {f : Nat → Int32} (hi : i < 90) : CS u_M_number [.ref 1000, .int (nI a)] (finM M i f) (retI (fun r M2 => r = (nmV (σ.2 2 a) (hLen σ a) i).1 ∧ M2 = finM M (nmV (σ.2 2 a) (hLen σ a) i).2 f)) := by
  refine cs_introF (L := [some (.ref 1000), some (.int (nI a)), none, none]) (by decide +kernel) (fun ad q h => h) (fun ad => Nat.le_of_ble_eq_true rfl) ?_
  refine cw_aload_n d_M_number_0 rfl ?_
  refine cw_getI fl_M_125 so_M rfl d_M_number_1 ?_
  refine cw_top finM_a ?_
  refine cw_istore_n d_M_number_4 rfl ?_
  refine cw_iconst (v := 0) d_M_number_5 (by decide) ?_
  refine cw_istore_n d_M_number_6 rfl ?_
  refine cw_aload_n d_M_number_7 rfl ?_
  refine cw_getI fl_M_125 so_M rfl d_M_number_8 ?_
  refine cw_top finM_a ?_
  refine cw_iload_n d_M_number_11 rfl ?_
  refine cw_iconst (v := 2) d_M_number_12 (by decide) ?_
  refine cw_iadd d_M_number_13 ?_
  refine cw_top (nAdd (a := i) (b := 2) rfl rfl) ?_
  refine cw_icmp_geN (i) (i + 2) 62 rfl rfl (by omega) d_M_number_14 (by decide) (fun c_14 => ?_) (fun c_14 => ?_)
  · exact absurd c_14 (by omega)
  · refine cw_aload_n d_M_number_17 rfl ?_
    refine cw_iload_n d_M_number_18 rfl ?_
    refine cw_virtP (s_M_here hR hI ha (i := i) (f := f) (by omega)) rfl ml_M_128 so_M rfl rfl d_M_number_19 ?_
    refine cw_i2l d_M_number_22 ?_
    refine cw_ldc2_w kc_M_131 d_M_number_23 ?_
    refine cw_ldc2_w kc_M_133 d_M_number_26 ?_
    refine cw_staticP (s_M_in) rfl ml_M_69 rfl rfl d_M_number_29 ?_
    refine cw_top (y := b2 (txF (txB (σ.2 2 a) (hLen σ a) (i)))) (by rw [inJ_fig]) ?_
    refine cw_bif_eq 62 d_M_number_32 (by decide) (fun c_32 => ?_) (fun c_32 => ?_)
    · have g0 : txF (txB (σ.2 2 a) (hLen σ a) (i)) = false := c_32
      have hv : nmV (σ.2 2 a) (hLen σ a) i = (-1, i) := if_pos g0
      rw [hv]
      refine cw_aload_n d_M_number_62 rfl ?_
      refine cw_getI fl_M_125 so_M rfl d_M_number_63 ?_
      refine cw_top finM_a ?_
      refine cw_iload_n d_M_number_66 rfl ?_
      refine cw_icmp_le 78 d_M_number_67 (by decide) (fun c_67 => ?_) (fun c_67 => ?_)
      · refine cw_aload_n d_M_number_78 rfl ?_
        refine cw_iload_n d_M_number_79 rfl ?_
        refine cw_putI fp_M_125 so_M rfl d_M_number_80 ?_
        refine cw_iconst (v := (-1)) d_M_number_83 (by decide) ?_
        refine cw_iret rfl d_M_number_84 ?_
        exact ⟨rfl, finM_s⟩
      · exact absurd (Int32.le_refl _) c_67
    · have g0 : txF (txB (σ.2 2 a) (hLen σ a) (i)) = true := c_32
      refine cw_bipush (v := 10) d_M_number_35 (by decide) ?_
      refine cw_iload_n d_M_number_37 rfl ?_
      refine cw_imul d_M_number_38 ?_
      refine cw_aload_n d_M_number_39 rfl ?_
      refine cw_iload_n d_M_number_40 rfl ?_
      refine cw_virtP (s_M_here hR hI ha (i := i) (f := f) (by omega)) rfl ml_M_128 so_M rfl rfl d_M_number_41 ?_
      refine cw_iadd d_M_number_44 ?_
      refine cw_bipush (v := 48) d_M_number_45 (by decide) ?_
      refine cw_isub d_M_number_47 ?_
      refine cw_istore_n d_M_number_48 rfl ?_
      refine cw_aload_n d_M_number_49 rfl ?_
      refine cw_dup_ref d_M_number_50 ?_
      refine cw_getI fl_M_125 so_M rfl d_M_number_51 ?_
      refine cw_top finM_a ?_
      refine cw_iconst (v := 1) d_M_number_54 (by decide) ?_
      refine cw_iadd d_M_number_55 ?_
      refine cw_top (nI_1 (i)) ?_
      refine cw_putI fp_M_125 so_M rfl d_M_number_56 ?_
      refine cw_mem finM_s ?_
      refine cw_goto 7 d_M_number_59 (by decide) ?_
      refine cw_aload_n d_M_number_7 rfl ?_
      refine cw_getI fl_M_125 so_M rfl d_M_number_8 ?_
      refine cw_top finM_a ?_
      refine cw_iload_n d_M_number_11 rfl ?_
      refine cw_iconst (v := 2) d_M_number_12 (by decide) ?_
      refine cw_iadd d_M_number_13 ?_
      refine cw_top (nAdd (a := i) (b := 2) rfl rfl) ?_
      refine cw_icmp_geN (i + 1) (i + 2) 62 rfl rfl (by omega) d_M_number_14 (by decide) (fun c_14 => ?_) (fun c_14 => ?_)
      · exact absurd c_14 (by omega)
      · refine cw_aload_n d_M_number_17 rfl ?_
        refine cw_iload_n d_M_number_18 rfl ?_
        refine cw_virtP (s_M_here hR hI ha (i := i + 1) (f := f) (by omega)) rfl ml_M_128 so_M rfl rfl d_M_number_19 ?_
        refine cw_i2l d_M_number_22 ?_
        refine cw_ldc2_w kc_M_131 d_M_number_23 ?_
        refine cw_ldc2_w kc_M_133 d_M_number_26 ?_
        refine cw_staticP (s_M_in) rfl ml_M_69 rfl rfl d_M_number_29 ?_
        refine cw_top (y := b2 (txF (txB (σ.2 2 a) (hLen σ a) (i + 1)))) (by rw [inJ_fig]) ?_
        refine cw_bif_eq 62 d_M_number_32 (by decide) (fun c_32 => ?_) (fun c_32 => ?_)
        · have g1 : txF (txB (σ.2 2 a) (hLen σ a) (i + 1)) = false := c_32
          refine cw_cast (L' := [some (.ref 1000), some (.int (nI a)), some (.int (nI i)), some (.int (txB (σ.2 2 a) (hLen σ a) i - 48))]) (by simp only [lset1, kl, z10]) rfl rfl ?_
          have hv0 : nmV (σ.2 2 a) (hLen σ a) i = _ := (if_neg (by rw [g0]; decide)).trans (if_pos g1)
          refine cw_aload_n d_M_number_62 rfl ?_
          refine cw_getI fl_M_125 so_M rfl d_M_number_63 ?_
          refine cw_top finM_a ?_
          refine cw_iload_n d_M_number_66 rfl ?_
          refine cw_icmp_le 78 d_M_number_67 (by decide) (fun c_67 => ?_) (fun c_67 => ?_)
          · exact absurd c_67 (nI_ge (by omega) (by omega))
          · refine cw_iload_n d_M_number_70 rfl ?_
            refine cw_bipush (v := 60) d_M_number_71 (by decide) ?_
            refine cw_icmp_gt 78 d_M_number_73 (by decide) (fun c_73 => ?_) (fun c_73 => ?_)
            · have hv : nmV (σ.2 2 a) (hLen σ a) i = _ := hv0.trans (if_pos c_73)
              rw [hv]
              refine cw_aload_n d_M_number_78 rfl ?_
              refine cw_iload_n d_M_number_79 rfl ?_
              refine cw_putI fp_M_125 so_M rfl d_M_number_80 ?_
              refine cw_iconst (v := (-1)) d_M_number_83 (by decide) ?_
              refine cw_iret rfl d_M_number_84 ?_
              exact ⟨rfl, finM_s⟩
            · have hv : nmV (σ.2 2 a) (hLen σ a) i = _ := hv0.trans (if_neg c_73)
              rw [hv]
              refine cw_iload_n d_M_number_76 rfl ?_
              refine cw_iret rfl d_M_number_77 ?_
              exact ⟨rfl, rfl⟩
        · have g1 : txF (txB (σ.2 2 a) (hLen σ a) (i + 1)) = true := c_32
          refine cw_bipush (v := 10) d_M_number_35 (by decide) ?_
          refine cw_iload_n d_M_number_37 rfl ?_
          refine cw_imul d_M_number_38 ?_
          refine cw_aload_n d_M_number_39 rfl ?_
          refine cw_iload_n d_M_number_40 rfl ?_
          refine cw_virtP (s_M_here hR hI ha (i := i + 1) (f := f) (by omega)) rfl ml_M_128 so_M rfl rfl d_M_number_41 ?_
          refine cw_iadd d_M_number_44 ?_
          refine cw_bipush (v := 48) d_M_number_45 (by decide) ?_
          refine cw_isub d_M_number_47 ?_
          refine cw_istore_n d_M_number_48 rfl ?_
          refine cw_aload_n d_M_number_49 rfl ?_
          refine cw_dup_ref d_M_number_50 ?_
          refine cw_getI fl_M_125 so_M rfl d_M_number_51 ?_
          refine cw_top finM_a ?_
          refine cw_iconst (v := 1) d_M_number_54 (by decide) ?_
          refine cw_iadd d_M_number_55 ?_
          refine cw_top (nI_1 (i + 1)) ?_
          refine cw_putI fp_M_125 so_M rfl d_M_number_56 ?_
          refine cw_mem finM_s ?_
          refine cw_goto 7 d_M_number_59 (by decide) ?_
          refine cw_aload_n d_M_number_7 rfl ?_
          refine cw_getI fl_M_125 so_M rfl d_M_number_8 ?_
          refine cw_top finM_a ?_
          refine cw_iload_n d_M_number_11 rfl ?_
          refine cw_iconst (v := 2) d_M_number_12 (by decide) ?_
          refine cw_iadd d_M_number_13 ?_
          refine cw_top (nAdd (a := i) (b := 2) rfl rfl) ?_
          refine cw_icmp_geN (i + 2) (i + 2) 62 rfl rfl (by omega) d_M_number_14 (by decide) (fun c_14 => ?_) (fun c_14 => ?_)
          · refine cw_cast (L' := [some (.ref 1000), some (.int (nI a)), some (.int (nI i)), some (.int (10 * (txB (σ.2 2 a) (hLen σ a) i - 48) + txB (σ.2 2 a) (hLen σ a) (i + 1) - 48))]) (by simp only [lset1, kl, z10]) rfl rfl ?_
            have hv0 : nmV (σ.2 2 a) (hLen σ a) i = _ := (if_neg (by rw [g0]; decide)).trans (if_neg (by rw [g1]; decide))
            refine cw_aload_n d_M_number_62 rfl ?_
            refine cw_getI fl_M_125 so_M rfl d_M_number_63 ?_
            refine cw_top finM_a ?_
            refine cw_iload_n d_M_number_66 rfl ?_
            refine cw_icmp_le 78 d_M_number_67 (by decide) (fun c_67 => ?_) (fun c_67 => ?_)
            · exact absurd c_67 (nI_ge (by omega) (by omega))
            · refine cw_iload_n d_M_number_70 rfl ?_
              refine cw_bipush (v := 60) d_M_number_71 (by decide) ?_
              refine cw_icmp_gt 78 d_M_number_73 (by decide) (fun c_73 => ?_) (fun c_73 => ?_)
              · have hv : nmV (σ.2 2 a) (hLen σ a) i = _ := hv0.trans (if_pos c_73)
                rw [hv]
                refine cw_aload_n d_M_number_78 rfl ?_
                refine cw_iload_n d_M_number_79 rfl ?_
                refine cw_putI fp_M_125 so_M rfl d_M_number_80 ?_
                refine cw_iconst (v := (-1)) d_M_number_83 (by decide) ?_
                refine cw_iret rfl d_M_number_84 ?_
                exact ⟨rfl, finM_s⟩
              · have hv : nmV (σ.2 2 a) (hLen σ a) i = _ := hv0.trans (if_neg c_73)
                rw [hv]
                refine cw_iload_n d_M_number_76 rfl ?_
                refine cw_iret rfl d_M_number_77 ?_
                exact ⟨rfl, rfl⟩
          · exact absurd c_14 (by omega)
set_option maxRecDepth 100000 in
theorem l_M_clears {M : Mem}  : ∀ j, j ≤ 8 → CW u_M_clears (retV (fun M2 => M2 = mRow M 1011 8 tx10)) 2 [some (.ref 1000), some (.int (nI j))] [] (mRow M 1011 j tx10) := by
  refine up_ind (fun j hi ih => ?_)
  refine cw_iload_n d_M_clears_2 rfl ?_
  refine cw_bipush (v := 8) d_M_clears_3 (by decide) ?_
  refine cw_icmp_geN (j) (8) 22 rfl rfl (by omega) d_M_clears_5 (by decide) (fun c_5 => ?_) (fun c_5 => ?_)
  · refine cw_vret rfl d_M_clears_22 ?_
    have ej : j = 8 := by omega
    subst ej
    rfl
  · refine cw_aload_n d_M_clears_8 rfl ?_
    refine cw_getR fl_M_31 so_M rfl d_M_clears_9 ?_
    refine cw_iload_n d_M_clears_12 rfl ?_
    refine cw_bipush (v := 10) d_M_clears_13 (by decide) ?_
    refine cw_iastN (i := j) sm_tenthsOf rfl (by omega) (by decide) d_M_clears_15 ?_
    refine cw_iincN (x := j) d_M_clears_16 rfl rfl ?_
    refine cw_goto 2 d_M_clears_19 (by decide) ?_
    exact cw_cast (by simp only [lset1, kl]) rfl (mRow_s (f := tx10)) (ih c_5)
set_option maxRecDepth 100000 in
theorem s_M_clears0 {M : Mem} : CS u_M_clears [.ref 1000] M (retV (fun M2 => M2 = mRow M 1011 8 tx10)) := by
  refine cs_introF (L := [some (.ref 1000), none]) (by decide +kernel) (fun ad q h => h) (fun ad => Nat.le_of_ble_eq_true rfl) ?_
  refine cw_iconst (v := 0) d_M_clears_0 (by decide) ?_
  refine cw_istore_n d_M_clears_1 rfl ?_
  exact cw_mem mRow_0.symm (l_M_clears 0 (by omega))
theorem s_M_clears {M : Mem} {i : Nat} {f : Nat → Int32} : CS u_M_clears [.ref 1000] (finM M i f) (retV (fun M2 => M2 = finM M i tx10)) := by
  have h := s_M_clears0 (M := finM M i f)
  rw [finM_r] at h
  exact h
set_option maxRecDepth 100000 in
theorem l_M_mark {M : Mem} {σ : Sg} {a i0 q : Nat} {f : Nat → Int32} {wh sg v : Int32} (hw : ∀ p, p < 8 → ((wh = 8 ∨ wh = nI p) ↔ ((txB (σ.2 2 a) (hLen σ a) i0) = 42 ∨ (txB (σ.2 2 a) (hLen σ a) i0) = nI p + 48)))  : ∀ j, j ≤ 8 → CW u_M_readsPiece (retI (fun r M2 => r = 1 ∧ M2 = finM M q (txM f (txB (σ.2 2 a) (hLen σ a) i0) v))) 146 [some (.ref 1000), some (.int (nI a)), some (.int wh), some (.int sg), some (.int v), some (.int (nI j))] [] (mRow (finM M q f) 1011 j (txM f (txB (σ.2 2 a) (hLen σ a) i0) v)) := by
  refine up_ind (fun j hj ih => ?_)
  refine cw_iload d_M_readsPiece_146 rfl ?_
  refine cw_bipush (v := 8) d_M_readsPiece_148 (by decide) ?_
  refine cw_icmp_geN (j) (8) 190 rfl rfl (by omega) d_M_readsPiece_150 (by decide) (fun c_150 => ?_) (fun c_150 => ?_)
  · refine cw_iconst (v := 1) d_M_readsPiece_190 (by decide) ?_
    refine cw_zret rfl d_M_readsPiece_191 (by first | exact Or.inl rfl | exact Or.inr rfl | exact b2_01 _) ?_
    have ej : j = 8 := by omega
    subst ej
    exact ⟨rfl, finM_r⟩
  · refine cw_aload_n d_M_readsPiece_153 rfl ?_
    refine cw_getR fl_M_31 so_M rfl d_M_readsPiece_154 ?_
    refine cw_iload d_M_readsPiece_157 rfl ?_
    refine cw_iload_n d_M_readsPiece_159 rfl ?_
    refine cw_bipush (v := 8) d_M_readsPiece_160 (by decide) ?_
    refine cw_tern2 183 (txM f (txB (σ.2 2 a) (hLen σ a) i0) v j) ?_ (fun k_162 => ?_)
    · refine cw_iastN (i := j) sm_tenthsOf rfl (by omega) (by decide) d_M_readsPiece_183 ?_
      refine cw_iincN (x := j) d_M_readsPiece_184 rfl rfl ?_
      refine cw_goto 146 d_M_readsPiece_187 (by decide) ?_
      exact cw_cast (by simp only [lset1, kl]) rfl (mRow_s (f := txM f (txB (σ.2 2 a) (hLen σ a) i0) v)) (ih c_150)
    · refine cw_icmp_eq 171 d_M_readsPiece_162 (by decide) (fun c_162 => ?_) (fun c_162 => ?_)
      · refine cw_iload d_M_readsPiece_171 rfl ?_
        refine cw_goto 183 d_M_readsPiece_173 (by decide) ?_
        exact k_162 _ (by first | exact (if_pos ((hw j c_150).mp (Or.inl c_162))).symm | exact (if_pos ((hw j c_150).mp (Or.inr c_168))).symm | exact (if_neg (fun z => ((hw j c_150).mpr z).elim c_162 c_168)).symm)
      · refine cw_iload_n d_M_readsPiece_165 rfl ?_
        refine cw_iload d_M_readsPiece_166 rfl ?_
        refine cw_icmp_ne 176 d_M_readsPiece_168 (by decide) (fun c_168 => ?_) (fun c_168 => ?_)
        · refine cw_aload_n d_M_readsPiece_176 rfl ?_
          refine cw_getR fl_M_31 so_M rfl d_M_readsPiece_177 ?_
          refine cw_iload d_M_readsPiece_180 rfl ?_
          refine cw_ialdN (i := j) sm_tenthsOf rfl (by omega) (by decide) d_M_readsPiece_182 ?_
          refine cw_top (mRow_at.trans (finM_t (by omega))) ?_
          exact k_162 _ (by first | exact (if_pos ((hw j c_150).mp (Or.inl c_162))).symm | exact (if_pos ((hw j c_150).mp (Or.inr c_168))).symm | exact (if_neg (fun z => ((hw j c_150).mpr z).elim c_162 c_168)).symm)
        · refine cw_iload d_M_readsPiece_171 rfl ?_
          refine cw_goto 183 d_M_readsPiece_173 (by decide) ?_
          exact k_162 _ (by first | exact (if_pos ((hw j c_150).mp (Or.inl c_162))).symm | exact (if_pos ((hw j c_150).mp (Or.inr c_168))).symm | exact (if_neg (fun z => ((hw j c_150).mpr z).elim c_162 c_168)).symm)
def rpQ (M : Mem) (f : Nat → Int32) (s : Nat ⊕ (Nat × (Nat → Int32))) (r : Int32) (M2 : Mem) : Prop := match s with
  | .inl k => r = 0 ∧ M2 = finM M k f
  | .inr (q, g) => r = 1 ∧ M2 = finM M q g
theorem wh_ok {b : Int32} (h : ¬ b = 42) {p : Nat} (hp : p < 8) (h8 : ¬ b - 48 = 8) : (b - 48 = 8 ∨ b - 48 = nI p) ↔ (b = 42 ∨ b = nI p + 48) := by
  constructor
  · rintro (q | q)
    · exact absurd q h8
    · right
      rw [← q, Int32.sub_add_cancel]
  · rintro (q | q)
    · exact absurd q h
    · right
      rw [q, n48]
theorem wh_in {b : Int32} (hb : ¬ b = 42) : ixB (b - 48) 9 = true ∧ ¬ b - 48 = 8 ↔ (48 ≤ b.toInt ∧ b.toInt ≤ 55) := by
  have h0 := Int32.toInt_lt b
  have h1 := Int32.le_toInt b
  constructor
  · rintro ⟨q, q2⟩
    obtain ⟨k, hk, e⟩ := ixB_t q (by decide)
    have hk8 : k ≠ 8 := fun z => q2 (by rw [e, z]; rfl)
    have e2 : b = nI k + 48 := by rw [← e, Int32.sub_add_cancel]
    have e3 : b.toInt = k + 48 := by rw [e2, Int32.toInt_add, nI_toInt (by omega), show (48 : Int32).toInt = 48 from rfl, Int.bmod_eq_of_le (by omega) (by omega)]
    omega
  · rintro ⟨q, q2⟩
    have e3 : (b - 48).toInt = b.toInt - 48 := by rw [Int32.toInt_sub, show (48 : Int32).toInt = 48 from rfl, Int.bmod_eq_of_le (by omega) (by omega)]
    refine ⟨decide_eq_true (by omega), fun z => ?_⟩
    rw [z, show (8 : Int32).toInt = 8 from rfl] at e3
    omega
theorem txS_num {tx : Nat → Int32} {len i : Nat} {f : Nat → Int32} (hw : ¬ (¬ txB tx len i = 42 ∧ ¬ (48 ≤ (txB tx len i).toInt ∧ (txB tx len i).toInt ≤ 55))) (h1 : ¬ txB tx len (i + 1) = 120) (h2 : ¬ (¬ txB tx len (i + 1) = 43 ∧ ¬ txB tx len (i + 1) = 45)) : txS tx len i f = (if (nmV tx len (i + 2)).1 = -1 then .inl (i + 2) else .inr ((nmV tx len (i + 2)).2, txM f (txB tx len i) (if txB tx len (i + 1) = 45 then -(nmV tx len (i + 2)).1 else (nmV tx len (i + 2)).1))) ∧ ((nmV tx len (i + 2)).1 = -1 → (nmV tx len (i + 2)).2 = i + 2) := by
  unfold txS nmV
  rw [if_neg hw, if_neg h1, if_neg h2]
  have m1 : (-1 : Int32).toInt = -1 := rfl
  by_cases g0 : txF (txB tx len (i + 2)) = false
  · simp only [if_pos g0, if_true]
    exact ⟨trivial, fun _ => trivial⟩
  · rw [if_neg g0, if_neg g0]
    by_cases g1 : txF (txB tx len (i + 3)) = false
    · rw [if_pos g1, if_pos (show txF (txB tx len (i + 2 + 1)) = false from g1)]
      by_cases g2 : 60 < txB tx len (i + 2) - 48
      · simp only [if_pos g2, if_true]
        exact ⟨trivial, fun _ => trivial⟩
      · have hne : ¬ txB tx len (i + 2) - 48 = -1 := fun q => by
          have := fig_in (by simpa using g0)
          rw [q, m1] at this
          omega
        simp only [if_neg g2, if_neg hne]
        exact ⟨trivial, fun q => absurd q hne⟩
    · rw [if_neg g1, if_neg (show ¬ txF (txB tx len (i + 2 + 1)) = false from g1)]
      by_cases g2 : 60 < 10 * (txB tx len (i + 2) - 48) + txB tx len (i + 2 + 1) - 48
      · simp only [if_pos g2, if_true, if_pos (show 60 < 10 * (txB tx len (i + 2) - 48) + txB tx len (i + 3) - 48 from g2)]
        exact ⟨trivial, fun _ => trivial⟩
      · have hne : ¬ 10 * (txB tx len (i + 2) - 48) + txB tx len (i + 2 + 1) - 48 = -1 := fun q => by
          have := fig_2 (by simpa using g0) (c := txB tx len (i + 2 + 1)) (by simpa using g1)
          rw [q, m1] at this
          omega
        simp only [if_neg g2, if_neg hne, if_neg (show ¬ 60 < 10 * (txB tx len (i + 2) - 48) + txB tx len (i + 3) - 48 from g2)]
        exact ⟨trivial, fun q => absurd q hne⟩
set_option maxHeartbeats 4000000 in
set_option maxRecDepth 100000 in
theorem s_M_readsPiece {M : Mem} {σ : Sg} (hR : RM M σ) (hI : Iv σ) {a : Nat} (ha : a < 4) {i : Nat} {f : Nat → Int32} (hi : i < 80) : CS u_M_readsPiece [.ref 1000, .int (nI a)] (finM M i f) (retI (rpQ M f (txS (σ.2 2 a) (hLen σ a) i f))) := by
  refine cs_introF (L := [some (.ref 1000), some (.int (nI a)), none, none, none, none]) (by decide +kernel) (fun ad q h => h) (fun ad => Nat.le_of_ble_eq_true rfl) ?_
  refine cw_aload_n d_M_readsPiece_0 rfl ?_
  refine cw_iload_n d_M_readsPiece_1 rfl ?_
  refine cw_virtP (s_M_here hR hI ha (i := i) (f := f) (by omega)) rfl ml_M_128 so_M rfl rfl d_M_readsPiece_2 ?_
  refine cw_bipush (v := 42) d_M_readsPiece_5 (by decide) ?_
  refine cw_tern2 23 ((if txB (σ.2 2 a) (hLen σ a) i = 42 then 8 else txB (σ.2 2 a) (hLen σ a) i - 48)) ?_ (fun k_7 => ?_)
  · obtain ⟨wh, ewh⟩ : ∃ wh : Int32, wh = (if txB (σ.2 2 a) (hLen σ a) i = 42 then 8 else txB (σ.2 2 a) (hLen σ a) i - 48) := ⟨_, rfl⟩
    refine cw_top ewh.symm ?_
    refine cw_istore_n d_M_readsPiece_23 rfl ?_
    refine cw_iload_n d_M_readsPiece_24 rfl ?_
    refine cw_i2l d_M_readsPiece_25 ?_
    refine cw_lconst (v := 0) d_M_readsPiece_26 (by decide) ?_
    refine cw_ldc2_w kc_M_135 d_M_readsPiece_27 ?_
    refine cw_staticP (s_M_in) rfl ml_M_69 rfl rfl d_M_readsPiece_30 ?_
    refine cw_top (y := b2 (ixB wh 9)) (by rw [inJ_ix 9 (by decide)]) ?_
    refine cw_bif_eq 52 d_M_readsPiece_33 (by decide) (fun c_33 => ?_) (fun c_33 => ?_)
    · have hs : txS (σ.2 2 a) (hLen σ a) i f = .inl i := if_pos (by
        by_cases h42 : txB (σ.2 2 a) (hLen σ a) i = 42
        · rw [if_pos h42] at ewh
          rw [ewh] at c_33
          exact absurd c_33 (by decide)
        · rw [if_neg h42] at ewh
          subst ewh
          exact ⟨h42, fun q => absurd ((wh_in h42).mpr q).1 (by rw [c_33]; decide)⟩)
      refine cw_iconst (v := 0) d_M_readsPiece_52 (by decide) ?_
      refine cw_zret rfl d_M_readsPiece_53 (by first | exact Or.inl rfl | exact Or.inr rfl | exact b2_01 _) ?_
      rw [hs]
      exact ⟨rfl, rfl⟩
    · refine cw_iload_n d_M_readsPiece_36 rfl ?_
      refine cw_bipush (v := 8) d_M_readsPiece_37 (by decide) ?_
      refine cw_icmp_ne 54 d_M_readsPiece_39 (by decide) (fun c_39 => ?_) (fun c_39 => ?_)
      · have h42 : ¬ txB (σ.2 2 a) (hLen σ a) i = 42 := fun q => c_39 (by rw [ewh, if_pos q])
        rw [if_neg h42] at ewh
        subst ewh
        have hwv : ¬ (¬ txB (σ.2 2 a) (hLen σ a) i = 42 ∧ ¬ (48 ≤ (txB (σ.2 2 a) (hLen σ a) i).toInt ∧ (txB (σ.2 2 a) (hLen σ a) i).toInt ≤ 55)) := fun q => q.2 ((wh_in h42).mp ⟨c_33, c_39⟩)
        have hmk : ∀ p, p < 8 → ((txB (σ.2 2 a) (hLen σ a) i - 48 = 8 ∨ txB (σ.2 2 a) (hLen σ a) i - 48 = nI p) ↔ (txB (σ.2 2 a) (hLen σ a) i = 42 ∨ txB (σ.2 2 a) (hLen σ a) i = nI p + 48)) := fun p hp => wh_ok h42 hp c_39
        refine cw_aload_n d_M_readsPiece_54 rfl ?_
        refine cw_dup_ref d_M_readsPiece_55 ?_
        refine cw_getI fl_M_125 so_M rfl d_M_readsPiece_56 ?_
        refine cw_top finM_a ?_
        refine cw_iconst (v := 1) d_M_readsPiece_59 (by decide) ?_
        refine cw_iadd d_M_readsPiece_60 ?_
        refine cw_top (nI_1 i) ?_
        refine cw_putI fp_M_125 so_M rfl d_M_readsPiece_61 ?_
        refine cw_mem finM_s ?_
        refine cw_aload_n d_M_readsPiece_64 rfl ?_
        refine cw_iload_n d_M_readsPiece_65 rfl ?_
        refine cw_virtP (s_M_here hR hI ha (i := i + 1) (f := f) (by omega)) rfl ml_M_128 so_M rfl rfl d_M_readsPiece_66 ?_
        refine cw_istore_n d_M_readsPiece_69 rfl ?_
        refine cw_iload_n d_M_readsPiece_70 rfl ?_
        refine cw_bipush (v := 43) d_M_readsPiece_71 (by decide) ?_
        refine cw_icmp_eq 90 d_M_readsPiece_73 (by decide) (fun c_73 => ?_) (fun c_73 => ?_)
        · refine cw_aload_n d_M_readsPiece_90 rfl ?_
          refine cw_dup_ref d_M_readsPiece_91 ?_
          refine cw_getI fl_M_125 so_M rfl d_M_readsPiece_92 ?_
          refine cw_top finM_a ?_
          refine cw_iconst (v := 1) d_M_readsPiece_95 (by decide) ?_
          refine cw_iadd d_M_readsPiece_96 ?_
          refine cw_top (nI_1 (i + 1)) ?_
          refine cw_putI fp_M_125 so_M rfl d_M_readsPiece_97 ?_
          refine cw_mem finM_s ?_
          refine cw_iload_n d_M_readsPiece_100 rfl ?_
          refine cw_bipush (v := 120) d_M_readsPiece_101 (by decide) ?_
          refine cw_icmp_ne 112 d_M_readsPiece_103 (by decide) (fun c_103 => ?_) (fun c_103 => ?_)
          · have hs0 := txS_num (f := f) hwv c_103 (fun q => q.1 c_73)
            refine cw_aload_n d_M_readsPiece_112 rfl ?_
            refine cw_iload_n d_M_readsPiece_113 rfl ?_
            refine cw_virtI (s_M_number hR hI ha (i := i + 2) (f := f) (by omega)) rfl ml_M_137 so_M rfl rfl d_M_readsPiece_114 (fun r_114 M_114 q_114 => ?_)
            obtain ⟨e_114, f_114⟩ := q_114
            subst e_114; subst f_114
            refine cw_istore d_M_readsPiece_117 rfl ?_
            refine cw_iload d_M_readsPiece_119 rfl ?_
            refine cw_iconst (v := (-1)) d_M_readsPiece_121 (by decide) ?_
            refine cw_icmp_ne 127 d_M_readsPiece_122 (by decide) (fun c_122 => ?_) (fun c_122 => ?_)
            · have hs : txS (σ.2 2 a) (hLen σ a) i f = _ := hs0.1.trans (if_neg c_122)
              refine cw_iload_n d_M_readsPiece_127 rfl ?_
              refine cw_bipush (v := 45) d_M_readsPiece_128 (by decide) ?_
              refine cw_tern2 141 (if txB (σ.2 2 a) (hLen σ a) (i + 1) = 45 then -(nmV (σ.2 2 a) (hLen σ a) (i + 2)).1 else (nmV (σ.2 2 a) (hLen σ a) (i + 2)).1) ?_ (fun k_130 => ?_)
              · refine cw_istore d_M_readsPiece_141 rfl ?_
                refine cw_iconst (v := 0) d_M_readsPiece_143 (by decide) ?_
                refine cw_istore d_M_readsPiece_144 rfl ?_
                rw [hs]
                exact cw_mem mRow_0.symm (l_M_mark (σ := σ) (i0 := i) hmk 0 (by omega))
              · refine cw_icmp_ne 139 d_M_readsPiece_130 (by decide) (fun c_130 => ?_) (fun c_130 => ?_)
                · refine cw_iload d_M_readsPiece_139 rfl ?_
                  exact k_130 _ (by first | exact (if_pos c_130).symm | exact (if_neg c_130).symm)
                · refine cw_iload d_M_readsPiece_133 rfl ?_
                  refine cw_ineg d_M_readsPiece_135 ?_
                  refine cw_goto 141 d_M_readsPiece_136 (by decide) ?_
                  exact k_130 _ (by first | exact (if_pos c_130).symm | exact (if_neg c_130).symm)
            · have hs : txS (σ.2 2 a) (hLen σ a) i f = .inl (i + 2) := hs0.1.trans (if_pos c_122)
              have hp2 := hs0.2 c_122
              refine cw_iconst (v := 0) d_M_readsPiece_125 (by decide) ?_
              refine cw_zret rfl d_M_readsPiece_126 (by first | exact Or.inl rfl | exact Or.inr rfl | exact b2_01 _) ?_
              rw [hs]
              exact ⟨rfl, by rw [hp2]⟩
          · have hs : txS (σ.2 2 a) (hLen σ a) i f = .inr (i + 2, txM f (txB (σ.2 2 a) (hLen σ a) i) LO) := by unfold txS; rw [if_neg hwv, if_pos c_103]
            refine cw_sipush (v := (-9999)) d_M_readsPiece_106 (by decide) ?_
            refine cw_goto 117 d_M_readsPiece_109 (by decide) ?_
            refine cw_istore d_M_readsPiece_117 rfl ?_
            refine cw_iload d_M_readsPiece_119 rfl ?_
            refine cw_iconst (v := (-1)) d_M_readsPiece_121 (by decide) ?_
            refine cw_icmp_ne 127 d_M_readsPiece_122 (by decide) (fun c_122 => ?_) (fun c_122 => ?_)
            · refine cw_iload_n d_M_readsPiece_127 rfl ?_
              refine cw_bipush (v := 45) d_M_readsPiece_128 (by decide) ?_
              refine cw_icmp_ne 139 d_M_readsPiece_130 (by decide) (fun c_130 => ?_) (fun c_130 => ?_)
              · refine cw_iload d_M_readsPiece_139 rfl ?_
                refine cw_istore d_M_readsPiece_141 rfl ?_
                refine cw_iconst (v := 0) d_M_readsPiece_143 (by decide) ?_
                refine cw_istore d_M_readsPiece_144 rfl ?_
                rw [hs]
                exact cw_mem mRow_0.symm (l_M_mark (σ := σ) (i0 := i) hmk 0 (by omega))
              · exact absurd (c_103.symm.trans c_130) (by decide)
            · exact absurd c_122 (by decide)
        · refine cw_iload_n d_M_readsPiece_76 rfl ?_
          refine cw_bipush (v := 45) d_M_readsPiece_77 (by decide) ?_
          refine cw_icmp_eq 90 d_M_readsPiece_79 (by decide) (fun c_79 => ?_) (fun c_79 => ?_)
          · refine cw_aload_n d_M_readsPiece_90 rfl ?_
            refine cw_dup_ref d_M_readsPiece_91 ?_
            refine cw_getI fl_M_125 so_M rfl d_M_readsPiece_92 ?_
            refine cw_top finM_a ?_
            refine cw_iconst (v := 1) d_M_readsPiece_95 (by decide) ?_
            refine cw_iadd d_M_readsPiece_96 ?_
            refine cw_top (nI_1 (i + 1)) ?_
            refine cw_putI fp_M_125 so_M rfl d_M_readsPiece_97 ?_
            refine cw_mem finM_s ?_
            refine cw_iload_n d_M_readsPiece_100 rfl ?_
            refine cw_bipush (v := 120) d_M_readsPiece_101 (by decide) ?_
            refine cw_icmp_ne 112 d_M_readsPiece_103 (by decide) (fun c_103 => ?_) (fun c_103 => ?_)
            · have hs0 := txS_num (f := f) hwv c_103 (fun q => q.2 c_79)
              refine cw_aload_n d_M_readsPiece_112 rfl ?_
              refine cw_iload_n d_M_readsPiece_113 rfl ?_
              refine cw_virtI (s_M_number hR hI ha (i := i + 2) (f := f) (by omega)) rfl ml_M_137 so_M rfl rfl d_M_readsPiece_114 (fun r_114 M_114 q_114 => ?_)
              obtain ⟨e_114, f_114⟩ := q_114
              subst e_114; subst f_114
              refine cw_istore d_M_readsPiece_117 rfl ?_
              refine cw_iload d_M_readsPiece_119 rfl ?_
              refine cw_iconst (v := (-1)) d_M_readsPiece_121 (by decide) ?_
              refine cw_icmp_ne 127 d_M_readsPiece_122 (by decide) (fun c_122 => ?_) (fun c_122 => ?_)
              · have hs : txS (σ.2 2 a) (hLen σ a) i f = _ := hs0.1.trans (if_neg c_122)
                refine cw_iload_n d_M_readsPiece_127 rfl ?_
                refine cw_bipush (v := 45) d_M_readsPiece_128 (by decide) ?_
                refine cw_tern2 141 (if txB (σ.2 2 a) (hLen σ a) (i + 1) = 45 then -(nmV (σ.2 2 a) (hLen σ a) (i + 2)).1 else (nmV (σ.2 2 a) (hLen σ a) (i + 2)).1) ?_ (fun k_130 => ?_)
                · refine cw_istore d_M_readsPiece_141 rfl ?_
                  refine cw_iconst (v := 0) d_M_readsPiece_143 (by decide) ?_
                  refine cw_istore d_M_readsPiece_144 rfl ?_
                  rw [hs]
                  exact cw_mem mRow_0.symm (l_M_mark (σ := σ) (i0 := i) hmk 0 (by omega))
                · refine cw_icmp_ne 139 d_M_readsPiece_130 (by decide) (fun c_130 => ?_) (fun c_130 => ?_)
                  · refine cw_iload d_M_readsPiece_139 rfl ?_
                    exact k_130 _ (by first | exact (if_pos c_130).symm | exact (if_neg c_130).symm)
                  · refine cw_iload d_M_readsPiece_133 rfl ?_
                    refine cw_ineg d_M_readsPiece_135 ?_
                    refine cw_goto 141 d_M_readsPiece_136 (by decide) ?_
                    exact k_130 _ (by first | exact (if_pos c_130).symm | exact (if_neg c_130).symm)
              · have hs : txS (σ.2 2 a) (hLen σ a) i f = .inl (i + 2) := hs0.1.trans (if_pos c_122)
                have hp2 := hs0.2 c_122
                refine cw_iconst (v := 0) d_M_readsPiece_125 (by decide) ?_
                refine cw_zret rfl d_M_readsPiece_126 (by first | exact Or.inl rfl | exact Or.inr rfl | exact b2_01 _) ?_
                rw [hs]
                exact ⟨rfl, by rw [hp2]⟩
            · have hs : txS (σ.2 2 a) (hLen σ a) i f = .inr (i + 2, txM f (txB (σ.2 2 a) (hLen σ a) i) LO) := by unfold txS; rw [if_neg hwv, if_pos c_103]
              refine cw_sipush (v := (-9999)) d_M_readsPiece_106 (by decide) ?_
              refine cw_goto 117 d_M_readsPiece_109 (by decide) ?_
              refine cw_istore d_M_readsPiece_117 rfl ?_
              refine cw_iload d_M_readsPiece_119 rfl ?_
              refine cw_iconst (v := (-1)) d_M_readsPiece_121 (by decide) ?_
              refine cw_icmp_ne 127 d_M_readsPiece_122 (by decide) (fun c_122 => ?_) (fun c_122 => ?_)
              · refine cw_iload_n d_M_readsPiece_127 rfl ?_
                refine cw_bipush (v := 45) d_M_readsPiece_128 (by decide) ?_
                refine cw_icmp_ne 139 d_M_readsPiece_130 (by decide) (fun c_130 => ?_) (fun c_130 => ?_)
                · refine cw_iload d_M_readsPiece_139 rfl ?_
                  refine cw_istore d_M_readsPiece_141 rfl ?_
                  refine cw_iconst (v := 0) d_M_readsPiece_143 (by decide) ?_
                  refine cw_istore d_M_readsPiece_144 rfl ?_
                  rw [hs]
                  exact cw_mem mRow_0.symm (l_M_mark (σ := σ) (i0 := i) hmk 0 (by omega))
                · exact absurd (c_103.symm.trans c_130) (by decide)
              · exact absurd c_122 (by decide)
          · refine cw_iload_n d_M_readsPiece_82 rfl ?_
            refine cw_bipush (v := 120) d_M_readsPiece_83 (by decide) ?_
            refine cw_icmp_eq 90 d_M_readsPiece_85 (by decide) (fun c_85 => ?_) (fun c_85 => ?_)
            · refine cw_aload_n d_M_readsPiece_90 rfl ?_
              refine cw_dup_ref d_M_readsPiece_91 ?_
              refine cw_getI fl_M_125 so_M rfl d_M_readsPiece_92 ?_
              refine cw_top finM_a ?_
              refine cw_iconst (v := 1) d_M_readsPiece_95 (by decide) ?_
              refine cw_iadd d_M_readsPiece_96 ?_
              refine cw_top (nI_1 (i + 1)) ?_
              refine cw_putI fp_M_125 so_M rfl d_M_readsPiece_97 ?_
              refine cw_mem finM_s ?_
              refine cw_iload_n d_M_readsPiece_100 rfl ?_
              refine cw_bipush (v := 120) d_M_readsPiece_101 (by decide) ?_
              refine cw_icmp_ne 112 d_M_readsPiece_103 (by decide) (fun c_103 => ?_) (fun c_103 => ?_)
              · have hs0 := txS_num (f := f) hwv c_103 (fun q => absurd c_85 c_103)
                refine cw_aload_n d_M_readsPiece_112 rfl ?_
                refine cw_iload_n d_M_readsPiece_113 rfl ?_
                refine cw_virtI (s_M_number hR hI ha (i := i + 2) (f := f) (by omega)) rfl ml_M_137 so_M rfl rfl d_M_readsPiece_114 (fun r_114 M_114 q_114 => ?_)
                obtain ⟨e_114, f_114⟩ := q_114
                subst e_114; subst f_114
                refine cw_istore d_M_readsPiece_117 rfl ?_
                refine cw_iload d_M_readsPiece_119 rfl ?_
                refine cw_iconst (v := (-1)) d_M_readsPiece_121 (by decide) ?_
                refine cw_icmp_ne 127 d_M_readsPiece_122 (by decide) (fun c_122 => ?_) (fun c_122 => ?_)
                · have hs : txS (σ.2 2 a) (hLen σ a) i f = _ := hs0.1.trans (if_neg c_122)
                  refine cw_iload_n d_M_readsPiece_127 rfl ?_
                  refine cw_bipush (v := 45) d_M_readsPiece_128 (by decide) ?_
                  refine cw_tern2 141 (if txB (σ.2 2 a) (hLen σ a) (i + 1) = 45 then -(nmV (σ.2 2 a) (hLen σ a) (i + 2)).1 else (nmV (σ.2 2 a) (hLen σ a) (i + 2)).1) ?_ (fun k_130 => ?_)
                  · refine cw_istore d_M_readsPiece_141 rfl ?_
                    refine cw_iconst (v := 0) d_M_readsPiece_143 (by decide) ?_
                    refine cw_istore d_M_readsPiece_144 rfl ?_
                    rw [hs]
                    exact cw_mem mRow_0.symm (l_M_mark (σ := σ) (i0 := i) hmk 0 (by omega))
                  · refine cw_icmp_ne 139 d_M_readsPiece_130 (by decide) (fun c_130 => ?_) (fun c_130 => ?_)
                    · refine cw_iload d_M_readsPiece_139 rfl ?_
                      exact k_130 _ (by first | exact (if_pos c_130).symm | exact (if_neg c_130).symm)
                    · refine cw_iload d_M_readsPiece_133 rfl ?_
                      refine cw_ineg d_M_readsPiece_135 ?_
                      refine cw_goto 141 d_M_readsPiece_136 (by decide) ?_
                      exact k_130 _ (by first | exact (if_pos c_130).symm | exact (if_neg c_130).symm)
                · have hs : txS (σ.2 2 a) (hLen σ a) i f = .inl (i + 2) := hs0.1.trans (if_pos c_122)
                  have hp2 := hs0.2 c_122
                  refine cw_iconst (v := 0) d_M_readsPiece_125 (by decide) ?_
                  refine cw_zret rfl d_M_readsPiece_126 (by first | exact Or.inl rfl | exact Or.inr rfl | exact b2_01 _) ?_
                  rw [hs]
                  exact ⟨rfl, by rw [hp2]⟩
              · have hs : txS (σ.2 2 a) (hLen σ a) i f = .inr (i + 2, txM f (txB (σ.2 2 a) (hLen σ a) i) LO) := by unfold txS; rw [if_neg hwv, if_pos c_103]
                refine cw_sipush (v := (-9999)) d_M_readsPiece_106 (by decide) ?_
                refine cw_goto 117 d_M_readsPiece_109 (by decide) ?_
                refine cw_istore d_M_readsPiece_117 rfl ?_
                refine cw_iload d_M_readsPiece_119 rfl ?_
                refine cw_iconst (v := (-1)) d_M_readsPiece_121 (by decide) ?_
                refine cw_icmp_ne 127 d_M_readsPiece_122 (by decide) (fun c_122 => ?_) (fun c_122 => ?_)
                · refine cw_iload_n d_M_readsPiece_127 rfl ?_
                  refine cw_bipush (v := 45) d_M_readsPiece_128 (by decide) ?_
                  refine cw_icmp_ne 139 d_M_readsPiece_130 (by decide) (fun c_130 => ?_) (fun c_130 => ?_)
                  · refine cw_iload d_M_readsPiece_139 rfl ?_
                    refine cw_istore d_M_readsPiece_141 rfl ?_
                    refine cw_iconst (v := 0) d_M_readsPiece_143 (by decide) ?_
                    refine cw_istore d_M_readsPiece_144 rfl ?_
                    rw [hs]
                    exact cw_mem mRow_0.symm (l_M_mark (σ := σ) (i0 := i) hmk 0 (by omega))
                  · exact absurd (c_103.symm.trans c_130) (by decide)
                · exact absurd c_122 (by decide)
            · have hs : txS (σ.2 2 a) (hLen σ a) i f = .inl (i + 1) := by unfold txS; rw [if_neg hwv, if_neg c_85, if_pos ⟨c_73, c_79⟩]
              refine cw_iconst (v := 0) d_M_readsPiece_88 (by decide) ?_
              refine cw_zret rfl d_M_readsPiece_89 (by first | exact Or.inl rfl | exact Or.inr rfl | exact b2_01 _) ?_
              rw [hs]
              exact ⟨rfl, rfl⟩
      · subst c_39
        refine cw_aload_n d_M_readsPiece_42 rfl ?_
        refine cw_iload_n d_M_readsPiece_43 rfl ?_
        refine cw_virtP (s_M_here hR hI ha (i := i) (f := f) (by omega)) rfl ml_M_128 so_M rfl rfl d_M_readsPiece_44 ?_
        refine cw_bipush (v := 42) d_M_readsPiece_47 (by decide) ?_
        refine cw_icmp_eq 54 d_M_readsPiece_49 (by decide) (fun c_49 => ?_) (fun c_49 => ?_)
        · have hwv : ¬ (¬ txB (σ.2 2 a) (hLen σ a) i = 42 ∧ ¬ (48 ≤ (txB (σ.2 2 a) (hLen σ a) i).toInt ∧ (txB (σ.2 2 a) (hLen σ a) i).toInt ≤ 55)) := fun q => q.1 c_49
          have hmk : ∀ p, p < 8 → (((8 : Int32) = 8 ∨ (8 : Int32) = nI p) ↔ (txB (σ.2 2 a) (hLen σ a) i = 42 ∨ txB (σ.2 2 a) (hLen σ a) i = nI p + 48)) := fun p hp => ⟨fun _ => Or.inl c_49, fun _ => Or.inl rfl⟩
          refine cw_aload_n d_M_readsPiece_54 rfl ?_
          refine cw_dup_ref d_M_readsPiece_55 ?_
          refine cw_getI fl_M_125 so_M rfl d_M_readsPiece_56 ?_
          refine cw_top finM_a ?_
          refine cw_iconst (v := 1) d_M_readsPiece_59 (by decide) ?_
          refine cw_iadd d_M_readsPiece_60 ?_
          refine cw_top (nI_1 i) ?_
          refine cw_putI fp_M_125 so_M rfl d_M_readsPiece_61 ?_
          refine cw_mem finM_s ?_
          refine cw_aload_n d_M_readsPiece_64 rfl ?_
          refine cw_iload_n d_M_readsPiece_65 rfl ?_
          refine cw_virtP (s_M_here hR hI ha (i := i + 1) (f := f) (by omega)) rfl ml_M_128 so_M rfl rfl d_M_readsPiece_66 ?_
          refine cw_istore_n d_M_readsPiece_69 rfl ?_
          refine cw_iload_n d_M_readsPiece_70 rfl ?_
          refine cw_bipush (v := 43) d_M_readsPiece_71 (by decide) ?_
          refine cw_icmp_eq 90 d_M_readsPiece_73 (by decide) (fun c_73 => ?_) (fun c_73 => ?_)
          · refine cw_aload_n d_M_readsPiece_90 rfl ?_
            refine cw_dup_ref d_M_readsPiece_91 ?_
            refine cw_getI fl_M_125 so_M rfl d_M_readsPiece_92 ?_
            refine cw_top finM_a ?_
            refine cw_iconst (v := 1) d_M_readsPiece_95 (by decide) ?_
            refine cw_iadd d_M_readsPiece_96 ?_
            refine cw_top (nI_1 (i + 1)) ?_
            refine cw_putI fp_M_125 so_M rfl d_M_readsPiece_97 ?_
            refine cw_mem finM_s ?_
            refine cw_iload_n d_M_readsPiece_100 rfl ?_
            refine cw_bipush (v := 120) d_M_readsPiece_101 (by decide) ?_
            refine cw_icmp_ne 112 d_M_readsPiece_103 (by decide) (fun c_103 => ?_) (fun c_103 => ?_)
            · have hs0 := txS_num (f := f) hwv c_103 (fun q => q.1 c_73)
              refine cw_aload_n d_M_readsPiece_112 rfl ?_
              refine cw_iload_n d_M_readsPiece_113 rfl ?_
              refine cw_virtI (s_M_number hR hI ha (i := i + 2) (f := f) (by omega)) rfl ml_M_137 so_M rfl rfl d_M_readsPiece_114 (fun r_114 M_114 q_114 => ?_)
              obtain ⟨e_114, f_114⟩ := q_114
              subst e_114; subst f_114
              refine cw_istore d_M_readsPiece_117 rfl ?_
              refine cw_iload d_M_readsPiece_119 rfl ?_
              refine cw_iconst (v := (-1)) d_M_readsPiece_121 (by decide) ?_
              refine cw_icmp_ne 127 d_M_readsPiece_122 (by decide) (fun c_122 => ?_) (fun c_122 => ?_)
              · have hs : txS (σ.2 2 a) (hLen σ a) i f = _ := hs0.1.trans (if_neg c_122)
                refine cw_iload_n d_M_readsPiece_127 rfl ?_
                refine cw_bipush (v := 45) d_M_readsPiece_128 (by decide) ?_
                refine cw_tern2 141 (if txB (σ.2 2 a) (hLen σ a) (i + 1) = 45 then -(nmV (σ.2 2 a) (hLen σ a) (i + 2)).1 else (nmV (σ.2 2 a) (hLen σ a) (i + 2)).1) ?_ (fun k_130 => ?_)
                · refine cw_istore d_M_readsPiece_141 rfl ?_
                  refine cw_iconst (v := 0) d_M_readsPiece_143 (by decide) ?_
                  refine cw_istore d_M_readsPiece_144 rfl ?_
                  rw [hs]
                  exact cw_mem mRow_0.symm (l_M_mark (σ := σ) (i0 := i) hmk 0 (by omega))
                · refine cw_icmp_ne 139 d_M_readsPiece_130 (by decide) (fun c_130 => ?_) (fun c_130 => ?_)
                  · refine cw_iload d_M_readsPiece_139 rfl ?_
                    exact k_130 _ (by first | exact (if_pos c_130).symm | exact (if_neg c_130).symm)
                  · refine cw_iload d_M_readsPiece_133 rfl ?_
                    refine cw_ineg d_M_readsPiece_135 ?_
                    refine cw_goto 141 d_M_readsPiece_136 (by decide) ?_
                    exact k_130 _ (by first | exact (if_pos c_130).symm | exact (if_neg c_130).symm)
              · have hs : txS (σ.2 2 a) (hLen σ a) i f = .inl (i + 2) := hs0.1.trans (if_pos c_122)
                have hp2 := hs0.2 c_122
                refine cw_iconst (v := 0) d_M_readsPiece_125 (by decide) ?_
                refine cw_zret rfl d_M_readsPiece_126 (by first | exact Or.inl rfl | exact Or.inr rfl | exact b2_01 _) ?_
                rw [hs]
                exact ⟨rfl, by rw [hp2]⟩
            · have hs : txS (σ.2 2 a) (hLen σ a) i f = .inr (i + 2, txM f (txB (σ.2 2 a) (hLen σ a) i) LO) := by unfold txS; rw [if_neg hwv, if_pos c_103]
              refine cw_sipush (v := (-9999)) d_M_readsPiece_106 (by decide) ?_
              refine cw_goto 117 d_M_readsPiece_109 (by decide) ?_
              refine cw_istore d_M_readsPiece_117 rfl ?_
              refine cw_iload d_M_readsPiece_119 rfl ?_
              refine cw_iconst (v := (-1)) d_M_readsPiece_121 (by decide) ?_
              refine cw_icmp_ne 127 d_M_readsPiece_122 (by decide) (fun c_122 => ?_) (fun c_122 => ?_)
              · refine cw_iload_n d_M_readsPiece_127 rfl ?_
                refine cw_bipush (v := 45) d_M_readsPiece_128 (by decide) ?_
                refine cw_icmp_ne 139 d_M_readsPiece_130 (by decide) (fun c_130 => ?_) (fun c_130 => ?_)
                · refine cw_iload d_M_readsPiece_139 rfl ?_
                  refine cw_istore d_M_readsPiece_141 rfl ?_
                  refine cw_iconst (v := 0) d_M_readsPiece_143 (by decide) ?_
                  refine cw_istore d_M_readsPiece_144 rfl ?_
                  rw [hs]
                  exact cw_mem mRow_0.symm (l_M_mark (σ := σ) (i0 := i) hmk 0 (by omega))
                · exact absurd (c_103.symm.trans c_130) (by decide)
              · exact absurd c_122 (by decide)
          · refine cw_iload_n d_M_readsPiece_76 rfl ?_
            refine cw_bipush (v := 45) d_M_readsPiece_77 (by decide) ?_
            refine cw_icmp_eq 90 d_M_readsPiece_79 (by decide) (fun c_79 => ?_) (fun c_79 => ?_)
            · refine cw_aload_n d_M_readsPiece_90 rfl ?_
              refine cw_dup_ref d_M_readsPiece_91 ?_
              refine cw_getI fl_M_125 so_M rfl d_M_readsPiece_92 ?_
              refine cw_top finM_a ?_
              refine cw_iconst (v := 1) d_M_readsPiece_95 (by decide) ?_
              refine cw_iadd d_M_readsPiece_96 ?_
              refine cw_top (nI_1 (i + 1)) ?_
              refine cw_putI fp_M_125 so_M rfl d_M_readsPiece_97 ?_
              refine cw_mem finM_s ?_
              refine cw_iload_n d_M_readsPiece_100 rfl ?_
              refine cw_bipush (v := 120) d_M_readsPiece_101 (by decide) ?_
              refine cw_icmp_ne 112 d_M_readsPiece_103 (by decide) (fun c_103 => ?_) (fun c_103 => ?_)
              · have hs0 := txS_num (f := f) hwv c_103 (fun q => q.2 c_79)
                refine cw_aload_n d_M_readsPiece_112 rfl ?_
                refine cw_iload_n d_M_readsPiece_113 rfl ?_
                refine cw_virtI (s_M_number hR hI ha (i := i + 2) (f := f) (by omega)) rfl ml_M_137 so_M rfl rfl d_M_readsPiece_114 (fun r_114 M_114 q_114 => ?_)
                obtain ⟨e_114, f_114⟩ := q_114
                subst e_114; subst f_114
                refine cw_istore d_M_readsPiece_117 rfl ?_
                refine cw_iload d_M_readsPiece_119 rfl ?_
                refine cw_iconst (v := (-1)) d_M_readsPiece_121 (by decide) ?_
                refine cw_icmp_ne 127 d_M_readsPiece_122 (by decide) (fun c_122 => ?_) (fun c_122 => ?_)
                · have hs : txS (σ.2 2 a) (hLen σ a) i f = _ := hs0.1.trans (if_neg c_122)
                  refine cw_iload_n d_M_readsPiece_127 rfl ?_
                  refine cw_bipush (v := 45) d_M_readsPiece_128 (by decide) ?_
                  refine cw_tern2 141 (if txB (σ.2 2 a) (hLen σ a) (i + 1) = 45 then -(nmV (σ.2 2 a) (hLen σ a) (i + 2)).1 else (nmV (σ.2 2 a) (hLen σ a) (i + 2)).1) ?_ (fun k_130 => ?_)
                  · refine cw_istore d_M_readsPiece_141 rfl ?_
                    refine cw_iconst (v := 0) d_M_readsPiece_143 (by decide) ?_
                    refine cw_istore d_M_readsPiece_144 rfl ?_
                    rw [hs]
                    exact cw_mem mRow_0.symm (l_M_mark (σ := σ) (i0 := i) hmk 0 (by omega))
                  · refine cw_icmp_ne 139 d_M_readsPiece_130 (by decide) (fun c_130 => ?_) (fun c_130 => ?_)
                    · refine cw_iload d_M_readsPiece_139 rfl ?_
                      exact k_130 _ (by first | exact (if_pos c_130).symm | exact (if_neg c_130).symm)
                    · refine cw_iload d_M_readsPiece_133 rfl ?_
                      refine cw_ineg d_M_readsPiece_135 ?_
                      refine cw_goto 141 d_M_readsPiece_136 (by decide) ?_
                      exact k_130 _ (by first | exact (if_pos c_130).symm | exact (if_neg c_130).symm)
                · have hs : txS (σ.2 2 a) (hLen σ a) i f = .inl (i + 2) := hs0.1.trans (if_pos c_122)
                  have hp2 := hs0.2 c_122
                  refine cw_iconst (v := 0) d_M_readsPiece_125 (by decide) ?_
                  refine cw_zret rfl d_M_readsPiece_126 (by first | exact Or.inl rfl | exact Or.inr rfl | exact b2_01 _) ?_
                  rw [hs]
                  exact ⟨rfl, by rw [hp2]⟩
              · have hs : txS (σ.2 2 a) (hLen σ a) i f = .inr (i + 2, txM f (txB (σ.2 2 a) (hLen σ a) i) LO) := by unfold txS; rw [if_neg hwv, if_pos c_103]
                refine cw_sipush (v := (-9999)) d_M_readsPiece_106 (by decide) ?_
                refine cw_goto 117 d_M_readsPiece_109 (by decide) ?_
                refine cw_istore d_M_readsPiece_117 rfl ?_
                refine cw_iload d_M_readsPiece_119 rfl ?_
                refine cw_iconst (v := (-1)) d_M_readsPiece_121 (by decide) ?_
                refine cw_icmp_ne 127 d_M_readsPiece_122 (by decide) (fun c_122 => ?_) (fun c_122 => ?_)
                · refine cw_iload_n d_M_readsPiece_127 rfl ?_
                  refine cw_bipush (v := 45) d_M_readsPiece_128 (by decide) ?_
                  refine cw_icmp_ne 139 d_M_readsPiece_130 (by decide) (fun c_130 => ?_) (fun c_130 => ?_)
                  · refine cw_iload d_M_readsPiece_139 rfl ?_
                    refine cw_istore d_M_readsPiece_141 rfl ?_
                    refine cw_iconst (v := 0) d_M_readsPiece_143 (by decide) ?_
                    refine cw_istore d_M_readsPiece_144 rfl ?_
                    rw [hs]
                    exact cw_mem mRow_0.symm (l_M_mark (σ := σ) (i0 := i) hmk 0 (by omega))
                  · exact absurd (c_103.symm.trans c_130) (by decide)
                · exact absurd c_122 (by decide)
            · refine cw_iload_n d_M_readsPiece_82 rfl ?_
              refine cw_bipush (v := 120) d_M_readsPiece_83 (by decide) ?_
              refine cw_icmp_eq 90 d_M_readsPiece_85 (by decide) (fun c_85 => ?_) (fun c_85 => ?_)
              · refine cw_aload_n d_M_readsPiece_90 rfl ?_
                refine cw_dup_ref d_M_readsPiece_91 ?_
                refine cw_getI fl_M_125 so_M rfl d_M_readsPiece_92 ?_
                refine cw_top finM_a ?_
                refine cw_iconst (v := 1) d_M_readsPiece_95 (by decide) ?_
                refine cw_iadd d_M_readsPiece_96 ?_
                refine cw_top (nI_1 (i + 1)) ?_
                refine cw_putI fp_M_125 so_M rfl d_M_readsPiece_97 ?_
                refine cw_mem finM_s ?_
                refine cw_iload_n d_M_readsPiece_100 rfl ?_
                refine cw_bipush (v := 120) d_M_readsPiece_101 (by decide) ?_
                refine cw_icmp_ne 112 d_M_readsPiece_103 (by decide) (fun c_103 => ?_) (fun c_103 => ?_)
                · have hs0 := txS_num (f := f) hwv c_103 (fun q => absurd c_85 c_103)
                  refine cw_aload_n d_M_readsPiece_112 rfl ?_
                  refine cw_iload_n d_M_readsPiece_113 rfl ?_
                  refine cw_virtI (s_M_number hR hI ha (i := i + 2) (f := f) (by omega)) rfl ml_M_137 so_M rfl rfl d_M_readsPiece_114 (fun r_114 M_114 q_114 => ?_)
                  obtain ⟨e_114, f_114⟩ := q_114
                  subst e_114; subst f_114
                  refine cw_istore d_M_readsPiece_117 rfl ?_
                  refine cw_iload d_M_readsPiece_119 rfl ?_
                  refine cw_iconst (v := (-1)) d_M_readsPiece_121 (by decide) ?_
                  refine cw_icmp_ne 127 d_M_readsPiece_122 (by decide) (fun c_122 => ?_) (fun c_122 => ?_)
                  · have hs : txS (σ.2 2 a) (hLen σ a) i f = _ := hs0.1.trans (if_neg c_122)
                    refine cw_iload_n d_M_readsPiece_127 rfl ?_
                    refine cw_bipush (v := 45) d_M_readsPiece_128 (by decide) ?_
                    refine cw_tern2 141 (if txB (σ.2 2 a) (hLen σ a) (i + 1) = 45 then -(nmV (σ.2 2 a) (hLen σ a) (i + 2)).1 else (nmV (σ.2 2 a) (hLen σ a) (i + 2)).1) ?_ (fun k_130 => ?_)
                    · refine cw_istore d_M_readsPiece_141 rfl ?_
                      refine cw_iconst (v := 0) d_M_readsPiece_143 (by decide) ?_
                      refine cw_istore d_M_readsPiece_144 rfl ?_
                      rw [hs]
                      exact cw_mem mRow_0.symm (l_M_mark (σ := σ) (i0 := i) hmk 0 (by omega))
                    · refine cw_icmp_ne 139 d_M_readsPiece_130 (by decide) (fun c_130 => ?_) (fun c_130 => ?_)
                      · refine cw_iload d_M_readsPiece_139 rfl ?_
                        exact k_130 _ (by first | exact (if_pos c_130).symm | exact (if_neg c_130).symm)
                      · refine cw_iload d_M_readsPiece_133 rfl ?_
                        refine cw_ineg d_M_readsPiece_135 ?_
                        refine cw_goto 141 d_M_readsPiece_136 (by decide) ?_
                        exact k_130 _ (by first | exact (if_pos c_130).symm | exact (if_neg c_130).symm)
                  · have hs : txS (σ.2 2 a) (hLen σ a) i f = .inl (i + 2) := hs0.1.trans (if_pos c_122)
                    have hp2 := hs0.2 c_122
                    refine cw_iconst (v := 0) d_M_readsPiece_125 (by decide) ?_
                    refine cw_zret rfl d_M_readsPiece_126 (by first | exact Or.inl rfl | exact Or.inr rfl | exact b2_01 _) ?_
                    rw [hs]
                    exact ⟨rfl, by rw [hp2]⟩
                · have hs : txS (σ.2 2 a) (hLen σ a) i f = .inr (i + 2, txM f (txB (σ.2 2 a) (hLen σ a) i) LO) := by unfold txS; rw [if_neg hwv, if_pos c_103]
                  refine cw_sipush (v := (-9999)) d_M_readsPiece_106 (by decide) ?_
                  refine cw_goto 117 d_M_readsPiece_109 (by decide) ?_
                  refine cw_istore d_M_readsPiece_117 rfl ?_
                  refine cw_iload d_M_readsPiece_119 rfl ?_
                  refine cw_iconst (v := (-1)) d_M_readsPiece_121 (by decide) ?_
                  refine cw_icmp_ne 127 d_M_readsPiece_122 (by decide) (fun c_122 => ?_) (fun c_122 => ?_)
                  · refine cw_iload_n d_M_readsPiece_127 rfl ?_
                    refine cw_bipush (v := 45) d_M_readsPiece_128 (by decide) ?_
                    refine cw_icmp_ne 139 d_M_readsPiece_130 (by decide) (fun c_130 => ?_) (fun c_130 => ?_)
                    · refine cw_iload d_M_readsPiece_139 rfl ?_
                      refine cw_istore d_M_readsPiece_141 rfl ?_
                      refine cw_iconst (v := 0) d_M_readsPiece_143 (by decide) ?_
                      refine cw_istore d_M_readsPiece_144 rfl ?_
                      rw [hs]
                      exact cw_mem mRow_0.symm (l_M_mark (σ := σ) (i0 := i) hmk 0 (by omega))
                    · exact absurd (c_103.symm.trans c_130) (by decide)
                  · exact absurd c_122 (by decide)
              · have hs : txS (σ.2 2 a) (hLen σ a) i f = .inl (i + 1) := by unfold txS; rw [if_neg hwv, if_neg c_85, if_pos ⟨c_73, c_79⟩]
                refine cw_iconst (v := 0) d_M_readsPiece_88 (by decide) ?_
                refine cw_zret rfl d_M_readsPiece_89 (by first | exact Or.inl rfl | exact Or.inr rfl | exact b2_01 _) ?_
                rw [hs]
                exact ⟨rfl, rfl⟩
        · have hs : txS (σ.2 2 a) (hLen σ a) i f = .inl i := if_pos ⟨c_49, fun q => by
            rw [if_neg c_49] at ewh
            exact ((wh_in c_49).mpr q).2 ewh.symm⟩
          refine cw_iconst (v := 0) d_M_readsPiece_52 (by decide) ?_
          refine cw_zret rfl d_M_readsPiece_53 (by first | exact Or.inl rfl | exact Or.inr rfl | exact b2_01 _) ?_
          rw [hs]
          exact ⟨rfl, rfl⟩
  · refine cw_icmp_ne 15 d_M_readsPiece_7 (by decide) (fun c_7 => ?_) (fun c_7 => ?_)
    · refine cw_aload_n d_M_readsPiece_15 rfl ?_
      refine cw_iload_n d_M_readsPiece_16 rfl ?_
      refine cw_virtP (s_M_here hR hI ha (i := i) (f := f) (by omega)) rfl ml_M_128 so_M rfl rfl d_M_readsPiece_17 ?_
      refine cw_bipush (v := 48) d_M_readsPiece_20 (by decide) ?_
      refine cw_isub d_M_readsPiece_22 ?_
      exact k_7 _ (by first | exact (if_pos c_7).symm | exact (if_neg c_7).symm)
    · refine cw_bipush (v := 8) d_M_readsPiece_10 (by decide) ?_
      refine cw_goto 23 d_M_readsPiece_12 (by decide) ?_
      exact k_7 _ (by first | exact (if_pos c_7).symm | exact (if_neg c_7).symm)
theorem txS_lt {tx : Nat → Int32} {len i : Nat} {f : Nat → Int32} (hl : i ≤ len) {q : Nat} {g : Nat → Int32} (h : txS tx len i f = .inr (q, g)) : q ≤ i + 4 := by
  rcases txS_in (tx := tx) (len := len) (i := i) (f := f) with ⟨k, h1, _, _⟩ | ⟨q', g', h1, h2, h3⟩
  · rw [h1] at h; cases h
  · rw [h1] at h; cases h; exact h3
set_option maxHeartbeats 4000000 in
set_option maxRecDepth 100000 in
theorem l_M_reads {M : Mem} {σ : Sg} (hR : RM M σ) (hI : Iv σ) {a : Nat} (ha : a < 4) : ∀ (n i : Nat) (f : Nat → Int32), i ≤ hLen σ a → 41 ≤ i + n → CW u_M_reads (retI (fun r M2 => r = (txR (σ.2 2 a) (hLen σ a) n i f).1 ∧ ∃ k g, M2 = finM M k g ∧ ∀ p, p < 8 → g p = (txR (σ.2 2 a) (hLen σ a) n i f).2 p)) 24 [some (.ref 1000), some (.int (nI a)), some (.int 1)] [] (finM M i f) := by
  obtain ⟨hL1, hL2⟩ := hLen_ok hI a
  intro n
  induction n with
  | zero => intro i f h1 h2; omega
  | succ n ih =>
    intro i f h1 h2
    refine cw_iload_n d_M_reads_24 rfl ?_
    refine cw_if_eq 108 d_M_reads_25 (by decide) (fun c_25 => ?_) (fun c_25 => ?_)
    · exact absurd c_25 (by decide)
    · refine cw_aload_n d_M_reads_28 rfl ?_
      refine cw_iload_n d_M_reads_29 rfl ?_
      refine cw_virtI (s_M_readsPiece hR hI ha (i := i) (f := f) (by omega)) rfl ml_M_143 so_M rfl rfl d_M_reads_30 (fun r_30 M_30 q_30 => ?_)
      rcases txS_in (tx := σ.2 2 a) (len := hLen σ a) (i := i) (f := f) with ⟨kf, hs, hk1, hk2⟩ | ⟨q, g, hs, hk1, hk2⟩
      · rw [hs] at q_30
        obtain ⟨e1, e2⟩ := q_30
        subst e1; subst e2
        have hres : txR (σ.2 2 a) (hLen σ a) (n + 1) i f = (nI kf, tx10) := by simp only [txR, hs]
        rw [hres]
        refine cw_if_ne 45 d_M_reads_33 (by decide) (fun c_33 => ?_) (fun c_33 => ?_)
        · exact absurd rfl c_33
        · refine cw_aload_n d_M_reads_36 rfl ?_
          refine cw_virtV (s_M_clears) rfl ml_M_140 so_M rfl rfl d_M_reads_37 (fun M_37 q_37 => ?_)
          subst q_37
          refine cw_aload_n d_M_reads_40 rfl ?_
          refine cw_getI fl_M_125 so_M rfl d_M_reads_41 ?_
          refine cw_top finM_a ?_
          refine cw_iret rfl d_M_reads_44 ?_
          exact ⟨rfl, kf, tx10, rfl, fun p hp => rfl⟩
      · rw [hs] at q_30
        obtain ⟨e1, e2⟩ := q_30
        subst e1; subst e2
        have hR2 : RM (finM M q g) σ := RM_kq hR finM_kq
        have hty2 := (hR2.ty ha).trans hL1
        refine cw_if_ne 45 d_M_reads_33 (by decide) (fun c_33 => ?_) (fun c_33 => ?_)
        · refine cw_aload_n d_M_reads_45 rfl ?_
          refine cw_getI fl_M_125 so_M rfl d_M_reads_46 ?_
          refine cw_top finM_a ?_
          refine cw_aload_n d_M_reads_49 rfl ?_
          refine cw_getR fl_M_28 so_M rfl d_M_reads_50 ?_
          refine cw_iload_n d_M_reads_53 rfl ?_
          refine cw_ialdN (i := a) sm_typed rfl (by omega) (by decide) d_M_reads_54 ?_
          refine cw_tern2 63 (b2 (decide (q < hLen σ a))) ?_ (fun k_55 => ?_)
          · refine cw_istore_n d_M_reads_63 rfl ?_
            refine cw_iload_n d_M_reads_64 rfl ?_
            refine cw_bif_eq 87 d_M_reads_65 (by decide) (fun c_65 => ?_) (fun c_65 => ?_)
            · have hq : ¬ q < hLen σ a := of_decide_eq_false c_65
              have hres : txR (σ.2 2 a) (hLen σ a) (n + 1) i f = (-1, g) := by simp only [txR, hs, if_neg hq]
              rw [hres]
              refine cw_aload_n d_M_reads_87 rfl ?_
              refine cw_dup_ref d_M_reads_88 ?_
              refine cw_getI fl_M_125 so_M rfl d_M_reads_89 ?_
              refine cw_top finM_a ?_
              refine cw_iload_n d_M_reads_92 rfl ?_
              refine cw_bif_eq 100 d_M_reads_93 (by decide) (fun c_93 => ?_) (fun c_93 => ?_)
              · refine cw_iconst (v := 0) d_M_reads_100 (by decide) ?_
                refine cw_iadd d_M_reads_101 ?_
                refine cw_top (Int32.add_zero (nI q)) ?_
                refine cw_putI fp_M_125 so_M rfl d_M_reads_102 ?_
                refine cw_mem finM_s ?_
                refine cw_goto 24 d_M_reads_105 (by decide) ?_
                refine cw_iload_n d_M_reads_24 rfl ?_
                refine cw_bif_eq 108 d_M_reads_25 (by decide) (fun c_25 => ?_) (fun c_25 => ?_)
                · skip
                  refine cw_iconst (v := (-1)) d_M_reads_108 (by decide) ?_
                  refine cw_iret rfl d_M_reads_109 ?_
                  exact ⟨rfl, q, g, rfl, fun p hp => rfl⟩
                · exact absurd (c_65.symm.trans c_25) (by decide)
              · exact absurd (c_65.symm.trans c_93) (by decide)
            · have hq : q < hLen σ a := of_decide_eq_true c_65
              refine cw_aload_n d_M_reads_68 rfl ?_
              refine cw_iload_n d_M_reads_69 rfl ?_
              refine cw_virtP (s_M_here hR hI ha (i := q) (f := g) (by omega)) rfl ml_M_128 so_M rfl rfl d_M_reads_70 ?_
              refine cw_bipush (v := 59) d_M_reads_73 (by decide) ?_
              refine cw_icmp_eq 87 d_M_reads_75 (by decide) (fun c_75 => ?_) (fun c_75 => ?_)
              · have hres : txR (σ.2 2 a) (hLen σ a) (n + 1) i f = txR (σ.2 2 a) (hLen σ a) n (q + 1) g := by simp only [txR, hs, if_pos hq, if_pos c_75]
                rw [hres]
                refine cw_aload_n d_M_reads_87 rfl ?_
                refine cw_dup_ref d_M_reads_88 ?_
                refine cw_getI fl_M_125 so_M rfl d_M_reads_89 ?_
                refine cw_top finM_a ?_
                refine cw_iload_n d_M_reads_92 rfl ?_
                refine cw_bif_eq 100 d_M_reads_93 (by decide) (fun c_93 => ?_) (fun c_93 => ?_)
                · exact absurd (c_65.symm.trans c_93) (by decide)
                · refine cw_iconst (v := 1) d_M_reads_96 (by decide) ?_
                  refine cw_goto 101 d_M_reads_97 (by decide) ?_
                  refine cw_iadd d_M_reads_101 ?_
                  refine cw_top (nI_1 q) ?_
                  refine cw_putI fp_M_125 so_M rfl d_M_reads_102 ?_
                  refine cw_mem finM_s ?_
                  refine cw_goto 24 d_M_reads_105 (by decide) ?_
                  refine cw_cast (L' := [some (.ref 1000), some (.int (nI a)), some (.int 1)]) (by simp only [lset1, kl, c_65]; rfl) rfl rfl ?_
                  exact ih (q + 1) g (by omega) (by omega)
              · have hres : txR (σ.2 2 a) (hLen σ a) (n + 1) i f = (nI q, tx10) := by simp only [txR, hs, if_pos hq, if_neg c_75]
                rw [hres]
                refine cw_aload_n d_M_reads_78 rfl ?_
                refine cw_virtV (s_M_clears) rfl ml_M_140 so_M rfl rfl d_M_reads_79 (fun M_79 q_79 => ?_)
                subst q_79
                refine cw_aload_n d_M_reads_82 rfl ?_
                refine cw_getI fl_M_125 so_M rfl d_M_reads_83 ?_
                refine cw_top finM_a ?_
                refine cw_iret rfl d_M_reads_86 ?_
                exact ⟨rfl, q, tx10, rfl, fun p hp => rfl⟩
          · refine cw_icmp_geN (q) (hLen σ a) 62 rfl hty2 (by omega) d_M_reads_55 (by decide) (fun c_55 => ?_) (fun c_55 => ?_)
            · refine cw_iconst (v := 0) d_M_reads_62 (by decide) ?_
              exact k_55 _ (by first | exact b2_0 (decide_eq_false (by omega)) | exact b2_1 (decide_eq_true c_55))
            · refine cw_iconst (v := 1) d_M_reads_58 (by decide) ?_
              refine cw_goto 63 d_M_reads_59 (by decide) ?_
              exact k_55 _ (by first | exact b2_0 (decide_eq_false (by omega)) | exact b2_1 (decide_eq_true c_55))
        · exact absurd c_33 (by decide)
theorem finM_0 {M : Mem} : mRow (mS M 1000 9 0) 1011 8 tx10 = finM M 0 tx10 := by
  unfold finM mS mRow
  apply Prod.ext
  · funext k j
    by_cases q : k = 1000 ∧ j = 9
    · have : ¬ (k = 1011 ∧ j < 8) := by omega
      simp only [if_pos q, if_neg this]
      rfl
    · simp only [if_neg q]
  · rfl
set_option maxRecDepth 100000 in
theorem s_M_reads0 {M : Mem} {σ : Sg} (hR : RM M σ) (hI : Iv σ) {a : Nat} (ha : a < 4)  : CS u_M_reads [.ref 1000, .int (nI a)] M (retI (fun r M2 => r = (txP (σ.2 2 a) (hLen σ a)).1 ∧ ∃ k g, M2 = finM M k g ∧ ∀ p, p < 8 → g p = (txP (σ.2 2 a) (hLen σ a)).2 p)) := by
  obtain ⟨hL1, hL2⟩ := hLen_ok hI a
  refine cs_introF (L := [some (.ref 1000), some (.int (nI a)), none]) (by decide +kernel) (fun ad q h => h) (fun ad => Nat.le_of_ble_eq_true rfl) ?_
  refine cw_aload_n d_M_reads_0 rfl ?_
  refine cw_iconst (v := 0) d_M_reads_1 (by decide) ?_
  refine cw_putI fp_M_125 so_M rfl d_M_reads_2 ?_
  refine cw_aload_n d_M_reads_5 rfl ?_
  refine cw_virtV (s_M_clears0) rfl ml_M_140 so_M rfl rfl d_M_reads_6 (fun M_6 q_6 => ?_)
  subst q_6
  refine cw_mem finM_0 ?_
  have hR1 : RM (finM M 0 tx10) σ := RM_kq hR finM_kq
  have hty := (hR1.ty ha).trans hL1
  refine cw_aload_n d_M_reads_9 rfl ?_
  refine cw_getR fl_M_28 so_M rfl d_M_reads_10 ?_
  refine cw_iload_n d_M_reads_13 rfl ?_
  refine cw_ialdN (i := a) sm_typed rfl (by omega) (by decide) d_M_reads_14 ?_
  refine cw_tern1 23 (b2 (decide (0 < hLen σ a))) ?_ (fun k_15 => ?_)
  · refine cw_istore_n d_M_reads_23 rfl ?_
    by_cases h0 : hLen σ a = 0
    · have hp : txP (σ.2 2 a) (hLen σ a) = (-1, tx10) := if_pos h0
      rw [hp]
      refine cw_cast (L' := [some (.ref 1000), some (.int (nI a)), some (.int 0)]) (by simp only [lset1, kl, h0]; rfl) rfl rfl ?_
      refine cw_iload_n d_M_reads_24 rfl ?_
      refine cw_if_eq 108 d_M_reads_25 (by decide) (fun c_25 => ?_) (fun c_25 => ?_)
      · refine cw_iconst (v := (-1)) d_M_reads_108 (by decide) ?_
        refine cw_iret rfl d_M_reads_109 ?_
        exact ⟨rfl, 0, tx10, rfl, fun p hp => rfl⟩
      · exact absurd rfl c_25
    · have hp : txP (σ.2 2 a) (hLen σ a) = txR (σ.2 2 a) (hLen σ a) 41 0 tx10 := if_neg h0
      rw [hp]
      have hd : decide (0 < hLen σ a) = true := decide_eq_true (Nat.pos_of_ne_zero h0)
      exact cw_cast (by simp only [lset1, kl, hd]; rfl) rfl rfl (l_M_reads hR hI ha 41 0 tx10 (by omega) (by omega))
  · refine cw_if_le 22 d_M_reads_15 (by decide) (fun c_15 => ?_) (fun c_15 => ?_)
    · refine cw_iconst (v := 0) d_M_reads_22 (by decide) ?_
      exact k_15 _ (by first | exact b2_0 (decide_eq_false (by rw [hty] at c_15; exact fun q => nI_nle q (by omega) c_15)) | exact b2_1 (decide_eq_true (Nat.pos_of_ne_zero (fun q => c_15 (by rw [hty, q]; exact Int32.le_refl 0)))))
    · refine cw_iconst (v := 1) d_M_reads_18 (by decide) ?_
      refine cw_goto 23 d_M_reads_19 (by decide) ?_
      exact k_15 _ (by first | exact b2_0 (decide_eq_false (by rw [hty] at c_15; exact fun q => nI_nle q (by omega) c_15)) | exact b2_1 (decide_eq_true (Nat.pos_of_ne_zero (fun q => c_15 (by rw [hty, q]; exact Int32.le_refl 0)))))
/-- what a hand says, as the reference reads it -/
theorem s_M_reads {M : Mem} {σ : Sg} (hR : RM M σ) (hI : Iv σ) {a : Nat} (ha : a < 4) : CS u_M_reads [.ref 1000, .int (nI a)] M (retI (fun r M2 => r = (hPar σ a).1 ∧ kq M M2 ∧ ∀ p, p < 8 → mG M2 1011 p = (hPar σ a).2 p)) := by
  have h := s_M_reads0 hR hI ha
  intro l D dA ad
  refine cs_post (fun v M2 hq => ?_) h l D dA ad
  obtain ⟨r, hv, hr, k, g, rfl, hg⟩ := hq
  exact ⟨r, hv, hr, finM_kq, fun p hp => (finM_t hp).trans (hg p hp)⟩
