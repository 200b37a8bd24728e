/-! ===== the class: count, digest ===== -/
def ans_count (σ : Sg) (w : Int32) : Int32 := if ixB w 9 = true then (match ix w with
  | 0 => nI σ.1.1
  | 1 => nI σ.1.2.1
  | 2 => nI σ.1.2.2
  | 3 => σ.2 3 0 0
  | 4 => σ.2 3 1 0
  | 5 => σ.2 3 2 0
  | 6 => σ.2 3 3 0
  | 7 => nI (cntUp (fun d => offB (σ.2 4 0 0) (σ.2 9 d) (σ.2 10 d)) σ.1.2.1)
  | _ => σ.2 16 0 0) else -2
theorem cntUp_c {f g : Nat → Bool} {n : Nat} (h : ∀ i, i < n → f i = g i) : cntUp f n = cntUp g n := by
  induction n with
  | zero => rfl
  | succ n ih => simp only [cntUp]; rw [ih (fun i hi => h i (by omega)), h n (by omega)]
set_option maxRecDepth 100000 in
theorem c_count {M : Mem} {σ : Sg} (hR : RC M σ) (hI : Iv σ) {x : Int32} : CS u_C_count [.ref 0, .int x] M (rC (ans_count σ x) σ M) := by
  obtain ⟨hn1, hn2, hn3⟩ := hI.n
  refine cs_introF (L := [some (.ref 0), some (.int x)]) (by decide +kernel) (fun ad q h => h) (fun ad => Nat.le_of_ble_eq_true rfl) ?_
  refine cw_iload_n d_C_count_0 rfl ?_
  by_cases hw : ixB x 9 = true
  · obtain ⟨k, hk, e_k⟩ := ixB_t hw (by decide)
    subst e_k
    rcases (show k = 0 ∨ k = 1 ∨ k = 2 ∨ k = 3 ∨ k = 4 ∨ k = 5 ∨ k = 6 ∨ k = 7 ∨ k = 8 by omega) with rfl | rfl | rfl | rfl | rfl | rfl | rfl | rfl | rfl
    · refine cw_swIn 52 d_C_count_1 (by decide) (by decide) rfl (by decide) ?_
      refine cw_aload_n d_C_count_52 rfl ?_
      refine cw_getI fl_C_75 so_C rfl d_C_count_53 ?_
      refine cw_iret rfl d_C_count_56 ?_
      exact ⟨by unfold ans_count; rw [if_pos hw]; exact hR.n1, hR, kC.rf⟩
    · refine cw_swIn 57 d_C_count_1 (by decide) (by decide) rfl (by decide) ?_
      refine cw_aload_n d_C_count_57 rfl ?_
      refine cw_getI fl_C_146 so_C rfl d_C_count_58 ?_
      refine cw_iret rfl d_C_count_61 ?_
      exact ⟨by unfold ans_count; rw [if_pos hw]; exact hR.n2, hR, kC.rf⟩
    · refine cw_swIn 62 d_C_count_1 (by decide) (by decide) rfl (by decide) ?_
      refine cw_aload_n d_C_count_62 rfl ?_
      refine cw_getI fl_C_205 so_C rfl d_C_count_63 ?_
      refine cw_iret rfl d_C_count_66 ?_
      exact ⟨by unfold ans_count; rw [if_pos hw]; exact hR.n3, hR, kC.rf⟩
    · refine cw_swIn 67 d_C_count_1 (by decide) (by decide) rfl (by decide) ?_
      refine cw_aload_n d_C_count_67 rfl ?_
      refine cw_getR fl_C_17 so_C rfl d_C_count_68 ?_
      refine cw_iload_n d_C_count_71 rfl ?_
      refine cw_iconst (v := 3) d_C_count_72 (by decide) ?_
      refine cw_isub d_C_count_73 ?_
      refine cw_aaldN (i := 0) sr_2 rfl (by omega) (by decide) d_C_count_74 ?_
      refine cw_getI fl_C_123 (so_Ha (h := 0) (by omega)) rfl d_C_count_75 ?_
      refine cw_iret rfl d_C_count_78 ?_
      exact ⟨by unfold ans_count; rw [if_pos hw]; exact hR.ty (i := 0) (by omega), hR, kC.rf⟩
    · refine cw_swIn 67 d_C_count_1 (by decide) (by decide) rfl (by decide) ?_
      refine cw_aload_n d_C_count_67 rfl ?_
      refine cw_getR fl_C_17 so_C rfl d_C_count_68 ?_
      refine cw_iload_n d_C_count_71 rfl ?_
      refine cw_iconst (v := 3) d_C_count_72 (by decide) ?_
      refine cw_isub d_C_count_73 ?_
      refine cw_aaldN (i := 1) sr_2 rfl (by omega) (by decide) d_C_count_74 ?_
      refine cw_getI fl_C_123 (so_Ha (h := 1) (by omega)) rfl d_C_count_75 ?_
      refine cw_iret rfl d_C_count_78 ?_
      exact ⟨by unfold ans_count; rw [if_pos hw]; exact hR.ty (i := 1) (by omega), hR, kC.rf⟩
    · refine cw_swIn 67 d_C_count_1 (by decide) (by decide) rfl (by decide) ?_
      refine cw_aload_n d_C_count_67 rfl ?_
      refine cw_getR fl_C_17 so_C rfl d_C_count_68 ?_
      refine cw_iload_n d_C_count_71 rfl ?_
      refine cw_iconst (v := 3) d_C_count_72 (by decide) ?_
      refine cw_isub d_C_count_73 ?_
      refine cw_aaldN (i := 2) sr_2 rfl (by omega) (by decide) d_C_count_74 ?_
      refine cw_getI fl_C_123 (so_Ha (h := 2) (by omega)) rfl d_C_count_75 ?_
      refine cw_iret rfl d_C_count_78 ?_
      exact ⟨by unfold ans_count; rw [if_pos hw]; exact hR.ty (i := 2) (by omega), hR, kC.rf⟩
    · refine cw_swIn 67 d_C_count_1 (by decide) (by decide) rfl (by decide) ?_
      refine cw_aload_n d_C_count_67 rfl ?_
      refine cw_getR fl_C_17 so_C rfl d_C_count_68 ?_
      refine cw_iload_n d_C_count_71 rfl ?_
      refine cw_iconst (v := 3) d_C_count_72 (by decide) ?_
      refine cw_isub d_C_count_73 ?_
      refine cw_aaldN (i := 3) sr_2 rfl (by omega) (by decide) d_C_count_74 ?_
      refine cw_getI fl_C_123 (so_Ha (h := 3) (by omega)) rfl d_C_count_75 ?_
      refine cw_iret rfl d_C_count_78 ?_
      exact ⟨by unfold ans_count; rw [if_pos hw]; exact hR.ty (i := 3) (by omega), hR, kC.rf⟩
    · refine cw_swIn 79 d_C_count_1 (by decide) (by decide) rfl (by decide) ?_
      refine cw_aload_n d_C_count_79 rfl ?_
      refine cw_virtP (s_C_monsters hR.n2 hn2) rfl ml_C_310 so_C rfl rfl d_C_count_80 ?_
      refine cw_iret rfl d_C_count_83 ?_
      exact ⟨by unfold ans_count; rw [if_pos hw]; exact congrArg nI (cntUp_c (fun d hd => off_RC hR hd)), hR, kC.rf⟩
    · refine cw_swIn 84 d_C_count_1 (by decide) (by decide) rfl (by decide) ?_
      refine cw_aload_n d_C_count_84 rfl ?_
      refine cw_getI fl_C_313 so_C rfl d_C_count_85 ?_
      refine cw_iret rfl d_C_count_88 ?_
      exact ⟨by unfold ans_count; rw [if_pos hw]; exact hR.lt, hR, kC.rf⟩
  · have hw : ixB x 9 = false := Bool.eq_false_iff.mpr hw
    refine cw_swOut 89 d_C_count_1 (by have := of_decide_eq_false hw; omega) (by decide) ?_
    refine cw_bipush (v := (-2)) d_C_count_89 (by decide) ?_
    refine cw_iret rfl d_C_count_91 ?_
    exact ⟨by simp [ans_count, hw], hR, kC.rf⟩
def dgU (f : Nat → Int32) : Nat → Int64 → Int64
  | 0, h => h
  | n + 1, h => 31 * dgU f n h + (f n).toInt64
def dgD (σ : Sg) (d : Nat) (h : Int64) : Int64 := dgU (fun p => ans_line σ (nI d) (nI p)) 8 (dgU (fun w => ans_about σ (nI d) (nI w)) 8 h)
def dgN (σ : Sg) (k : Nat) : Nat → Int64 → Int64
  | 0, h => h
  | d + 1, h => 31 * (31 * dgN σ k d h + (ans_named σ (nI k) (nI d) 0).toInt64) + (ans_named σ (nI k) (nI d) 1).toInt64
def dgK (σ : Sg) (k : Nat) (h : Int64) : Int64 := dgN σ k σ.1.2.1 (dgU (fun p => ans_leans σ (nI k) (nI p)) 8 h)
def dgH (σ : Sg) : Nat → Int64 → Int64
  | 0, h => h
  | a + 1, h => dgU (fun p => ans_tenths σ (nI a) (nI p)) 8 (31 * dgH σ a h + (ans_fault σ (nI a)).toInt64)
def dgE (σ : Sg) : Nat → Int64 → Int64
  | 0, h => h
  | a + 1, h => 31 * (31 * dgE σ a h + (ans_near σ (nI a) 0).toInt64) + (ans_witness σ (nI a) 1 9).toInt64
def dgF (f : Nat → Int64 → Int64) : Nat → Int64 → Int64
  | 0, h => h
  | n + 1, h => f n (dgF f n h)
def digS (σ : Sg) : Int64 := dgF (dgK σ) σ.1.2.2 (dgF (dgD σ) σ.1.2.1 (dgE σ σ.1.1 (dgH σ 4 (dgU (fun w => ans_count σ (nI w)) 8 17))))
set_option maxRecDepth 100000 in
theorem l_C_dD2 {M : Mem} {σ : Sg} (hR : RC M σ) (hI : Iv σ) {d : Nat} {h0 : Int64}  : ∀ i, i ≤ 8 → ∀ (M' : Mem), RC M' σ → kC M M' → CW u_C_digestOfDrawing (rCJ (dgD σ d h0) σ M) 39 [some (.ref 0), some (.long h0), none, some (.int (nI d)), some (.long (dgU (fun p => ans_line σ (nI d) (nI p)) i (dgU (fun w => ans_about σ (nI d) (nI w)) 8 h0))), none, some (.int (nI i))] [] M' := by
  obtain ⟨hn1, hn2, hn3⟩ := hI.n
  refine up_ind (fun i hi ih M' hR' hkc => ?_)
  refine cw_iload d_C_digestOfDrawing_39 rfl ?_
  refine cw_bipush (v := 8) d_C_digestOfDrawing_41 (by decide) ?_
  refine cw_icmp_geN (i) (8) 69 rfl rfl (by omega) d_C_digestOfDrawing_43 (by decide) (fun c_43 => ?_) (fun c_43 => ?_)
  · refine cw_lload d_C_digestOfDrawing_69 rfl ?_
    refine cw_lret rfl d_C_digestOfDrawing_71 ?_
    have ei : i = 8 := by omega
    subst ei
    exact ⟨rfl, hR', hkc⟩
  · refine cw_ldc2_w kc_C_318 d_C_digestOfDrawing_46 ?_
    refine cw_lload d_C_digestOfDrawing_49 rfl ?_
    refine cw_lmul d_C_digestOfDrawing_51 ?_
    refine cw_aload_n d_C_digestOfDrawing_52 rfl ?_
    refine cw_iload_n d_C_digestOfDrawing_53 rfl ?_
    refine cw_iload d_C_digestOfDrawing_54 rfl ?_
    refine cw_virtI (c_line hR' hI (x := nI d) (y := nI i)) rfl ml_C_368 so_C rfl rfl d_C_digestOfDrawing_56 (fun r_56 M_56 q_56 => ?_)
    obtain ⟨e_56, w_56, c_56⟩ := q_56
    subst e_56
    refine cw_i2l d_C_digestOfDrawing_59 ?_
    refine cw_ladd d_C_digestOfDrawing_60 ?_
    refine cw_lstore d_C_digestOfDrawing_61 rfl ?_
    refine cw_iincN (x := i) d_C_digestOfDrawing_63 rfl rfl ?_
    refine cw_goto 39 d_C_digestOfDrawing_66 (by decide) ?_
    exact cw_cast (by simp only [lset1, lset2, kl, dgU]) rfl rfl (ih c_43 _ w_56 (hkc.tr c_56))
set_option maxRecDepth 100000 in
theorem l_C_dD1 {M : Mem} {σ : Sg} (hR : RC M σ) (hI : Iv σ) {d : Nat} {h0 : Int64}  : ∀ i, i ≤ 8 → ∀ (M' : Mem), RC M' σ → kC M M' → CW u_C_digestOfDrawing (rCJ (dgD σ d h0) σ M) 6 [some (.ref 0), some (.long h0), none, some (.int (nI d)), some (.long (dgU (fun w => ans_about σ (nI d) (nI w)) i h0)), none, some (.int (nI i))] [] M' := by
  obtain ⟨hn1, hn2, hn3⟩ := hI.n
  refine up_ind (fun i hi ih M' hR' hkc => ?_)
  refine cw_iload d_C_digestOfDrawing_6 rfl ?_
  refine cw_bipush (v := 7) d_C_digestOfDrawing_8 (by decide) ?_
  refine cw_icmp_gtN (i) (7) 36 rfl rfl (by omega) d_C_digestOfDrawing_10 (by decide) (fun c_10 => ?_) (fun c_10 => ?_)
  · refine cw_iconst (v := 0) d_C_digestOfDrawing_36 (by decide) ?_
    refine cw_istore d_C_digestOfDrawing_37 rfl ?_
    have ei : i = 8 := by omega
    subst ei
    exact l_C_dD2 hR hI 0 (by omega) M' hR' hkc
  · refine cw_ldc2_w kc_C_318 d_C_digestOfDrawing_13 ?_
    refine cw_lload d_C_digestOfDrawing_16 rfl ?_
    refine cw_lmul d_C_digestOfDrawing_18 ?_
    refine cw_aload_n d_C_digestOfDrawing_19 rfl ?_
    refine cw_iload_n d_C_digestOfDrawing_20 rfl ?_
    refine cw_iload d_C_digestOfDrawing_21 rfl ?_
    refine cw_virtI (c_about hR' hI (x := nI d) (y := nI i)) rfl ml_C_365 so_C rfl rfl d_C_digestOfDrawing_23 (fun r_23 M_23 q_23 => ?_)
    obtain ⟨e_23, w_23, c_23⟩ := q_23
    subst e_23
    refine cw_i2l d_C_digestOfDrawing_26 ?_
    refine cw_ladd d_C_digestOfDrawing_27 ?_
    refine cw_lstore d_C_digestOfDrawing_28 rfl ?_
    refine cw_iincN (x := i) d_C_digestOfDrawing_30 rfl rfl ?_
    refine cw_goto 6 d_C_digestOfDrawing_33 (by decide) ?_
    exact cw_cast (by simp only [lset1, lset2, kl, dgU]) rfl rfl (ih (by omega) _ w_23 (hkc.tr c_23))
set_option maxRecDepth 100000 in
theorem s_C_dD {M : Mem} {σ : Sg} (hR : RC M σ) (hI : Iv σ) {d : Nat} {h0 : Int64}  : CS u_C_digestOfDrawing [.ref 0, .long h0, .int (nI d)] M (rCJ (dgD σ d h0) σ M) := by
  refine cs_introF (L := [some (.ref 0), some (.long h0), none, some (.int (nI d)), none, none, none]) (by decide +kernel) (fun ad q h => h) (fun ad => Nat.le_of_ble_eq_true rfl) ?_
  refine cw_lload_n d_C_digestOfDrawing_0 rfl ?_
  refine cw_lstore d_C_digestOfDrawing_1 rfl ?_
  refine cw_iconst (v := 0) d_C_digestOfDrawing_3 (by decide) ?_
  refine cw_istore d_C_digestOfDrawing_4 rfl ?_
  exact l_C_dD1 hR hI 0 (by omega) _ hR kC.rf
set_option maxRecDepth 100000 in
theorem l_C_dK2 {M : Mem} {σ : Sg} (hR : RC M σ) (hI : Iv σ) {k : Nat} {h0 : Int64}  : ∀ i, i ≤ σ.1.2.1 → ∀ (M' : Mem), RC M' σ → kC M M' → CW u_C_digestOfKnower (rCJ (dgK σ k h0) σ M) 39 [some (.ref 0), some (.long h0), none, some (.int (nI k)), some (.long (dgN σ k i (dgU (fun p => ans_leans σ (nI k) (nI p)) 8 h0))), none, some (.int (nI i))] [] M' := by
  obtain ⟨hn1, hn2, hn3⟩ := hI.n
  refine up_ind (fun i hi ih M' hR' hkc => ?_)
  refine cw_iload d_C_digestOfKnower_39 rfl ?_
  refine cw_aload_n d_C_digestOfKnower_41 rfl ?_
  refine cw_getI fl_C_146 so_C rfl d_C_digestOfKnower_42 ?_
  refine cw_icmp_geN (i) (σ.1.2.1) 90 rfl hR'.n2 (by omega) d_C_digestOfKnower_45 (by decide) (fun c_45 => ?_) (fun c_45 => ?_)
  · refine cw_lload d_C_digestOfKnower_90 rfl ?_
    refine cw_lret rfl d_C_digestOfKnower_92 ?_
    have ei : i = σ.1.2.1 := by omega
    subst ei
    exact ⟨rfl, hR', hkc⟩
  · refine cw_ldc2_w kc_C_318 d_C_digestOfKnower_48 ?_
    refine cw_lload d_C_digestOfKnower_51 rfl ?_
    refine cw_lmul d_C_digestOfKnower_53 ?_
    refine cw_aload_n d_C_digestOfKnower_54 rfl ?_
    refine cw_iload_n d_C_digestOfKnower_55 rfl ?_
    refine cw_iload d_C_digestOfKnower_56 rfl ?_
    refine cw_iconst (v := 0) d_C_digestOfKnower_58 (by decide) ?_
    refine cw_virtI (c_named hR' hI (x := nI k) (y := nI i) (w := 0)) rfl ml_C_374 so_C rfl rfl d_C_digestOfKnower_59 (fun r_59 M_59 q_59 => ?_)
    obtain ⟨e_59, w_59, c_59⟩ := q_59
    subst e_59
    refine cw_i2l d_C_digestOfKnower_62 ?_
    refine cw_ladd d_C_digestOfKnower_63 ?_
    refine cw_lstore d_C_digestOfKnower_64 rfl ?_
    refine cw_ldc2_w kc_C_318 d_C_digestOfKnower_66 ?_
    refine cw_lload d_C_digestOfKnower_69 rfl ?_
    refine cw_lmul d_C_digestOfKnower_71 ?_
    refine cw_aload_n d_C_digestOfKnower_72 rfl ?_
    refine cw_iload_n d_C_digestOfKnower_73 rfl ?_
    refine cw_iload d_C_digestOfKnower_74 rfl ?_
    refine cw_iconst (v := 1) d_C_digestOfKnower_76 (by decide) ?_
    refine cw_virtI (c_named w_59 hI (x := nI k) (y := nI i) (w := 1)) rfl ml_C_374 so_C rfl rfl d_C_digestOfKnower_77 (fun r_77 M_77 q_77 => ?_)
    obtain ⟨e_77, w_77, c_77⟩ := q_77
    subst e_77
    refine cw_i2l d_C_digestOfKnower_80 ?_
    refine cw_ladd d_C_digestOfKnower_81 ?_
    refine cw_lstore d_C_digestOfKnower_82 rfl ?_
    refine cw_iincN (x := i) d_C_digestOfKnower_84 rfl rfl ?_
    refine cw_goto 39 d_C_digestOfKnower_87 (by decide) ?_
    exact cw_cast (by simp only [lset1, lset2, kl, dgN]) rfl rfl (ih c_45 _ w_77 ((hkc.tr c_59).tr c_77))
set_option maxRecDepth 100000 in
theorem l_C_dK1 {M : Mem} {σ : Sg} (hR : RC M σ) (hI : Iv σ) {k : Nat} {h0 : Int64}  : ∀ i, i ≤ 8 → ∀ (M' : Mem), RC M' σ → kC M M' → CW u_C_digestOfKnower (rCJ (dgK σ k h0) σ M) 6 [some (.ref 0), some (.long h0), none, some (.int (nI k)), some (.long (dgU (fun p => ans_leans σ (nI k) (nI p)) i h0)), none, some (.int (nI i))] [] M' := by
  obtain ⟨hn1, hn2, hn3⟩ := hI.n
  refine up_ind (fun i hi ih M' hR' hkc => ?_)
  refine cw_iload d_C_digestOfKnower_6 rfl ?_
  refine cw_bipush (v := 8) d_C_digestOfKnower_8 (by decide) ?_
  refine cw_icmp_geN (i) (8) 36 rfl rfl (by omega) d_C_digestOfKnower_10 (by decide) (fun c_10 => ?_) (fun c_10 => ?_)
  · refine cw_iconst (v := 0) d_C_digestOfKnower_36 (by decide) ?_
    refine cw_istore d_C_digestOfKnower_37 rfl ?_
    have ei : i = 8 := by omega
    subst ei
    exact l_C_dK2 hR hI 0 (by omega) M' hR' hkc
  · refine cw_ldc2_w kc_C_318 d_C_digestOfKnower_13 ?_
    refine cw_lload d_C_digestOfKnower_16 rfl ?_
    refine cw_lmul d_C_digestOfKnower_18 ?_
    refine cw_aload_n d_C_digestOfKnower_19 rfl ?_
    refine cw_iload_n d_C_digestOfKnower_20 rfl ?_
    refine cw_iload d_C_digestOfKnower_21 rfl ?_
    refine cw_virtI (c_leans hR' hI (x := nI k) (y := nI i)) rfl ml_C_371 so_C rfl rfl d_C_digestOfKnower_23 (fun r_23 M_23 q_23 => ?_)
    obtain ⟨e_23, w_23, c_23⟩ := q_23
    subst e_23
    refine cw_i2l d_C_digestOfKnower_26 ?_
    refine cw_ladd d_C_digestOfKnower_27 ?_
    refine cw_lstore d_C_digestOfKnower_28 rfl ?_
    refine cw_iincN (x := i) d_C_digestOfKnower_30 rfl rfl ?_
    refine cw_goto 6 d_C_digestOfKnower_33 (by decide) ?_
    exact cw_cast (by simp only [lset1, lset2, kl, dgU]) rfl rfl (ih c_10 _ w_23 (hkc.tr c_23))
set_option maxRecDepth 100000 in
theorem s_C_dK {M : Mem} {σ : Sg} (hR : RC M σ) (hI : Iv σ) {k : Nat} {h0 : Int64}  : CS u_C_digestOfKnower [.ref 0, .long h0, .int (nI k)] M (rCJ (dgK σ k h0) σ M) := by
  refine cs_introF (L := [some (.ref 0), some (.long h0), none, some (.int (nI k)), none, none, none]) (by decide +kernel) (fun ad q h => h) (fun ad => Nat.le_of_ble_eq_true rfl) ?_
  refine cw_lload_n d_C_digestOfKnower_0 rfl ?_
  refine cw_lstore d_C_digestOfKnower_1 rfl ?_
  refine cw_iconst (v := 0) d_C_digestOfKnower_3 (by decide) ?_
  refine cw_istore d_C_digestOfKnower_4 rfl ?_
  exact l_C_dK1 hR hI 0 (by omega) _ hR kC.rf
set_option maxRecDepth 100000 in
theorem l_C_dg5 {M : Mem} {σ : Sg} (hR : RC M σ) (hI : Iv σ) (x : Int64)  : ∀ i, i ≤ σ.1.2.2 → ∀ (M' : Mem) (o4 : Option Value), RC M' σ → kC M M' → CW u_C_digest (rCJ ((dgF (dgK σ) σ.1.2.2 x)) σ M) 159 [some (.ref 0), some (.long (dgF (dgK σ) i x)), none, some (.int (nI i)), o4] [] M' := by
  obtain ⟨hn1, hn2, hn3⟩ := hI.n
  refine up_ind (fun i hi ih M' o4 hR' hkc => ?_)
  refine cw_iload_n d_C_digest_159 rfl ?_
  refine cw_aload_n d_C_digest_160 rfl ?_
  refine cw_getI fl_C_205 so_C rfl d_C_digest_161 ?_
  refine cw_icmp_geN (i) (σ.1.2.2) 180 rfl hR'.n3 (by omega) d_C_digest_164 (by decide) (fun c_164 => ?_) (fun c_164 => ?_)
  · refine cw_lload_n d_C_digest_180 rfl ?_
    refine cw_lret rfl d_C_digest_181 ?_
    have ei : i = σ.1.2.2 := by omega
    subst ei
    exact ⟨rfl, hR', hkc⟩
  · refine cw_aload_n d_C_digest_167 rfl ?_
    refine cw_lload_n d_C_digest_168 rfl ?_
    refine cw_iload_n d_C_digest_169 rfl ?_
    refine cw_virtJ (s_C_dK hR' hI (k := i)) rfl ml_C_337 so_C rfl rfl d_C_digest_170 (fun r_170 M_170 q_170 => ?_)
    obtain ⟨e_170, w_170, c_170⟩ := q_170
    subst e_170
    refine cw_lstore_n d_C_digest_173 rfl ?_
    refine cw_iincN (x := i) d_C_digest_174 rfl rfl ?_
    refine cw_goto 159 d_C_digest_177 (by decide) ?_
    exact cw_cast (by simp only [lset1, lset2, kl, dgF]; rfl) rfl rfl (ih c_164 _ _ w_170 (hkc.tr c_170))
set_option maxRecDepth 100000 in
theorem l_C_dg4 {M : Mem} {σ : Sg} (hR : RC M σ) (hI : Iv σ) (x : Int64)  : ∀ i, i ≤ σ.1.2.1 → ∀ (M' : Mem) (o4 : Option Value), RC M' σ → kC M M' → CW u_C_digest (rCJ ((dgF (dgK σ) σ.1.2.2 (dgF (dgD σ) σ.1.2.1 x))) σ M) 136 [some (.ref 0), some (.long (dgF (dgD σ) i x)), none, some (.int (nI i)), o4] [] M' := by
  obtain ⟨hn1, hn2, hn3⟩ := hI.n
  refine up_ind (fun i hi ih M' o4 hR' hkc => ?_)
  refine cw_iload_n d_C_digest_136 rfl ?_
  refine cw_aload_n d_C_digest_137 rfl ?_
  refine cw_getI fl_C_146 so_C rfl d_C_digest_138 ?_
  refine cw_icmp_geN (i) (σ.1.2.1) 157 rfl hR'.n2 (by omega) d_C_digest_141 (by decide) (fun c_141 => ?_) (fun c_141 => ?_)
  · refine cw_iconst (v := 0) d_C_digest_157 (by decide) ?_
    refine cw_istore_n d_C_digest_158 rfl ?_
    have ei : i = σ.1.2.1 := by omega
    subst ei
    exact l_C_dg5 hR hI _ 0 (by omega) M' _ hR' hkc
  · refine cw_aload_n d_C_digest_144 rfl ?_
    refine cw_lload_n d_C_digest_145 rfl ?_
    refine cw_iload_n d_C_digest_146 rfl ?_
    refine cw_virtJ (s_C_dD hR' hI (d := i)) rfl ml_C_333 so_C rfl rfl d_C_digest_147 (fun r_147 M_147 q_147 => ?_)
    obtain ⟨e_147, w_147, c_147⟩ := q_147
    subst e_147
    refine cw_lstore_n d_C_digest_150 rfl ?_
    refine cw_iincN (x := i) d_C_digest_151 rfl rfl ?_
    refine cw_goto 136 d_C_digest_154 (by decide) ?_
    exact cw_cast (by simp only [lset1, lset2, kl, dgF]; rfl) rfl rfl (ih c_141 _ _ w_147 (hkc.tr c_147))
set_option maxRecDepth 100000 in
theorem l_C_dg3 {M : Mem} {σ : Sg} (hR : RC M σ) (hI : Iv σ) (x : Int64)  : ∀ i, i ≤ σ.1.1 → ∀ (M' : Mem) (o4 : Option Value), RC M' σ → kC M M' → CW u_C_digest (rCJ ((dgF (dgK σ) σ.1.2.2 (dgF (dgD σ) σ.1.2.1 (dgE σ σ.1.1 x)))) σ M) 90 [some (.ref 0), some (.long (dgE σ i x)), none, some (.int (nI i)), o4] [] M' := by
  obtain ⟨hn1, hn2, hn3⟩ := hI.n
  refine up_ind (fun i hi ih M' o4 hR' hkc => ?_)
  refine cw_iload_n d_C_digest_90 rfl ?_
  refine cw_aload_n d_C_digest_91 rfl ?_
  refine cw_getI fl_C_75 so_C rfl d_C_digest_92 ?_
  refine cw_icmp_geN (i) (σ.1.1) 134 rfl hR'.n1 (by omega) d_C_digest_95 (by decide) (fun c_95 => ?_) (fun c_95 => ?_)
  · refine cw_iconst (v := 0) d_C_digest_134 (by decide) ?_
    refine cw_istore_n d_C_digest_135 rfl ?_
    have ei : i = σ.1.1 := by omega
    subst ei
    exact l_C_dg4 hR hI _ 0 (by omega) M' _ hR' hkc
  · refine cw_ldc2_w kc_C_318 d_C_digest_98 ?_
    refine cw_lload_n d_C_digest_101 rfl ?_
    refine cw_lmul d_C_digest_102 ?_
    refine cw_aload_n d_C_digest_103 rfl ?_
    refine cw_iload_n d_C_digest_104 rfl ?_
    refine cw_iconst (v := 0) d_C_digest_105 (by decide) ?_
    refine cw_virtI (c_near hR' hI (x := nI i) (y := 0)) rfl ml_C_327 so_C rfl rfl d_C_digest_106 (fun r_106 M_106 q_106 => ?_)
    obtain ⟨e_106, w_106, c_106⟩ := q_106
    subst e_106
    refine cw_i2l d_C_digest_109 ?_
    refine cw_ladd d_C_digest_110 ?_
    refine cw_lstore_n d_C_digest_111 rfl ?_
    refine cw_ldc2_w kc_C_318 d_C_digest_112 ?_
    refine cw_lload_n d_C_digest_115 rfl ?_
    refine cw_lmul d_C_digest_116 ?_
    refine cw_aload_n d_C_digest_117 rfl ?_
    refine cw_iload_n d_C_digest_118 rfl ?_
    refine cw_iconst (v := 1) d_C_digest_119 (by decide) ?_
    refine cw_bipush (v := 9) d_C_digest_120 (by decide) ?_
    refine cw_virtI (c_witness w_106 hI (x := nI i) (s := 1) (t := 9)) rfl ml_C_330 so_C rfl rfl d_C_digest_122 (fun r_122 M_122 q_122 => ?_)
    obtain ⟨e_122, w_122, c_122⟩ := q_122
    subst e_122
    refine cw_i2l d_C_digest_125 ?_
    refine cw_ladd d_C_digest_126 ?_
    refine cw_lstore_n d_C_digest_127 rfl ?_
    refine cw_iincN (x := i) d_C_digest_128 rfl rfl ?_
    refine cw_goto 90 d_C_digest_131 (by decide) ?_
    exact cw_cast (by simp only [lset1, lset2, kl, dgE]; rfl) rfl rfl (ih c_95 _ _ w_122 ((hkc.tr c_106).tr c_122))
set_option maxRecDepth 100000 in
theorem l_C_dg2a {M : Mem} {σ : Sg} (hR : RC M σ) (hI : Iv σ) (x : Int64) {a : Nat} (ha : a < 4) (K : ∀ (M' : Mem) (o4 : Option Value), RC M' σ → kC M M' → CW u_C_digest (rCJ ((dgF (dgK σ) σ.1.2.2 (dgF (dgD σ) σ.1.2.1 (dgE σ σ.1.1 (dgH σ 4 x))))) σ M) 33 [some (.ref 0), some (.long (dgH σ (a + 1) x)), none, some (.int (nI (a + 1))), o4] [] M')  : ∀ i, i ≤ 8 → ∀ (M' : Mem), RC M' σ → kC M M' → CW u_C_digest (rCJ ((dgF (dgK σ) σ.1.2.2 (dgF (dgD σ) σ.1.2.1 (dgE σ σ.1.1 (dgH σ 4 x))))) σ M) 54 [some (.ref 0), some (.long (dgU (fun p => ans_tenths σ (nI a) (nI p)) i (31 * dgH σ a x + (ans_fault σ (nI a)).toInt64))), none, some (.int (nI a)), some (.int (nI i))] [] M' := by
  obtain ⟨hn1, hn2, hn3⟩ := hI.n
  refine up_ind (fun i hi ih M' hR' hkc => ?_)
  refine cw_iload d_C_digest_54 rfl ?_
  refine cw_bipush (v := 8) d_C_digest_56 (by decide) ?_
  refine cw_icmp_geN (i) (8) 82 rfl rfl (by omega) d_C_digest_58 (by decide) (fun c_58 => ?_) (fun c_58 => ?_)
  · refine cw_iincN (x := a) d_C_digest_82 rfl rfl ?_
    refine cw_goto 33 d_C_digest_85 (by decide) ?_
    have ei : i = 8 := by omega
    subst ei
    exact K M' _ hR' hkc
  · refine cw_ldc2_w kc_C_318 d_C_digest_61 ?_
    refine cw_lload_n d_C_digest_64 rfl ?_
    refine cw_lmul d_C_digest_65 ?_
    refine cw_aload_n d_C_digest_66 rfl ?_
    refine cw_iload_n d_C_digest_67 rfl ?_
    refine cw_iload d_C_digest_68 rfl ?_
    refine cw_virtI (c_tenths hR' hI (x := nI a) (y := nI i)) rfl ml_C_325 so_C rfl rfl d_C_digest_70 (fun r_70 M_70 q_70 => ?_)
    obtain ⟨e_70, w_70, c_70⟩ := q_70
    subst e_70
    refine cw_i2l d_C_digest_73 ?_
    refine cw_ladd d_C_digest_74 ?_
    refine cw_lstore_n d_C_digest_75 rfl ?_
    refine cw_iincN (x := i) d_C_digest_76 rfl rfl ?_
    refine cw_goto 54 d_C_digest_79 (by decide) ?_
    exact cw_cast (by simp only [lset1, lset2, kl, dgU]) rfl rfl (ih c_58 _ w_70 (hkc.tr c_70))
set_option maxRecDepth 100000 in
theorem l_C_dg2 {M : Mem} {σ : Sg} (hR : RC M σ) (hI : Iv σ) (x : Int64)  : ∀ i, i ≤ 4 → ∀ (M' : Mem) (o4 : Option Value), RC M' σ → kC M M' → CW u_C_digest (rCJ ((dgF (dgK σ) σ.1.2.2 (dgF (dgD σ) σ.1.2.1 (dgE σ σ.1.1 (dgH σ 4 x))))) σ M) 33 [some (.ref 0), some (.long (dgH σ i x)), none, some (.int (nI i)), o4] [] M' := by
  obtain ⟨hn1, hn2, hn3⟩ := hI.n
  refine up_ind (fun i hi ih M' o4 hR' hkc => ?_)
  refine cw_iload_n d_C_digest_33 rfl ?_
  refine cw_iconst (v := 4) d_C_digest_34 (by decide) ?_
  refine cw_icmp_geN (i) (4) 88 rfl rfl (by omega) d_C_digest_35 (by decide) (fun c_35 => ?_) (fun c_35 => ?_)
  · refine cw_iconst (v := 0) d_C_digest_88 (by decide) ?_
    refine cw_istore_n d_C_digest_89 rfl ?_
    have ei : i = 4 := by omega
    subst ei
    exact l_C_dg3 hR hI _ 0 (by omega) M' _ hR' hkc
  · refine cw_ldc2_w kc_C_318 d_C_digest_38 ?_
    refine cw_lload_n d_C_digest_41 rfl ?_
    refine cw_lmul d_C_digest_42 ?_
    refine cw_aload_n d_C_digest_43 rfl ?_
    refine cw_iload_n d_C_digest_44 rfl ?_
    refine cw_virtI (c_fault hR' hI (x := nI i)) rfl ml_C_323 so_C rfl rfl d_C_digest_45 (fun r_45 M_45 q_45 => ?_)
    obtain ⟨e_45, w_45, c_45⟩ := q_45
    subst e_45
    refine cw_i2l d_C_digest_48 ?_
    refine cw_ladd d_C_digest_49 ?_
    refine cw_lstore_n d_C_digest_50 rfl ?_
    refine cw_iconst (v := 0) d_C_digest_51 (by decide) ?_
    refine cw_istore d_C_digest_52 rfl ?_
    exact l_C_dg2a hR hI _ (a := i) (by omega) (fun M2 o5 q1 q2 => ih c_35 M2 o5 q1 q2) 0 (by omega) _ w_45 (hkc.tr c_45)
set_option maxRecDepth 100000 in
theorem l_C_dg1 {M : Mem} {σ : Sg} (hR : RC M σ) (hI : Iv σ) (x : Int64)  : ∀ i, i ≤ 8 → ∀ (M' : Mem) (o4 : Option Value), RC M' σ → kC M M' → CW u_C_digest (rCJ ((dgF (dgK σ) σ.1.2.2 (dgF (dgD σ) σ.1.2.1 (dgE σ σ.1.1 (dgH σ 4 (dgU (fun w => ans_count σ (nI w)) 8 x)))))) σ M) 6 [some (.ref 0), some (.long (dgU (fun w => ans_count σ (nI w)) i x)), none, some (.int (nI i)), o4] [] M' := by
  obtain ⟨hn1, hn2, hn3⟩ := hI.n
  refine up_ind (fun i hi ih M' o4 hR' hkc => ?_)
  refine cw_iload_n d_C_digest_6 rfl ?_
  refine cw_bipush (v := 7) d_C_digest_7 (by decide) ?_
  refine cw_icmp_gtN (i) (7) 31 rfl rfl (by omega) d_C_digest_9 (by decide) (fun c_9 => ?_) (fun c_9 => ?_)
  · refine cw_iconst (v := 0) d_C_digest_31 (by decide) ?_
    refine cw_istore_n d_C_digest_32 rfl ?_
    have ei : i = 8 := by omega
    subst ei
    exact l_C_dg2 hR hI _ 0 (by omega) M' _ hR' hkc
  · refine cw_ldc2_w kc_C_318 d_C_digest_12 ?_
    refine cw_lload_n d_C_digest_15 rfl ?_
    refine cw_lmul d_C_digest_16 ?_
    refine cw_aload_n d_C_digest_17 rfl ?_
    refine cw_iload_n d_C_digest_18 rfl ?_
    refine cw_virtI (c_count hR' hI (x := nI i)) rfl ml_C_320 so_C rfl rfl d_C_digest_19 (fun r_19 M_19 q_19 => ?_)
    obtain ⟨e_19, w_19, c_19⟩ := q_19
    subst e_19
    refine cw_i2l d_C_digest_22 ?_
    refine cw_ladd d_C_digest_23 ?_
    refine cw_lstore_n d_C_digest_24 rfl ?_
    refine cw_iincN (x := i) d_C_digest_25 rfl rfl ?_
    refine cw_goto 6 d_C_digest_28 (by decide) ?_
    exact cw_cast (by simp only [lset1, lset2, kl, dgU]; rfl) rfl rfl (ih (by omega) _ _ w_19 (hkc.tr c_19))
set_option maxRecDepth 100000 in
theorem c_digest {M : Mem} {σ : Sg} (hR : RC M σ) (hI : Iv σ)  : CS u_C_digest [.ref 0] M (rCJ (digS σ) σ M) := by
  refine cs_introF (L := [some (.ref 0), none, none, none, none]) (by decide +kernel) (fun ad q h => h) (fun ad => Nat.le_of_ble_eq_true rfl) ?_
  refine cw_ldc2_w kc_C_316 d_C_digest_0 ?_
  refine cw_lstore_n d_C_digest_3 rfl ?_
  refine cw_iconst (v := 0) d_C_digest_4 (by decide) ?_
  refine cw_istore_n d_C_digest_5 rfl ?_
  unfold digS
  exact l_C_dg1 hR hI 17 0 (by omega) _ _ hR kC.rf
