/-! ===== the reference: its small calls ===== -/
theorem hd_RM {M : Mem} {σ : Sg} (hI : Iv σ) (hR : RM M σ) (h : σ.1.1 < 8) : RM (mS (mSeg M 1007 (8 * σ.1.1) 8 (fun _ => 50)) 1000 5 (nI (σ.1.1 + 1))) ((σ.1.1 + 1, σ.1.2.1, σ.1.2.2), σ.2) := by
  refine ⟨mS_at, (mS_j (by omega)).trans ((mSeg_k (by omega)).trans hR.n2), (mS_j (by omega)).trans ((mSeg_k (by omega)).trans hR.n3), fun t i j hd => ?_⟩
  by_cases q : t = 1 ∧ i = σ.1.1
  · obtain ⟨rfl, rfl⟩ := q
    rw [hI.2.2.2.2.1 σ.1.1 j (Nat.le_refl _)]
    exact (mS_k (k' := 1007) (by omega)).trans (mSeg_in (b := 8 * σ.1.1) (j := j) (n := 8) hd.2)
  · have hd2 : dM σ t i j := by
      unfold dM at hd ⊢
      split at hd <;> simp_all
      omega
    have h4 := (LM_ns hd2).2
    refine Eq.trans ?_ (hR.2.2.2 t i j hd2)
    have e1 : mG (mS (mSeg M 1007 (8 * σ.1.1) 8 (fun _ => 50)) 1000 5 (nI (σ.1.1 + 1))) (LM t i j).1 (LM t i j).2 = mG (mSeg M 1007 (8 * σ.1.1) 8 (fun _ => 50)) (LM t i j).1 (LM t i j).2 := by
      show (if _ then _ else _) = _
      rw [if_neg (fun z => by have := h4 z.1; omega)]
      rfl
    rw [e1]
    refine mSeg_out (fun z => ?_)
    have hk := dLM_ok hI hd2
    rw [z.1] at hk
    have hk' : ((1 : Nat), (LM t i j).2 / 8, (LM t i j).2 % 8) = (t, i, j) := hk
    simp only [Prod.mk.injEq] at hk'
    exact q ⟨by omega, by omega⟩
set_option maxRecDepth 100000 in
theorem l_M_head {M : Mem} {σ : Sg} (hR : RM M σ) (hI : Iv σ) (h8 : σ.1.1 < 8)  : ∀ i, i ≤ 8 → CW u_M_head (rM (nI σ.1.1) ((σ.1.1 + 1, σ.1.2.1, σ.1.2.2), σ.2) M) 14 [some (.ref 1000), some (.int (nI i))] [] (mSeg M 1007 (8 * σ.1.1) i (fun _ => 50)) := by
  refine up_ind (fun i hi ih => ?_)
  refine cw_iload_n d_M_head_14 rfl ?_
  refine cw_bipush (v := 8) d_M_head_15 (by decide) ?_
  refine cw_icmp_geN (i) (8) 42 rfl rfl (by omega) d_M_head_17 (by decide) (fun c_17 => ?_) (fun c_17 => ?_)
  · refine cw_aload_n d_M_head_42 rfl ?_
    refine cw_dup_ref d_M_head_43 ?_
    refine cw_getI fl_M_98 so_M rfl d_M_head_44 ?_
    refine cw_top ((mSeg_k (by omega)).trans hR.n1) ?_
    refine cw_iconst (v := 1) d_M_head_47 (by decide) ?_
    refine cw_iadd d_M_head_48 ?_
    refine cw_top (nI_1 σ.1.1) ?_
    refine cw_putI fp_M_98 so_M rfl d_M_head_49 ?_
    refine cw_aload_n d_M_head_52 rfl ?_
    refine cw_getI fl_M_98 so_M rfl d_M_head_53 ?_
    refine cw_top mS_at ?_
    refine cw_iconst (v := 1) d_M_head_56 (by decide) ?_
    refine cw_isub d_M_head_57 ?_
    refine cw_iret rfl d_M_head_58 ?_
    have ei : i = 8 := by omega
    subst ei
    exact ⟨by rw [← nI_1]; exact Int32.add_sub_cancel _ _, hd_RM hI hR h8, (mSeg_kM (by omega)).tr (mS_kM (by omega))⟩
  · refine cw_aload_n d_M_head_20 rfl ?_
    refine cw_getR fl_M_22 so_M rfl d_M_head_21 ?_
    refine cw_bipush (v := 8) d_M_head_24 (by decide) ?_
    refine cw_aload_n d_M_head_26 rfl ?_
    refine cw_getI fl_M_98 so_M rfl d_M_head_27 ?_
    refine cw_imul d_M_head_30 ?_
    refine cw_iload_n d_M_head_31 rfl ?_
    refine cw_iadd d_M_head_32 ?_
    refine cw_bipush (v := 50) d_M_head_33 (by decide) ?_
    refine cw_iastN (i := (8 * (σ.1.1)) + i) sm_places (nAdd (nMul rfl ((mSeg_k (by omega)).trans hR.n1)) rfl) (by omega) (by decide) d_M_head_35 ?_
    refine cw_iincN (x := i) d_M_head_36 rfl rfl ?_
    refine cw_goto 14 d_M_head_39 (by decide) ?_
    exact cw_cast (by simp only [lset1, kl]) rfl (mSeg_s (f := fun _ => 50)) (ih c_17)
set_option maxRecDepth 100000 in
theorem m_head {M : Mem} {σ : Sg} (hR : RM M σ) (hI : Iv σ)  : CS u_M_head [.ref 1000] M (rM (ans_head σ) (aft_head σ) M) := by
  obtain ⟨hn1, hn2, hn3⟩ := hI.n
  refine cs_introF (L := [some (.ref 1000), none]) (by decide +kernel) (fun ad q h => h) (fun ad => Nat.le_of_ble_eq_true rfl) ?_
  refine cw_aload_n d_M_head_0 rfl ?_
  refine cw_getI fl_M_98 so_M rfl d_M_head_1 ?_
  refine cw_bipush (v := 8) d_M_head_4 (by decide) ?_
  refine cw_icmp_neN (σ.1.1) (8) 12 hR.n1 rfl (by omega) d_M_head_6 (by decide) (fun c_6 => ?_) (fun c_6 => ?_)
  · refine cw_iconst (v := 0) d_M_head_12 (by decide) ?_
    refine cw_istore_n d_M_head_13 rfl ?_
    unfold ans_head aft_head
    rw [if_neg c_6, if_neg c_6]
    exact cw_mem mSeg_0.symm (l_M_head hR hI (by omega) 0 (by omega))
  · have h8 : σ.1.1 = 8 := c_6
    refine cw_bipush (v := (-4)) d_M_head_9 (by decide) ?_
    refine cw_iret rfl d_M_head_11 ?_
    exact ⟨(if_pos h8).symm, by unfold aft_head; rw [if_pos h8]; exact hR, kM.rf⟩
set_option maxRecDepth 100000 in
theorem m_place {M : Mem} {σ : Sg} (hR : RM M σ) (hI : Iv σ) {x y v : Int32} : CS u_M_place [.ref 1000, .int x, .int y, .int v] M (rM (ans_place σ x y v) (aft_place σ x y v) M) := by
  obtain ⟨hn1, hn2, hn3⟩ := hI.n
  refine cs_introF (L := [some (.ref 1000), some (.int x), some (.int y), some (.int v), none]) (by decide +kernel) (fun ad q h => h) (fun ad => Nat.le_of_ble_eq_true rfl) ?_
  refine cw_aload_n d_M_place_0 rfl ?_
  refine cw_iload_n d_M_place_1 rfl ?_
  refine cw_virtP (s_M_isHead hR hI) rfl ml_M_103 so_M rfl rfl d_M_place_2 ?_
  refine cw_bif_eq 27 d_M_place_5 (by decide) (fun c_5 => ?_) (fun c_5 => ?_)
  · refine cw_bipush (v := (-2)) d_M_place_27 (by decide) ?_
    refine cw_iret rfl d_M_place_29 ?_
    exact ⟨by simp [ans_place, c_5], by simp [aft_place, c_5]; exact hR, kM.rf⟩
  · obtain ⟨h, hhh, e_h⟩ := ixB_t c_5 (by omega)
    subst e_h
    refine cw_iload_n d_M_place_8 rfl ?_
    refine cw_staticP (s_M_isPart) rfl ml_M_106 rfl rfl d_M_place_9 ?_
    refine cw_bif_eq 27 d_M_place_12 (by decide) (fun c_12 => ?_) (fun c_12 => ?_)
    · refine cw_bipush (v := (-2)) d_M_place_27 (by decide) ?_
      refine cw_iret rfl d_M_place_29 ?_
      exact ⟨by simp [ans_place, c_5, c_12], by simp [aft_place, c_5, c_12]; exact hR, kM.rf⟩
    · obtain ⟨p, hhp, e_p⟩ := ixB_t c_12 (by omega)
      subst e_p
      refine cw_iload_n d_M_place_15 rfl ?_
      refine cw_i2l d_M_place_16 ?_
      refine cw_lconst (v := 0) d_M_place_17 (by decide) ?_
      refine cw_ldc2_w kc_M_109 d_M_place_18 ?_
      refine cw_staticP (s_M_in) rfl ml_M_69 rfl rfl d_M_place_21 ?_
      refine cw_top (y := b2 (ixB v 100)) (by rw [inJ_ix 100 (by decide)]) ?_
      refine cw_bif_ne 30 d_M_place_24 (by decide) (fun c_24 => ?_) (fun c_24 => ?_)
      · refine cw_aload_n d_M_place_30 rfl ?_
        refine cw_getR fl_M_22 so_M rfl d_M_place_31 ?_
        refine cw_bipush (v := 8) d_M_place_34 (by decide) ?_
        refine cw_iload_n d_M_place_36 rfl ?_
        refine cw_imul d_M_place_37 ?_
        refine cw_iload_n d_M_place_38 rfl ?_
        refine cw_iadd d_M_place_39 ?_
        refine cw_ialdN (i := (8 * h) + p) sm_places (nAdd (nMul rfl rfl) rfl) (by omega) (by decide) d_M_place_40 ?_
        refine cw_istore d_M_place_41 rfl ?_
        refine cw_aload_n d_M_place_43 rfl ?_
        refine cw_getR fl_M_22 so_M rfl d_M_place_44 ?_
        refine cw_bipush (v := 8) d_M_place_47 (by decide) ?_
        refine cw_iload_n d_M_place_49 rfl ?_
        refine cw_imul d_M_place_50 ?_
        refine cw_iload_n d_M_place_51 rfl ?_
        refine cw_iadd d_M_place_52 ?_
        refine cw_iload_n d_M_place_53 rfl ?_
        refine cw_iastN (i := (8 * h) + p) sm_places (nAdd (nMul rfl rfl) rfl) (by omega) (by decide) d_M_place_54 ?_
        refine cw_iload d_M_place_55 rfl ?_
        refine cw_iret rfl d_M_place_57 ?_
        exact ⟨by simp [ans_place, c_5, c_12, c_24, ix_nI (show h < 2 ^ 31 by omega), ix_nI (show p < 2 ^ 31 by omega)]; exact hR.pl (by omega) (by omega), by simp [aft_place, c_5, c_12, c_24, ix_nI (show h < 2 ^ 31 by omega), ix_nI (show p < 2 ^ 31 by omega)]; exact RM_su hI hR (t := 1) (i := h) (j := p) ⟨by omega, hhp⟩ (by decide), mS_kM (by omega)⟩
      · refine cw_bipush (v := (-2)) d_M_place_27 (by decide) ?_
        refine cw_iret rfl d_M_place_29 ?_
        exact ⟨by simp [ans_place, c_5, c_12, c_24], by simp [aft_place, c_5, c_12, c_24]; exact hR, kM.rf⟩
set_option maxRecDepth 100000 in
theorem m_mean {M : Mem} {σ : Sg} (hR : RM M σ) (hI : Iv σ) {x y : Int32} : CS u_M_mean [.ref 1000, .int x, .int y] M (rM (ans_mean σ x y) σ M) := by
  obtain ⟨hn1, hn2, hn3⟩ := hI.n
  refine cs_introF (L := [some (.ref 1000), some (.int x), some (.int y)]) (by decide +kernel) (fun ad q h => h) (fun ad => Nat.le_of_ble_eq_true rfl) ?_
  refine cw_aload_n d_M_mean_0 rfl ?_
  refine cw_iload_n d_M_mean_1 rfl ?_
  refine cw_virtP (s_M_isSet hR hI) rfl ml_M_114 so_M rfl rfl d_M_mean_2 ?_
  refine cw_bif_eq 24 d_M_mean_5 (by decide) (fun c_5 => ?_) (fun c_5 => ?_)
  · refine cw_bipush (v := (-2)) d_M_mean_24 (by decide) ?_
    refine cw_iret rfl d_M_mean_26 ?_
    exact ⟨by simp [ans_mean, c_5], hR, kM.rf⟩
  · refine cw_iload_n d_M_mean_8 rfl ?_
    refine cw_staticP (s_M_isPart) rfl ml_M_106 rfl rfl d_M_mean_9 ?_
    refine cw_bif_eq 24 d_M_mean_12 (by decide) (fun c_12 => ?_) (fun c_12 => ?_)
    · refine cw_bipush (v := (-2)) d_M_mean_24 (by decide) ?_
      refine cw_iret rfl d_M_mean_26 ?_
      exact ⟨by simp [ans_mean, c_5, c_12], hR, kM.rf⟩
    · obtain ⟨p, hhp, e_p⟩ := ixB_t c_12 (by omega)
      subst e_p
      refine cw_aload_n d_M_mean_15 rfl ?_
      refine cw_iload_n d_M_mean_16 rfl ?_
      refine cw_iload_n d_M_mean_17 rfl ?_
      refine cw_virtP (s_M_meanOf hR hI hhp c_5) rfl ml_M_117 so_M rfl rfl d_M_mean_18 ?_
      refine cw_goto 26 d_M_mean_21 (by decide) ?_
      refine cw_iret rfl d_M_mean_26 ?_
      exact ⟨by simp [ans_mean, c_5, c_12, ix_nI (show p < 2 ^ 31 by omega)], hR, kM.rf⟩
set_option maxRecDepth 100000 in
theorem m_line {M : Mem} {σ : Sg} (hR : RM M σ) (hI : Iv σ) {x y : Int32} : CS u_M_line [.ref 1000, .int x, .int y] M (rM (ans_line σ x y) σ M) := by
  obtain ⟨hn1, hn2, hn3⟩ := hI.n
  refine cs_introF (L := [some (.ref 1000), some (.int x), some (.int y)]) (by decide +kernel) (fun ad q h => h) (fun ad => Nat.le_of_ble_eq_true rfl) ?_
  refine cw_aload_n d_M_line_0 rfl ?_
  refine cw_iload_n d_M_line_1 rfl ?_
  refine cw_virtP (s_M_isDrawing hR hI) rfl ml_M_163 so_M rfl rfl d_M_line_2 ?_
  refine cw_bif_eq 29 d_M_line_5 (by decide) (fun c_5 => ?_) (fun c_5 => ?_)
  · refine cw_bipush (v := (-2)) d_M_line_29 (by decide) ?_
    refine cw_staticP (s_M_dear) rfl ml_M_149 rfl rfl d_M_line_31 ?_
    refine cw_top (y := -10002) (by decide) ?_
    refine cw_iret rfl d_M_line_34 ?_
    exact ⟨by simp [ans_line, c_5], hR, kM.rf⟩
  · obtain ⟨d, hhd, e_d⟩ := ixB_t c_5 (by omega)
    subst e_d
    refine cw_iload_n d_M_line_8 rfl ?_
    refine cw_staticP (s_M_isPart) rfl ml_M_106 rfl rfl d_M_line_9 ?_
    refine cw_bif_eq 29 d_M_line_12 (by decide) (fun c_12 => ?_) (fun c_12 => ?_)
    · refine cw_bipush (v := (-2)) d_M_line_29 (by decide) ?_
      refine cw_staticP (s_M_dear) rfl ml_M_149 rfl rfl d_M_line_31 ?_
      refine cw_top (y := -10002) (by decide) ?_
      refine cw_iret rfl d_M_line_34 ?_
      exact ⟨by simp [ans_line, c_5, c_12], hR, kM.rf⟩
    · obtain ⟨p, hhp, e_p⟩ := ixB_t c_12 (by omega)
      subst e_p
      refine cw_aload_n d_M_line_15 rfl ?_
      refine cw_getR fl_M_49 so_M rfl d_M_line_16 ?_
      refine cw_bipush (v := 8) d_M_line_19 (by decide) ?_
      refine cw_iload_n d_M_line_21 rfl ?_
      refine cw_imul d_M_line_22 ?_
      refine cw_iload_n d_M_line_23 rfl ?_
      refine cw_iadd d_M_line_24 ?_
      refine cw_ialdN (i := (8 * d) + p) sm_lines (nAdd (nMul rfl rfl) rfl) (by omega) (by decide) d_M_line_25 ?_
      refine cw_goto 34 d_M_line_26 (by decide) ?_
      refine cw_iret rfl d_M_line_34 ?_
      exact ⟨by simp [ans_line, c_5, c_12, ix_nI (show d < 2 ^ 31 by omega), ix_nI (show p < 2 ^ 31 by omega)]; exact hR.li (by omega) (by omega), hR, kM.rf⟩
set_option maxRecDepth 100000 in
theorem m_leans {M : Mem} {σ : Sg} (hR : RM M σ) (hI : Iv σ) {x y : Int32} : CS u_M_leans [.ref 1000, .int x, .int y] M (rM (ans_leans σ x y) σ M) := by
  obtain ⟨hn1, hn2, hn3⟩ := hI.n
  refine cs_introF (L := [some (.ref 1000), some (.int x), some (.int y)]) (by decide +kernel) (fun ad q h => h) (fun ad => Nat.le_of_ble_eq_true rfl) ?_
  refine cw_aload_n d_M_leans_0 rfl ?_
  refine cw_iload_n d_M_leans_1 rfl ?_
  refine cw_virtP (s_M_isKnower hR hI) rfl ml_M_193 so_M rfl rfl d_M_leans_2 ?_
  refine cw_bif_eq 29 d_M_leans_5 (by decide) (fun c_5 => ?_) (fun c_5 => ?_)
  · refine cw_bipush (v := (-2)) d_M_leans_29 (by decide) ?_
    refine cw_staticP (s_M_dear) rfl ml_M_149 rfl rfl d_M_leans_31 ?_
    refine cw_top (y := -10002) (by decide) ?_
    refine cw_iret rfl d_M_leans_34 ?_
    exact ⟨by simp [ans_leans, c_5], hR, kM.rf⟩
  · obtain ⟨k, hhk, e_k⟩ := ixB_t c_5 (by omega)
    subst e_k
    refine cw_iload_n d_M_leans_8 rfl ?_
    refine cw_staticP (s_M_isPart) rfl ml_M_106 rfl rfl d_M_leans_9 ?_
    refine cw_bif_eq 29 d_M_leans_12 (by decide) (fun c_12 => ?_) (fun c_12 => ?_)
    · refine cw_bipush (v := (-2)) d_M_leans_29 (by decide) ?_
      refine cw_staticP (s_M_dear) rfl ml_M_149 rfl rfl d_M_leans_31 ?_
      refine cw_top (y := -10002) (by decide) ?_
      refine cw_iret rfl d_M_leans_34 ?_
      exact ⟨by simp [ans_leans, c_5, c_12], hR, kM.rf⟩
    · obtain ⟨p, hhp, e_p⟩ := ixB_t c_12 (by omega)
      subst e_p
      refine cw_aload_n d_M_leans_15 rfl ?_
      refine cw_getR fl_M_58 so_M rfl d_M_leans_16 ?_
      refine cw_bipush (v := 8) d_M_leans_19 (by decide) ?_
      refine cw_iload_n d_M_leans_21 rfl ?_
      refine cw_imul d_M_leans_22 ?_
      refine cw_iload_n d_M_leans_23 rfl ?_
      refine cw_iadd d_M_leans_24 ?_
      refine cw_ialdN (i := (8 * k) + p) sm_own (nAdd (nMul rfl rfl) rfl) (by omega) (by decide) d_M_leans_25 ?_
      refine cw_goto 34 d_M_leans_26 (by decide) ?_
      refine cw_iret rfl d_M_leans_34 ?_
      exact ⟨by simp [ans_leans, c_5, c_12, ix_nI (show k < 2 ^ 31 by omega), ix_nI (show p < 2 ^ 31 by omega)]; exact hR.ow (by omega) (by omega), hR, kM.rf⟩
set_option maxRecDepth 100000 in
theorem m_fault {M : Mem} {σ : Sg} (hR : RM M σ) (hI : Iv σ) {x : Int32} : CS u_M_fault [.ref 1000, .int x] M (rM (ans_fault σ x) σ M) := by
  obtain ⟨hn1, hn2, hn3⟩ := hI.n
  refine cs_introF (L := [some (.ref 1000), some (.int x)]) (by decide +kernel) (fun ad q h => h) (fun ad => Nat.le_of_ble_eq_true rfl) ?_
  refine cw_iload_n d_M_fault_0 rfl ?_
  refine cw_staticP (s_M_isHand) rfl ml_M_120 rfl rfl d_M_fault_1 ?_
  refine cw_bif_eq 15 d_M_fault_4 (by decide) (fun c_4 => ?_) (fun c_4 => ?_)
  · refine cw_bipush (v := (-2)) d_M_fault_15 (by decide) ?_
    refine cw_iret rfl d_M_fault_17 ?_
    exact ⟨by simp [ans_fault, c_4], hR, kM.rf⟩
  · obtain ⟨a, hha, e_a⟩ := ixB_t c_4 (by omega)
    subst e_a
    refine cw_aload_n d_M_fault_7 rfl ?_
    refine cw_iload_n d_M_fault_8 rfl ?_
    refine cw_virtI (s_M_reads hR hI (a := a) (by omega)) rfl ml_M_146 so_M rfl rfl d_M_fault_9 (fun r_9 M_9 q_9 => ?_)
    obtain ⟨e_9, k_9, t_9⟩ := q_9
    subst e_9
    have hR_9 := RM_kq hR k_9
    refine cw_goto 17 d_M_fault_12 (by decide) ?_
    refine cw_iret rfl d_M_fault_17 ?_
    exact ⟨by simp [ans_fault, c_4, ix_nI (show a < 2 ^ 31 by omega)], hR_9, k_9.kM⟩
set_option maxRecDepth 100000 in
theorem m_tenths {M : Mem} {σ : Sg} (hR : RM M σ) (hI : Iv σ) {x y : Int32} : CS u_M_tenths [.ref 1000, .int x, .int y] M (rM (ans_tenths σ x y) σ M) := by
  obtain ⟨hn1, hn2, hn3⟩ := hI.n
  refine cs_introF (L := [some (.ref 1000), some (.int x), some (.int y)]) (by decide +kernel) (fun ad q h => h) (fun ad => Nat.le_of_ble_eq_true rfl) ?_
  refine cw_iload_n d_M_tenths_0 rfl ?_
  refine cw_staticP (s_M_isHand) rfl ml_M_120 rfl rfl d_M_tenths_1 ?_
  refine cw_bif_eq 14 d_M_tenths_4 (by decide) (fun c_4 => ?_) (fun c_4 => ?_)
  · refine cw_bipush (v := (-2)) d_M_tenths_14 (by decide) ?_
    refine cw_staticP (s_M_dear) rfl ml_M_149 rfl rfl d_M_tenths_16 ?_
    refine cw_top (y := -10002) (by decide) ?_
    refine cw_iret rfl d_M_tenths_19 ?_
    exact ⟨by simp [ans_tenths, c_4], hR, kM.rf⟩
  · obtain ⟨a, hha, e_a⟩ := ixB_t c_4 (by omega)
    subst e_a
    refine cw_iload_n d_M_tenths_7 rfl ?_
    refine cw_staticP (s_M_isPart) rfl ml_M_106 rfl rfl d_M_tenths_8 ?_
    refine cw_bif_ne 20 d_M_tenths_11 (by decide) (fun c_11 => ?_) (fun c_11 => ?_)
    · obtain ⟨p, hhp, e_p⟩ := ixB_t c_11 (by omega)
      subst e_p
      refine cw_aload_n d_M_tenths_20 rfl ?_
      refine cw_iload_n d_M_tenths_21 rfl ?_
      refine cw_virtI (s_M_reads hR hI (a := a) (by omega)) rfl ml_M_146 so_M rfl rfl d_M_tenths_22 (fun r_22 M_22 q_22 => ?_)
      obtain ⟨e_22, k_22, t_22⟩ := q_22
      subst e_22
      have hR_22 := RM_kq hR k_22
      refine cw_pop_int d_M_tenths_25 ?_
      refine cw_aload_n d_M_tenths_26 rfl ?_
      refine cw_getR fl_M_31 so_M rfl d_M_tenths_27 ?_
      refine cw_iload_n d_M_tenths_30 rfl ?_
      refine cw_ialdN (i := p) sm_tenthsOf rfl (by omega) (by decide) d_M_tenths_31 ?_
      refine cw_iret rfl d_M_tenths_32 ?_
      exact ⟨by simp [ans_tenths, c_4, c_11, ix_nI (show a < 2 ^ 31 by omega), ix_nI (show p < 2 ^ 31 by omega)]; exact t_22 p (by omega), hR_22, k_22.kM⟩
    · refine cw_bipush (v := (-2)) d_M_tenths_14 (by decide) ?_
      refine cw_staticP (s_M_dear) rfl ml_M_149 rfl rfl d_M_tenths_16 ?_
      refine cw_top (y := -10002) (by decide) ?_
      refine cw_iret rfl d_M_tenths_19 ?_
      exact ⟨by simp [ans_tenths, c_4, c_11], hR, kM.rf⟩
set_option maxRecDepth 100000 in
theorem m_drawn {M : Mem} {σ : Sg} (hR : RM M σ) (hI : Iv σ) {x y s z : Int32} : CS u_M_drawn [.ref 1000, .int x, .int y, .int s, .int z] M (rM (ans_drawn σ x y s z) σ M) := by
  obtain ⟨hn1, hn2, hn3⟩ := hI.n
  refine cs_introF (L := [some (.ref 1000), some (.int x), some (.int y), some (.int s), some (.int z)]) (by decide +kernel) (fun ad q h => h) (fun ad => Nat.le_of_ble_eq_true rfl) ?_
  refine cw_iload_n d_M_drawn_0 rfl ?_
  refine cw_staticP (s_M_isHand) rfl ml_M_120 rfl rfl d_M_drawn_1 ?_
  refine cw_bif_eq 31 d_M_drawn_4 (by decide) (fun c_4 => ?_) (fun c_4 => ?_)
  · refine cw_bipush (v := (-2)) d_M_drawn_31 (by decide) ?_
    refine cw_staticP (s_M_dear) rfl ml_M_149 rfl rfl d_M_drawn_33 ?_
    refine cw_top (y := -10002) (by decide) ?_
    refine cw_iret rfl d_M_drawn_36 ?_
    exact ⟨by simp [ans_drawn, c_4], hR, kM.rf⟩
  · obtain ⟨a, hha, e_a⟩ := ixB_t c_4 (by omega)
    subst e_a
    refine cw_aload_n d_M_drawn_7 rfl ?_
    refine cw_iload_n d_M_drawn_8 rfl ?_
    refine cw_virtP (s_M_isHead hR hI) rfl ml_M_103 so_M rfl rfl d_M_drawn_9 ?_
    refine cw_bif_eq 31 d_M_drawn_12 (by decide) (fun c_12 => ?_) (fun c_12 => ?_)
    · refine cw_bipush (v := (-2)) d_M_drawn_31 (by decide) ?_
      refine cw_staticP (s_M_dear) rfl ml_M_149 rfl rfl d_M_drawn_33 ?_
      refine cw_top (y := -10002) (by decide) ?_
      refine cw_iret rfl d_M_drawn_36 ?_
      exact ⟨by simp [ans_drawn, c_4, c_12], hR, kM.rf⟩
    · obtain ⟨h, hhh, e_h⟩ := ixB_t c_12 (by omega)
      subst e_h
      refine cw_aload_n d_M_drawn_15 rfl ?_
      refine cw_iload_n d_M_drawn_16 rfl ?_
      refine cw_virtP (s_M_isSet hR hI) rfl ml_M_114 so_M rfl rfl d_M_drawn_17 ?_
      refine cw_bif_eq 31 d_M_drawn_20 (by decide) (fun c_20 => ?_) (fun c_20 => ?_)
      · refine cw_bipush (v := (-2)) d_M_drawn_31 (by decide) ?_
        refine cw_staticP (s_M_dear) rfl ml_M_149 rfl rfl d_M_drawn_33 ?_
        refine cw_top (y := -10002) (by decide) ?_
        refine cw_iret rfl d_M_drawn_36 ?_
        exact ⟨by simp [ans_drawn, c_4, c_12, c_20], hR, kM.rf⟩
      · refine cw_iload d_M_drawn_23 rfl ?_
        refine cw_staticP (s_M_isPart) rfl ml_M_106 rfl rfl d_M_drawn_25 ?_
        refine cw_bif_ne 37 d_M_drawn_28 (by decide) (fun c_28 => ?_) (fun c_28 => ?_)
        · obtain ⟨p, hhp, e_p⟩ := ixB_t c_28 (by omega)
          subst e_p
          refine cw_aload_n d_M_drawn_37 rfl ?_
          refine cw_iload_n d_M_drawn_38 rfl ?_
          refine cw_virtI (s_M_reads hR hI (a := a) (by omega)) rfl ml_M_146 so_M rfl rfl d_M_drawn_39 (fun r_39 M_39 q_39 => ?_)
          obtain ⟨e_39, k_39, t_39⟩ := q_39
          subst e_39
          have hR_39 := RM_kq hR k_39
          refine cw_pop_int d_M_drawn_42 ?_
          refine cw_aload_n d_M_drawn_43 rfl ?_
          refine cw_getR fl_M_22 so_M rfl d_M_drawn_44 ?_
          refine cw_bipush (v := 8) d_M_drawn_47 (by decide) ?_
          refine cw_iload_n d_M_drawn_49 rfl ?_
          refine cw_imul d_M_drawn_50 ?_
          refine cw_iload d_M_drawn_51 rfl ?_
          refine cw_iadd d_M_drawn_53 ?_
          refine cw_ialdN (i := (8 * h) + p) sm_places (nAdd (nMul rfl rfl) rfl) (by omega) (by decide) d_M_drawn_54 ?_
          refine cw_aload_n d_M_drawn_55 rfl ?_
          refine cw_iload_n d_M_drawn_56 rfl ?_
          refine cw_iload d_M_drawn_57 rfl ?_
          refine cw_virtP (s_M_meanOf hR_39 hI hhp c_20) rfl ml_M_117 so_M rfl rfl d_M_drawn_59 ?_
          refine cw_aload_n d_M_drawn_62 rfl ?_
          refine cw_getR fl_M_31 so_M rfl d_M_drawn_63 ?_
          refine cw_iload d_M_drawn_66 rfl ?_
          refine cw_ialdN (i := p) sm_tenthsOf rfl (by omega) (by decide) d_M_drawn_68 ?_
          refine cw_staticP (s_M_drawnBy) rfl ml_M_152 rfl rfl d_M_drawn_69 ?_
          refine cw_iret rfl d_M_drawn_72 ?_
          exact ⟨by simp [ans_drawn, c_4, c_12, c_20, c_28, ix_nI (show a < 2 ^ 31 by omega), ix_nI (show h < 2 ^ 31 by omega), ix_nI (show p < 2 ^ 31 by omega)]; rw [hR_39.pl (by omega) (by omega), t_39 p (by omega)], hR_39, k_39.kM⟩
        · refine cw_bipush (v := (-2)) d_M_drawn_31 (by decide) ?_
          refine cw_staticP (s_M_dear) rfl ml_M_149 rfl rfl d_M_drawn_33 ?_
          refine cw_top (y := -10002) (by decide) ?_
          refine cw_iret rfl d_M_drawn_36 ?_
          exact ⟨by simp [ans_drawn, c_4, c_12, c_20, c_28], hR, kM.rf⟩
theorem Iv_tx {σ : Sg} (hI : Iv σ) {a j : Nat} {v : Int32} : Iv (su σ 2 a j v) := by
  obtain ⟨h1, h2, h3, h4, h5, h6, h7, h8, h9, h10⟩ := hI
  have e : ∀ t x y, t ≠ 2 → (su σ 2 a j v).2 t x y = σ.2 t x y := fun t x y ht => su_ne (fun q => ht q.1)
  refine ⟨h1, h2, h3, fun h p => ?_, fun h p hh => ?_, fun b => ?_, ?_, fun d hd => ?_, fun k p hk => ?_, fun s => ?_⟩
  · rw [e _ _ _ (by decide)]; exact h4 h p
  · rw [e _ _ _ (by decide)]; exact h5 h p hh
  · rw [e _ _ _ (by decide)]; exact h6 b
  · rw [e _ _ _ (by decide), e _ _ _ (by decide), e _ _ _ (by decide)]; exact h7
  · rw [e _ _ _ (by decide), e _ _ _ (by decide)]
    refine ⟨(h8 d hd).1, (h8 d hd).2.1, fun p => ?_⟩
    rw [e _ _ _ (by decide), e _ _ _ (by decide)]
    exact (h8 d hd).2.2 p
  · rw [e _ _ _ (by decide)]; exact h9 k p hk
  · rw [e _ _ _ (by decide), e _ _ _ (by decide)]; exact h10 s
set_option maxRecDepth 100000 in
theorem m_type {M : Mem} {σ : Sg} (hR : RM M σ) (hI : Iv σ) {x b : Int32} : CS u_M_type [.ref 1000, .int x, .int b] M (rM (ans_type σ x b) (aft_type σ x b) M) := by
  obtain ⟨hn1, hn2, hn3⟩ := hI.n
  refine cs_introF (L := [some (.ref 1000), some (.int x), some (.int b)]) (by decide +kernel) (fun ad q h => h) (fun ad => Nat.le_of_ble_eq_true rfl) ?_
  refine cw_iload_n d_M_type_0 rfl ?_
  refine cw_staticP (s_M_isHand) rfl ml_M_120 rfl rfl d_M_type_1 ?_
  refine cw_bif_eq 19 d_M_type_4 (by decide) (fun c_4 => ?_) (fun c_4 => ?_)
  · refine cw_bipush (v := (-2)) d_M_type_19 (by decide) ?_
    refine cw_iret rfl d_M_type_21 ?_
    exact ⟨by simp [ans_type, c_4], by simp [aft_type, c_4]; exact hR, kM.rf⟩
  · obtain ⟨a, hha, e_a⟩ := ixB_t c_4 (by omega)
    subst e_a
    refine cw_iload_n d_M_type_7 rfl ?_
    refine cw_i2l d_M_type_8 ?_
    refine cw_lconst (v := 0) d_M_type_9 (by decide) ?_
    refine cw_ldc2_w kc_M_123 d_M_type_10 ?_
    refine cw_staticP (s_M_in) rfl ml_M_69 rfl rfl d_M_type_13 ?_
    refine cw_top (y := b2 (ixB b 256)) (by rw [inJ_ix 256 (by decide)]) ?_
    refine cw_bif_ne 22 d_M_type_16 (by decide) (fun c_16 => ?_) (fun c_16 => ?_)
    · have hL1 := (hLen_ok hI a).1
      have hL2 := (hLen_ok hI a).2
      have hty := (hR.ty (i := a) (by omega)).trans hL1
      refine cw_aload_n d_M_type_22 rfl ?_
      refine cw_getR fl_M_28 so_M rfl d_M_type_23 ?_
      refine cw_iload_n d_M_type_26 rfl ?_
      refine cw_ialdN (i := a) sm_typed rfl (by omega) (by decide) d_M_type_27 ?_
      refine cw_bipush (v := 40) d_M_type_28 (by decide) ?_
      refine cw_icmp_neN (hLen σ a) (40) 36 hty rfl (by omega) d_M_type_30 (by decide) (fun c_30 => ?_) (fun c_30 => ?_)
      · refine cw_aload_n d_M_type_36 rfl ?_
        refine cw_getR fl_M_25 so_M rfl d_M_type_37 ?_
        refine cw_bipush (v := 40) d_M_type_40 (by decide) ?_
        refine cw_iload_n d_M_type_42 rfl ?_
        refine cw_imul d_M_type_43 ?_
        refine cw_aload_n d_M_type_44 rfl ?_
        refine cw_getR fl_M_28 so_M rfl d_M_type_45 ?_
        refine cw_iload_n d_M_type_48 rfl ?_
        refine cw_ialdN (i := a) sm_typed rfl (by omega) (by decide) d_M_type_49 ?_
        refine cw_iadd d_M_type_50 ?_
        refine cw_iload_n d_M_type_51 rfl ?_
        refine cw_iastN (i := (40 * a) + (hLen σ a)) sm_text (nAdd (nMul rfl rfl) hty) (by omega) (by decide) d_M_type_52 ?_
        refine cw_aload_n d_M_type_53 rfl ?_
        refine cw_getR fl_M_28 so_M rfl d_M_type_54 ?_
        refine cw_iload_n d_M_type_57 rfl ?_
        refine cw_dup2 d_M_type_58 ?_
        refine cw_ialdN (i := a) sm_typed rfl (by omega) (by decide) d_M_type_59 ?_
        refine cw_top ((mS_k (by omega)).trans hty) ?_
        refine cw_iconst (v := 1) d_M_type_60 (by decide) ?_
        refine cw_iadd d_M_type_61 ?_
        refine cw_top (nI_1 (hLen σ a)) ?_
        refine cw_iastN (i := a) sm_typed rfl (by omega) (by decide) d_M_type_62 ?_
        refine cw_aload_n d_M_type_63 rfl ?_
        refine cw_getR fl_M_28 so_M rfl d_M_type_64 ?_
        refine cw_iload_n d_M_type_67 rfl ?_
        refine cw_ialdN (i := a) sm_typed rfl (by omega) (by decide) d_M_type_68 ?_
        refine cw_top mS_at ?_
        refine cw_iret rfl d_M_type_69 ?_
        exact ⟨by simp [ans_type, c_4, c_16, ix_nI (show a < 2 ^ 31 by omega), c_30], by simp [aft_type, c_4, c_16, ix_nI (show a < 2 ^ 31 by omega), c_30]; exact RM_su (σ := su σ 2 a (hLen σ a) b) (Iv_tx hI) (RM_su hI hR (t := 2) (i := a) (j := hLen σ a) ⟨by omega, by omega⟩ (by decide)) (t := 3) (i := a) (j := 0) ⟨by omega, rfl⟩ (by decide), (mS_kM (by omega)).tr (mS_kM (by omega))⟩
      · refine cw_bipush (v := (-4)) d_M_type_33 (by decide) ?_
        refine cw_iret rfl d_M_type_35 ?_
        exact ⟨by simp [ans_type, c_4, c_16, ix_nI (show a < 2 ^ 31 by omega), c_30], by simp [aft_type, c_4, c_16, ix_nI (show a < 2 ^ 31 by omega), c_30]; exact hR, kM.rf⟩
    · refine cw_bipush (v := (-2)) d_M_type_19 (by decide) ?_
      refine cw_iret rfl d_M_type_21 ?_
      exact ⟨by simp [ans_type, c_4, c_16], by simp [aft_type, c_4, c_16]; exact hR, kM.rf⟩
set_option maxRecDepth 100000 in
theorem m_wipe {M : Mem} {σ : Sg} (hR : RM M σ) (hI : Iv σ) {x : Int32} : CS u_M_wipe [.ref 1000, .int x] M (rM (ans_wipe σ x) (aft_wipe σ x) M) := by
  obtain ⟨hn1, hn2, hn3⟩ := hI.n
  refine cs_introF (L := [some (.ref 1000), some (.int x), none]) (by decide +kernel) (fun ad q h => h) (fun ad => Nat.le_of_ble_eq_true rfl) ?_
  refine cw_iload_n d_M_wipe_0 rfl ?_
  refine cw_staticP (s_M_isHand) rfl ml_M_120 rfl rfl d_M_wipe_1 ?_
  refine cw_bif_ne 10 d_M_wipe_4 (by decide) (fun c_4 => ?_) (fun c_4 => ?_)
  · obtain ⟨a, hha, e_a⟩ := ixB_t c_4 (by omega)
    subst e_a
    refine cw_aload_n d_M_wipe_10 rfl ?_
    refine cw_getR fl_M_28 so_M rfl d_M_wipe_11 ?_
    refine cw_iload_n d_M_wipe_14 rfl ?_
    refine cw_ialdN (i := a) sm_typed rfl (by omega) (by decide) d_M_wipe_15 ?_
    refine cw_istore_n d_M_wipe_16 rfl ?_
    refine cw_aload_n d_M_wipe_17 rfl ?_
    refine cw_getR fl_M_28 so_M rfl d_M_wipe_18 ?_
    refine cw_iload_n d_M_wipe_21 rfl ?_
    refine cw_iconst (v := 0) d_M_wipe_22 (by decide) ?_
    refine cw_iastN (i := a) sm_typed rfl (by omega) (by decide) d_M_wipe_23 ?_
    refine cw_iload_n d_M_wipe_24 rfl ?_
    refine cw_iret rfl d_M_wipe_25 ?_
    exact ⟨by simp [ans_wipe, c_4, ix_nI (show a < 2 ^ 31 by omega)]; exact hR.ty (by omega), by simp [aft_wipe, c_4, ix_nI (show a < 2 ^ 31 by omega)]; exact RM_su hI hR (t := 3) (i := a) (j := 0) ⟨by omega, rfl⟩ (by decide), mS_kM (by omega)⟩
  · refine cw_bipush (v := (-2)) d_M_wipe_7 (by decide) ?_
    refine cw_iret rfl d_M_wipe_9 ?_
    exact ⟨by simp [ans_wipe, c_4], by simp [aft_wipe, c_4]; exact hR, kM.rf⟩
theorem inJ_lh {v : Int32} {lo hi : Int64} : inJ v.toInt64 lo hi = decide (lo.toInt ≤ v.toInt ∧ v.toInt ≤ hi.toInt) := by
  unfold inJ
  rw [Int32.toInt_toInt64]
set_option maxRecDepth 100000 in
theorem m_set {M : Mem} {σ : Sg} (hR : RM M σ) (hI : Iv σ) {x v : Int32} : CS u_M_set [.ref 1000, .int x, .int v] M (rM (ans_set σ x v) (aft_set σ x v) M) := by
  obtain ⟨hn1, hn2, hn3⟩ := hI.n
  refine cs_introF (L := [some (.ref 1000), some (.int x), some (.int v), none]) (by decide +kernel) (fun ad q h => h) (fun ad => Nat.le_of_ble_eq_true rfl) ?_
  refine cw_iload_n d_M_set_0 rfl ?_
  refine cw_i2l d_M_set_1 ?_
  refine cw_lconst (v := 0) d_M_set_2 (by decide) ?_
  refine cw_ldc2_w kc_M_83 d_M_set_3 ?_
  refine cw_staticP (s_M_in) rfl ml_M_69 rfl rfl d_M_set_6 ?_
  refine cw_top (y := b2 (ixB x 3)) (by rw [inJ_ix 3 (by decide)]) ?_
  refine cw_bif_eq 44 d_M_set_9 (by decide) (fun c_9 => ?_) (fun c_9 => ?_)
  · have hz : setOk x v = false := set_f (by
      have h1 := of_decide_eq_false c_9
      have i2 : (2 : Int32).toInt = 2 := rfl
      have := i0
      have := i1
      rintro (⟨q1, q2⟩ | ⟨q1, q2⟩ | ⟨q1, q2⟩) <;> subst q1 <;> omega)
    refine cw_bipush (v := (-2)) d_M_set_44 (by decide) ?_
    refine cw_iret rfl d_M_set_46 ?_
    exact ⟨by simp [ans_set, hz], by simp [aft_set, hz]; exact hR, kM.rf⟩
  · obtain ⟨k, hk, e_k⟩ := ixB_t c_9 (by decide)
    subst e_k
    rcases (show k = 0 ∨ k = 1 ∨ k = 2 by omega) with rfl | rfl | rfl
    · refine cw_iload_n d_M_set_12 rfl ?_
      refine cw_i2l d_M_set_13 ?_
      refine cw_iload_n d_M_set_14 rfl ?_
      refine cw_iconst (v := 2) d_M_set_15 (by decide) ?_
      refine cw_icmp_ne 23 d_M_set_16 (by decide) (fun c_16 => ?_) (fun c_16 => ?_)
      · refine cw_lconst (v := 1) d_M_set_23 (by decide) ?_
        refine cw_iload_n d_M_set_24 rfl ?_
        refine cw_iconst (v := 1) d_M_set_25 (by decide) ?_
        refine cw_icmp_ne 35 d_M_set_26 (by decide) (fun c_26 => ?_) (fun c_26 => ?_)
        · refine cw_ldc2_w kc_M_109 d_M_set_35 ?_
          refine cw_staticP (s_M_in) rfl ml_M_69 rfl rfl d_M_set_38 ?_
          refine cw_top (y := b2 (setOk (nI 0) v)) (congrArg b2 (inJ_lh.trans (decide_eq_decide.mpr ⟨fun q => Or.inl ⟨rfl, q⟩, fun q => by rcases q with ⟨z, q⟩ | ⟨z, q⟩ | ⟨z, q⟩ <;> first | exact absurd z (by decide) | exact q⟩))) ?_
          refine cw_bif_ne 47 d_M_set_41 (by decide) (fun c_41 => ?_) (fun c_41 => ?_)
          · refine cw_aload_n d_M_set_47 rfl ?_
            refine cw_getR fl_M_34 so_M rfl d_M_set_48 ?_
            refine cw_iload_n d_M_set_51 rfl ?_
            refine cw_ialdN (i := 0) sm_settings rfl (by omega) (by decide) d_M_set_52 ?_
            refine cw_istore_n d_M_set_53 rfl ?_
            refine cw_aload_n d_M_set_54 rfl ?_
            refine cw_getR fl_M_34 so_M rfl d_M_set_55 ?_
            refine cw_iload_n d_M_set_58 rfl ?_
            refine cw_iload_n d_M_set_59 rfl ?_
            refine cw_iastN (i := 0) sm_settings rfl (by omega) (by decide) d_M_set_60 ?_
            refine cw_iload_n d_M_set_61 rfl ?_
            refine cw_iret rfl d_M_set_62 ?_
            exact ⟨by simp [ans_set, c_41, ix_nI (show 0 < 2 ^ 31 by omega)]; exact hR.st (by omega), by simp [aft_set, c_41, ix_nI (show 0 < 2 ^ 31 by omega)]; exact RM_su hI hR (t := 4) (i := 0) (j := 0) ⟨by omega, rfl⟩ (by decide), mS_kM (by omega)⟩
          · refine cw_bipush (v := (-2)) d_M_set_44 (by decide) ?_
            refine cw_iret rfl d_M_set_46 ?_
            exact ⟨by simp [ans_set, c_41], by simp [aft_set, c_41]; exact hR, kM.rf⟩
        · exact absurd c_26 (by decide)
      · exact absurd c_16 (by decide)
    · refine cw_iload_n d_M_set_12 rfl ?_
      refine cw_i2l d_M_set_13 ?_
      refine cw_iload_n d_M_set_14 rfl ?_
      refine cw_iconst (v := 2) d_M_set_15 (by decide) ?_
      refine cw_icmp_ne 23 d_M_set_16 (by decide) (fun c_16 => ?_) (fun c_16 => ?_)
      · refine cw_lconst (v := 1) d_M_set_23 (by decide) ?_
        refine cw_iload_n d_M_set_24 rfl ?_
        refine cw_iconst (v := 1) d_M_set_25 (by decide) ?_
        refine cw_icmp_ne 35 d_M_set_26 (by decide) (fun c_26 => ?_) (fun c_26 => ?_)
        · exact absurd rfl c_26
        · refine cw_ldc2_w kc_M_155 d_M_set_29 ?_
          refine cw_goto 38 d_M_set_32 (by decide) ?_
          refine cw_staticP (s_M_in) rfl ml_M_69 rfl rfl d_M_set_38 ?_
          refine cw_top (y := b2 (setOk (nI 1) v)) (congrArg b2 (inJ_lh.trans (decide_eq_decide.mpr ⟨fun q => Or.inr (Or.inl ⟨rfl, q⟩), fun q => by rcases q with ⟨z, q⟩ | ⟨z, q⟩ | ⟨z, q⟩ <;> first | exact absurd z (by decide) | exact q⟩))) ?_
          refine cw_bif_ne 47 d_M_set_41 (by decide) (fun c_41 => ?_) (fun c_41 => ?_)
          · refine cw_aload_n d_M_set_47 rfl ?_
            refine cw_getR fl_M_34 so_M rfl d_M_set_48 ?_
            refine cw_iload_n d_M_set_51 rfl ?_
            refine cw_ialdN (i := 1) sm_settings rfl (by omega) (by decide) d_M_set_52 ?_
            refine cw_istore_n d_M_set_53 rfl ?_
            refine cw_aload_n d_M_set_54 rfl ?_
            refine cw_getR fl_M_34 so_M rfl d_M_set_55 ?_
            refine cw_iload_n d_M_set_58 rfl ?_
            refine cw_iload_n d_M_set_59 rfl ?_
            refine cw_iastN (i := 1) sm_settings rfl (by omega) (by decide) d_M_set_60 ?_
            refine cw_iload_n d_M_set_61 rfl ?_
            refine cw_iret rfl d_M_set_62 ?_
            exact ⟨by simp [ans_set, c_41, ix_nI (show 1 < 2 ^ 31 by omega)]; exact hR.st (by omega), by simp [aft_set, c_41, ix_nI (show 1 < 2 ^ 31 by omega)]; exact RM_su hI hR (t := 4) (i := 1) (j := 0) ⟨by omega, rfl⟩ (by decide), mS_kM (by omega)⟩
          · refine cw_bipush (v := (-2)) d_M_set_44 (by decide) ?_
            refine cw_iret rfl d_M_set_46 ?_
            exact ⟨by simp [ans_set, c_41], by simp [aft_set, c_41]; exact hR, kM.rf⟩
      · exact absurd c_16 (by decide)
    · refine cw_iload_n d_M_set_12 rfl ?_
      refine cw_i2l d_M_set_13 ?_
      refine cw_iload_n d_M_set_14 rfl ?_
      refine cw_iconst (v := 2) d_M_set_15 (by decide) ?_
      refine cw_icmp_ne 23 d_M_set_16 (by decide) (fun c_16 => ?_) (fun c_16 => ?_)
      · exact absurd rfl c_16
      · refine cw_lconst (v := 0) d_M_set_19 (by decide) ?_
        refine cw_goto 24 d_M_set_20 (by decide) ?_
        refine cw_iload_n d_M_set_24 rfl ?_
        refine cw_iconst (v := 1) d_M_set_25 (by decide) ?_
        refine cw_icmp_ne 35 d_M_set_26 (by decide) (fun c_26 => ?_) (fun c_26 => ?_)
        · refine cw_ldc2_w kc_M_109 d_M_set_35 ?_
          refine cw_staticP (s_M_in) rfl ml_M_69 rfl rfl d_M_set_38 ?_
          refine cw_top (y := b2 (setOk (nI 2) v)) (congrArg b2 (inJ_lh.trans (decide_eq_decide.mpr ⟨fun q => Or.inr (Or.inr ⟨rfl, q⟩), fun q => by rcases q with ⟨z, q⟩ | ⟨z, q⟩ | ⟨z, q⟩ <;> first | exact absurd z (by decide) | exact q⟩))) ?_
          refine cw_bif_ne 47 d_M_set_41 (by decide) (fun c_41 => ?_) (fun c_41 => ?_)
          · refine cw_aload_n d_M_set_47 rfl ?_
            refine cw_getR fl_M_34 so_M rfl d_M_set_48 ?_
            refine cw_iload_n d_M_set_51 rfl ?_
            refine cw_ialdN (i := 2) sm_settings rfl (by omega) (by decide) d_M_set_52 ?_
            refine cw_istore_n d_M_set_53 rfl ?_
            refine cw_aload_n d_M_set_54 rfl ?_
            refine cw_getR fl_M_34 so_M rfl d_M_set_55 ?_
            refine cw_iload_n d_M_set_58 rfl ?_
            refine cw_iload_n d_M_set_59 rfl ?_
            refine cw_iastN (i := 2) sm_settings rfl (by omega) (by decide) d_M_set_60 ?_
            refine cw_iload_n d_M_set_61 rfl ?_
            refine cw_iret rfl d_M_set_62 ?_
            exact ⟨by simp [ans_set, c_41, ix_nI (show 2 < 2 ^ 31 by omega)]; exact hR.st (by omega), by simp [aft_set, c_41, ix_nI (show 2 < 2 ^ 31 by omega)]; exact RM_su hI hR (t := 4) (i := 2) (j := 0) ⟨by omega, rfl⟩ (by decide), mS_kM (by omega)⟩
          · refine cw_bipush (v := (-2)) d_M_set_44 (by decide) ?_
            refine cw_iret rfl d_M_set_46 ?_
            exact ⟨by simp [ans_set, c_41], by simp [aft_set, c_41]; exact hR, kM.rf⟩
        · exact absurd c_26 (by decide)
