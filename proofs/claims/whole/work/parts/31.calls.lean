/-! ===== the class: its small calls ===== -/
theorem hd_RC {M : Mem} {σ : Sg} (hI : Iv σ) (hR : RC M σ) (h : σ.1.1 < 8) : RC (mS M 0 5 (nI (σ.1.1 + 1))) ((σ.1.1 + 1, σ.1.2.1, σ.1.2.2), σ.2) := by
  refine ⟨mS_at, (mS_j (by omega)).trans hR.n2, (mS_j (by omega)).trans hR.n3, fun t i j hd => ?_, fun a ha => ⟨fun p hp => (mS_k (by omega)).trans (hR.tn ha hp), (mS_k (by omega)).trans (hR.fa ha)⟩⟩
  have hd : dC σ t i j := hd
  have := (LC_off hd).1
  refine Eq.trans ?_ (hR.2.2.2.1 t i j hd)
  show (if _ then _ else _) = _
  rw [if_neg (fun q => by have := this q.1; omega)]
  rfl
set_option maxRecDepth 100000 in
theorem c_head {M : Mem} {σ : Sg} (hR : RC M σ) (hI : Iv σ)  : CS u_C_head [.ref 0] M (rC (ans_head σ) (aft_head σ) M) := by
  obtain ⟨hn1, hn2, hn3⟩ := hI.n
  refine cs_introF (L := [some (.ref 0)]) (by decide +kernel) (fun ad q h => h) (fun ad => Nat.le_of_ble_eq_true rfl) ?_
  refine cw_aload_n d_C_head_0 rfl ?_
  refine cw_getI fl_C_75 so_C rfl d_C_head_1 ?_
  refine cw_bipush (v := 8) d_C_head_4 (by decide) ?_
  refine cw_icmp_lt 12 d_C_head_6 (by decide) (fun c_6 => ?_) (fun c_6 => ?_)
  · have h8 : σ.1.1 < 8 := (nI_ltI (by omega) (by omega)).mp (hR.n1 ▸ c_6)
    refine cw_aload_n d_C_head_12 rfl ?_
    refine cw_dup_ref d_C_head_13 ?_
    refine cw_getI fl_C_75 so_C rfl d_C_head_14 ?_
    refine cw_top hR.n1 ?_
    refine cw_iconst (v := 1) d_C_head_17 (by decide) ?_
    refine cw_iadd d_C_head_18 ?_
    refine cw_top (nI_1 σ.1.1) ?_
    refine cw_putI fp_C_75 so_C rfl d_C_head_19 ?_
    refine cw_aload_n d_C_head_22 rfl ?_
    refine cw_getI fl_C_75 so_C rfl d_C_head_23 ?_
    refine cw_top mS_at ?_
    refine cw_iconst (v := 1) d_C_head_26 (by decide) ?_
    refine cw_isub d_C_head_27 ?_
    refine cw_iret rfl d_C_head_28 ?_
    exact ⟨by unfold ans_head; rw [if_neg (by omega), ← nI_1]; exact Int32.add_sub_cancel _ _, by unfold aft_head; rw [if_neg (by omega)]; exact hd_RC hI hR h8, mS_kC (by omega)⟩
  · have h8 : σ.1.1 = 8 := by
      have : ¬ σ.1.1 < 8 := fun q => c_6 (by rw [hR.n1]; exact nI_lt (b := 8) q (by decide))
      omega
    refine cw_bipush (v := (-4)) d_C_head_9 (by decide) ?_
    refine cw_iret rfl d_C_head_11 ?_
    exact ⟨(if_pos h8).symm, by unfold aft_head; rw [if_pos h8]; exact hR, kC.rf⟩
set_option maxRecDepth 100000 in
theorem c_place {M : Mem} {σ : Sg} (hR : RC M σ) (hI : Iv σ) {x y v : Int32} : CS u_C_place [.ref 0, .int x, .int y, .int v] M (rC (ans_place σ x y v) (aft_place σ x y v) M) := by
  obtain ⟨hn1, hn2, hn3⟩ := hI.n
  refine cs_introF (L := [some (.ref 0), some (.int x), some (.int y), some (.int v), none, none]) (by decide +kernel) (fun ad q h => h) (fun ad => Nat.le_of_ble_eq_true rfl) ?_
  refine cw_aload_n d_C_place_0 rfl ?_
  refine cw_iload_n d_C_place_1 rfl ?_
  refine cw_virtP (s_C_isHead hR hI) rfl ml_C_78 so_C rfl rfl d_C_place_2 ?_
  refine cw_bif_eq 22 d_C_place_5 (by decide) (fun c_5 => ?_) (fun c_5 => ?_)
  · refine cw_bipush (v := (-2)) d_C_place_22 (by decide) ?_
    refine cw_iret rfl d_C_place_24 ?_
    exact ⟨by simp [ans_place, c_5], by simp [aft_place, c_5]; exact hR, kC.rf⟩
  · obtain ⟨h, hhh, e_h⟩ := ixB_t c_5 (by omega)
    subst e_h
    refine cw_iload_n d_C_place_8 rfl ?_
    refine cw_staticP (s_C_isPart) rfl ml_C_82 rfl rfl d_C_place_9 ?_
    refine cw_bif_eq 22 d_C_place_12 (by decide) (fun c_12 => ?_) (fun c_12 => ?_)
    · refine cw_bipush (v := (-2)) d_C_place_22 (by decide) ?_
      refine cw_iret rfl d_C_place_24 ?_
      exact ⟨by simp [ans_place, c_5, c_12], by simp [aft_place, c_5, c_12]; exact hR, kC.rf⟩
    · obtain ⟨p, hhp, e_p⟩ := ixB_t c_12 (by omega)
      subst e_p
      refine cw_iload_n d_C_place_15 rfl ?_
      refine cw_staticP (s_C_isPlace) rfl ml_C_85 rfl rfl d_C_place_16 ?_
      refine cw_bif_ne 25 d_C_place_19 (by decide) (fun c_19 => ?_) (fun c_19 => ?_)
      · refine cw_aload_n d_C_place_25 rfl ?_
        refine cw_getR fl_C_11 so_C rfl d_C_place_26 ?_
        refine cw_iload_n d_C_place_29 rfl ?_
        refine cw_aaldN (i := h) sr_1 rfl (by omega) (by decide) d_C_place_30 ?_
        refine cw_getR fl_C_88 (so_He (h := h) (by omega)) rfl d_C_place_31 ?_
        refine cw_astore d_C_place_34 rfl ?_
        refine cw_aload d_C_place_36 rfl ?_
        refine cw_iload_n d_C_place_38 rfl ?_
        refine cw_ialdN (i := p) (sa_pl (h := h) (by omega)) rfl (by omega) (by decide) d_C_place_39 ?_
        refine cw_istore d_C_place_40 rfl ?_
        refine cw_aload d_C_place_42 rfl ?_
        refine cw_iload_n d_C_place_44 rfl ?_
        refine cw_iload_n d_C_place_45 rfl ?_
        refine cw_iastN (i := p) (sa_pl (h := h) (by omega)) rfl (by omega) (by decide) d_C_place_46 ?_
        refine cw_iload d_C_place_47 rfl ?_
        refine cw_iret rfl d_C_place_49 ?_
        exact ⟨by simp [ans_place, c_5, c_12, c_19, ix_nI (show h < 2 ^ 31 by omega), ix_nI (show p < 2 ^ 31 by omega)]; exact hR.pl (by omega) (by omega), by simp [aft_place, c_5, c_12, c_19, ix_nI (show h < 2 ^ 31 by omega), ix_nI (show p < 2 ^ 31 by omega)]; exact hR.su hI (t := 1) ⟨by omega, hhp⟩ (by decide), mS_kC (by omega)⟩
      · refine cw_bipush (v := (-2)) d_C_place_22 (by decide) ?_
        refine cw_iret rfl d_C_place_24 ?_
        exact ⟨by simp [ans_place, c_5, c_12, c_19], by simp [aft_place, c_5, c_12, c_19]; exact hR, kC.rf⟩
set_option maxRecDepth 100000 in
theorem c_mean {M : Mem} {σ : Sg} (hR : RC M σ) (hI : Iv σ) {x y : Int32} : CS u_C_mean [.ref 0, .int x, .int y] M (rC (ans_mean σ x y) σ M) := by
  obtain ⟨hn1, hn2, hn3⟩ := hI.n
  refine cs_introF (L := [some (.ref 0), some (.int x), some (.int y)]) (by decide +kernel) (fun ad q h => h) (fun ad => Nat.le_of_ble_eq_true rfl) ?_
  refine cw_aload_n d_C_mean_0 rfl ?_
  refine cw_iload_n d_C_mean_1 rfl ?_
  refine cw_virtP (s_C_isSet hR hI) rfl ml_C_114 so_C rfl rfl d_C_mean_2 ?_
  refine cw_bif_eq 15 d_C_mean_5 (by decide) (fun c_5 => ?_) (fun c_5 => ?_)
  · refine cw_bipush (v := (-2)) d_C_mean_15 (by decide) ?_
    refine cw_iret rfl d_C_mean_17 ?_
    exact ⟨by simp [ans_mean, c_5], hR, kC.rf⟩
  · refine cw_iload_n d_C_mean_8 rfl ?_
    refine cw_staticP (s_C_isPart) rfl ml_C_82 rfl rfl d_C_mean_9 ?_
    refine cw_bif_ne 18 d_C_mean_12 (by decide) (fun c_12 => ?_) (fun c_12 => ?_)
    · obtain ⟨p, hhp, e_p⟩ := ixB_t c_12 (by omega)
      subst e_p
      refine cw_aload_n d_C_mean_18 rfl ?_
      refine cw_iload_n d_C_mean_19 rfl ?_
      refine cw_iload_n d_C_mean_20 rfl ?_
      refine cw_virtP (s_C_meanOf hR hI hhp c_5) rfl ml_C_117 so_C rfl rfl d_C_mean_21 ?_
      refine cw_iret rfl d_C_mean_24 ?_
      exact ⟨by simp [ans_mean, c_5, c_12, ix_nI (show p < 2 ^ 31 by omega)], hR, kC.rf⟩
    · refine cw_bipush (v := (-2)) d_C_mean_15 (by decide) ?_
      refine cw_iret rfl d_C_mean_17 ?_
      exact ⟨by simp [ans_mean, c_5, c_12], hR, kC.rf⟩
set_option maxRecDepth 100000 in
theorem c_fault {M : Mem} {σ : Sg} (hR : RC M σ) (hI : Iv σ) {x : Int32} : CS u_C_fault [.ref 0, .int x] M (rC (ans_fault σ x) σ M) := by
  obtain ⟨hn1, hn2, hn3⟩ := hI.n
  refine cs_introF (L := [some (.ref 0), some (.int x)]) (by decide +kernel) (fun ad q h => h) (fun ad => Nat.le_of_ble_eq_true rfl) ?_
  refine cw_iload_n d_C_fault_0 rfl ?_
  refine cw_staticP (s_C_isHand) rfl ml_C_120 rfl rfl d_C_fault_1 ?_
  refine cw_bif_eq 19 d_C_fault_4 (by decide) (fun c_4 => ?_) (fun c_4 => ?_)
  · refine cw_bipush (v := (-2)) d_C_fault_19 (by decide) ?_
    refine cw_iret rfl d_C_fault_21 ?_
    exact ⟨by simp [ans_fault, c_4], hR, kC.rf⟩
  · obtain ⟨a, hha, e_a⟩ := ixB_t c_4 (by omega)
    subst e_a
    refine cw_aload_n d_C_fault_7 rfl ?_
    refine cw_getR fl_C_17 so_C rfl d_C_fault_8 ?_
    refine cw_iload_n d_C_fault_11 rfl ?_
    refine cw_aaldN (i := a) sr_2 rfl (by omega) (by decide) d_C_fault_12 ?_
    refine cw_getI fl_C_133 (so_Ha (h := a) (by omega)) rfl d_C_fault_13 ?_
    refine cw_goto 21 d_C_fault_16 (by decide) ?_
    refine cw_iret rfl d_C_fault_21 ?_
    exact ⟨by simp [ans_fault, c_4, ix_nI (show a < 2 ^ 31 by omega)]; exact hR.fa (by omega), hR, kC.rf⟩
set_option maxRecDepth 100000 in
theorem c_tenths {M : Mem} {σ : Sg} (hR : RC M σ) (hI : Iv σ) {x y : Int32} : CS u_C_tenths [.ref 0, .int x, .int y] M (rC (ans_tenths σ x y) σ M) := by
  obtain ⟨hn1, hn2, hn3⟩ := hI.n
  refine cs_introF (L := [some (.ref 0), some (.int x), some (.int y)]) (by decide +kernel) (fun ad q h => h) (fun ad => Nat.le_of_ble_eq_true rfl) ?_
  refine cw_iload_n d_C_tenths_0 rfl ?_
  refine cw_staticP (s_C_isHand) rfl ml_C_120 rfl rfl d_C_tenths_1 ?_
  refine cw_bif_eq 28 d_C_tenths_4 (by decide) (fun c_4 => ?_) (fun c_4 => ?_)
  · refine cw_sipush (v := (-10002)) d_C_tenths_28 (by decide) ?_
    refine cw_iret rfl d_C_tenths_31 ?_
    exact ⟨by simp [ans_tenths, c_4], hR, kC.rf⟩
  · obtain ⟨a, hha, e_a⟩ := ixB_t c_4 (by omega)
    subst e_a
    refine cw_iload_n d_C_tenths_7 rfl ?_
    refine cw_staticP (s_C_isPart) rfl ml_C_82 rfl rfl d_C_tenths_8 ?_
    refine cw_bif_eq 28 d_C_tenths_11 (by decide) (fun c_11 => ?_) (fun c_11 => ?_)
    · refine cw_sipush (v := (-10002)) d_C_tenths_28 (by decide) ?_
      refine cw_iret rfl d_C_tenths_31 ?_
      exact ⟨by simp [ans_tenths, c_4, c_11], hR, kC.rf⟩
    · obtain ⟨p, hhp, e_p⟩ := ixB_t c_11 (by omega)
      subst e_p
      refine cw_aload_n d_C_tenths_14 rfl ?_
      refine cw_getR fl_C_17 so_C rfl d_C_tenths_15 ?_
      refine cw_iload_n d_C_tenths_18 rfl ?_
      refine cw_aaldN (i := a) sr_2 rfl (by omega) (by decide) d_C_tenths_19 ?_
      refine cw_getR fl_C_136 (so_Ha (h := a) (by omega)) rfl d_C_tenths_20 ?_
      refine cw_iload_n d_C_tenths_23 rfl ?_
      refine cw_ialdN (i := p) (sa_tn (h := a) (by omega)) rfl (by omega) (by decide) d_C_tenths_24 ?_
      refine cw_goto 31 d_C_tenths_25 (by decide) ?_
      refine cw_iret rfl d_C_tenths_31 ?_
      exact ⟨by simp [ans_tenths, c_4, c_11, ix_nI (show a < 2 ^ 31 by omega), ix_nI (show p < 2 ^ 31 by omega)]; exact hR.tn (by omega) (by omega), hR, kC.rf⟩
set_option maxRecDepth 100000 in
theorem c_line {M : Mem} {σ : Sg} (hR : RC M σ) (hI : Iv σ) {x y : Int32} : CS u_C_line [.ref 0, .int x, .int y] M (rC (ans_line σ x y) σ M) := by
  obtain ⟨hn1, hn2, hn3⟩ := hI.n
  refine cs_introF (L := [some (.ref 0), some (.int x), some (.int y)]) (by decide +kernel) (fun ad q h => h) (fun ad => Nat.le_of_ble_eq_true rfl) ?_
  refine cw_aload_n d_C_line_0 rfl ?_
  refine cw_iload_n d_C_line_1 rfl ?_
  refine cw_virtP (s_C_isDrawing hR hI) rfl ml_C_176 so_C rfl rfl d_C_line_2 ?_
  refine cw_bif_eq 29 d_C_line_5 (by decide) (fun c_5 => ?_) (fun c_5 => ?_)
  · refine cw_sipush (v := (-10002)) d_C_line_29 (by decide) ?_
    refine cw_iret rfl d_C_line_32 ?_
    exact ⟨by simp [ans_line, c_5], hR, kC.rf⟩
  · obtain ⟨d, hhd, e_d⟩ := ixB_t c_5 (by omega)
    subst e_d
    refine cw_iload_n d_C_line_8 rfl ?_
    refine cw_staticP (s_C_isPart) rfl ml_C_82 rfl rfl d_C_line_9 ?_
    refine cw_bif_eq 29 d_C_line_12 (by decide) (fun c_12 => ?_) (fun c_12 => ?_)
    · refine cw_sipush (v := (-10002)) d_C_line_29 (by decide) ?_
      refine cw_iret rfl d_C_line_32 ?_
      exact ⟨by simp [ans_line, c_5, c_12], hR, kC.rf⟩
    · obtain ⟨p, hhp, e_p⟩ := ixB_t c_12 (by omega)
      subst e_p
      refine cw_aload_n d_C_line_15 rfl ?_
      refine cw_getR fl_C_23 so_C rfl d_C_line_16 ?_
      refine cw_iload_n d_C_line_19 rfl ?_
      refine cw_aaldN (i := d) sr_3 rfl (by omega) (by decide) d_C_line_20 ?_
      refine cw_getR fl_C_185 (so_Sk (d := d) (by omega)) rfl d_C_line_21 ?_
      refine cw_iload_n d_C_line_24 rfl ?_
      refine cw_ialdN (i := p) (sa_li (d := d) (by omega)) rfl (by omega) (by decide) d_C_line_25 ?_
      refine cw_goto 32 d_C_line_26 (by decide) ?_
      refine cw_iret rfl d_C_line_32 ?_
      exact ⟨by simp [ans_line, c_5, c_12, ix_nI (show d < 2 ^ 31 by omega), ix_nI (show p < 2 ^ 31 by omega)]; exact hR.li (by omega) (by omega), hR, kC.rf⟩
set_option maxRecDepth 100000 in
theorem c_leans {M : Mem} {σ : Sg} (hR : RC M σ) (hI : Iv σ) {x y : Int32} : CS u_C_leans [.ref 0, .int x, .int y] M (rC (ans_leans σ x y) σ M) := by
  obtain ⟨hn1, hn2, hn3⟩ := hI.n
  refine cs_introF (L := [some (.ref 0), some (.int x), some (.int y)]) (by decide +kernel) (fun ad q h => h) (fun ad => Nat.le_of_ble_eq_true rfl) ?_
  refine cw_aload_n d_C_leans_0 rfl ?_
  refine cw_iload_n d_C_leans_1 rfl ?_
  refine cw_virtP (s_C_isKnower hR hI) rfl ml_C_214 so_C rfl rfl d_C_leans_2 ?_
  refine cw_bif_eq 29 d_C_leans_5 (by decide) (fun c_5 => ?_) (fun c_5 => ?_)
  · refine cw_sipush (v := (-10002)) d_C_leans_29 (by decide) ?_
    refine cw_iret rfl d_C_leans_32 ?_
    exact ⟨by simp [ans_leans, c_5], hR, kC.rf⟩
  · obtain ⟨k, hhk, e_k⟩ := ixB_t c_5 (by omega)
    subst e_k
    refine cw_iload_n d_C_leans_8 rfl ?_
    refine cw_staticP (s_C_isPart) rfl ml_C_82 rfl rfl d_C_leans_9 ?_
    refine cw_bif_eq 29 d_C_leans_12 (by decide) (fun c_12 => ?_) (fun c_12 => ?_)
    · refine cw_sipush (v := (-10002)) d_C_leans_29 (by decide) ?_
      refine cw_iret rfl d_C_leans_32 ?_
      exact ⟨by simp [ans_leans, c_5, c_12], hR, kC.rf⟩
    · obtain ⟨p, hhp, e_p⟩ := ixB_t c_12 (by omega)
      subst e_p
      refine cw_aload_n d_C_leans_15 rfl ?_
      refine cw_getR fl_C_29 so_C rfl d_C_leans_16 ?_
      refine cw_iload_n d_C_leans_19 rfl ?_
      refine cw_aaldN (i := k) sr_4 rfl (by omega) (by decide) d_C_leans_20 ?_
      refine cw_getR fl_C_211 (so_Kn (h := k) (by omega)) rfl d_C_leans_21 ?_
      refine cw_iload_n d_C_leans_24 rfl ?_
      refine cw_ialdN (i := p) (sa_km (h := k) (by omega)) rfl (by omega) (by decide) d_C_leans_25 ?_
      refine cw_goto 32 d_C_leans_26 (by decide) ?_
      refine cw_iret rfl d_C_leans_32 ?_
      exact ⟨by simp [ans_leans, c_5, c_12, ix_nI (show k < 2 ^ 31 by omega), ix_nI (show p < 2 ^ 31 by omega)]; exact hR.ow (by omega) (by omega), hR, kC.rf⟩
set_option maxRecDepth 100000 in
theorem c_drawn {M : Mem} {σ : Sg} (hR : RC M σ) (hI : Iv σ) {x y s z : Int32} : CS u_C_drawn [.ref 0, .int x, .int y, .int s, .int z] M (rC (ans_drawn σ x y s z) σ M) := by
  obtain ⟨hn1, hn2, hn3⟩ := hI.n
  refine cs_introF (L := [some (.ref 0), some (.int x), some (.int y), some (.int s), some (.int z)]) (by decide +kernel) (fun ad q h => h) (fun ad => Nat.le_of_ble_eq_true rfl) ?_
  refine cw_iload_n d_C_drawn_0 rfl ?_
  refine cw_staticP (s_C_isHand) rfl ml_C_120 rfl rfl d_C_drawn_1 ?_
  refine cw_bif_eq 31 d_C_drawn_4 (by decide) (fun c_4 => ?_) (fun c_4 => ?_)
  · refine cw_sipush (v := (-10002)) d_C_drawn_31 (by decide) ?_
    refine cw_iret rfl d_C_drawn_34 ?_
    exact ⟨by simp [ans_drawn, c_4], hR, kC.rf⟩
  · obtain ⟨a, hha, e_a⟩ := ixB_t c_4 (by omega)
    subst e_a
    refine cw_aload_n d_C_drawn_7 rfl ?_
    refine cw_iload_n d_C_drawn_8 rfl ?_
    refine cw_virtP (s_C_isHead hR hI) rfl ml_C_78 so_C rfl rfl d_C_drawn_9 ?_
    refine cw_bif_eq 31 d_C_drawn_12 (by decide) (fun c_12 => ?_) (fun c_12 => ?_)
    · refine cw_sipush (v := (-10002)) d_C_drawn_31 (by decide) ?_
      refine cw_iret rfl d_C_drawn_34 ?_
      exact ⟨by simp [ans_drawn, c_4, c_12], hR, kC.rf⟩
    · obtain ⟨h, hhh, e_h⟩ := ixB_t c_12 (by omega)
      subst e_h
      refine cw_aload_n d_C_drawn_15 rfl ?_
      refine cw_iload_n d_C_drawn_16 rfl ?_
      refine cw_virtP (s_C_isSet hR hI) rfl ml_C_114 so_C rfl rfl d_C_drawn_17 ?_
      refine cw_bif_eq 31 d_C_drawn_20 (by decide) (fun c_20 => ?_) (fun c_20 => ?_)
      · refine cw_sipush (v := (-10002)) d_C_drawn_31 (by decide) ?_
        refine cw_iret rfl d_C_drawn_34 ?_
        exact ⟨by simp [ans_drawn, c_4, c_12, c_20], hR, kC.rf⟩
      · refine cw_iload d_C_drawn_23 rfl ?_
        refine cw_staticP (s_C_isPart) rfl ml_C_82 rfl rfl d_C_drawn_25 ?_
        refine cw_bif_ne 35 d_C_drawn_28 (by decide) (fun c_28 => ?_) (fun c_28 => ?_)
        · obtain ⟨p, hhp, e_p⟩ := ixB_t c_28 (by omega)
          subst e_p
          refine cw_aload_n d_C_drawn_35 rfl ?_
          refine cw_iload_n d_C_drawn_36 rfl ?_
          refine cw_iload d_C_drawn_37 rfl ?_
          refine cw_virtP (s_C_meanOf hR hI hhp c_20) rfl ml_C_117 so_C rfl rfl d_C_drawn_39 ?_
          refine cw_aload_n d_C_drawn_42 rfl ?_
          refine cw_getR fl_C_11 so_C rfl d_C_drawn_43 ?_
          refine cw_iload_n d_C_drawn_46 rfl ?_
          refine cw_aaldN (i := h) sr_1 rfl (by omega) (by decide) d_C_drawn_47 ?_
          refine cw_getR fl_C_88 (so_He (h := h) (by omega)) rfl d_C_drawn_48 ?_
          refine cw_iload d_C_drawn_51 rfl ?_
          refine cw_ialdN (i := p) (sa_pl (h := h) (by omega)) rfl (by omega) (by decide) d_C_drawn_53 ?_
          refine cw_aload_n d_C_drawn_54 rfl ?_
          refine cw_getR fl_C_17 so_C rfl d_C_drawn_55 ?_
          refine cw_iload_n d_C_drawn_58 rfl ?_
          refine cw_aaldN (i := a) sr_2 rfl (by omega) (by decide) d_C_drawn_59 ?_
          refine cw_getR fl_C_136 (so_Ha (h := a) (by omega)) rfl d_C_drawn_60 ?_
          refine cw_iload d_C_drawn_63 rfl ?_
          refine cw_ialdN (i := p) (sa_tn (h := a) (by omega)) rfl (by omega) (by decide) d_C_drawn_65 ?_
          refine cw_staticP (s_C_drawnAt) rfl ml_C_139 rfl rfl d_C_drawn_66 ?_
          refine cw_iret rfl d_C_drawn_69 ?_
          exact ⟨by simp [ans_drawn, c_4, c_12, c_20, c_28, ix_nI (show a < 2 ^ 31 by omega), ix_nI (show h < 2 ^ 31 by omega), ix_nI (show p < 2 ^ 31 by omega)]; rw [hR.pl (by omega) (by omega), hR.tn (by omega) (by omega)], hR, kC.rf⟩
        · refine cw_sipush (v := (-10002)) d_C_drawn_31 (by decide) ?_
          refine cw_iret rfl d_C_drawn_34 ?_
          exact ⟨by simp [ans_drawn, c_4, c_12, c_20, c_28], hR, kC.rf⟩
theorem dist_RC {M : Mem} {σ : Sg} (hR : RC M σ) {a b : Nat} (ha : a < σ.1.2.1) (hb : b < σ.1.2.1) : distS (mG M 0 10) (mG M (300 + a)) (mG M (300 + b)) = distS (σ.2 4 2 0) (σ.2 9 a) (σ.2 9 b) := by
  unfold distS
  rw [hR.od]
  exact sumUp_congr (fun p hp => by rw [hR.li ha hp, hR.li hb hp])
set_option maxRecDepth 100000 in
theorem c_unlike {M : Mem} {σ : Sg} (hR : RC M σ) (hI : Iv σ) {x y : Int32} : CS u_C_unlike [.ref 0, .int x, .int y] M (rC (ans_unlike σ x y) σ M) := by
  obtain ⟨hn1, hn2, hn3⟩ := hI.n
  refine cs_introF (L := [some (.ref 0), some (.int x), some (.int y)]) (by decide +kernel) (fun ad q h => h) (fun ad => Nat.le_of_ble_eq_true rfl) ?_
  refine cw_aload_n d_C_unlike_0 rfl ?_
  refine cw_iload_n d_C_unlike_1 rfl ?_
  refine cw_virtP (s_C_isDrawing hR hI) rfl ml_C_176 so_C rfl rfl d_C_unlike_2 ?_
  refine cw_bif_eq 16 d_C_unlike_5 (by decide) (fun c_5 => ?_) (fun c_5 => ?_)
  · refine cw_bipush (v := (-2)) d_C_unlike_16 (by decide) ?_
    refine cw_iret rfl d_C_unlike_18 ?_
    exact ⟨by simp [ans_unlike, c_5], hR, kC.rf⟩
  · obtain ⟨a, hha, e_a⟩ := ixB_t c_5 (by omega)
    subst e_a
    refine cw_aload_n d_C_unlike_8 rfl ?_
    refine cw_iload_n d_C_unlike_9 rfl ?_
    refine cw_virtP (s_C_isDrawing hR hI) rfl ml_C_176 so_C rfl rfl d_C_unlike_10 ?_
    refine cw_bif_ne 19 d_C_unlike_13 (by decide) (fun c_13 => ?_) (fun c_13 => ?_)
    · obtain ⟨b, hhb, e_b⟩ := ixB_t c_13 (by omega)
      subst e_b
      refine cw_aload_n d_C_unlike_19 rfl ?_
      refine cw_getR fl_C_23 so_C rfl d_C_unlike_20 ?_
      refine cw_iload_n d_C_unlike_23 rfl ?_
      refine cw_aaldN (i := a) sr_3 rfl (by omega) (by decide) d_C_unlike_24 ?_
      refine cw_aload_n d_C_unlike_25 rfl ?_
      refine cw_getR fl_C_23 so_C rfl d_C_unlike_26 ?_
      refine cw_iload_n d_C_unlike_29 rfl ?_
      refine cw_aaldN (i := b) sr_3 rfl (by omega) (by decide) d_C_unlike_30 ?_
      refine cw_aload_n d_C_unlike_31 rfl ?_
      refine cw_getI fl_C_46 so_C rfl d_C_unlike_32 ?_
      refine cw_virtP (s_Sk_dist (d := a) (e := b) (by omega) (by omega)) rfl ml_C_201 (so_Sk (d := a) (by omega)) rfl rfl d_C_unlike_35 ?_
      refine cw_iret rfl d_C_unlike_38 ?_
      exact ⟨by simp [ans_unlike, c_5, c_13, ix_nI (show a < 2 ^ 31 by omega), ix_nI (show b < 2 ^ 31 by omega)]; exact dist_RC hR (by omega) (by omega), hR, kC.rf⟩
    · refine cw_bipush (v := (-2)) d_C_unlike_16 (by decide) ?_
      refine cw_iret rfl d_C_unlike_18 ?_
      exact ⟨by simp [ans_unlike, c_5, c_13], hR, kC.rf⟩
