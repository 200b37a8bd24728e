/-! ===== the reference: copy, write, read ===== -/
theorem ad64 {a b : Int32} : (a.toInt64 + b.toInt64).toInt = a.toInt + b.toInt := by
  have := Int32.le_toInt a
  have := Int32.le_toInt b
  have := Int32.toInt_lt a
  have := Int32.toInt_lt b
  rw [Int64.toInt_add, Int32.toInt_toInt64, Int32.toInt_toInt64, bm64 (by omega) (by omega)]
theorem cpy_RM {M : Mem} {σ : Sg} (hI : Iv σ) (hR : RM M σ) {s t a b m : Nat} (hs : s < 4) (ha : ((a + m : Nat) : Int) ≤ (σ.2 14 s 0).toInt) (hb : ((b + m : Nat) : Int) ≤ (σ.2 14 t 0).toInt) (l1 : ¬ σ.2 13 s 0 < 0) : RM (mSeg (mRow M 1004 m (fun p => mG M 1003 (60 * s + a + p))) 1003 (60 * t + b) m (fun p => mG M 1003 (60 * s + a + p))) (aftR σ 15 t 60 (va_cpy (σ.2 15 s) (σ.2 15 t) a b m)) := by
  have z14 := fun i => (hI.2.2.2.2.2.2.2.2.2 i).2.2
  refine ⟨(mSeg_k (by decide)).trans ((mRow_out (by decide)).trans hR.n1), (mSeg_k (by decide)).trans ((mRow_out (by decide)).trans hR.n2), (mSeg_k (by decide)).trans ((mRow_out (by decide)).trans hR.n3), fun u i j hd => ?_⟩
  have h' : dM σ u i j := by
    have e13 : ∀ z, (aftR σ 15 t 60 (va_cpy (σ.2 15 s) (σ.2 15 t) a b m)).2 13 z 0 = σ.2 13 z 0 := fun z => by simp [aftR]
    have e14 : ∀ z, (aftR σ 15 t 60 (va_cpy (σ.2 15 s) (σ.2 15 t) a b m)).2 14 z 0 = σ.2 14 z 0 := fun z => by simp [aftR]
    unfold dM at hd ⊢
    simp only [e13, e14] at hd
    exact hd
  have hns := (LM_ns h').1
  by_cases q : u = 15 ∧ i = t
  · obtain ⟨rfl, rfl⟩ := q
    have hd2 : i < 4 ∧ (j : Int) < (σ.2 14 i 0).toInt ∧ ¬ σ.2 13 i 0 < 0 := h'
    have := z14 i
    have ev : (aftR σ 15 i 60 (va_cpy (σ.2 15 s) (σ.2 15 i) a b m)).2 15 i j = va_cpy (σ.2 15 s) (σ.2 15 i) a b m j := if_pos ⟨rfl, rfl, by omega⟩
    rw [ev]
    unfold va_cpy
    by_cases r : b ≤ j ∧ j < b + m
    · rw [if_pos r]
      show mG _ 1003 (60 * i + j) = _
      rw [show 60 * i + j = 60 * i + b + (j - b) by omega, mSeg_in (by omega), Nat.add_assoc]
      exact hR.2.2.2 15 s (a + (j - b)) ⟨hs, by omega, l1⟩
    · rw [if_neg r]
      exact (mSeg_out (by show ¬ (1003 = 1003 ∧ 60 * i + b ≤ 60 * i + j ∧ 60 * i + j < 60 * i + b + m); omega)).trans ((mRow_out (show (1003 : Nat) ≠ 1004 by decide)).trans (hR.2.2.2 15 i j h'))
  · have ev : (aftR σ 15 t 60 (va_cpy (σ.2 15 s) (σ.2 15 t) a b m)).2 u i j = σ.2 u i j := if_neg (fun z => q ⟨z.1, z.2.1⟩)
    rw [ev]
    refine (mSeg_out (fun z => ?_)).trans ((mRow_out (fun z => hns (Or.inl z))).trans (hR.2.2.2 u i j h'))
    have hu : u = 15 := by
      have h2 := z.1
      unfold dM at h'
      unfold LM at h2
      split at h' <;> simp_all
    subst hu
    have hd2 : i < 4 ∧ (j : Int) < (σ.2 14 i 0).toInt ∧ ¬ σ.2 13 i 0 < 0 := h'
    have h3 : 60 * t + b ≤ 60 * i + j ∧ 60 * i + j < 60 * t + b + m := z.2
    have := z14 i
    have := z14 t
    have hit : ¬ i = t := fun y => q ⟨rfl, y⟩
    omega
set_option maxRecDepth 100000 in
theorem l_M_copy2 {M : Mem} {σ : Sg} (hR : RM M σ) (hI : Iv σ) {s t a b m : Nat} (hs : s < 4) (ht : t < 4) (h1 : a + m ≤ 60) (h2 : b + m ≤ 60) (ha : ((a + m : Nat) : Int) ≤ (σ.2 14 s 0).toInt) (hb : ((b + m : Nat) : Int) ≤ (σ.2 14 t 0).toInt) (l1 : ¬ σ.2 13 s 0 < 0)  : ∀ k, k ≤ m → CW u_M_copy (rM 1 (aftR σ 15 t 60 (va_cpy (σ.2 15 s) (σ.2 15 t) a b m)) M) 157 [some (.ref 1000), some (.int (nI s)), some (.int (nI a)), some (.int (nI t)), some (.int (nI b)), some (.int (nI m)), some (.int (nI k))] [] (mSeg (mRow M 1004 m (fun p => mG M 1003 (60 * s + a + p))) 1003 (60 * t + b) k (fun p => mG M 1003 (60 * s + a + p))) := by
  refine up_ind (fun k hk ih => ?_)
  refine cw_iload d_M_copy_157 rfl ?_
  refine cw_iload d_M_copy_159 rfl ?_
  refine cw_icmp_geN (k) (m) 192 rfl rfl (by omega) d_M_copy_161 (by decide) (fun c_161 => ?_) (fun c_161 => ?_)
  · refine cw_iconst (v := 1) d_M_copy_192 (by decide) ?_
    refine cw_iret rfl d_M_copy_193 ?_
    have ei : k = m := by omega
    subst ei
    exact ⟨rfl, cpy_RM hI hR hs ha hb l1, (mRow_kM (by decide)).tr (mSeg_kM (by decide))⟩
  · refine cw_aload_n d_M_copy_164 rfl ?_
    refine cw_getR fl_M_16 so_M rfl d_M_copy_165 ?_
    refine cw_bipush (v := 60) d_M_copy_168 (by decide) ?_
    refine cw_iload_n d_M_copy_170 rfl ?_
    refine cw_imul d_M_copy_171 ?_
    refine cw_iload d_M_copy_172 rfl ?_
    refine cw_iadd d_M_copy_174 ?_
    refine cw_iload d_M_copy_175 rfl ?_
    refine cw_iadd d_M_copy_177 ?_
    refine cw_aload_n d_M_copy_178 rfl ?_
    refine cw_getR fl_M_19 so_M rfl d_M_copy_179 ?_
    refine cw_iload d_M_copy_182 rfl ?_
    refine cw_ialdN (i := k) sm_moved rfl (by omega) (by decide) d_M_copy_184 ?_
    refine cw_top ((mSeg_k (by decide)).trans (mRow_in (by omega))) ?_
    refine cw_iastN (i := ((60 * t) + b) + k) sm_items (nAdd (nAdd (nMul rfl rfl) rfl) rfl) (by omega) (by decide) d_M_copy_185 ?_
    refine cw_iincN (x := k) d_M_copy_186 rfl rfl ?_
    refine cw_goto 157 d_M_copy_189 (by decide) ?_
    exact cw_cast (by simp only [lset1, kl]) rfl (mSeg_s (f := (fun p => mG M 1003 (60 * s + a + p)))) (ih c_161)
set_option maxRecDepth 100000 in
theorem l_M_copy1 {M : Mem} {σ : Sg} (hR : RM M σ) (hI : Iv σ) {s t a b m : Nat} (hs : s < 4) (ht : t < 4) (h1 : a + m ≤ 60) (h2 : b + m ≤ 60) (ha : ((a + m : Nat) : Int) ≤ (σ.2 14 s 0).toInt) (hb : ((b + m : Nat) : Int) ≤ (σ.2 14 t 0).toInt) (l1 : ¬ σ.2 13 s 0 < 0)  : ∀ k, k ≤ m → CW u_M_copy (rM 1 (aftR σ 15 t 60 (va_cpy (σ.2 15 s) (σ.2 15 t) a b m)) M) 120 [some (.ref 1000), some (.int (nI s)), some (.int (nI a)), some (.int (nI t)), some (.int (nI b)), some (.int (nI m)), some (.int (nI k))] [] (mRow M 1004 k (fun p => mG M 1003 (60 * s + a + p))) := by
  refine up_ind (fun k hk ih => ?_)
  refine cw_iload d_M_copy_120 rfl ?_
  refine cw_iload d_M_copy_122 rfl ?_
  refine cw_icmp_geN (k) (m) 154 rfl rfl (by omega) d_M_copy_124 (by decide) (fun c_124 => ?_) (fun c_124 => ?_)
  · refine cw_iconst (v := 0) d_M_copy_154 (by decide) ?_
    refine cw_istore d_M_copy_155 rfl ?_
    have ei : k = m := by omega
    subst ei
    exact cw_mem mSeg_0.symm (l_M_copy2 hR hI hs ht h1 h2 ha hb l1 0 (by omega))
  · refine cw_aload_n d_M_copy_127 rfl ?_
    refine cw_getR fl_M_19 so_M rfl d_M_copy_128 ?_
    refine cw_iload d_M_copy_131 rfl ?_
    refine cw_aload_n d_M_copy_133 rfl ?_
    refine cw_getR fl_M_16 so_M rfl d_M_copy_134 ?_
    refine cw_bipush (v := 60) d_M_copy_137 (by decide) ?_
    refine cw_iload_n d_M_copy_139 rfl ?_
    refine cw_imul d_M_copy_140 ?_
    refine cw_iload_n d_M_copy_141 rfl ?_
    refine cw_iadd d_M_copy_142 ?_
    refine cw_iload d_M_copy_143 rfl ?_
    refine cw_iadd d_M_copy_145 ?_
    refine cw_ialdN (i := ((60 * s) + a) + k) sm_items (nAdd (nAdd (nMul rfl rfl) rfl) rfl) (by omega) (by decide) d_M_copy_146 ?_
    refine cw_top (mRow_out (by decide)) ?_
    refine cw_iastN (i := k) sm_moved rfl (by omega) (by decide) d_M_copy_147 ?_
    refine cw_iincN (x := k) d_M_copy_148 rfl rfl ?_
    refine cw_goto 120 d_M_copy_151 (by decide) ?_
    exact cw_cast (by simp only [lset1, kl]) rfl (mRow_s (f := (fun p => mG M 1003 (60 * s + a + p)))) (ih c_124)
set_option maxRecDepth 100000 in
theorem m_copy {M : Mem} {σ : Sg} (hR : RM M σ) (hI : Iv σ) {x i y j v : Int32} : CS u_M_copy [.ref 1000, .int x, .int i, .int y, .int j, .int v] M (rM (ans_copy σ x i y j v) (aft_copy σ x i y j v) M) := by
  obtain ⟨hn1, hn2, hn3⟩ := hI.n
  refine cs_introF (L := [some (.ref 1000), some (.int x), some (.int i), some (.int y), some (.int j), some (.int v), none]) (by decide +kernel) (fun ad q h => h) (fun ad => Nat.le_of_ble_eq_true rfl) ?_
  refine cw_iload_n d_M_copy_0 rfl ?_
  refine cw_staticP (s_M_isSheet) rfl ml_M_79 rfl rfl d_M_copy_1 ?_
  refine cw_bif_eq 14 d_M_copy_4 (by decide) (fun c_4 => ?_) (fun c_4 => ?_)
  · refine cw_bipush (v := (-2)) d_M_copy_14 (by decide) ?_
    refine cw_iret rfl d_M_copy_16 ?_
    have hok : okCopy x y = false := by simp [okCopy, c_4]
    exact ⟨by simp [ans_copy, hok], by simp [aft_copy, hok]; exact hR, kM.rf⟩
  · obtain ⟨s, hhs, e_s⟩ := ixB_t c_4 (by omega)
    subst e_s
    refine cw_iload_n d_M_copy_7 rfl ?_
    refine cw_staticP (s_M_isSheet) rfl ml_M_79 rfl rfl d_M_copy_8 ?_
    refine cw_bif_ne 17 d_M_copy_11 (by decide) (fun c_11 => ?_) (fun c_11 => ?_)
    · obtain ⟨t, hht, e_t⟩ := ixB_t c_11 (by omega)
      subst e_t
      refine cw_aload_n d_M_copy_17 rfl ?_
      refine cw_getR fl_M_7 so_M rfl d_M_copy_18 ?_
      refine cw_iload_n d_M_copy_21 rfl ?_
      refine cw_ialdN (i := s) sm_forms rfl (by omega) (by decide) d_M_copy_22 ?_
      refine cw_top (hR.fo (i := s) (by omega)) ?_
      refine cw_if_lt 35 d_M_copy_23 (by decide) (fun c_23 => ?_) (fun c_23 => ?_)
      · have l1 := lost_t hI (i32_nle.mpr c_23)
        refine cw_aload_n d_M_copy_35 rfl ?_
        refine cw_iconst (v := 1) d_M_copy_36 (by decide) ?_
        refine cw_virtI (s_M_met) rfl ml_M_85 so_M rfl rfl d_M_copy_37 (fun r_37 M_37 q_37 => ?_)
        obtain ⟨e_37, rfl⟩ := q_37
        subst e_37
        refine cw_iret rfl d_M_copy_40 ?_
        have hok : okCopy (nI s) (nI t) = true := by simp [okCopy, c_4, c_11]
        have hcp : cpF σ s t i j v = 1 := by
          unfold cpF
          rw [if_pos (by rw [l1, Bool.true_or])]
        exact ⟨by simp [ans_copy, hok, ix_nI (show s < 2 ^ 31 by omega), ix_nI (show t < 2 ^ 31 by omega), hcp], by simp [aft_copy, hok, ix_nI (show s < 2 ^ 31 by omega), ix_nI (show t < 2 ^ 31 by omega), hcp]; exact found_RM hI hR, mS_kM (by decide)⟩
      · obtain ⟨l1, l2⟩ := lost_f (i32_nlt.mp c_23)
        refine cw_aload_n d_M_copy_26 rfl ?_
        refine cw_getR fl_M_7 so_M rfl d_M_copy_27 ?_
        refine cw_iload_n d_M_copy_30 rfl ?_
        refine cw_ialdN (i := t) sm_forms rfl (by omega) (by decide) d_M_copy_31 ?_
        refine cw_top (hR.fo (i := t) (by omega)) ?_
        refine cw_if_ge 41 d_M_copy_32 (by decide) (fun c_32 => ?_) (fun c_32 => ?_)
        · obtain ⟨l3, l4⟩ := lost_f c_32
          refine cw_aload_n d_M_copy_41 rfl ?_
          refine cw_getR fl_M_7 so_M rfl d_M_copy_42 ?_
          refine cw_iload_n d_M_copy_45 rfl ?_
          refine cw_ialdN (i := s) sm_forms rfl (by omega) (by decide) d_M_copy_46 ?_
          refine cw_top (hR.fo (i := s) (by omega)) ?_
          refine cw_aload_n d_M_copy_47 rfl ?_
          refine cw_getR fl_M_7 so_M rfl d_M_copy_48 ?_
          refine cw_iload_n d_M_copy_51 rfl ?_
          refine cw_ialdN (i := t) sm_forms rfl (by omega) (by decide) d_M_copy_52 ?_
          refine cw_top (hR.fo (i := t) (by omega)) ?_
          refine cw_icmp_eq 62 d_M_copy_53 (by decide) (fun c_53 => ?_) (fun c_53 => ?_)
          · refine cw_iload_n d_M_copy_62 rfl ?_
            refine cw_if_lt 111 d_M_copy_63 (by decide) (fun c_63 => ?_) (fun c_63 => ?_)
            · have z63 := i32_lt.mp c_63
              rw [i0] at z63
              refine cw_aload_n d_M_copy_111 rfl ?_
              refine cw_iconst (v := 2) d_M_copy_112 (by decide) ?_
              refine cw_virtI (s_M_met) rfl ml_M_85 so_M rfl rfl d_M_copy_113 (fun r_113 M_113 q_113 => ?_)
              obtain ⟨e_113, rfl⟩ := q_113
              subst e_113
              refine cw_iret rfl d_M_copy_116 ?_
              have hok : okCopy (nI s) (nI t) = true := by simp [okCopy, c_4, c_11]
              have hcp : cpF σ s t i j v = 2 := by
                unfold cpF
                rw [if_neg (by rw [l1, l3]; decide), if_neg (fun q => q c_53), if_neg (fun q => by rw [Bool.and_eq_true] at q; have r1 := of_decide_eq_true q.1; have r2 := of_decide_eq_true q.2; omega)]
              exact ⟨by simp [ans_copy, hok, ix_nI (show s < 2 ^ 31 by omega), ix_nI (show t < 2 ^ 31 by omega), hcp], by simp [aft_copy, hok, ix_nI (show s < 2 ^ 31 by omega), ix_nI (show t < 2 ^ 31 by omega), hcp]; exact found_RM hI hR, mS_kM (by decide)⟩
            · have z63 := i32_le.mp (i32_nlt.mp c_63)
              rw [i0] at z63
              refine cw_iload d_M_copy_66 rfl ?_
              refine cw_if_lt 111 d_M_copy_68 (by decide) (fun c_68 => ?_) (fun c_68 => ?_)
              · have z68 := i32_lt.mp c_68
                rw [i0] at z68
                refine cw_aload_n d_M_copy_111 rfl ?_
                refine cw_iconst (v := 2) d_M_copy_112 (by decide) ?_
                refine cw_virtI (s_M_met) rfl ml_M_85 so_M rfl rfl d_M_copy_113 (fun r_113 M_113 q_113 => ?_)
                obtain ⟨e_113, rfl⟩ := q_113
                subst e_113
                refine cw_iret rfl d_M_copy_116 ?_
                have hok : okCopy (nI s) (nI t) = true := by simp [okCopy, c_4, c_11]
                have hcp : cpF σ s t i j v = 2 := by
                  unfold cpF
                  rw [if_neg (by rw [l1, l3]; decide), if_neg (fun q => q c_53), if_neg (fun q => by rw [Bool.and_eq_true] at q; have r1 := of_decide_eq_true q.1; have r2 := of_decide_eq_true q.2; omega)]
                exact ⟨by simp [ans_copy, hok, ix_nI (show s < 2 ^ 31 by omega), ix_nI (show t < 2 ^ 31 by omega), hcp], by simp [aft_copy, hok, ix_nI (show s < 2 ^ 31 by omega), ix_nI (show t < 2 ^ 31 by omega), hcp]; exact found_RM hI hR, mS_kM (by decide)⟩
              · have z68 := i32_le.mp (i32_nlt.mp c_68)
                rw [i0] at z68
                refine cw_iload d_M_copy_71 rfl ?_
                refine cw_if_lt 111 d_M_copy_73 (by decide) (fun c_73 => ?_) (fun c_73 => ?_)
                · have z73 := i32_lt.mp c_73
                  rw [i0] at z73
                  refine cw_aload_n d_M_copy_111 rfl ?_
                  refine cw_iconst (v := 2) d_M_copy_112 (by decide) ?_
                  refine cw_virtI (s_M_met) rfl ml_M_85 so_M rfl rfl d_M_copy_113 (fun r_113 M_113 q_113 => ?_)
                  obtain ⟨e_113, rfl⟩ := q_113
                  subst e_113
                  refine cw_iret rfl d_M_copy_116 ?_
                  have hok : okCopy (nI s) (nI t) = true := by simp [okCopy, c_4, c_11]
                  have hcp : cpF σ s t i j v = 2 := by
                    unfold cpF
                    rw [if_neg (by rw [l1, l3]; decide), if_neg (fun q => q c_53), if_neg (fun q => by rw [Bool.and_eq_true] at q; have r1 := of_decide_eq_true q.1; have r2 := of_decide_eq_true q.2; omega)]
                  exact ⟨by simp [ans_copy, hok, ix_nI (show s < 2 ^ 31 by omega), ix_nI (show t < 2 ^ 31 by omega), hcp], by simp [aft_copy, hok, ix_nI (show s < 2 ^ 31 by omega), ix_nI (show t < 2 ^ 31 by omega), hcp]; exact found_RM hI hR, mS_kM (by decide)⟩
                · have z73 := i32_le.mp (i32_nlt.mp c_73)
                  rw [i0] at z73
                  refine cw_iload_n d_M_copy_76 rfl ?_
                  refine cw_i2l d_M_copy_77 ?_
                  refine cw_iload d_M_copy_78 rfl ?_
                  refine cw_i2l d_M_copy_80 ?_
                  refine cw_ladd d_M_copy_81 ?_
                  refine cw_aload_n d_M_copy_82 rfl ?_
                  refine cw_getR fl_M_13 so_M rfl d_M_copy_83 ?_
                  refine cw_iload_n d_M_copy_86 rfl ?_
                  refine cw_ialdN (i := s) sm_sizes rfl (by omega) (by decide) d_M_copy_87 ?_
                  refine cw_top (hR.2.2.2 14 s 0 ⟨by omega, rfl, l2⟩) ?_
                  refine cw_i2l d_M_copy_88 ?_
                  refine cw_lcmp d_M_copy_89 ?_
                  refine cw_if_gt 111 d_M_copy_90 (by decide) (fun c_90 => ?_) (fun c_90 => ?_)
                  · have z90 := i64_lt.mp (lgc_gt.mp c_90)
                    rw [ad64, Int32.toInt_toInt64] at z90
                    refine cw_aload_n d_M_copy_111 rfl ?_
                    refine cw_iconst (v := 2) d_M_copy_112 (by decide) ?_
                    refine cw_virtI (s_M_met) rfl ml_M_85 so_M rfl rfl d_M_copy_113 (fun r_113 M_113 q_113 => ?_)
                    obtain ⟨e_113, rfl⟩ := q_113
                    subst e_113
                    refine cw_iret rfl d_M_copy_116 ?_
                    have hok : okCopy (nI s) (nI t) = true := by simp [okCopy, c_4, c_11]
                    have hcp : cpF σ s t i j v = 2 := by
                      unfold cpF
                      rw [if_neg (by rw [l1, l3]; decide), if_neg (fun q => q c_53), if_neg (fun q => by rw [Bool.and_eq_true] at q; have r1 := of_decide_eq_true q.1; have r2 := of_decide_eq_true q.2; omega)]
                    exact ⟨by simp [ans_copy, hok, ix_nI (show s < 2 ^ 31 by omega), ix_nI (show t < 2 ^ 31 by omega), hcp], by simp [aft_copy, hok, ix_nI (show s < 2 ^ 31 by omega), ix_nI (show t < 2 ^ 31 by omega), hcp]; exact found_RM hI hR, mS_kM (by decide)⟩
                  · have z90 := i64_le.mp (i64_nlt.mp (fun q => c_90 (lgc_gt.mpr q)))
                    rw [ad64, Int32.toInt_toInt64] at z90
                    refine cw_iload d_M_copy_93 rfl ?_
                    refine cw_i2l d_M_copy_95 ?_
                    refine cw_iload d_M_copy_96 rfl ?_
                    refine cw_i2l d_M_copy_98 ?_
                    refine cw_ladd d_M_copy_99 ?_
                    refine cw_aload_n d_M_copy_100 rfl ?_
                    refine cw_getR fl_M_13 so_M rfl d_M_copy_101 ?_
                    refine cw_iload_n d_M_copy_104 rfl ?_
                    refine cw_ialdN (i := t) sm_sizes rfl (by omega) (by decide) d_M_copy_105 ?_
                    refine cw_top (hR.2.2.2 14 t 0 ⟨by omega, rfl, l4⟩) ?_
                    refine cw_i2l d_M_copy_106 ?_
                    refine cw_lcmp d_M_copy_107 ?_
                    refine cw_if_le 117 d_M_copy_108 (by decide) (fun c_108 => ?_) (fun c_108 => ?_)
                    · have z108 := i64_le.mp (lgc_le.mp c_108)
                      rw [ad64, Int32.toInt_toInt64] at z108
                      have zs := (hI.2.2.2.2.2.2.2.2.2 s).2.2
                      have zt := (hI.2.2.2.2.2.2.2.2.2 t).2.2
                      have hcp : cpF σ s t i j v = 0 := by
                        unfold cpF
                        rw [if_neg (by rw [l1, l3]; decide), if_neg (fun q => q c_53), if_pos (by rw [Bool.and_eq_true]; exact ⟨decide_eq_true ⟨z63, z73, z90⟩, decide_eq_true ⟨z68, z73, z108⟩⟩)]
                      obtain ⟨a, ea⟩ : ∃ a : Nat, i.toInt = a := ⟨i.toInt.toNat, by omega⟩
                      obtain ⟨b, eb⟩ : ∃ b : Nat, j.toInt = b := ⟨j.toInt.toNat, by omega⟩
                      obtain ⟨m, em⟩ : ∃ m : Nat, v.toInt = m := ⟨v.toInt.toNat, by omega⟩
                      have ei : i = nI a := nI_ofInt ea (by omega)
                      have ej : j = nI b := nI_ofInt eb (by omega)
                      have ev : v = nI m := nI_ofInt em (by omega)
                      subst ei
                      subst ej
                      subst ev
                      refine cw_iconst (v := 0) d_M_copy_117 (by decide) ?_
                      refine cw_istore d_M_copy_118 rfl ?_
                      have hok : okCopy (nI s) (nI t) = true := by simp [okCopy, c_4, c_11]
                      have h1 : ans_copy σ (nI s) (nI a) (nI t) (nI b) (nI m) = 1 := by simp [ans_copy, hok, ix_nI (show s < 2 ^ 31 by omega), ix_nI (show t < 2 ^ 31 by omega), hcp]
                      have h2 : aft_copy σ (nI s) (nI a) (nI t) (nI b) (nI m) = aftR σ 15 t 60 (va_cpy (σ.2 15 s) (σ.2 15 t) a b m) := by simp only [aft_copy, hok, if_true, ix_nI (show s < 2 ^ 31 by omega), ix_nI (show t < 2 ^ 31 by omega), ix_nI (show a < 2 ^ 31 by omega), ix_nI (show b < 2 ^ 31 by omega), ix_nI (show m < 2 ^ 31 by omega), hcp]
                      rw [h1, h2]
                      exact cw_mem mRow_0.symm (l_M_copy1 hR hI (by omega) (by omega) (by omega) (by omega) (by omega) (by omega) l2 0 (by omega))
                    · have z108 := i64_lt.mp (i64_nle.mp (fun q => c_108 (lgc_le.mpr q)))
                      rw [ad64, Int32.toInt_toInt64] at z108
                      refine cw_aload_n d_M_copy_111 rfl ?_
                      refine cw_iconst (v := 2) d_M_copy_112 (by decide) ?_
                      refine cw_virtI (s_M_met) rfl ml_M_85 so_M rfl rfl d_M_copy_113 (fun r_113 M_113 q_113 => ?_)
                      obtain ⟨e_113, rfl⟩ := q_113
                      subst e_113
                      refine cw_iret rfl d_M_copy_116 ?_
                      have hok : okCopy (nI s) (nI t) = true := by simp [okCopy, c_4, c_11]
                      have hcp : cpF σ s t i j v = 2 := by
                        unfold cpF
                        rw [if_neg (by rw [l1, l3]; decide), if_neg (fun q => q c_53), if_neg (fun q => by rw [Bool.and_eq_true] at q; have r1 := of_decide_eq_true q.1; have r2 := of_decide_eq_true q.2; omega)]
                      exact ⟨by simp [ans_copy, hok, ix_nI (show s < 2 ^ 31 by omega), ix_nI (show t < 2 ^ 31 by omega), hcp], by simp [aft_copy, hok, ix_nI (show s < 2 ^ 31 by omega), ix_nI (show t < 2 ^ 31 by omega), hcp]; exact found_RM hI hR, mS_kM (by decide)⟩
          · refine cw_aload_n d_M_copy_56 rfl ?_
            refine cw_iconst (v := 4) d_M_copy_57 (by decide) ?_
            refine cw_virtI (s_M_met) rfl ml_M_85 so_M rfl rfl d_M_copy_58 (fun r_58 M_58 q_58 => ?_)
            obtain ⟨e_58, rfl⟩ := q_58
            subst e_58
            refine cw_iret rfl d_M_copy_61 ?_
            have hok : okCopy (nI s) (nI t) = true := by simp [okCopy, c_4, c_11]
            have hcp : cpF σ s t i j v = 4 := by
              unfold cpF
              rw [if_neg (by rw [l1, l3]; decide), if_pos c_53]
            exact ⟨by simp [ans_copy, hok, ix_nI (show s < 2 ^ 31 by omega), ix_nI (show t < 2 ^ 31 by omega), hcp], by simp [aft_copy, hok, ix_nI (show s < 2 ^ 31 by omega), ix_nI (show t < 2 ^ 31 by omega), hcp]; exact found_RM hI hR, mS_kM (by decide)⟩
        · have l3 := lost_t hI c_32
          refine cw_aload_n d_M_copy_35 rfl ?_
          refine cw_iconst (v := 1) d_M_copy_36 (by decide) ?_
          refine cw_virtI (s_M_met) rfl ml_M_85 so_M rfl rfl d_M_copy_37 (fun r_37 M_37 q_37 => ?_)
          obtain ⟨e_37, rfl⟩ := q_37
          subst e_37
          refine cw_iret rfl d_M_copy_40 ?_
          have hok : okCopy (nI s) (nI t) = true := by simp [okCopy, c_4, c_11]
          have hcp : cpF σ s t i j v = 1 := by
            unfold cpF
            rw [if_pos (by rw [l3, Bool.or_true])]
          exact ⟨by simp [ans_copy, hok, ix_nI (show s < 2 ^ 31 by omega), ix_nI (show t < 2 ^ 31 by omega), hcp], by simp [aft_copy, hok, ix_nI (show s < 2 ^ 31 by omega), ix_nI (show t < 2 ^ 31 by omega), hcp]; exact found_RM hI hR, mS_kM (by decide)⟩
    · refine cw_bipush (v := (-2)) d_M_copy_14 (by decide) ?_
      refine cw_iret rfl d_M_copy_16 ?_
      have hok : okCopy (nI s) y = false := by simp [okCopy, c_4, c_11]
      exact ⟨by simp [ans_copy, hok], by simp [aft_copy, hok]; exact hR, kM.rf⟩
theorem min8_v {σ : Sg} (hI : Iv σ) (s : Nat) : (8 ≤ σ.2 14 s 0 → nI (min8 σ s) = 8) ∧ (¬ 8 ≤ σ.2 14 s 0 → nI (min8 σ s) = σ.2 14 s 0) ∧ min8 σ s ≤ 8 ∧ ((min8 σ s : Nat) : Int) ≤ (σ.2 14 s 0).toInt := by
  obtain ⟨h1, h2⟩ := size_ok hI s
  have h3 : (σ.2 14 s 0).toInt = (ix (σ.2 14 s 0) : Nat) := by
    have := congrArg Int32.toInt h1
    rw [nI_toInt (by omega)] at this
    exact this
  have h8 : (8 : Int32).toInt = 8 := rfl
  unfold min8
  refine ⟨fun q => ?_, fun q => ?_, Nat.min_le_right _ _, by omega⟩
  · rw [i32_le, h8] at q
    rw [Nat.min_eq_right (by omega)]
    rfl
  · rw [i32_le, h8] at q
    rw [Nat.min_eq_left (by omega)]
    exact h1.symm
set_option maxRecDepth 100000 in
theorem l_M_write {M : Mem} {σ : Sg} (hR : RM M σ) (hI : Iv σ) {d s : Nat} (hd : d < σ.1.2.1) (hs : s < 4) (l2 : ¬ σ.2 13 s 0 < 0)  : ∀ k, k ≤ min8 σ s → CW u_M_write (rM (nI (min8 σ s)) (aftR σ 15 s (min8 σ s) (fun p => cutS (σ.2 13 s 0) (σ.2 9 d p))) M) 59 [some (.ref 1000), some (.int (nI d)), some (.int (nI s)), some (.int (nI (min8 σ s))), some (.int (nI k))] [] (mSeg M 1003 (60 * s) k (fun p => cutS (σ.2 13 s 0) (σ.2 9 d p))) := by
  obtain ⟨hn1, hn2, hn3⟩ := hI.n
  obtain ⟨_, _, m8, mz⟩ := min8_v hI s
  refine up_ind (fun k hk ih => ?_)
  refine cw_iload d_M_write_59 rfl ?_
  refine cw_iload_n d_M_write_61 rfl ?_
  refine cw_icmp_geN (k) (min8 σ s) 104 rfl rfl (by omega) d_M_write_62 (by decide) (fun c_62 => ?_) (fun c_62 => ?_)
  · refine cw_iload_n d_M_write_104 rfl ?_
    refine cw_iret rfl d_M_write_105 ?_
    have ei : k = min8 σ s := by omega
    subst ei
    exact ⟨rfl, RM_row hI hR (t := 15) (i := s) 1003 (60 * s) (fun j hj => ⟨⟨hs, by omega, l2⟩, rfl⟩) (by decide) (by decide), mSeg_kM (by decide)⟩
  · refine cw_aload_n d_M_write_65 rfl ?_
    refine cw_getR fl_M_16 so_M rfl d_M_write_66 ?_
    refine cw_bipush (v := 60) d_M_write_69 (by decide) ?_
    refine cw_iload_n d_M_write_71 rfl ?_
    refine cw_imul d_M_write_72 ?_
    refine cw_iload d_M_write_73 rfl ?_
    refine cw_iadd d_M_write_75 ?_
    refine cw_aload_n d_M_write_76 rfl ?_
    refine cw_getR fl_M_7 so_M rfl d_M_write_77 ?_
    refine cw_iload_n d_M_write_80 rfl ?_
    refine cw_ialdN (i := s) sm_forms rfl (by omega) (by decide) d_M_write_81 ?_
    refine cw_top ((mSeg_k (by decide)).trans (hR.fo hs)) ?_
    refine cw_aload_n d_M_write_82 rfl ?_
    refine cw_getR fl_M_49 so_M rfl d_M_write_83 ?_
    refine cw_bipush (v := 8) d_M_write_86 (by decide) ?_
    refine cw_iload_n d_M_write_88 rfl ?_
    refine cw_imul d_M_write_89 ?_
    refine cw_iload d_M_write_90 rfl ?_
    refine cw_iadd d_M_write_92 ?_
    refine cw_ialdN (i := (8 * d) + k) sm_lines (nAdd (nMul rfl rfl) rfl) (by omega) (by decide) d_M_write_93 ?_
    refine cw_top ((mSeg_k (by decide)).trans (hR.li hd (by omega))) ?_
    refine cw_staticP (s_M_cut) rfl ml_M_93 rfl rfl d_M_write_94 ?_
    refine cw_iastN (i := (60 * s) + k) sm_items (nAdd (nMul rfl rfl) rfl) (by omega) (by decide) d_M_write_97 ?_
    refine cw_iincN (x := k) d_M_write_98 rfl rfl ?_
    refine cw_goto 59 d_M_write_101 (by decide) ?_
    exact cw_cast (by simp only [lset1, kl]) rfl (mSeg_s (f := (fun p => cutS (σ.2 13 s 0) (σ.2 9 d p)))) (ih c_62)
set_option maxRecDepth 100000 in
theorem m_write {M : Mem} {σ : Sg} (hR : RM M σ) (hI : Iv σ) {x y : Int32} : CS u_M_write [.ref 1000, .int x, .int y] M (rM (ans_write σ x y) (aft_write σ x y) M) := by
  obtain ⟨hn1, hn2, hn3⟩ := hI.n
  refine cs_introF (L := [some (.ref 1000), some (.int x), some (.int y), none, none]) (by decide +kernel) (fun ad q h => h) (fun ad => Nat.le_of_ble_eq_true rfl) ?_
  refine cw_aload_n d_M_write_0 rfl ?_
  refine cw_iload_n d_M_write_1 rfl ?_
  refine cw_virtP (s_M_isDrawing hR hI) rfl ml_M_163 so_M rfl rfl d_M_write_2 ?_
  refine cw_bif_eq 15 d_M_write_5 (by decide) (fun c_5 => ?_) (fun c_5 => ?_)
  · refine cw_bipush (v := (-2)) d_M_write_15 (by decide) ?_
    refine cw_iret rfl d_M_write_17 ?_
    have hok : okWrite σ x y = false := by simp [okWrite, c_5]
    exact ⟨by simp [ans_write, hok], by simp [aft_write, hok]; exact hR, kM.rf⟩
  · obtain ⟨d, hhd, e_d⟩ := ixB_t c_5 (by omega)
    subst e_d
    refine cw_iload_n d_M_write_8 rfl ?_
    refine cw_staticP (s_M_isSheet) rfl ml_M_79 rfl rfl d_M_write_9 ?_
    refine cw_bif_ne 18 d_M_write_12 (by decide) (fun c_12 => ?_) (fun c_12 => ?_)
    · obtain ⟨s, hhs, e_s⟩ := ixB_t c_12 (by omega)
      subst e_s
      refine cw_aload_n d_M_write_18 rfl ?_
      refine cw_getR fl_M_7 so_M rfl d_M_write_19 ?_
      refine cw_iload_n d_M_write_22 rfl ?_
      refine cw_ialdN (i := s) sm_forms rfl (by omega) (by decide) d_M_write_23 ?_
      refine cw_top (hR.fo (i := s) (by omega)) ?_
      refine cw_if_ge 33 d_M_write_24 (by decide) (fun c_24 => ?_) (fun c_24 => ?_)
      · obtain ⟨l1, l2⟩ := lost_f c_24
        obtain ⟨v1, v2, m8, mz⟩ := min8_v hI s
        refine cw_aload_n d_M_write_33 rfl ?_
        refine cw_getR fl_M_13 so_M rfl d_M_write_34 ?_
        refine cw_iload_n d_M_write_37 rfl ?_
        refine cw_ialdN (i := s) sm_sizes rfl (by omega) (by decide) d_M_write_38 ?_
        refine cw_top (hR.2.2.2 14 s 0 ⟨by omega, rfl, l2⟩) ?_
        refine cw_bipush (v := 8) d_M_write_39 (by decide) ?_
        refine cw_tern2 55 (nI (min8 σ s)) ?_ (fun k_41 => ?_)
        · refine cw_istore_n d_M_write_55 rfl ?_
          refine cw_iconst (v := 0) d_M_write_56 (by decide) ?_
          refine cw_istore d_M_write_57 rfl ?_
          have hok : okWrite σ (nI d) (nI s) = true := by simp [okWrite, c_5, c_12]
          have h1 : ans_write σ (nI d) (nI s) = nI (min8 σ s) := by simp [ans_write, hok, l1, ix_nI (show s < 2 ^ 31 by omega)]
          have h2 : aft_write σ (nI d) (nI s) = aftR σ 15 s (min8 σ s) (fun p => cutS (σ.2 13 s 0) (σ.2 9 d p)) := by simp [aft_write, hok, l1, ix_nI (show d < 2 ^ 31 by omega), ix_nI (show s < 2 ^ 31 by omega)]
          rw [h1, h2]
          exact cw_mem mSeg_0.symm (l_M_write hR hI (by omega) (by omega) l2 0 (by omega))
        · refine cw_icmp_ge 53 d_M_write_41 (by decide) (fun c_41 => ?_) (fun c_41 => ?_)
          · refine cw_bipush (v := 8) d_M_write_53 (by decide) ?_
            exact k_41 _ (v1 c_41).symm
          · refine cw_aload_n d_M_write_44 rfl ?_
            refine cw_getR fl_M_13 so_M rfl d_M_write_45 ?_
            refine cw_iload_n d_M_write_48 rfl ?_
            refine cw_ialdN (i := s) sm_sizes rfl (by omega) (by decide) d_M_write_49 ?_
            refine cw_top (hR.2.2.2 14 s 0 ⟨by omega, rfl, l2⟩) ?_
            refine cw_goto 55 d_M_write_50 (by decide) ?_
            exact k_41 _ (v2 c_41).symm
      · have l1 := lost_t hI c_24
        refine cw_aload_n d_M_write_27 rfl ?_
        refine cw_iconst (v := 1) d_M_write_28 (by decide) ?_
        refine cw_virtI (s_M_met) rfl ml_M_85 so_M rfl rfl d_M_write_29 (fun r_29 M_29 q_29 => ?_)
        obtain ⟨e_29, rfl⟩ := q_29
        subst e_29
        refine cw_iret rfl d_M_write_32 ?_
        have hok : okWrite σ (nI d) (nI s) = true := by simp [okWrite, c_5, c_12]
        exact ⟨by simp [ans_write, hok, l1, ix_nI (show s < 2 ^ 31 by omega)], by simp [aft_write, hok, l1, ix_nI (show s < 2 ^ 31 by omega)]; exact found_RM hI hR, mS_kM (by decide)⟩
    · refine cw_bipush (v := (-2)) d_M_write_15 (by decide) ?_
      refine cw_iret rfl d_M_write_17 ?_
      have hok : okWrite σ (nI d) y = false := by simp [okWrite, c_5, c_12]
      exact ⟨by simp [ans_write, hok], by simp [aft_write, hok]; exact hR, kM.rf⟩
theorem Iv_pl {σ : Sg} (hI : Iv σ) {h n : Nat} {f : Nat → Int32} (hh : h < σ.1.1) (hf : ∀ j, j < n → rD (f j) 0 99) : Iv (aftR σ 1 h n f) := by
  obtain ⟨h1, h2, h3, h4, h5, h6, h7, h8, h9, h10⟩ := hI
  have e : ∀ t x y, t ≠ 1 → (aftR σ 1 h n f).2 t x y = σ.2 t x y := fun t x y ht => if_neg (fun q => ht q.1)
  refine ⟨h1, h2, h3, fun g p => ?_, fun g p hg => ?_, fun b => ?_, ?_, fun d hd => ?_, fun k p hk => ?_, fun s => ?_⟩
  · by_cases q : g = h ∧ p < n
    · rw [show (aftR σ 1 h n f).2 1 g p = f p from if_pos ⟨rfl, q.1, q.2⟩]; exact hf p q.2
    · rw [show (aftR σ 1 h n f).2 1 g p = σ.2 1 g p from if_neg (fun z => q z.2)]; exact h4 g p
  · have hg : σ.1.1 ≤ g := hg
    rw [show (aftR σ 1 h n f).2 1 g p = σ.2 1 g p from if_neg (fun z => by omega)]; exact h5 g p hg
  · rw [e _ _ _ (by decide)]; exact h6 b
  · rw [e _ _ _ (by decide), e _ _ _ (by decide), e _ _ _ (by decide)]; exact h7
  · rw [e _ _ _ (by decide), e _ _ _ (by decide)]
    refine ⟨(h8 d hd).1, (h8 d hd).2.1, fun p => ?_⟩
    rw [e _ _ _ (by decide), e _ _ _ (by decide)]
    exact (h8 d hd).2.2 p
  · rw [e _ _ _ (by decide)]; exact h9 k p hk
  · rw [e _ _ _ (by decide), e _ _ _ (by decide)]; exact h10 s
theorem aftR_0 {σ : Sg} {t h : Nat} {f : Nat → Int32} : aftR σ t h 0 f = σ := Prod.ext rfl (by funext a b c; exact if_neg (by omega))
theorem aftR_s {σ : Sg} {t h i : Nat} {f : Nat → Int32} : su (aftR σ t h i f) t h i (f i) = aftR σ t h (i + 1) f := by
  refine Prod.ext rfl ?_
  funext a b c
  show (if a = t ∧ b = h ∧ c = i then f i else if a = t ∧ b = h ∧ c < i then f c else σ.2 a b c) = if a = t ∧ b = h ∧ c < i + 1 then f c else σ.2 a b c
  by_cases q : a = t ∧ b = h
  · obtain ⟨rfl, rfl⟩ := q
    simp only [true_and]
    by_cases q1 : c = i
    · subst q1; simp
    · by_cases q2 : c < i
      · rw [if_neg q1, if_pos q2, if_pos (by omega)]
      · rw [if_neg q1, if_neg q2, if_neg (by omega)]
  · rw [if_neg (fun z => q ⟨z.1, z.2.1⟩), if_neg (fun z => q ⟨z.1, z.2.1⟩), if_neg (fun z => q ⟨z.1, z.2.1⟩)]
set_option maxRecDepth 100000 in
theorem l_M_read {M : Mem} {σ : Sg} (hR : RM M σ) (hI : Iv σ) {h s : Nat} (hh : h < σ.1.1) (hs : s < 4) (l2 : ¬ σ.2 13 s 0 < 0)  : ∀ (n i : Nat) (M' : Mem), i + n = min8 σ s → (∀ j, j < i → rD ((σ.2 15 s) j) 0 99) → RM M' (aftR σ 1 h i (σ.2 15 s)) → kM M M' → CW u_M_read (rM (nI (rdN (σ.2 15 s) n i)) (aftR σ 1 h (rdN (σ.2 15 s) n i) (σ.2 15 s)) M) 35 [some (.ref 1000), some (.int (nI s)), some (.int (nI h)), some (.int (nI i))] [] M' := by
  obtain ⟨hn1, hn2, hn3⟩ := hI.n
  obtain ⟨_, _, m8, mz⟩ := min8_v hI s
  obtain ⟨so1, so2⟩ := size_ok hI s
  have sz3 : (σ.2 14 s 0).toInt = (ix (σ.2 14 s 0) : Nat) := by
    have := congrArg Int32.toInt so1
    rw [nI_toInt (by omega)] at this
    exact this
  have mdef : min8 σ s = min (ix (σ.2 14 s 0)) 8 := rfl
  intro n
  induction n with
  | zero =>
    intro i M' hin hj hR' hkm
    have hI' := Iv_pl hI hh hj
    have sz : mG M' 1002 s = nI (ix (σ.2 14 s 0)) := (hR'.2.2.2 14 s 0 ⟨hs, rfl, l2⟩).trans so1
    refine cw_iload_n d_M_read_35 rfl ?_
    refine cw_aload_n d_M_read_36 rfl ?_
    refine cw_getR fl_M_13 so_M rfl d_M_read_37 ?_
    refine cw_iload_n d_M_read_40 rfl ?_
    refine cw_ialdN (i := s) sm_sizes rfl (by omega) (by decide) d_M_read_41 ?_
    refine cw_icmp_geN (i) (ix (σ.2 14 s 0)) 71 rfl sz (by omega) d_M_read_42 (by decide) (fun c_42 => ?_) (fun c_42 => ?_)
    · refine cw_iload_n d_M_read_71 rfl ?_
      refine cw_iret rfl d_M_read_72 ?_
      exact ⟨rfl, hR', hkm⟩
    · refine cw_aload_n d_M_read_45 rfl ?_
      refine cw_iload_n d_M_read_46 rfl ?_
      refine cw_iload_n d_M_read_47 rfl ?_
      refine cw_aload_n d_M_read_48 rfl ?_
      refine cw_getR fl_M_16 so_M rfl d_M_read_49 ?_
      refine cw_bipush (v := 60) d_M_read_52 (by decide) ?_
      refine cw_iload_n d_M_read_54 rfl ?_
      refine cw_imul d_M_read_55 ?_
      refine cw_iload_n d_M_read_56 rfl ?_
      refine cw_iadd d_M_read_57 ?_
      refine cw_ialdN (i := (60 * s) + i) sm_items (nAdd (nMul rfl rfl) rfl) (by omega) (by decide) d_M_read_58 ?_
      refine cw_top (hR'.2.2.2 15 s i ⟨hs, (show (i : Int) < (σ.2 14 s 0).toInt by omega), l2⟩) ?_
      have hi8 : i = 8 := by omega
      refine cw_virtI (m_place hR' hI' (x := nI h) (y := nI i) (v := (σ.2 15 s) i)) rfl ml_M_111 so_M rfl rfl d_M_read_59 (fun r_59 M_59 q_59 => ?_)
      obtain ⟨e_59, w_59, y_59⟩ := q_59
      subst e_59
      have hbad : ans_place (aftR σ 1 h i (σ.2 15 s)) (nI h) (nI i) ((σ.2 15 s) i) = -2 := by simp [ans_place, show ixB (nI i) 8 = false by rw [hi8]; decide]
      have hba2 : aft_place (aftR σ 1 h i (σ.2 15 s)) (nI h) (nI i) ((σ.2 15 s) i) = (aftR σ 1 h i (σ.2 15 s)) := by simp [aft_place, show ixB (nI i) 8 = false by rw [hi8]; decide]
      rw [hba2] at w_59
      refine cw_if_lt 71 d_M_read_62 (by decide) (fun c_62 => ?_) (fun c_62 => ?_)
      · refine cw_iload_n d_M_read_71 rfl ?_
        refine cw_iret rfl d_M_read_72 ?_
        exact ⟨rfl, w_59, hkm.tr y_59⟩
      · exact absurd (by rw [hbad]; decide) c_62
  | succ n ih =>
    intro i M' hin hj hR' hkm
    have hI' := Iv_pl hI hh hj
    have sz : mG M' 1002 s = nI (ix (σ.2 14 s 0)) := (hR'.2.2.2 14 s 0 ⟨hs, rfl, l2⟩).trans so1
    refine cw_iload_n d_M_read_35 rfl ?_
    refine cw_aload_n d_M_read_36 rfl ?_
    refine cw_getR fl_M_13 so_M rfl d_M_read_37 ?_
    refine cw_iload_n d_M_read_40 rfl ?_
    refine cw_ialdN (i := s) sm_sizes rfl (by omega) (by decide) d_M_read_41 ?_
    refine cw_icmp_geN (i) (ix (σ.2 14 s 0)) 71 rfl sz (by omega) d_M_read_42 (by decide) (fun c_42 => ?_) (fun c_42 => ?_)
    · exact absurd c_42 (by omega)
    · refine cw_aload_n d_M_read_45 rfl ?_
      refine cw_iload_n d_M_read_46 rfl ?_
      refine cw_iload_n d_M_read_47 rfl ?_
      refine cw_aload_n d_M_read_48 rfl ?_
      refine cw_getR fl_M_16 so_M rfl d_M_read_49 ?_
      refine cw_bipush (v := 60) d_M_read_52 (by decide) ?_
      refine cw_iload_n d_M_read_54 rfl ?_
      refine cw_imul d_M_read_55 ?_
      refine cw_iload_n d_M_read_56 rfl ?_
      refine cw_iadd d_M_read_57 ?_
      refine cw_ialdN (i := (60 * s) + i) sm_items (nAdd (nMul rfl rfl) rfl) (by omega) (by decide) d_M_read_58 ?_
      refine cw_top (hR'.2.2.2 15 s i ⟨hs, (show (i : Int) < (σ.2 14 s 0).toInt by omega), l2⟩) ?_
      refine cw_virtI (m_place hR' hI' (x := nI h) (y := nI i) (v := (σ.2 15 s) i)) rfl ml_M_111 so_M rfl rfl d_M_read_59 (fun r_59 M_59 q_59 => ?_)
      obtain ⟨e_59, w_59, y_59⟩ := q_59
      subst e_59
      have hpl := hI'.2.2.2.1 h i
      have hh8 : ixB (nI i) 8 = true := ixB_nI (by omega) (by decide)
      have hok : ixB ((σ.2 15 s) i) (99 + 1) = true → ans_place (aftR σ 1 h i (σ.2 15 s)) (nI h) (nI i) ((σ.2 15 s) i) = (aftR σ 1 h i (σ.2 15 s)).2 1 h i := fun q => (if_pos (by rw [hh8, q]; exact (Bool.and_true _).trans ((Bool.and_true _).trans (ixB_nI (n := σ.1.1) hh (by omega))))).trans (by rw [ix_nI (by omega), ix_nI (by omega)])
      refine cw_if_lt 71 d_M_read_62 (by decide) (fun c_62 => ?_) (fun c_62 => ?_)
      · have hv : ixB ((σ.2 15 s) i) (99 + 1) = false := Bool.eq_false_iff.mpr (fun q => by rw [hok q] at c_62; exact absurd c_62 (i32_nlt.mpr (i32_le.mpr (hpl.1))))
        have hr2 : rdN (σ.2 15 s) (n + 1) i = i := if_neg (Bool.eq_false_iff.mp hv)
        rw [hr2]
        have hba2 : aft_place (aftR σ 1 h i (σ.2 15 s)) (nI h) (nI i) ((σ.2 15 s) i) = (aftR σ 1 h i (σ.2 15 s)) := by simp [aft_place, hv]
        rw [hba2] at w_59
        refine cw_iload_n d_M_read_71 rfl ?_
        refine cw_iret rfl d_M_read_72 ?_
        exact ⟨rfl, w_59, hkm.tr y_59⟩
      · have hv : ixB ((σ.2 15 s) i) (99 + 1) = true := by
          cases hq : ixB ((σ.2 15 s) i) (99 + 1) with
          | true => rfl
          | false => exact absurd (by rw [show ans_place (aftR σ 1 h i (σ.2 15 s)) (nI h) (nI i) ((σ.2 15 s) i) = -2 by simp [ans_place, hq]]; decide) c_62
        have hr2 : rdN (σ.2 15 s) (n + 1) i = rdN (σ.2 15 s) n (i + 1) := if_pos hv
        rw [hr2]
        have hba2 : aft_place (aftR σ 1 h i (σ.2 15 s)) (nI h) (nI i) ((σ.2 15 s) i) = aftR σ 1 h (i + 1) (σ.2 15 s) := by
          rw [← aftR_s]
          exact (if_pos (by rw [hh8, hv]; exact (Bool.and_true _).trans ((Bool.and_true _).trans (ixB_nI (n := σ.1.1) hh (by omega))))).trans (by rw [ix_nI (by omega), ix_nI (by omega)])
        rw [hba2] at w_59
        refine cw_iincN (x := i) d_M_read_65 rfl rfl ?_
        refine cw_goto 35 d_M_read_68 (by decide) ?_
        refine ih (i + 1) _ (by omega) (fun j hj2 => ?_) w_59 (hkm.tr y_59)
        by_cases e : j = i
        · subst e
          have := of_decide_eq_true hv
          exact ⟨this.1, by have := this.2; omega⟩
        · exact hj j (by omega)
set_option maxRecDepth 100000 in
theorem m_read {M : Mem} {σ : Sg} (hR : RM M σ) (hI : Iv σ) {x y : Int32} : CS u_M_read [.ref 1000, .int x, .int y] M (rM (ans_read σ x y) (aft_read σ x y) M) := by
  obtain ⟨hn1, hn2, hn3⟩ := hI.n
  refine cs_introF (L := [some (.ref 1000), some (.int x), some (.int y), none]) (by decide +kernel) (fun ad q h => h) (fun ad => Nat.le_of_ble_eq_true rfl) ?_
  refine cw_iload_n d_M_read_0 rfl ?_
  refine cw_staticP (s_M_isSheet) rfl ml_M_79 rfl rfl d_M_read_1 ?_
  refine cw_bif_eq 15 d_M_read_4 (by decide) (fun c_4 => ?_) (fun c_4 => ?_)
  · refine cw_bipush (v := (-2)) d_M_read_15 (by decide) ?_
    refine cw_iret rfl d_M_read_17 ?_
    have hok : okRead σ x y = false := by simp [okRead, c_4]
    exact ⟨by simp [ans_read, hok], by simp [aft_read, hok]; exact hR, kM.rf⟩
  · obtain ⟨s, hhs, e_s⟩ := ixB_t c_4 (by omega)
    subst e_s
    refine cw_aload_n d_M_read_7 rfl ?_
    refine cw_iload_n d_M_read_8 rfl ?_
    refine cw_virtP (s_M_isHead hR hI) rfl ml_M_103 so_M rfl rfl d_M_read_9 ?_
    refine cw_bif_ne 18 d_M_read_12 (by decide) (fun c_12 => ?_) (fun c_12 => ?_)
    · obtain ⟨h, hhh, e_h⟩ := ixB_t c_12 (by omega)
      subst e_h
      refine cw_aload_n d_M_read_18 rfl ?_
      refine cw_getR fl_M_7 so_M rfl d_M_read_19 ?_
      refine cw_iload_n d_M_read_22 rfl ?_
      refine cw_ialdN (i := s) sm_forms rfl (by omega) (by decide) d_M_read_23 ?_
      refine cw_top (hR.fo (i := s) (by omega)) ?_
      refine cw_if_ge 33 d_M_read_24 (by decide) (fun c_24 => ?_) (fun c_24 => ?_)
      · obtain ⟨l1, l2⟩ := lost_f c_24
        refine cw_iconst (v := 0) d_M_read_33 (by decide) ?_
        refine cw_istore_n d_M_read_34 rfl ?_
        have hok : okRead σ (nI s) (nI h) = true := by simp [okRead, c_4, c_12]
        have h1 : ans_read σ (nI s) (nI h) = nI (rdN (σ.2 15 s) (min8 σ s) 0) := by simp [ans_read, hok, l1, ix_nI (show s < 2 ^ 31 by omega)]
        have h2 : aft_read σ (nI s) (nI h) = aftR σ 1 h (rdN (σ.2 15 s) (min8 σ s) 0) (σ.2 15 s) := by simp [aft_read, hok, l1, ix_nI (show s < 2 ^ 31 by omega), ix_nI (show h < 2 ^ 31 by omega)]
        rw [h1, h2]
        exact l_M_read hR hI (by omega) (by omega) l2 (min8 σ s) 0 _ (by omega) (fun j hj => absurd hj (by omega)) (by rw [aftR_0]; exact hR) kM.rf
      · have l1 := lost_t hI c_24
        refine cw_aload_n d_M_read_27 rfl ?_
        refine cw_iconst (v := 1) d_M_read_28 (by decide) ?_
        refine cw_virtI (s_M_met) rfl ml_M_85 so_M rfl rfl d_M_read_29 (fun r_29 M_29 q_29 => ?_)
        obtain ⟨e_29, rfl⟩ := q_29
        subst e_29
        refine cw_iret rfl d_M_read_32 ?_
        have hok : okRead σ (nI s) (nI h) = true := by simp [okRead, c_4, c_12]
        exact ⟨by simp [ans_read, hok, l1, ix_nI (show s < 2 ^ 31 by omega)], by simp [aft_read, hok, l1, ix_nI (show s < 2 ^ 31 by omega)]; exact found_RM hI hR, mS_kM (by decide)⟩
    · refine cw_bipush (v := (-2)) d_M_read_15 (by decide) ?_
      refine cw_iret rfl d_M_read_17 ?_
      have hok : okRead σ (nI s) y = false := by simp [okRead, c_4, c_12]
      exact ⟨by simp [ans_read, hok], by simp [aft_read, hok]; exact hR, kM.rf⟩
