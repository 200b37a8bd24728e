/-! ===== the reference: sheets ===== -/
theorem lost_f {σ : Sg} {s : Nat} (h : 0 ≤ σ.2 13 s 0) : lostB σ s = false ∧ ¬ σ.2 13 s 0 < 0 := by
  refine ⟨decide_eq_false (fun z => ?_), i32_nlt.mpr h⟩
  rw [z] at h
  exact absurd h (by decide)
theorem lost_t {σ : Sg} (hI : Iv σ) {s : Nat} (h : ¬ 0 ≤ σ.2 13 s 0) : lostB σ s = true := by
  have h1 := (hI.2.2.2.2.2.2.2.2.2 s).1
  unfold rD at h1
  rw [i32_nle, i32_lt] at h
  have z : (0 : Int32).toInt = 0 := rfl
  refine decide_eq_true (Int32.toInt_inj.mp ?_)
  show _ = (-1 : Int)
  omega
theorem found_RM {M : Mem} {σ : Sg} (hI : Iv σ) (hR : RM M σ) {x : Int32} : RM (mS M 1000 4 x) (su σ 16 0 0 x) := RM_su hI hR (t := 16) (i := 0) (j := 0) ⟨rfl, rfl⟩ (by decide)
theorem begin_RM {M M' : Mem} {σ : Sg} (hI : Iv σ) (hR : RM M σ) {s : Nat} {f n : Int32} (hn : n.toInt ≤ 60) (e1 : ∀ k j, k ≠ 1001 → k ≠ 1002 → k ≠ 1003 → mG M' k j = mG M k j) (e2 : ∀ i, i ≠ s → mG M' 1001 i = mG M 1001 i) (e2' : mG M' 1001 s = f) (e3 : ∀ i, i ≠ s → mG M' 1002 i = mG M 1002 i) (e3' : ¬ f < 0 → mG M' 1002 s = n) (e4 : ∀ i j, i ≠ s → j < 60 → mG M' 1003 (60 * i + j) = mG M 1003 (60 * i + j)) (e4' : ¬ f < 0 → ∀ j : Nat, (j : Int) < n.toInt → mG M' 1003 (60 * s + j) = 0) : RM M' (aftSh σ s f n) := by
  have a13 : ∀ i, i ≠ s → (aftSh σ s f n).2 13 i 0 = σ.2 13 i 0 := fun i h => by simp [aftSh, aftR, su, h]
  have b13 : (aftSh σ s f n).2 13 s 0 = f := by simp [aftSh, aftR, su]
  have a14 : ∀ i, i ≠ s → (aftSh σ s f n).2 14 i 0 = σ.2 14 i 0 := fun i h => by simp [aftSh, aftR, su, h]
  have b14 : (aftSh σ s f n).2 14 s 0 = n := by simp [aftSh, aftR, su]
  have a15 : ∀ i j, i ≠ s → (aftSh σ s f n).2 15 i j = σ.2 15 i j := fun i j h => by simp [aftSh, aftR, su, h]
  have b15 : ∀ j, j < 60 → (aftSh σ s f n).2 15 s j = 0 := fun j h => by simp [aftSh, aftR, h]
  have ao : ∀ t i j, t ≠ 13 → t ≠ 14 → t ≠ 15 → (aftSh σ s f n).2 t i j = σ.2 t i j := fun t i j h1 h2 h3 => by simp [aftSh, aftR, su, h1, h2, h3]
  refine ⟨(e1 _ _ (by decide) (by decide) (by decide)).trans hR.n1, (e1 _ _ (by decide) (by decide) (by decide)).trans hR.n2, (e1 _ _ (by decide) (by decide) (by decide)).trans hR.n3, fun t i j hd => ?_⟩
  by_cases q13 : t = 13
  · subst q13
    have hd' : i < 4 ∧ j = 0 := hd
    obtain ⟨h1, rfl⟩ := hd'
    by_cases q : i = s
    · subst q; rw [b13]; exact e2'
    · rw [a13 i q]; exact (e2 i q).trans (hR.fo h1)
  by_cases q14 : t = 14
  · subst q14
    have hd' : i < 4 ∧ j = 0 ∧ ¬ (aftSh σ s f n).2 13 i 0 < 0 := hd
    obtain ⟨h1, rfl, h2⟩ := hd'
    by_cases q : i = s
    · subst q
      rw [b13] at h2
      rw [b14]; exact e3' h2
    · rw [a13 i q] at h2
      rw [a14 i q]; exact (e3 i q).trans (hR.2.2.2 14 i 0 ⟨h1, rfl, h2⟩)
  by_cases q15 : t = 15
  · subst q15
    have hd' : i < 4 ∧ (j : Int) < ((aftSh σ s f n).2 14 i 0).toInt ∧ ¬ (aftSh σ s f n).2 13 i 0 < 0 := hd
    obtain ⟨h1, h2, h3⟩ := hd'
    by_cases q : i = s
    · subst q
      rw [b13] at h3
      rw [b14] at h2
      rw [b15 j (by omega)]; exact e4' h3 j h2
    · rw [a13 i q] at h3
      rw [a14 i q] at h2
      have := (hI.2.2.2.2.2.2.2.2.2 i).2.2
      rw [a15 i j q]; exact (e4 i j q (by omega)).trans (hR.2.2.2 15 i j ⟨h1, h2, h3⟩)
  rw [ao t i j q13 q14 q15]
  have h' : dM σ t i j := by
    unfold dM at hd ⊢
    split at hd <;> simp_all [aftSh, aftR, su]
  have hk : (LM t i j).1 ≠ 1001 ∧ (LM t i j).1 ≠ 1002 ∧ (LM t i j).1 ≠ 1003 := by
    unfold dM at h'
    unfold LM
    split at h' <;> simp_all
  exact (e1 _ _ hk.1 hk.2.1 hk.2.2).trans (hR.2.2.2 t i j h')
set_option maxRecDepth 100000 in
theorem l_M_sheet {M : Mem} {σ : Sg} (hR : RM M σ) (hI : Iv σ) {s m : Nat} {f : Int32} (hs : s < 4) (hm : m ≤ 60) (hf : rD f 0 2)  : ∀ i, i ≤ m → CW u_M_sheet (rM (nI m) (aftSh σ s f (nI m)) M) 55 [some (.ref 1000), some (.int (nI s)), some (.int f), some (.int (nI m)), some (.int (nI i))] [] (mSeg (mS (mS M 1001 s f) 1002 s (nI m)) 1003 (60 * s) i (fun _ => 0)) := by
  refine up_ind (fun i hi ih => ?_)
  refine cw_iload d_M_sheet_55 rfl ?_
  refine cw_iload_n d_M_sheet_57 rfl ?_
  refine cw_icmp_geN (i) (m) 80 rfl rfl (by omega) d_M_sheet_58 (by decide) (fun c_58 => ?_) (fun c_58 => ?_)
  · refine cw_iload_n d_M_sheet_80 rfl ?_
    refine cw_iret rfl d_M_sheet_81 ?_
    have ei : i = m := by omega
    subst ei
    refine ⟨rfl, begin_RM hI hR (by rw [nI_toInt (by omega)]; omega) (fun k j a b c => (mSeg_k c).trans ((mS_k b).trans (mS_k a))) (fun z q => (mSeg_k (by decide)).trans ((mS_k (by decide)).trans (mS_j q))) ((mSeg_k (by decide)).trans ((mS_k (by decide)).trans mS_at)) (fun z q => (mSeg_k (by decide)).trans ((mS_j q).trans (mS_k (by decide)))) (fun _ => (mSeg_k (by decide)).trans mS_at) (fun z j q hj => (mSeg_out (by omega)).trans ((mS_k (by decide)).trans (mS_k (by decide)))) (fun _ j hj => ?_), ((mS_kM (by decide)).tr (mS_kM (by decide))).tr (mSeg_kM (by decide))⟩
    rw [nI_toInt (by omega)] at hj
    exact mSeg_in (by omega)
  · refine cw_aload_n d_M_sheet_61 rfl ?_
    refine cw_getR fl_M_16 so_M rfl d_M_sheet_62 ?_
    refine cw_bipush (v := 60) d_M_sheet_65 (by decide) ?_
    refine cw_iload_n d_M_sheet_67 rfl ?_
    refine cw_imul d_M_sheet_68 ?_
    refine cw_iload d_M_sheet_69 rfl ?_
    refine cw_iadd d_M_sheet_71 ?_
    refine cw_iconst (v := 0) d_M_sheet_72 (by decide) ?_
    refine cw_iastN (i := (60 * s) + i) sm_items (nAdd (nMul rfl rfl) rfl) (by omega) (by decide) d_M_sheet_73 ?_
    refine cw_iincN (x := i) d_M_sheet_74 rfl rfl ?_
    refine cw_goto 55 d_M_sheet_77 (by decide) ?_
    exact cw_cast (by simp only [lset1, kl]) rfl (mSeg_s (f := fun _ => 0)) (ih c_58)
set_option maxRecDepth 100000 in
theorem m_sheet {M : Mem} {σ : Sg} (hR : RM M σ) (hI : Iv σ) {x f z : Int32} : CS u_M_sheet [.ref 1000, .int x, .int f, .int z] M (rM (ans_sheet x f z) (aft_sheet σ x f z) M) := by
  obtain ⟨hn1, hn2, hn3⟩ := hI.n
  refine cs_introF (L := [some (.ref 1000), some (.int x), some (.int f), some (.int z), none]) (by decide +kernel) (fun ad q h => h) (fun ad => Nat.le_of_ble_eq_true rfl) ?_
  refine cw_iload_n d_M_sheet_0 rfl ?_
  refine cw_staticP (s_M_isSheet) rfl ml_M_79 rfl rfl d_M_sheet_1 ?_
  refine cw_bif_eq 25 d_M_sheet_4 (by decide) (fun c_4 => ?_) (fun c_4 => ?_)
  · refine cw_bipush (v := (-2)) d_M_sheet_25 (by decide) ?_
    refine cw_iret rfl d_M_sheet_27 ?_
    have hok : okSheet x f z = false := by simp [okSheet, c_4]
    exact ⟨by simp [ans_sheet, hok], by simp [aft_sheet, hok]; exact hR, kM.rf⟩
  · obtain ⟨s, hhs, e_s⟩ := ixB_t c_4 (by omega)
    subst e_s
    refine cw_iload_n d_M_sheet_7 rfl ?_
    refine cw_i2l d_M_sheet_8 ?_
    refine cw_lconst (v := 0) d_M_sheet_9 (by decide) ?_
    refine cw_ldc2_w kc_M_83 d_M_sheet_10 ?_
    refine cw_staticP (s_M_in) rfl ml_M_69 rfl rfl d_M_sheet_13 ?_
    refine cw_top (y := b2 (ixB f 3)) (by rw [inJ_ix 3 (by decide)]) ?_
    refine cw_bif_eq 25 d_M_sheet_16 (by decide) (fun c_16 => ?_) (fun c_16 => ?_)
    · refine cw_bipush (v := (-2)) d_M_sheet_25 (by decide) ?_
      refine cw_iret rfl d_M_sheet_27 ?_
      have hok : okSheet (nI s) f z = false := by simp [okSheet, c_4, c_16]
      exact ⟨by simp [ans_sheet, hok], by simp [aft_sheet, hok]; exact hR, kM.rf⟩
    · refine cw_iload_n d_M_sheet_19 rfl ?_
      refine cw_bipush (v := 60) d_M_sheet_20 (by decide) ?_
      refine cw_icmp_le 28 d_M_sheet_22 (by decide) (fun c_22 => ?_) (fun c_22 => ?_)
      · refine cw_iload_n d_M_sheet_28 rfl ?_
        refine cw_if_ge 38 d_M_sheet_29 (by decide) (fun c_29 => ?_) (fun c_29 => ?_)
        · obtain ⟨m, hm, em⟩ : ∃ m : Nat, m ≤ 60 ∧ z = nI m := by
            have h1 := i32_le.mp c_22
            have h2 := i32_le.mp c_29
            have h3 : (60 : Int32).toInt = 60 := rfl
            have h4 : (0 : Int32).toInt = 0 := rfl
            exact ⟨z.toInt.toNat, by omega, nI_ofInt (by omega) (by omega)⟩
          subst em
          refine cw_aload_n d_M_sheet_38 rfl ?_
          refine cw_getR fl_M_7 so_M rfl d_M_sheet_39 ?_
          refine cw_iload_n d_M_sheet_42 rfl ?_
          refine cw_iload_n d_M_sheet_43 rfl ?_
          refine cw_iastN (i := s) sm_forms rfl (by omega) (by decide) d_M_sheet_44 ?_
          refine cw_aload_n d_M_sheet_45 rfl ?_
          refine cw_getR fl_M_13 so_M rfl d_M_sheet_46 ?_
          refine cw_iload_n d_M_sheet_49 rfl ?_
          refine cw_iload_n d_M_sheet_50 rfl ?_
          refine cw_iastN (i := s) sm_sizes rfl (by omega) (by decide) d_M_sheet_51 ?_
          refine cw_iconst (v := 0) d_M_sheet_52 (by decide) ?_
          refine cw_istore d_M_sheet_53 rfl ?_
          have hok : okSheet (nI s) f (nI m) = true := by simp [okSheet, c_4, c_16, c_22]
          have hn0 : ¬ nI m < 0 := i32_nlt.mpr c_29
          have h1 : ans_sheet (nI s) f (nI m) = nI m := (if_pos hok).trans (if_neg hn0)
          have h2 : aft_sheet σ (nI s) f (nI m) = aftSh σ s f (nI m) := (if_pos hok).trans ((if_neg hn0).trans (by rw [ix_nI (by omega)]))
          rw [h1, h2]
          exact cw_mem mSeg_0.symm (l_M_sheet hR hI (by omega) hm ⟨(of_decide_eq_true c_16).1, by have := (of_decide_eq_true c_16).2; omega⟩ 0 (by omega))
        · refine cw_aload_n d_M_sheet_32 rfl ?_
          refine cw_iconst (v := 5) d_M_sheet_33 (by decide) ?_
          refine cw_virtI (s_M_met) rfl ml_M_85 so_M rfl rfl d_M_sheet_34 (fun r_34 M_34 q_34 => ?_)
          obtain ⟨e_34, rfl⟩ := q_34
          subst e_34
          refine cw_iret rfl d_M_sheet_37 ?_
          have hok : okSheet (nI s) f z = true := by simp [okSheet, c_4, c_16, c_22]
          have hn0 : z < 0 := i32_nle.mp c_29
          exact ⟨((if_pos hok).trans (if_pos hn0)).symm, by rw [show aft_sheet σ (nI s) f z = su σ 16 0 0 5 from (if_pos hok).trans (if_pos hn0)]; exact found_RM hI hR, mS_kM (by decide)⟩
      · refine cw_bipush (v := (-2)) d_M_sheet_25 (by decide) ?_
        refine cw_iret rfl d_M_sheet_27 ?_
        have hok : okSheet (nI s) f z = false := by simp [okSheet, c_4, c_16, c_22]
        exact ⟨by simp [ans_sheet, hok], by simp [aft_sheet, hok]; exact hR, kM.rf⟩
set_option maxRecDepth 100000 in
theorem m_lose {M : Mem} {σ : Sg} (hR : RM M σ) (hI : Iv σ) {x : Int32} : CS u_M_lose [.ref 1000, .int x] M (rM (ans_lose σ x) (aft_lose σ x) M) := by
  obtain ⟨hn1, hn2, hn3⟩ := hI.n
  refine cs_introF (L := [some (.ref 1000), some (.int x)]) (by decide +kernel) (fun ad q h => h) (fun ad => Nat.le_of_ble_eq_true rfl) ?_
  refine cw_iload_n d_M_lose_0 rfl ?_
  refine cw_staticP (s_M_isSheet) rfl ml_M_79 rfl rfl d_M_lose_1 ?_
  refine cw_bif_ne 10 d_M_lose_4 (by decide) (fun c_4 => ?_) (fun c_4 => ?_)
  · obtain ⟨s, hhs, e_s⟩ := ixB_t c_4 (by omega)
    subst e_s
    refine cw_aload_n d_M_lose_10 rfl ?_
    refine cw_getR fl_M_7 so_M rfl d_M_lose_11 ?_
    refine cw_iload_n d_M_lose_14 rfl ?_
    refine cw_ialdN (i := s) sm_forms rfl (by omega) (by decide) d_M_lose_15 ?_
    refine cw_top (hR.fo (i := s) (by omega)) ?_
    refine cw_if_ge 25 d_M_lose_16 (by decide) (fun c_16 => ?_) (fun c_16 => ?_)
    · obtain ⟨l1, l2⟩ := lost_f c_16
      refine cw_aload_n d_M_lose_25 rfl ?_
      refine cw_getR fl_M_7 so_M rfl d_M_lose_26 ?_
      refine cw_iload_n d_M_lose_29 rfl ?_
      refine cw_iconst (v := (-1)) d_M_lose_30 (by decide) ?_
      refine cw_iastN (i := s) sm_forms rfl (by omega) (by decide) d_M_lose_31 ?_
      refine cw_aload_n d_M_lose_32 rfl ?_
      refine cw_getR fl_M_13 so_M rfl d_M_lose_33 ?_
      refine cw_iload_n d_M_lose_36 rfl ?_
      refine cw_ialdN (i := s) sm_sizes rfl (by omega) (by decide) d_M_lose_37 ?_
      refine cw_iret rfl d_M_lose_38 ?_
      exact ⟨by simp [ans_lose, c_4, l1, ix_nI (show s < 2 ^ 31 by omega)]; exact (mS_k (by decide)).trans (hR.2.2.2 14 s 0 ⟨by omega, rfl, l2⟩), by simp [aft_lose, c_4, l1, ix_nI (show s < 2 ^ 31 by omega)]; exact begin_RM hI hR (by decide) (fun k j a b c => mS_k a) (fun z q => mS_j q) mS_at (fun z q => mS_k (by decide)) (fun q => absurd (by decide) q) (fun z j q hj => mS_k (by decide)) (fun q => absurd (by decide) q), mS_kM (by decide)⟩
    · have l1 := lost_t hI c_16
      refine cw_aload_n d_M_lose_19 rfl ?_
      refine cw_iconst (v := 1) d_M_lose_20 (by decide) ?_
      refine cw_virtI (s_M_met) rfl ml_M_85 so_M rfl rfl d_M_lose_21 (fun r_21 M_21 q_21 => ?_)
      obtain ⟨e_21, rfl⟩ := q_21
      subst e_21
      refine cw_iret rfl d_M_lose_24 ?_
      exact ⟨by simp [ans_lose, c_4, l1, ix_nI (show s < 2 ^ 31 by omega)], by simp [aft_lose, c_4, l1, ix_nI (show s < 2 ^ 31 by omega)]; exact found_RM hI hR, mS_kM (by decide)⟩
  · refine cw_bipush (v := (-2)) d_M_lose_7 (by decide) ?_
    refine cw_iret rfl d_M_lose_9 ?_
    exact ⟨by simp [ans_lose, c_4], by simp [aft_lose, c_4]; exact hR, kM.rf⟩
def lkM (M : Mem) (e : Int32) : Mem := if e = 0 then M else mS M 1000 4 e
def lkS (e : Int32) : Int32 := if e = 0 then 0 else -10 - e
theorem inJ_sz {x y : Int32} (hy : rD y 0 60) : inJ x.toInt64 0 (y - 1).toInt64 = decide (¬ (x < 0 ∨ y ≤ x)) := by
  unfold inJ
  unfold rD at hy
  rw [Int32.toInt_toInt64, Int32.toInt_toInt64, Int32.toInt_sub, show (1 : Int32).toInt = 1 from rfl, show (0 : Int64).toInt = 0 from rfl, Int.bmod_eq_of_le (by omega) (by omega)]
  refine decide_eq_decide.mpr ?_
  rw [i32_lt, i32_le, show (0 : Int32).toInt = 0 from rfl]
  omega
set_option maxRecDepth 100000 in
theorem s_M_lacks {M : Mem} {σ : Sg} (hR : RM M σ) (hI : Iv σ) {s : Nat} {f z : Int32} (hs : s < 4)  : CS u_M_lacks [.ref 1000, .int (nI s), .int f, .int z] M (retI (fun r M2 => r = lkS (findS σ s f z) ∧ M2 = lkM M (findS σ s f z))) := by
  obtain ⟨hn1, hn2, hn3⟩ := hI.n
  refine cs_introF (L := [some (.ref 1000), some (.int (nI s)), some (.int f), some (.int z)]) (by decide +kernel) (fun ad q h => h) (fun ad => Nat.le_of_ble_eq_true rfl) ?_
  refine cw_aload_n d_M_lacks_0 rfl ?_
  refine cw_getR fl_M_7 so_M rfl d_M_lacks_1 ?_
  refine cw_iload_n d_M_lacks_4 rfl ?_
  refine cw_ialdN (i := s) sm_forms rfl (by omega) (by decide) d_M_lacks_5 ?_
  refine cw_top (hR.fo (i := s) (by omega)) ?_
  refine cw_if_ge 15 d_M_lacks_6 (by decide) (fun c_6 => ?_) (fun c_6 => ?_)
  · obtain ⟨l1, l2⟩ := lost_f c_6
    refine cw_aload_n d_M_lacks_15 rfl ?_
    refine cw_getR fl_M_7 so_M rfl d_M_lacks_16 ?_
    refine cw_iload_n d_M_lacks_19 rfl ?_
    refine cw_ialdN (i := s) sm_forms rfl (by omega) (by decide) d_M_lacks_20 ?_
    refine cw_top (hR.fo (i := s) (by omega)) ?_
    refine cw_iload_n d_M_lacks_21 rfl ?_
    refine cw_icmp_eq 31 d_M_lacks_22 (by decide) (fun c_22 => ?_) (fun c_22 => ?_)
    · refine cw_iload_n d_M_lacks_31 rfl ?_
      refine cw_i2l d_M_lacks_32 ?_
      refine cw_lconst (v := 0) d_M_lacks_33 (by decide) ?_
      refine cw_aload_n d_M_lacks_34 rfl ?_
      refine cw_getR fl_M_13 so_M rfl d_M_lacks_35 ?_
      refine cw_iload_n d_M_lacks_38 rfl ?_
      refine cw_ialdN (i := s) sm_sizes rfl (by omega) (by decide) d_M_lacks_39 ?_
      refine cw_top (hR.2.2.2 14 s 0 ⟨by omega, rfl, l2⟩) ?_
      refine cw_iconst (v := 1) d_M_lacks_40 (by decide) ?_
      refine cw_isub d_M_lacks_41 ?_
      refine cw_i2l d_M_lacks_42 ?_
      refine cw_staticP (s_M_in) rfl ml_M_69 rfl rfl d_M_lacks_43 ?_
      refine cw_top (congrArg b2 (inJ_sz (hI.2.2.2.2.2.2.2.2.2 s).2)) ?_
      refine cw_bif_eq 53 d_M_lacks_46 (by decide) (fun c_46 => ?_) (fun c_46 => ?_)
      · refine cw_aload_n d_M_lacks_53 rfl ?_
        refine cw_iconst (v := 2) d_M_lacks_54 (by decide) ?_
        refine cw_virtI (s_M_met) rfl ml_M_85 so_M rfl rfl d_M_lacks_55 (fun r_55 M_55 q_55 => ?_)
        obtain ⟨e_55, rfl⟩ := q_55
        subst e_55
        refine cw_iret rfl d_M_lacks_58 ?_
        have hf : findS σ s f z = 2 := by unfold findS; rw [if_neg (by rw [l1]; decide), if_neg (fun q => q c_22), if_pos (Classical.not_not.mp (of_decide_eq_false c_46))]
        rw [hf]
        exact ⟨rfl, rfl⟩
      · refine cw_iconst (v := 0) d_M_lacks_49 (by decide) ?_
        refine cw_goto 58 d_M_lacks_50 (by decide) ?_
        refine cw_iret rfl d_M_lacks_58 ?_
        have hf : findS σ s f z = 0 := by unfold findS; rw [if_neg (by rw [l1]; decide), if_neg (fun q => q c_22), if_neg (of_decide_eq_true c_46)]
        rw [hf]
        exact ⟨rfl, rfl⟩
    · refine cw_aload_n d_M_lacks_25 rfl ?_
      refine cw_iconst (v := 3) d_M_lacks_26 (by decide) ?_
      refine cw_virtI (s_M_met) rfl ml_M_85 so_M rfl rfl d_M_lacks_27 (fun r_27 M_27 q_27 => ?_)
      obtain ⟨e_27, rfl⟩ := q_27
      subst e_27
      refine cw_iret rfl d_M_lacks_30 ?_
      have hf : findS σ s f z = 3 := by unfold findS; rw [if_neg (by rw [l1]; decide), if_pos c_22]
      rw [hf]
      exact ⟨rfl, rfl⟩
  · have l1 := lost_t hI c_6
    refine cw_aload_n d_M_lacks_9 rfl ?_
    refine cw_iconst (v := 1) d_M_lacks_10 (by decide) ?_
    refine cw_virtI (s_M_met) rfl ml_M_85 so_M rfl rfl d_M_lacks_11 (fun r_11 M_11 q_11 => ?_)
    obtain ⟨e_11, rfl⟩ := q_11
    subst e_11
    refine cw_iret rfl d_M_lacks_14 ?_
    have hf : findS σ s f z = 1 := by unfold findS; rw [if_pos l1]
    rw [hf]
    exact ⟨rfl, rfl⟩
theorem find_0 {σ : Sg} (hI : Iv σ) {s : Nat} {f z : Int32} (h : findS σ s f z = 0) : ∃ k : Nat, z = nI k ∧ k < 60 ∧ (k : Int) < (σ.2 14 s 0).toInt ∧ ¬ σ.2 13 s 0 < 0 := by
  unfold findS at h
  have hs := (hI.2.2.2.2.2.2.2.2.2 s).2
  have hs1 := (hI.2.2.2.2.2.2.2.2.2 s).1
  unfold rD at hs hs1
  split at h
  · exact absurd h (by decide)
  · rename_i l1
    split at h
    · exact absurd h (by decide)
    · split at h
      · exact absurd h (by decide)
      · rename_i q
        have q1 : ¬ z < 0 := fun y => q (Or.inl y)
        have q2 : ¬ σ.2 14 s 0 ≤ z := fun y => q (Or.inr y)
        rw [i32_lt, show (0 : Int32).toInt = 0 from rfl] at q1
        rw [i32_le] at q2
        have l2 : ¬ σ.2 13 s 0 = -1 := fun y => l1 (decide_eq_true y)
        have l3 : ¬ (σ.2 13 s 0).toInt = -1 := fun y => l2 (Int32.toInt_inj.mp y)
        refine ⟨z.toInt.toNat, nI_ofInt (by omega) (by omega), by omega, by omega, ?_⟩
        rw [i32_lt, show (0 : Int32).toInt = 0 from rfl]
        omega
theorem find_n {σ : Sg} {s : Nat} {f z : Int32} : ¬ lkS (findS σ s f z) = 0 ↔ ¬ findS σ s f z = 0 := by
  have : findS σ s f z = 0 ∨ findS σ s f z = 1 ∨ findS σ s f z = 2 ∨ findS σ s f z = 3 := by
    unfold findS
    split
    · simp
    · split
      · simp
      · split <;> simp
  rcases this with e | e | e | e <;> rw [e] <;> decide
set_option maxRecDepth 100000 in
theorem m_lay {M : Mem} {σ : Sg} (hR : RM M σ) (hI : Iv σ) {x f z v : Int32} : CS u_M_lay [.ref 1000, .int x, .int f, .int z, .int v] M (rM (ans_lay σ x f z) (aft_lay σ x f z v) M) := by
  obtain ⟨hn1, hn2, hn3⟩ := hI.n
  refine cs_introF (L := [some (.ref 1000), some (.int x), some (.int f), some (.int z), some (.int v), none]) (by decide +kernel) (fun ad q h => h) (fun ad => Nat.le_of_ble_eq_true rfl) ?_
  refine cw_iload_n d_M_lay_0 rfl ?_
  refine cw_staticP (s_M_isSheet) rfl ml_M_79 rfl rfl d_M_lay_1 ?_
  refine cw_bif_eq 19 d_M_lay_4 (by decide) (fun c_4 => ?_) (fun c_4 => ?_)
  · refine cw_bipush (v := (-2)) d_M_lay_19 (by decide) ?_
    refine cw_iret rfl d_M_lay_21 ?_
    have hok : okLay x f = false := by simp [okLay, c_4]
    exact ⟨by simp [ans_lay, hok], by simp [aft_lay, hok]; exact hR, kM.rf⟩
  · obtain ⟨s, hhs, e_s⟩ := ixB_t c_4 (by omega)
    subst e_s
    refine cw_iload_n d_M_lay_7 rfl ?_
    refine cw_i2l d_M_lay_8 ?_
    refine cw_lconst (v := 0) d_M_lay_9 (by decide) ?_
    refine cw_ldc2_w kc_M_83 d_M_lay_10 ?_
    refine cw_staticP (s_M_in) rfl ml_M_69 rfl rfl d_M_lay_13 ?_
    refine cw_top (y := b2 (ixB f 3)) (by rw [inJ_ix 3 (by decide)]) ?_
    refine cw_bif_ne 22 d_M_lay_16 (by decide) (fun c_16 => ?_) (fun c_16 => ?_)
    · refine cw_aload_n d_M_lay_22 rfl ?_
      refine cw_iload_n d_M_lay_23 rfl ?_
      refine cw_iload_n d_M_lay_24 rfl ?_
      refine cw_iload_n d_M_lay_25 rfl ?_
      refine cw_virtI (s_M_lacks hR hI (s := s) (by omega)) rfl ml_M_89 so_M rfl rfl d_M_lay_26 (fun r_26 M_26 q_26 => ?_)
      obtain ⟨e_26, m_26⟩ := q_26
      subst e_26
      refine cw_istore d_M_lay_29 rfl ?_
      refine cw_iload d_M_lay_31 rfl ?_
      refine cw_if_eq 39 d_M_lay_33 (by decide) (fun c_33 => ?_) (fun c_33 => ?_)
      · have hz0 : findS σ s f z = 0 := Classical.not_not.mp (fun q => absurd c_33 (find_n.mpr q))
        have hm9 : M_26 = M := m_26.trans (if_pos hz0)
        subst hm9
        obtain ⟨k, ek, k1, k2, k3⟩ := find_0 hI hz0
        subst ek
        refine cw_aload_n d_M_lay_39 rfl ?_
        refine cw_getR fl_M_16 so_M rfl d_M_lay_40 ?_
        refine cw_bipush (v := 60) d_M_lay_43 (by decide) ?_
        refine cw_iload_n d_M_lay_45 rfl ?_
        refine cw_imul d_M_lay_46 ?_
        refine cw_iload_n d_M_lay_47 rfl ?_
        refine cw_iadd d_M_lay_48 ?_
        refine cw_iload_n d_M_lay_49 rfl ?_
        refine cw_iload d_M_lay_50 rfl ?_
        refine cw_staticP (s_M_cut) rfl ml_M_93 rfl rfl d_M_lay_52 ?_
        refine cw_iastN (i := (60 * s) + k) sm_items (nAdd (nMul rfl rfl) rfl) (by omega) (by decide) d_M_lay_55 ?_
        refine cw_iconst (v := 1) d_M_lay_56 (by decide) ?_
        refine cw_iret rfl d_M_lay_57 ?_
        have hok : okLay (nI s) f = true := by simp [okLay, c_4, c_16]
        exact ⟨by simp only [ans_lay, hok, if_true, ix_nI (show s < 2 ^ 31 by omega), if_pos hz0], by simp only [aft_lay, hok, if_true, ix_nI (show s < 2 ^ 31 by omega), ix_nI (show k < 2 ^ 31 by omega), if_pos hz0]; exact RM_su hI hR (t := 15) (i := s) (j := k) ⟨by omega, k2, k3⟩ (by decide), mS_kM (by decide)⟩
      · have hnz : ¬ findS σ s f z = 0 := find_n.mp c_33
        have hm9 : M_26 = mS M 1000 4 (findS σ s f z) := m_26.trans (if_neg hnz)
        subst hm9
        
        refine cw_iload d_M_lay_36 rfl ?_
        refine cw_iret rfl d_M_lay_38 ?_
        have hok : okLay (nI s) f = true := by simp [okLay, c_4, c_16]
        exact ⟨by simp only [ans_lay, aft_lay, hok, if_true, ix_nI (show s < 2 ^ 31 by omega), if_neg hnz, lkS], by simp only [aft_lay, hok, if_true, ix_nI (show s < 2 ^ 31 by omega), if_neg hnz]; exact found_RM hI hR, mS_kM (by decide)⟩
    · refine cw_bipush (v := (-2)) d_M_lay_19 (by decide) ?_
      refine cw_iret rfl d_M_lay_21 ?_
      have hok : okLay (nI s) f = false := by simp [okLay, c_4, c_16]
      exact ⟨by simp [ans_lay, hok], by simp [aft_lay, hok]; exact hR, kM.rf⟩
set_option maxRecDepth 100000 in
theorem m_get {M : Mem} {σ : Sg} (hR : RM M σ) (hI : Iv σ) {x f z : Int32} : CS u_M_get [.ref 1000, .int x, .int f, .int z] M (rM (ans_get σ x f z) (aft_get σ x f z) M) := by
  obtain ⟨hn1, hn2, hn3⟩ := hI.n
  refine cs_introF (L := [some (.ref 1000), some (.int x), some (.int f), some (.int z)]) (by decide +kernel) (fun ad q h => h) (fun ad => Nat.le_of_ble_eq_true rfl) ?_
  refine cw_iload_n d_M_get_0 rfl ?_
  refine cw_staticP (s_M_isSheet) rfl ml_M_79 rfl rfl d_M_get_1 ?_
  refine cw_bif_eq 29 d_M_get_4 (by decide) (fun c_4 => ?_) (fun c_4 => ?_)
  · refine cw_ldc kc_M_97 d_M_get_29 ?_
    refine cw_iret rfl d_M_get_31 ?_
    have hok : okLay x f = false := by simp [okLay, c_4]
    exact ⟨by simp [ans_get, hok], by simp [aft_get, hok]; exact hR, kM.rf⟩
  · obtain ⟨s, hhs, e_s⟩ := ixB_t c_4 (by omega)
    subst e_s
    refine cw_iload_n d_M_get_7 rfl ?_
    refine cw_i2l d_M_get_8 ?_
    refine cw_lconst (v := 0) d_M_get_9 (by decide) ?_
    refine cw_ldc2_w kc_M_83 d_M_get_10 ?_
    refine cw_staticP (s_M_in) rfl ml_M_69 rfl rfl d_M_get_13 ?_
    refine cw_top (y := b2 (ixB f 3)) (by rw [inJ_ix 3 (by decide)]) ?_
    refine cw_bif_eq 29 d_M_get_16 (by decide) (fun c_16 => ?_) (fun c_16 => ?_)
    · refine cw_ldc kc_M_97 d_M_get_29 ?_
      refine cw_iret rfl d_M_get_31 ?_
      have hok : okLay (nI s) f = false := by simp [okLay, c_4, c_16]
      exact ⟨by simp [ans_get, hok], by simp [aft_get, hok]; exact hR, kM.rf⟩
    · refine cw_aload_n d_M_get_19 rfl ?_
      refine cw_iload_n d_M_get_20 rfl ?_
      refine cw_iload_n d_M_get_21 rfl ?_
      refine cw_iload_n d_M_get_22 rfl ?_
      refine cw_virtI (s_M_lacks hR hI (s := s) (by omega)) rfl ml_M_89 so_M rfl rfl d_M_get_23 (fun r_23 M_23 q_23 => ?_)
      obtain ⟨e_23, m_23⟩ := q_23
      subst e_23
      refine cw_if_eq 32 d_M_get_26 (by decide) (fun c_26 => ?_) (fun c_26 => ?_)
      · have hz0 : findS σ s f z = 0 := Classical.not_not.mp (fun q => absurd c_26 (find_n.mpr q))
        have hm9 : M_23 = M := m_23.trans (if_pos hz0)
        subst hm9
        obtain ⟨k, ek, k1, k2, k3⟩ := find_0 hI hz0
        subst ek
        refine cw_aload_n d_M_get_32 rfl ?_
        refine cw_getR fl_M_16 so_M rfl d_M_get_33 ?_
        refine cw_bipush (v := 60) d_M_get_36 (by decide) ?_
        refine cw_iload_n d_M_get_38 rfl ?_
        refine cw_imul d_M_get_39 ?_
        refine cw_iload_n d_M_get_40 rfl ?_
        refine cw_iadd d_M_get_41 ?_
        refine cw_ialdN (i := (60 * s) + k) sm_items (nAdd (nMul rfl rfl) rfl) (by omega) (by decide) d_M_get_42 ?_
        refine cw_iret rfl d_M_get_43 ?_
        have hok : okLay (nI s) f = true := by simp [okLay, c_4, c_16]
        exact ⟨by simp only [ans_get, hok, if_true, ix_nI (show s < 2 ^ 31 by omega), ix_nI (show k < 2 ^ 31 by omega), if_pos hz0]; exact hR.2.2.2 15 s k ⟨by omega, k2, k3⟩, by simp only [aft_get, hok, if_true, ix_nI (show s < 2 ^ 31 by omega), ix_nI (show k < 2 ^ 31 by omega), if_pos hz0]; exact hR, kM.rf⟩
      · have hnz : ¬ findS σ s f z = 0 := find_n.mp c_26
        have hm9 : M_23 = mS M 1000 4 (findS σ s f z) := m_23.trans (if_neg hnz)
        subst hm9
        
        refine cw_ldc kc_M_97 d_M_get_29 ?_
        refine cw_iret rfl d_M_get_31 ?_
        have hok : okLay (nI s) f = true := by simp [okLay, c_4, c_16]
        exact ⟨by simp only [ans_get, hok, if_true, ix_nI (show s < 2 ^ 31 by omega), if_neg hnz], by simp only [aft_get, hok, if_true, ix_nI (show s < 2 ^ 31 by omega), if_neg hnz]; exact found_RM hI hR, mS_kM (by decide)⟩
