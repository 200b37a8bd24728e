/-! ===== the reference: unlike, from, ages, whose, about ===== -/
def rQ (e : Int32) (M : Mem) : Option Value → Mem → Prop := retI (fun r M2 => r = e ∧ kq M M2)
set_option maxRecDepth 100000 in
theorem l_M_isMonster {M : Mem} {σ : Sg} (hR : RM M σ) (hI : Iv σ) {d : Nat} (hd : d < σ.1.2.1)  : ∀ i, i ≤ 8 → ∀ o4, CW u_M_isMonster (pI (b2 (offB (σ.2 4 0 0) (σ.2 9 d) (σ.2 10 d))) M) 4 [some (.ref 1000), some (.int (nI d)), some (.int (b2 (anyUp (offP (σ.2 4 0 0) (σ.2 9 d) (σ.2 10 d)) i))), some (.int (nI i)), o4] [] M := by
  obtain ⟨hn1, hn2, hn3⟩ := hI.n
  refine up_ind (fun i hi ih o4 => ?_)
  refine cw_iload_n d_M_isMonster_4 rfl ?_
  refine cw_bipush (v := 8) d_M_isMonster_5 (by decide) ?_
  refine cw_icmp_geN (i) (8) 73 rfl rfl (by omega) d_M_isMonster_7 (by decide) (fun c_7 => ?_) (fun c_7 => ?_)
  · refine cw_iload_n d_M_isMonster_73 rfl ?_
    refine cw_zret rfl d_M_isMonster_74 (by first | exact Or.inl rfl | exact Or.inr rfl | exact b2_01 _) ?_
    have ei : i = 8 := by omega
    subst ei
    exact ⟨rfl, rfl⟩
  · refine cw_aload_n d_M_isMonster_10 rfl ?_
    refine cw_getR fl_M_49 so_M rfl d_M_isMonster_11 ?_
    refine cw_bipush (v := 8) d_M_isMonster_14 (by decide) ?_
    refine cw_iload_n d_M_isMonster_16 rfl ?_
    refine cw_imul d_M_isMonster_17 ?_
    refine cw_iload_n d_M_isMonster_18 rfl ?_
    refine cw_iadd d_M_isMonster_19 ?_
    refine cw_ialdN (i := (8 * d) + i) sm_lines (nAdd (nMul rfl rfl) rfl) (by omega) (by decide) d_M_isMonster_20 ?_
    refine cw_top (hR.li hd (by omega)) ?_
    refine cw_istore d_M_isMonster_21 rfl ?_
    refine cw_iload_n d_M_isMonster_23 rfl ?_
    refine cw_tern1 66 (b2 (anyUp (offP (σ.2 4 0 0) (σ.2 9 d) (σ.2 10 d)) (i + 1))) ?_ (fun k_24 => ?_)
    · refine cw_istore_n d_M_isMonster_66 rfl ?_
      refine cw_iincN (x := i) d_M_isMonster_67 rfl rfl ?_
      refine cw_goto 4 d_M_isMonster_70 (by decide) ?_
      exact cw_cast (by simp only [lset1, kl]; rfl) rfl rfl (ih c_7 _)
    · refine cw_bif_ne 61 d_M_isMonster_24 (by decide) (fun c_24 => ?_) (fun c_24 => ?_)
      · refine cw_iconst (v := 1) d_M_isMonster_61 (by decide) ?_
        refine cw_goto 66 d_M_isMonster_62 (by decide) ?_
        exact k_24 _ (b2_1 (by simp only [anyUp, c_24, Bool.true_or]))
      · refine cw_iload d_M_isMonster_27 rfl ?_
        refine cw_sipush (v := (-9999)) d_M_isMonster_29 (by decide) ?_
        refine cw_icmp_eq 65 d_M_isMonster_32 (by decide) (fun c_32 => ?_) (fun c_32 => ?_)
        · refine cw_iconst (v := 0) d_M_isMonster_65 (by decide) ?_
          exact k_24 _ (b2_0 (by simp only [anyUp, c_24, Bool.false_or]; exact decide_eq_false (fun q => q.1 c_32)))
        · refine cw_iload d_M_isMonster_35 rfl ?_
          refine cw_aload_n d_M_isMonster_37 rfl ?_
          refine cw_getR fl_M_52 so_M rfl d_M_isMonster_38 ?_
          refine cw_bipush (v := 8) d_M_isMonster_41 (by decide) ?_
          refine cw_iload_n d_M_isMonster_43 rfl ?_
          refine cw_imul d_M_isMonster_44 ?_
          refine cw_iload_n d_M_isMonster_45 rfl ?_
          refine cw_iadd d_M_isMonster_46 ?_
          refine cw_ialdN (i := (8 * d) + i) sm_means (nAdd (nMul rfl rfl) rfl) (by omega) (by decide) d_M_isMonster_47 ?_
          refine cw_top (hR.me hd (by omega)) ?_
          refine cw_isub d_M_isMonster_48 ?_
          refine cw_staticP (s_M_amount) rfl ml_M_166 rfl rfl d_M_isMonster_49 ?_
          refine cw_aload_n d_M_isMonster_52 rfl ?_
          refine cw_getR fl_M_34 so_M rfl d_M_isMonster_53 ?_
          refine cw_iconst (v := 0) d_M_isMonster_56 (by decide) ?_
          refine cw_ialdN (i := 0) sm_settings rfl (by omega) (by decide) d_M_isMonster_57 ?_
          refine cw_top (hR.st (by omega)) ?_
          refine cw_icmp_le 65 d_M_isMonster_58 (by decide) (fun c_58 => ?_) (fun c_58 => ?_)
          · refine cw_iconst (v := 0) d_M_isMonster_65 (by decide) ?_
            exact k_24 _ (b2_0 (by simp only [anyUp, c_24, Bool.false_or]; exact decide_eq_false (fun q => absurd c_58 (i32_nle.mpr q.2))))
          · refine cw_iconst (v := 1) d_M_isMonster_61 (by decide) ?_
            refine cw_goto 66 d_M_isMonster_62 (by decide) ?_
            exact k_24 _ (b2_1 (by simp only [anyUp, c_24, Bool.false_or]; exact decide_eq_true ⟨c_32, i32_nle.mp c_58⟩))
set_option maxRecDepth 100000 in
theorem s_M_isMonster {M : Mem} {σ : Sg} (hR : RM M σ) (hI : Iv σ) {d : Nat} (hd : d < σ.1.2.1)  : CS u_M_isMonster [.ref 1000, .int (nI d)] M (pI (b2 (offB (σ.2 4 0 0) (σ.2 9 d) (σ.2 10 d))) M) := by
  refine cs_introF (L := [some (.ref 1000), some (.int (nI d)), none, none, none]) (by decide +kernel) (fun ad q h => h) (fun ad => Nat.le_of_ble_eq_true rfl) ?_
  refine cw_iconst (v := 0) d_M_isMonster_0 (by decide) ?_
  refine cw_istore_n d_M_isMonster_1 rfl ?_
  refine cw_iconst (v := 0) d_M_isMonster_2 (by decide) ?_
  refine cw_istore_n d_M_isMonster_3 rfl ?_
  exact l_M_isMonster hR hI hd 0 (by omega) _
set_option maxRecDepth 100000 in
theorem s_M_unlikeBy {M : Mem} {σ : Sg} (hR : RM M σ) (hI : Iv σ) {v w : Int32} : CS u_M_unlikeBy [.ref 1000, .int v, .int w] M (pI (distP (σ.2 4 2 0) v w) M) := by
  refine cs_introF (L := [some (.ref 1000), some (.int v), some (.int w)]) (by decide +kernel) (fun ad q h => h) (fun ad => Nat.le_of_ble_eq_true rfl) ?_
  refine cw_iload_n d_M_unlikeBy_0 rfl ?_
  refine cw_sipush (v := (-9999)) d_M_unlikeBy_1 (by decide) ?_
  refine cw_icmp_eq 14 d_M_unlikeBy_4 (by decide) (fun c_4 => ?_) (fun c_4 => ?_)
  · refine cw_iload_n d_M_unlikeBy_14 rfl ?_
    refine cw_iload_n d_M_unlikeBy_15 rfl ?_
    refine cw_icmp_ne 23 d_M_unlikeBy_16 (by decide) (fun c_16 => ?_) (fun c_16 => ?_)
    · refine cw_aload_n d_M_unlikeBy_23 rfl ?_
      refine cw_getR fl_M_34 so_M rfl d_M_unlikeBy_24 ?_
      refine cw_iconst (v := 2) d_M_unlikeBy_27 (by decide) ?_
      refine cw_ialdN (i := 2) sm_settings rfl (by omega) (by decide) d_M_unlikeBy_28 ?_
      refine cw_top (hR.st (by omega)) ?_
      refine cw_iret rfl d_M_unlikeBy_29 ?_
      exact ⟨by unfold distP; rw [if_pos (Or.inl c_4)]; exact (if_neg c_16).symm, rfl⟩
    · refine cw_iconst (v := 0) d_M_unlikeBy_19 (by decide) ?_
      refine cw_goto 29 d_M_unlikeBy_20 (by decide) ?_
      refine cw_iret rfl d_M_unlikeBy_29 ?_
      exact ⟨by unfold distP; rw [if_pos (Or.inl c_4)]; exact (if_pos c_16).symm, rfl⟩
  · refine cw_iload_n d_M_unlikeBy_7 rfl ?_
    refine cw_sipush (v := (-9999)) d_M_unlikeBy_8 (by decide) ?_
    refine cw_icmp_ne 30 d_M_unlikeBy_11 (by decide) (fun c_11 => ?_) (fun c_11 => ?_)
    · refine cw_iload_n d_M_unlikeBy_30 rfl ?_
      refine cw_iload_n d_M_unlikeBy_31 rfl ?_
      refine cw_isub d_M_unlikeBy_32 ?_
      refine cw_staticP (s_M_amount) rfl ml_M_166 rfl rfl d_M_unlikeBy_33 ?_
      refine cw_iret rfl d_M_unlikeBy_36 ?_
      exact ⟨by unfold distP; rw [if_neg (fun q => q.elim c_4 c_11)], rfl⟩
    · refine cw_iload_n d_M_unlikeBy_14 rfl ?_
      refine cw_iload_n d_M_unlikeBy_15 rfl ?_
      refine cw_icmp_ne 23 d_M_unlikeBy_16 (by decide) (fun c_16 => ?_) (fun c_16 => ?_)
      · refine cw_aload_n d_M_unlikeBy_23 rfl ?_
        refine cw_getR fl_M_34 so_M rfl d_M_unlikeBy_24 ?_
        refine cw_iconst (v := 2) d_M_unlikeBy_27 (by decide) ?_
        refine cw_ialdN (i := 2) sm_settings rfl (by omega) (by decide) d_M_unlikeBy_28 ?_
        refine cw_top (hR.st (by omega)) ?_
        refine cw_iret rfl d_M_unlikeBy_29 ?_
        exact ⟨by unfold distP; rw [if_pos (Or.inr c_11)]; exact (if_neg c_16).symm, rfl⟩
      · refine cw_iconst (v := 0) d_M_unlikeBy_19 (by decide) ?_
        refine cw_goto 29 d_M_unlikeBy_20 (by decide) ?_
        refine cw_iret rfl d_M_unlikeBy_29 ?_
        exact ⟨by unfold distP; rw [if_pos (Or.inr c_11)]; exact (if_pos c_16).symm, rfl⟩
set_option maxRecDepth 100000 in
theorem l_M_unlikeOf {M : Mem} {σ : Sg} (hR : RM M σ) (hI : Iv σ) {a b : Nat} (ha : a < σ.1.2.1) (hb : b < σ.1.2.1)  : ∀ i, i ≤ 8 → CW u_M_unlikeOf (pI (distS (σ.2 4 2 0) (σ.2 9 a) (σ.2 9 b)) M) 5 [some (.ref 1000), some (.int (nI a)), some (.int (nI b)), some (.int (sumUp (fun p => distP (σ.2 4 2 0) (σ.2 9 a p) (σ.2 9 b p)) i)), some (.int (nI i))] [] M := by
  obtain ⟨hn1, hn2, hn3⟩ := hI.n
  refine up_ind (fun i hi ih => ?_)
  refine cw_iload d_M_unlikeOf_5 rfl ?_
  refine cw_bipush (v := 8) d_M_unlikeOf_7 (by decide) ?_
  refine cw_icmp_geN (i) (8) 49 rfl rfl (by omega) d_M_unlikeOf_9 (by decide) (fun c_9 => ?_) (fun c_9 => ?_)
  · refine cw_iload_n d_M_unlikeOf_49 rfl ?_
    refine cw_iret rfl d_M_unlikeOf_50 ?_
    have ei : i = 8 := by omega
    subst ei
    exact ⟨rfl, rfl⟩
  · refine cw_iload_n d_M_unlikeOf_12 rfl ?_
    refine cw_aload_n d_M_unlikeOf_13 rfl ?_
    refine cw_aload_n d_M_unlikeOf_14 rfl ?_
    refine cw_getR fl_M_49 so_M rfl d_M_unlikeOf_15 ?_
    refine cw_bipush (v := 8) d_M_unlikeOf_18 (by decide) ?_
    refine cw_iload_n d_M_unlikeOf_20 rfl ?_
    refine cw_imul d_M_unlikeOf_21 ?_
    refine cw_iload d_M_unlikeOf_22 rfl ?_
    refine cw_iadd d_M_unlikeOf_24 ?_
    refine cw_ialdN (i := (8 * a) + i) sm_lines (nAdd (nMul rfl rfl) rfl) (by omega) (by decide) d_M_unlikeOf_25 ?_
    refine cw_top (hR.li ha (by omega)) ?_
    refine cw_aload_n d_M_unlikeOf_26 rfl ?_
    refine cw_getR fl_M_49 so_M rfl d_M_unlikeOf_27 ?_
    refine cw_bipush (v := 8) d_M_unlikeOf_30 (by decide) ?_
    refine cw_iload_n d_M_unlikeOf_32 rfl ?_
    refine cw_imul d_M_unlikeOf_33 ?_
    refine cw_iload d_M_unlikeOf_34 rfl ?_
    refine cw_iadd d_M_unlikeOf_36 ?_
    refine cw_ialdN (i := (8 * b) + i) sm_lines (nAdd (nMul rfl rfl) rfl) (by omega) (by decide) d_M_unlikeOf_37 ?_
    refine cw_top (hR.li hb (by omega)) ?_
    refine cw_virtP (s_M_unlikeBy hR hI) rfl ml_M_169 so_M rfl rfl d_M_unlikeOf_38 ?_
    refine cw_iadd d_M_unlikeOf_41 ?_
    refine cw_istore_n d_M_unlikeOf_42 rfl ?_
    refine cw_iincN (x := i) d_M_unlikeOf_43 rfl rfl ?_
    refine cw_goto 5 d_M_unlikeOf_46 (by decide) ?_
    exact ih c_9
set_option maxRecDepth 100000 in
theorem s_M_unlikeOf {M : Mem} {σ : Sg} (hR : RM M σ) (hI : Iv σ) {a b : Nat} (ha : a < σ.1.2.1) (hb : b < σ.1.2.1)  : CS u_M_unlikeOf [.ref 1000, .int (nI a), .int (nI b)] M (pI (distS (σ.2 4 2 0) (σ.2 9 a) (σ.2 9 b)) M) := by
  refine cs_introF (L := [some (.ref 1000), some (.int (nI a)), some (.int (nI b)), none, none]) (by decide +kernel) (fun ad q h => h) (fun ad => Nat.le_of_ble_eq_true rfl) ?_
  refine cw_iconst (v := 0) d_M_unlikeOf_0 (by decide) ?_
  refine cw_istore_n d_M_unlikeOf_1 rfl ?_
  refine cw_iconst (v := 0) d_M_unlikeOf_2 (by decide) ?_
  refine cw_istore d_M_unlikeOf_3 rfl ?_
  exact l_M_unlikeOf hR hI ha hb 0 (by omega)
set_option maxRecDepth 100000 in
theorem m_unlike {M : Mem} {σ : Sg} (hR : RM M σ) (hI : Iv σ) {x y : Int32} : CS u_M_unlike [.ref 1000, .int x, .int y] M (rM (ans_unlike σ x y) σ M) := by
  obtain ⟨hn1, hn2, hn3⟩ := hI.n
  refine cs_introF (L := [some (.ref 1000), some (.int x), some (.int y)]) (by decide +kernel) (fun ad q h => h) (fun ad => Nat.le_of_ble_eq_true rfl) ?_
  refine cw_aload_n d_M_unlike_0 rfl ?_
  refine cw_iload_n d_M_unlike_1 rfl ?_
  refine cw_virtP (s_M_isDrawing hR hI) rfl ml_M_163 so_M rfl rfl d_M_unlike_2 ?_
  refine cw_bif_eq 25 d_M_unlike_5 (by decide) (fun c_5 => ?_) (fun c_5 => ?_)
  · refine cw_bipush (v := (-2)) d_M_unlike_25 (by decide) ?_
    refine cw_iret rfl d_M_unlike_27 ?_
    exact ⟨by simp [ans_unlike, c_5], hR, kM.rf⟩
  · obtain ⟨a, hha, e_a⟩ := ixB_t c_5 (by omega)
    subst e_a
    refine cw_aload_n d_M_unlike_8 rfl ?_
    refine cw_iload_n d_M_unlike_9 rfl ?_
    refine cw_virtP (s_M_isDrawing hR hI) rfl ml_M_163 so_M rfl rfl d_M_unlike_10 ?_
    refine cw_bif_eq 25 d_M_unlike_13 (by decide) (fun c_13 => ?_) (fun c_13 => ?_)
    · refine cw_bipush (v := (-2)) d_M_unlike_25 (by decide) ?_
      refine cw_iret rfl d_M_unlike_27 ?_
      exact ⟨by simp [ans_unlike, c_5, c_13], hR, kM.rf⟩
    · obtain ⟨b, hhb, e_b⟩ := ixB_t c_13 (by omega)
      subst e_b
      refine cw_aload_n d_M_unlike_16 rfl ?_
      refine cw_iload_n d_M_unlike_17 rfl ?_
      refine cw_iload_n d_M_unlike_18 rfl ?_
      refine cw_virtP (s_M_unlikeOf hR hI (a := a) (b := b) (by omega) (by omega)) rfl ml_M_172 so_M rfl rfl d_M_unlike_19 ?_
      refine cw_goto 27 d_M_unlike_22 (by decide) ?_
      refine cw_iret rfl d_M_unlike_27 ?_
      exact ⟨by simp [ans_unlike, c_5, c_13, ix_nI (show a < 2 ^ 31 by omega), ix_nI (show b < 2 ^ 31 by omega)], hR, kM.rf⟩
theorem s_M_unlikeOf2 {M : Mem} {σ : Sg} (hR : RM M σ) (hI : Iv σ) {a b : Nat} {x : Int32} (hx : x = nI a) (ha : a < σ.1.2.1) (hb : b < σ.1.2.1) : CS u_M_unlikeOf [.ref 1000, .int x, .int (nI b)] M (pI (distS (σ.2 4 2 0) (σ.2 9 a) (σ.2 9 b)) M) := by
  subst hx
  exact s_M_unlikeOf hR hI ha hb
theorem fromUp_l (hd dist : Nat → Int32) (H : Int32) (n : Nat) (hn : n < 1000) : ∀ j, (fromUp hd dist H n).1 = nI j → j < 1000 → (fromUp hd dist H n).2 = dist j := by
  induction n with
  | zero =>
    intro j hj h1
    exact absurd hj.symm (nI_m1 h1)
  | succ n ih =>
    intro j
    simp only [fromUp]
    split
    · split
      · intro hj h1
        have e : n = j := (nI_eq (by omega) (by omega)).mp hj
        rw [e]
      · exact ih (by omega) j
    · exact ih (by omega) j
set_option maxRecDepth 100000 in
theorem l_M_fromOf {M : Mem} {σ : Sg} (hR : RM M σ) (hI : Iv σ) {d : Nat} (hd : d < σ.1.2.1)  : ∀ i, i ≤ d → ∀ o4, CW u_M_fromOf (pI (fromS σ d) M) 4 [some (.ref 1000), some (.int (nI d)), some (.int (fromUp (fun i => σ.2 5 i 0) (fromD σ d) (σ.2 5 d 0) i).1), some (.int (nI i)), o4] [] M := by
  obtain ⟨hn1, hn2, hn3⟩ := hI.n
  refine up_ind (fun i hi ih o4 => ?_)
  refine cw_iload_n d_M_fromOf_4 rfl ?_
  refine cw_iload_n d_M_fromOf_5 rfl ?_
  refine cw_icmp_geN (i) (d) 68 rfl rfl (by omega) d_M_fromOf_6 (by decide) (fun c_6 => ?_) (fun c_6 => ?_)
  · refine cw_iload_n d_M_fromOf_68 rfl ?_
    refine cw_iret rfl d_M_fromOf_69 ?_
    have ei : i = d := by omega
    subst ei
    exact ⟨rfl, rfl⟩
  · refine cw_aload_n d_M_fromOf_9 rfl ?_
    refine cw_getR fl_M_37 so_M rfl d_M_fromOf_10 ?_
    refine cw_iload_n d_M_fromOf_13 rfl ?_
    refine cw_ialdN (i := i) sm_drawnHead rfl (by omega) (by decide) d_M_fromOf_14 ?_
    refine cw_top (hR.dh (by omega)) ?_
    refine cw_aload_n d_M_fromOf_15 rfl ?_
    refine cw_getR fl_M_37 so_M rfl d_M_fromOf_16 ?_
    refine cw_iload_n d_M_fromOf_19 rfl ?_
    refine cw_ialdN (i := d) sm_drawnHead rfl (by omega) (by decide) d_M_fromOf_20 ?_
    refine cw_top (hR.dh hd) ?_
    refine cw_tern2 29 (b2 (decide (σ.2 5 i 0 = σ.2 5 d 0))) ?_ (fun k_21 => ?_)
    · refine cw_istore d_M_fromOf_29 rfl ?_
      refine cw_iload d_M_fromOf_31 rfl ?_
      refine cw_tern1 61 ((fromUp (fun i => σ.2 5 i 0) (fromD σ d) (σ.2 5 d 0) (i + 1)).1) ?_ (fun k_33 => ?_)
      · refine cw_istore_n d_M_fromOf_61 rfl ?_
        refine cw_iincN (x := i) d_M_fromOf_62 rfl rfl ?_
        refine cw_goto 4 d_M_fromOf_65 (by decide) ?_
        exact cw_cast (by simp only [lset1, kl]; rfl) rfl rfl (ih c_6 _)
      · refine cw_bif_eq 60 d_M_fromOf_33 (by decide) (fun c_33 => ?_) (fun c_33 => ?_)
        · refine cw_iload_n d_M_fromOf_60 rfl ?_
          exact k_33 _ (by rw [show (fromUp (fun i => σ.2 5 i 0) (fromD σ d) (σ.2 5 d 0) (i + 1)) = (fromUp (fun i => σ.2 5 i 0) (fromD σ d) (σ.2 5 d 0) i) from if_neg (of_decide_eq_false c_33)])
        · refine cw_iload_n d_M_fromOf_36 rfl ?_
          refine cw_iconst (v := (-1)) d_M_fromOf_37 (by decide) ?_
          refine cw_icmp_eq 56 d_M_fromOf_38 (by decide) (fun c_38 => ?_) (fun c_38 => ?_)
          · refine cw_iload_n d_M_fromOf_56 rfl ?_
            refine cw_goto 61 d_M_fromOf_57 (by decide) ?_
            exact k_33 _ (by rw [show (fromUp (fun i => σ.2 5 i 0) (fromD σ d) (σ.2 5 d 0) (i + 1)) = (nI i, fromD σ d i) from (if_pos (of_decide_eq_true c_33)).trans (if_pos (Or.inl c_38))])
          · obtain ⟨j, hj1, hj2⟩ := (fromUp_in (fun i => σ.2 5 i 0) (fromD σ d) (σ.2 5 d 0) i).resolve_left c_38
            have hl2 : (fromUp (fun i => σ.2 5 i 0) (fromD σ d) (σ.2 5 d 0) i).2 = fromD σ d j := fromUp_l _ _ _ i (by omega) j hj2 (by omega)
            refine cw_aload_n d_M_fromOf_41 rfl ?_
            refine cw_iload_n d_M_fromOf_42 rfl ?_
            refine cw_iload_n d_M_fromOf_43 rfl ?_
            refine cw_virtP (s_M_unlikeOf hR hI (a := i) (b := d) (by omega) hd) rfl ml_M_172 so_M rfl rfl d_M_fromOf_44 ?_
            refine cw_aload_n d_M_fromOf_47 rfl ?_
            refine cw_iload_n d_M_fromOf_48 rfl ?_
            refine cw_iload_n d_M_fromOf_49 rfl ?_
            refine cw_virtP (s_M_unlikeOf2 hR hI (a := j) (b := d) hj2 (by omega) hd) rfl ml_M_172 so_M rfl rfl d_M_fromOf_50 ?_
            refine cw_icmp_ge 60 d_M_fromOf_53 (by decide) (fun c_53 => ?_) (fun c_53 => ?_)
            · refine cw_iload_n d_M_fromOf_60 rfl ?_
              exact k_33 _ (by rw [show (fromUp (fun i => σ.2 5 i 0) (fromD σ d) (σ.2 5 d 0) (i + 1)) = (fromUp (fun i => σ.2 5 i 0) (fromD σ d) (σ.2 5 d 0) i) from (if_pos (of_decide_eq_true c_33)).trans (if_neg (fun q => q.elim c_38 (fun z => absurd c_53 (i32_nle.mpr (by rw [hl2] at z; exact z)))))])
            · refine cw_iload_n d_M_fromOf_56 rfl ?_
              refine cw_goto 61 d_M_fromOf_57 (by decide) ?_
              exact k_33 _ (by rw [show (fromUp (fun i => σ.2 5 i 0) (fromD σ d) (σ.2 5 d 0) (i + 1)) = (nI i, fromD σ d i) from (if_pos (of_decide_eq_true c_33)).trans (if_pos (Or.inr (by rw [hl2]; exact i32_nle.mp c_53)))])
    · refine cw_icmp_ne 28 d_M_fromOf_21 (by decide) (fun c_21 => ?_) (fun c_21 => ?_)
      · refine cw_iconst (v := 0) d_M_fromOf_28 (by decide) ?_
        exact k_21 _ (by first | exact b2_0 (decide_eq_false c_21) | exact b2_1 (decide_eq_true c_21))
      · refine cw_iconst (v := 1) d_M_fromOf_24 (by decide) ?_
        refine cw_goto 29 d_M_fromOf_25 (by decide) ?_
        exact k_21 _ (by first | exact b2_0 (decide_eq_false c_21) | exact b2_1 (decide_eq_true c_21))
set_option maxRecDepth 100000 in
theorem s_M_fromOf {M : Mem} {σ : Sg} (hR : RM M σ) (hI : Iv σ) {d : Nat} (hd : d < σ.1.2.1)  : CS u_M_fromOf [.ref 1000, .int (nI d)] M (pI (fromS σ d) M) := by
  refine cs_introF (L := [some (.ref 1000), some (.int (nI d)), none, none, none]) (by decide +kernel) (fun ad q h => h) (fun ad => Nat.le_of_ble_eq_true rfl) ?_
  refine cw_iconst (v := (-1)) d_M_fromOf_0 (by decide) ?_
  refine cw_istore_n d_M_fromOf_1 rfl ?_
  refine cw_iconst (v := 0) d_M_fromOf_2 (by decide) ?_
  refine cw_istore_n d_M_fromOf_3 rfl ?_
  exact l_M_fromOf hR hI hd 0 (by omega) _
set_option maxRecDepth 100000 in
theorem l_M_agesOf {M : Mem} {σ : Sg} (hR : RM M σ) (hI : Iv σ) {d : Nat} (hd : d < σ.1.2.1)  : ∀ (n c : Nat) (x : Int32), (x = -1 ∨ ∃ j, j < n ∧ j < σ.1.2.1 ∧ x = nI j) → CW u_M_agesOf (pI (nI (c + ageN σ n x)) M) 8 [some (.ref 1000), some (.int (nI d)), some (.int (nI c)), some (.int x)] [] M := by
  obtain ⟨hn1, hn2, hn3⟩ := hI.n
  intro n
  induction n with
  | zero =>
    intro c x hx
    refine cw_iload_n d_M_agesOf_8 rfl ?_
    refine cw_iconst (v := (-1)) d_M_agesOf_9 (by decide) ?_
    refine cw_icmp_eq 25 d_M_agesOf_10 (by decide) (fun c_10 => ?_) (fun c_10 => ?_)
    · have ha : c + ageN σ 0 x = c := rfl
      rw [ha]
      refine cw_iload_n d_M_agesOf_25 rfl ?_
      refine cw_iret rfl d_M_agesOf_26 ?_
      exact ⟨rfl, rfl⟩
    · exact absurd ((hx).elim id (fun ⟨j, hj, _⟩ => absurd hj (by omega))) c_10
  | succ n ih =>
    intro c x hx
    refine cw_iload_n d_M_agesOf_8 rfl ?_
    refine cw_iconst (v := (-1)) d_M_agesOf_9 (by decide) ?_
    refine cw_icmp_eq 25 d_M_agesOf_10 (by decide) (fun c_10 => ?_) (fun c_10 => ?_)
    · have ha : c + ageN σ (n + 1) x = c := by simp only [ageN, if_pos c_10, Nat.add_zero]
      rw [ha]
      refine cw_iload_n d_M_agesOf_25 rfl ?_
      refine cw_iret rfl d_M_agesOf_26 ?_
      exact ⟨rfl, rfl⟩
    · obtain ⟨j, hj1, hj2, ej⟩ : ∃ j, j < n + 1 ∧ j < σ.1.2.1 ∧ x = nI j := hx.resolve_left c_10
      subst ej
      have ha : c + ageN σ (n + 1) (nI j) = c + 1 + ageN σ n (fromS σ j) := by simp only [ageN, if_neg c_10, ix_nI (show j < 2 ^ 31 by omega)]; omega
      rw [ha]
      refine cw_iincN (x := c) d_M_agesOf_13 rfl rfl ?_
      refine cw_aload_n d_M_agesOf_16 rfl ?_
      refine cw_iload_n d_M_agesOf_17 rfl ?_
      refine cw_virtP (s_M_fromOf hR hI (d := j) (by omega)) rfl ml_M_175 so_M rfl rfl d_M_agesOf_18 ?_
      refine cw_istore_n d_M_agesOf_21 rfl ?_
      refine cw_goto 8 d_M_agesOf_22 (by decide) ?_
      exact ih (c + 1) (fromS σ j) ((fromS_in σ j).imp id (fun ⟨z, z1, z2⟩ => ⟨z, by omega, by omega, z2⟩))
set_option maxRecDepth 100000 in
theorem s_M_agesOf {M : Mem} {σ : Sg} (hR : RM M σ) (hI : Iv σ) {d : Nat} (hd : d < σ.1.2.1)  : CS u_M_agesOf [.ref 1000, .int (nI d)] M (pI (agesS σ d) M) := by
  obtain ⟨hn1, hn2, hn3⟩ := hI.n
  refine cs_introF (L := [some (.ref 1000), some (.int (nI d)), none, none]) (by decide +kernel) (fun ad q h => h) (fun ad => Nat.le_of_ble_eq_true rfl) ?_
  refine cw_iconst (v := 0) d_M_agesOf_0 (by decide) ?_
  refine cw_istore_n d_M_agesOf_1 rfl ?_
  refine cw_aload_n d_M_agesOf_2 rfl ?_
  refine cw_iload_n d_M_agesOf_3 rfl ?_
  refine cw_virtP (s_M_fromOf hR hI hd) rfl ml_M_175 so_M rfl rfl d_M_agesOf_4 ?_
  refine cw_istore_n d_M_agesOf_7 rfl ?_
  have hh := l_M_agesOf hR hI hd 30 0 (fromS σ d) ((fromS_in σ d).imp id (fun ⟨z, z1, z2⟩ => ⟨z, by omega, by omega, z2⟩))
  rw [Nat.zero_add] at hh
  exact hh
set_option maxRecDepth 100000 in
theorem l_M_whose2 {M : Mem} {σ : Sg} (hR : RM M σ) (hI : Iv σ) {d : Nat} (hd : d < σ.1.2.1) {a : Nat} {M' : Mem} (ha : a < 4) (hR' : RM M' σ) (ht : ∀ p, p < 8 → mG M' 1011 p = (hPar σ a).2 p) (K : ∀ o7, CW u_M_whoseOf (rQ (whoseS σ d) M) 103 [some (.ref 1000), some (.int (nI d)), some (.int (whUp (whD σ d) a).1), some (.int (whUp (whD σ d) a).2), some (.int (nI a)), some (.int (whD σ d a)), some (.int (nI 8)), o7] [] M')  : ∀ j, j ≤ 8 → ∀ o7, CW u_M_whoseOf (rQ (whoseS σ d) M) 26 [some (.ref 1000), some (.int (nI d)), some (.int (whUp (whD σ d) a).1), some (.int (whUp (whD σ d) a).2), some (.int (nI a)), some (.int (sumUp (fun p => distP (σ.2 4 2 0) (whLn σ d a p) (σ.2 9 d p)) j)), some (.int (nI j)), o7] [] M' := by
  obtain ⟨hn1, hn2, hn3⟩ := hI.n
  obtain ⟨hq1, hq2⟩ := dh_ok hI hd
  refine up_ind (fun j hj ih o7 => ?_)
  refine cw_iload d_M_whoseOf_26 rfl ?_
  refine cw_bipush (v := 8) d_M_whoseOf_28 (by decide) ?_
  refine cw_icmp_geN (j) (8) 103 rfl rfl (by omega) d_M_whoseOf_30 (by decide) (fun c_30 => ?_) (fun c_30 => ?_)
  · have ej : j = 8 := by omega
    subst ej
    exact K _
  · refine cw_aload_n d_M_whoseOf_33 rfl ?_
    refine cw_getR fl_M_22 so_M rfl d_M_whoseOf_34 ?_
    refine cw_bipush (v := 8) d_M_whoseOf_37 (by decide) ?_
    refine cw_aload_n d_M_whoseOf_39 rfl ?_
    refine cw_getR fl_M_37 so_M rfl d_M_whoseOf_40 ?_
    refine cw_iload_n d_M_whoseOf_43 rfl ?_
    refine cw_ialdN (i := d) sm_drawnHead rfl (by omega) (by decide) d_M_whoseOf_44 ?_
    refine cw_imul d_M_whoseOf_45 ?_
    refine cw_iload d_M_whoseOf_46 rfl ?_
    refine cw_iadd d_M_whoseOf_48 ?_
    refine cw_ialdN (i := (8 * (ix (σ.2 5 d 0))) + j) sm_places (nAdd (nMul rfl ((hR'.dh hd).trans hq1)) rfl) (by omega) (by decide) d_M_whoseOf_49 ?_
    refine cw_top (hR'.pl hq2 (by omega)) ?_
    refine cw_aload_n d_M_whoseOf_50 rfl ?_
    refine cw_getR fl_M_52 so_M rfl d_M_whoseOf_51 ?_
    refine cw_bipush (v := 8) d_M_whoseOf_54 (by decide) ?_
    refine cw_iload_n d_M_whoseOf_56 rfl ?_
    refine cw_imul d_M_whoseOf_57 ?_
    refine cw_iload d_M_whoseOf_58 rfl ?_
    refine cw_iadd d_M_whoseOf_60 ?_
    refine cw_ialdN (i := (8 * d) + j) sm_means (nAdd (nMul rfl rfl) rfl) (by omega) (by decide) d_M_whoseOf_61 ?_
    refine cw_top (hR'.me hd (by omega)) ?_
    refine cw_aload_n d_M_whoseOf_62 rfl ?_
    refine cw_getR fl_M_31 so_M rfl d_M_whoseOf_63 ?_
    refine cw_iload d_M_whoseOf_66 rfl ?_
    refine cw_ialdN (i := j) sm_tenthsOf rfl (by omega) (by decide) d_M_whoseOf_68 ?_
    refine cw_top (ht j (by omega)) ?_
    refine cw_staticP (s_M_drawnBy) rfl ml_M_152 rfl rfl d_M_whoseOf_69 ?_
    refine cw_istore d_M_whoseOf_72 rfl ?_
    refine cw_iload d_M_whoseOf_74 rfl ?_
    refine cw_aload_n d_M_whoseOf_76 rfl ?_
    refine cw_iload d_M_whoseOf_77 rfl ?_
    refine cw_aload_n d_M_whoseOf_79 rfl ?_
    refine cw_getR fl_M_49 so_M rfl d_M_whoseOf_80 ?_
    refine cw_bipush (v := 8) d_M_whoseOf_83 (by decide) ?_
    refine cw_iload_n d_M_whoseOf_85 rfl ?_
    refine cw_imul d_M_whoseOf_86 ?_
    refine cw_iload d_M_whoseOf_87 rfl ?_
    refine cw_iadd d_M_whoseOf_89 ?_
    refine cw_ialdN (i := (8 * d) + j) sm_lines (nAdd (nMul rfl rfl) rfl) (by omega) (by decide) d_M_whoseOf_90 ?_
    refine cw_top (hR'.li hd (by omega)) ?_
    refine cw_virtP (s_M_unlikeBy hR' hI) rfl ml_M_169 so_M rfl rfl d_M_whoseOf_91 ?_
    refine cw_iadd d_M_whoseOf_94 ?_
    refine cw_istore d_M_whoseOf_95 rfl ?_
    refine cw_iincN (x := j) d_M_whoseOf_97 rfl rfl ?_
    refine cw_goto 26 d_M_whoseOf_100 (by decide) ?_
    exact ih c_30 _
set_option maxRecDepth 100000 in
theorem l_M_whose {M : Mem} {σ : Sg} (hR : RM M σ) (hI : Iv σ) {d : Nat} (hd : d < σ.1.2.1)  : ∀ i, i ≤ 4 → ∀ (M' : Mem) (o5 o6 o7 : Option Value), RM M' σ → kq M M' → CW u_M_whoseOf (rQ (whoseS σ d) M) 7 [some (.ref 1000), some (.int (nI d)), some (.int (whUp (whD σ d) i).1), some (.int (whUp (whD σ d) i).2), some (.int (nI i)), o5, o6, o7] [] M' := by
  obtain ⟨hn1, hn2, hn3⟩ := hI.n
  refine up_ind (fun i hi ih M' o5 o6 o7 hR' hk => ?_)
  refine cw_iload d_M_whoseOf_7 rfl ?_
  refine cw_iconst (v := 4) d_M_whoseOf_9 (by decide) ?_
  refine cw_icmp_geN (i) (4) 126 rfl rfl (by omega) d_M_whoseOf_10 (by decide) (fun c_10 => ?_) (fun c_10 => ?_)
  · refine cw_iload_n d_M_whoseOf_126 rfl ?_
    refine cw_iret rfl d_M_whoseOf_127 ?_
    have ei : i = 4 := by omega
    subst ei
    exact ⟨rfl, hk⟩
  · refine cw_aload_n d_M_whoseOf_13 rfl ?_
    refine cw_iload d_M_whoseOf_14 rfl ?_
    refine cw_virtI (s_M_reads hR' hI (a := i) (by omega)) rfl ml_M_146 so_M rfl rfl d_M_whoseOf_16 (fun r_16 M_16 q_16 => ?_)
    obtain ⟨e_16, k_16, t_16⟩ := q_16
    subst e_16
    have hR_16 := RM_kq hR' k_16
    refine cw_pop_int d_M_whoseOf_19 ?_
    refine cw_iconst (v := 0) d_M_whoseOf_20 (by decide) ?_
    refine cw_istore d_M_whoseOf_21 rfl ?_
    refine cw_iconst (v := 0) d_M_whoseOf_23 (by decide) ?_
    refine cw_istore d_M_whoseOf_24 rfl ?_
    refine l_M_whose2 hR hI hd (a := i) (by omega) hR_16 t_16 (fun o8 => ?_) 0 (by omega) _
    refine cw_iload d_M_whoseOf_103 rfl ?_
    refine cw_if_eq 114 d_M_whoseOf_105 (by decide) (fun c_105 => ?_) (fun c_105 => ?_)
    · have h0 : i = 0 := (nI_eq (b := 0) (by omega) (by decide)).mp c_105
      have hs : whUp (whD σ d) (i + 1) = (nI i, whD σ d i) := if_pos (Or.inl h0)
      refine cw_iload d_M_whoseOf_114 rfl ?_
      refine cw_istore_n d_M_whoseOf_116 rfl ?_
      refine cw_iload d_M_whoseOf_117 rfl ?_
      refine cw_istore_n d_M_whoseOf_119 rfl ?_
      refine cw_iincN (x := i) d_M_whoseOf_120 rfl rfl ?_
      refine cw_goto 7 d_M_whoseOf_123 (by decide) ?_
      exact cw_cast (by simp only [lset1, kl, hs]; rfl) rfl rfl (ih c_10 _ _ _ _ hR_16 (hk.tr k_16))
    · have h0 : ¬ i = 0 := fun q => c_105 (by rw [q]; rfl)
      refine cw_iload d_M_whoseOf_108 rfl ?_
      refine cw_iload_n d_M_whoseOf_110 rfl ?_
      refine cw_icmp_ge 120 d_M_whoseOf_111 (by decide) (fun c_111 => ?_) (fun c_111 => ?_)
      · have hs : whUp (whD σ d) (i + 1) = (whUp (whD σ d) i) := if_neg (fun q => q.elim h0 (fun z => absurd c_111 (i32_nle.mpr z)))
        refine cw_iincN (x := i) d_M_whoseOf_120 rfl rfl ?_
        refine cw_goto 7 d_M_whoseOf_123 (by decide) ?_
        exact cw_cast (by simp only [lset1, kl, hs]; rfl) rfl rfl (ih c_10 _ _ _ _ hR_16 (hk.tr k_16))
      · have hs : whUp (whD σ d) (i + 1) = (nI i, whD σ d i) := if_pos (Or.inr (i32_nle.mp c_111))
        refine cw_iload d_M_whoseOf_114 rfl ?_
        refine cw_istore_n d_M_whoseOf_116 rfl ?_
        refine cw_iload d_M_whoseOf_117 rfl ?_
        refine cw_istore_n d_M_whoseOf_119 rfl ?_
        refine cw_iincN (x := i) d_M_whoseOf_120 rfl rfl ?_
        refine cw_goto 7 d_M_whoseOf_123 (by decide) ?_
        exact cw_cast (by simp only [lset1, kl, hs]; rfl) rfl rfl (ih c_10 _ _ _ _ hR_16 (hk.tr k_16))
set_option maxRecDepth 100000 in
theorem s_M_whoseOf {M : Mem} {σ : Sg} (hR : RM M σ) (hI : Iv σ) {d : Nat} (hd : d < σ.1.2.1)  : CS u_M_whoseOf [.ref 1000, .int (nI d)] M (rQ (whoseS σ d) M) := by
  refine cs_introF (L := [some (.ref 1000), some (.int (nI d)), none, none, none, none, none, none]) (by decide +kernel) (fun ad q h => h) (fun ad => Nat.le_of_ble_eq_true rfl) ?_
  refine cw_iconst (v := 0) d_M_whoseOf_0 (by decide) ?_
  refine cw_istore_n d_M_whoseOf_1 rfl ?_
  refine cw_iconst (v := 0) d_M_whoseOf_2 (by decide) ?_
  refine cw_istore_n d_M_whoseOf_3 rfl ?_
  refine cw_iconst (v := 0) d_M_whoseOf_4 (by decide) ?_
  refine cw_istore d_M_whoseOf_5 rfl ?_
  exact l_M_whose hR hI hd 0 (by omega) _ _ _ _ hR kq.rf
def abS (σ : Sg) (d k : Nat) : Int32 := match k with
  | 0 => σ.2 5 d 0
  | 1 => σ.2 6 d 0
  | 2 => σ.2 7 d 0
  | 3 => b2 (offB (σ.2 4 0 0) (σ.2 9 d) (σ.2 10 d))
  | 4 => fromS σ d
  | 5 => agesS σ d
  | 6 => whoseS σ d
  | _ => σ.2 8 d 0
set_option maxRecDepth 100000 in
theorem s_M_aboutOf {M : Mem} {σ : Sg} (hR : RM M σ) (hI : Iv σ) {d : Nat} (hd : d < σ.1.2.1) {k : Nat} (hk : k < 8)  : CS u_M_aboutOf [.ref 1000, .int (nI d), .int (nI k)] M (rQ (abS σ d k) M) := by
  obtain ⟨hn1, hn2, hn3⟩ := hI.n
  refine cs_introF (L := [some (.ref 1000), some (.int (nI d)), some (.int (nI k))]) (by decide +kernel) (fun ad q h => h) (fun ad => Nat.le_of_ble_eq_true rfl) ?_
  refine cw_iload_n d_M_aboutOf_0 rfl ?_
  rcases (show k = 0 ∨ k = 1 ∨ k = 2 ∨ k = 3 ∨ k = 4 ∨ k = 5 ∨ k = 6 ∨ k = 7 by omega) with rfl | rfl | rfl | rfl | rfl | rfl | rfl | rfl
  · refine cw_swIn 44 d_M_aboutOf_1 (by decide) (by decide) rfl (by decide) ?_
    refine cw_aload_n d_M_aboutOf_44 rfl ?_
    refine cw_getR fl_M_37 so_M rfl d_M_aboutOf_45 ?_
    refine cw_iload_n d_M_aboutOf_48 rfl ?_
    refine cw_ialdN (i := d) sm_drawnHead rfl (by omega) (by decide) d_M_aboutOf_49 ?_
    refine cw_iret rfl d_M_aboutOf_50 ?_
    exact ⟨hR.dh hd, kq.rf⟩
  · refine cw_swIn 51 d_M_aboutOf_1 (by decide) (by decide) rfl (by decide) ?_
    refine cw_aload_n d_M_aboutOf_51 rfl ?_
    refine cw_getR fl_M_40 so_M rfl d_M_aboutOf_52 ?_
    refine cw_iload_n d_M_aboutOf_55 rfl ?_
    refine cw_ialdN (i := d) sm_drawnYear rfl (by omega) (by decide) d_M_aboutOf_56 ?_
    refine cw_iret rfl d_M_aboutOf_57 ?_
    exact ⟨hR.dy hd, kq.rf⟩
  · refine cw_swIn 58 d_M_aboutOf_1 (by decide) (by decide) rfl (by decide) ?_
    refine cw_aload_n d_M_aboutOf_58 rfl ?_
    refine cw_getR fl_M_43 so_M rfl d_M_aboutOf_59 ?_
    refine cw_iload_n d_M_aboutOf_62 rfl ?_
    refine cw_ialdN (i := d) sm_drawnKind rfl (by omega) (by decide) d_M_aboutOf_63 ?_
    refine cw_iret rfl d_M_aboutOf_64 ?_
    exact ⟨hR.dk hd, kq.rf⟩
  · refine cw_swIn 65 d_M_aboutOf_1 (by decide) (by decide) rfl (by decide) ?_
    refine cw_aload_n d_M_aboutOf_65 rfl ?_
    refine cw_iload_n d_M_aboutOf_66 rfl ?_
    refine cw_virtP (s_M_isMonster hR hI hd) rfl ml_M_178 so_M rfl rfl d_M_aboutOf_67 ?_
    refine cw_bif_eq 77 d_M_aboutOf_70 (by decide) (fun c_70 => ?_) (fun c_70 => ?_)
    · refine cw_iconst (v := 0) d_M_aboutOf_77 (by decide) ?_
      refine cw_iret rfl d_M_aboutOf_78 ?_
      exact ⟨(by show _ = b2 _; rw [c_70]; rfl), kq.rf⟩
    · refine cw_iconst (v := 1) d_M_aboutOf_73 (by decide) ?_
      refine cw_goto 78 d_M_aboutOf_74 (by decide) ?_
      refine cw_iret rfl d_M_aboutOf_78 ?_
      exact ⟨(by show _ = b2 _; rw [c_70]; rfl), kq.rf⟩
  · refine cw_swIn 79 d_M_aboutOf_1 (by decide) (by decide) rfl (by decide) ?_
    refine cw_aload_n d_M_aboutOf_79 rfl ?_
    refine cw_iload_n d_M_aboutOf_80 rfl ?_
    refine cw_virtP (s_M_fromOf hR hI hd) rfl ml_M_175 so_M rfl rfl d_M_aboutOf_81 ?_
    refine cw_iret rfl d_M_aboutOf_84 ?_
    exact ⟨rfl, kq.rf⟩
  · refine cw_swIn 85 d_M_aboutOf_1 (by decide) (by decide) rfl (by decide) ?_
    refine cw_aload_n d_M_aboutOf_85 rfl ?_
    refine cw_iload_n d_M_aboutOf_86 rfl ?_
    refine cw_virtP (s_M_agesOf hR hI hd) rfl ml_M_181 so_M rfl rfl d_M_aboutOf_87 ?_
    refine cw_iret rfl d_M_aboutOf_90 ?_
    exact ⟨rfl, kq.rf⟩
  · refine cw_swIn 91 d_M_aboutOf_1 (by decide) (by decide) rfl (by decide) ?_
    refine cw_aload_n d_M_aboutOf_91 rfl ?_
    refine cw_iload_n d_M_aboutOf_92 rfl ?_
    refine cw_virtI (s_M_whoseOf hR hI hd) rfl ml_M_184 so_M rfl rfl d_M_aboutOf_93 (fun r_93 M_93 q_93 => ?_)
    obtain ⟨e_93, k_93⟩ := q_93
    subst e_93
    refine cw_iret rfl d_M_aboutOf_96 ?_
    exact ⟨rfl, k_93⟩
  · refine cw_swOut 97 d_M_aboutOf_1 (by decide) (by decide) ?_
    refine cw_aload_n d_M_aboutOf_97 rfl ?_
    refine cw_getR fl_M_46 so_M rfl d_M_aboutOf_98 ?_
    refine cw_iload_n d_M_aboutOf_101 rfl ?_
    refine cw_ialdN (i := d) sm_copiedFrom rfl (by omega) (by decide) d_M_aboutOf_102 ?_
    refine cw_iret rfl d_M_aboutOf_103 ?_
    exact ⟨hR.df hd, kq.rf⟩
theorem ab_eq {σ : Sg} {d k : Nat} (hd : d < σ.1.2.1) (hI : Iv σ) (hk : k < 8) : ans_about σ (nI d) (nI k) = abS σ d k := by
  obtain ⟨hn1, hn2, hn3⟩ := hI.n
  unfold ans_about
  rw [if_pos (by rw [ixB_nI hd (by omega), ixB_nI hk (by decide)]; rfl), ix_nI (by omega), ix_nI (by omega)]
  rfl
set_option maxRecDepth 100000 in
theorem m_about {M : Mem} {σ : Sg} (hR : RM M σ) (hI : Iv σ) {x y : Int32} : CS u_M_about [.ref 1000, .int x, .int y] M (rM (ans_about σ x y) σ M) := by
  obtain ⟨hn1, hn2, hn3⟩ := hI.n
  refine cs_introF (L := [some (.ref 1000), some (.int x), some (.int y)]) (by decide +kernel) (fun ad q h => h) (fun ad => Nat.le_of_ble_eq_true rfl) ?_
  refine cw_aload_n d_M_about_0 rfl ?_
  refine cw_iload_n d_M_about_1 rfl ?_
  refine cw_virtP (s_M_isDrawing hR hI) rfl ml_M_163 so_M rfl rfl d_M_about_2 ?_
  refine cw_bif_eq 29 d_M_about_5 (by decide) (fun c_5 => ?_) (fun c_5 => ?_)
  · refine cw_bipush (v := (-2)) d_M_about_29 (by decide) ?_
    refine cw_iret rfl d_M_about_31 ?_
    exact ⟨by simp [ans_about, c_5], hR, kM.rf⟩
  · obtain ⟨d, hhd, e_d⟩ := ixB_t c_5 (by omega)
    subst e_d
    refine cw_iload_n d_M_about_8 rfl ?_
    refine cw_i2l d_M_about_9 ?_
    refine cw_lconst (v := 0) d_M_about_10 (by decide) ?_
    refine cw_ldc2_w kc_M_101 d_M_about_11 ?_
    refine cw_staticP (s_M_in) rfl ml_M_69 rfl rfl d_M_about_14 ?_
    refine cw_top (y := b2 (ixB y 8)) (by rw [inJ_ix 8 (by decide)]) ?_
    refine cw_bif_eq 29 d_M_about_17 (by decide) (fun c_17 => ?_) (fun c_17 => ?_)
    · refine cw_bipush (v := (-2)) d_M_about_29 (by decide) ?_
      refine cw_iret rfl d_M_about_31 ?_
      exact ⟨by simp [ans_about, c_5, c_17], hR, kM.rf⟩
    · obtain ⟨k, hhk, e_k⟩ := ixB_t c_17 (by omega)
      subst e_k
      refine cw_aload_n d_M_about_20 rfl ?_
      refine cw_iload_n d_M_about_21 rfl ?_
      refine cw_iload_n d_M_about_22 rfl ?_
      refine cw_virtI (s_M_aboutOf hR hI (d := d) (k := k) (by omega) (by omega)) rfl ml_M_187 so_M rfl rfl d_M_about_23 (fun r_23 M_23 q_23 => ?_)
      obtain ⟨e_23, k_23⟩ := q_23
      subst e_23
      refine cw_goto 31 d_M_about_26 (by decide) ?_
      refine cw_iret rfl d_M_about_31 ?_
      exact ⟨(ab_eq (by omega) hI (by omega)).symm, RM_kq hR k_23, k_23.kM⟩
