/-! ===== the reference: witness, plainest ===== -/
def sN (f : Nat → Nat) : Nat → Nat
  | 0 => 0
  | n + 1 => sN f n + f n
theorem sN_dn {f g : Nat → Nat} {i : Nat} (h1 : g i + 1 = f i) (h2 : ∀ j, j ≠ i → g j = f j) : ∀ n, (i < n → sN g n + 1 = sN f n) ∧ (n ≤ i → sN g n = sN f n) := by
  intro n
  induction n with
  | zero => exact ⟨fun h => by omega, fun _ => rfl⟩
  | succ n ih =>
    simp only [sN]
    refine ⟨fun h => ?_, fun h => ?_⟩
    · by_cases e : n = i
      · subst e
        have := ih.2 (Nat.le_refl _)
        omega
      · have := ih.1 (by omega)
        have := h2 n e
        omega
    · have := ih.2 (by omega)
      have := h2 n (by omega)
      omega
theorem sN_0 {f : Nat → Nat} : ∀ n, sN f n = 0 → ∀ j, j < n → f j = 0 := by
  intro n
  induction n with
  | zero => exact fun _ j h => by omega
  | succ n ih =>
    intro h j hj
    simp only [sN] at h
    by_cases e : j = n
    · rw [e]; omega
    · exact ih (by omega) j (by omega)
theorem sN_b {f : Nat → Nat} {B : Nat} : ∀ n, (∀ j, j < n → f j ≤ B) → sN f n ≤ n * B := by
  intro n
  induction n with
  | zero => exact fun _ => by simp [sN]
  | succ n ih =>
    intro h
    have := ih (fun j hj => h j (by omega))
    have := h n (by omega)
    simp only [sN, Nat.succ_mul]
    omega
def blN (x : Nat) : Nat := cntUp (fun j => decide (2 ^ j ≤ x)) 7
theorem bl_ok : ∀ x, x < 100 → blN x ≤ 7 ∧ (blN x = 0 → x = 0) ∧ (¬ x = 0 → blN (x / 2) + 1 = blN x) := by decide +kernel
def phi (g : Nat → Int32) : Nat := sN (fun p => blN (ix (g p))) 8
theorem half_ix {x : Int32} (h : rD x 0 99) : ix (x / 2) = ix x / 2 ∧ ix x < 100 ∧ x = nI (ix x) := by
  unfold rD at h
  obtain ⟨k, hk⟩ : ∃ k : Nat, x.toInt = (k : Int) := ⟨_, (Int.toNat_of_nonneg h.1).symm⟩
  have e : x = nI k := nI_ofInt hk (by omega)
  subst e
  rw [show (2 : Int32) = nI 2 from rfl, pk_div (by omega) (by decide) (by decide), ix_nI (by omega), ix_nI (by omega)]
  exact ⟨rfl, by omega, rfl⟩
theorem phi_dn {g : Nat → Int32} {i : Nat} (hi : i < 8) (hr : rD (g i) 0 99) (h0 : ¬ g i = 0) : phi (upd g i (g i / 2)) + 1 = phi g := by
  obtain ⟨h1, h2, h3⟩ := half_ix hr
  refine (sN_dn (i := i) ?_ (fun j hj => ?_) 8).1 hi
  · have e : upd g i (g i / 2) i = g i / 2 := by simp [upd]
    rw [e, h1]
    exact (bl_ok _ h2).2.2 (fun z => h0 (by rw [h3, z]; rfl))
  · have e : upd g i (g i / 2) j = g j := by simp [upd, hj]
    rw [e]
theorem phi_b {g : Nat → Int32} (hr : ∀ p, p < 8 → rD (g p) 0 99) : phi g ≤ 56 := sN_b (B := 7) 8 (fun p hp => (bl_ok _ (half_ix (hr p hp)).2.1).1)
theorem phi_0 {g : Nat → Int32} (hr : ∀ p, p < 8 → rD (g p) 0 99) (h : phi g = 0) {p : Nat} (hp : p < 8) : g p = 0 := by
  obtain ⟨h1, h2, h3⟩ := half_ix (hr p hp)
  have := (bl_ok _ h2).2.1 (sN_0 8 h p hp)
  rw [h3, this]
  rfl
theorem sc_off : ∀ j, scM 1027 j := fun j => by unfold scM; omega
set_option maxRecDepth 100000 in
theorem l_M_far {M' : Mem} {h k : Nat} {s t : Int32} {g : Nat → Int32} {post : Option Value → Mem → Prop} (hg : ∀ p, p < 8 → mG M' 1027 p = g p) (K : CW u_M_witnessOf post 94 [some (.ref 1000), some (.int (nI h)), some (.int s), some (.int t), some (.int (nI k)), some (.int (nI (furN g 8))), some (.int (nI 8))] [] M')  : ∀ i, i ≤ 8 → 1 ≤ i → CW u_M_witnessOf post 55 [some (.ref 1000), some (.int (nI h)), some (.int s), some (.int t), some (.int (nI k)), some (.int (nI (furN g i))), some (.int (nI i))] [] M' := by
  refine up_ind (fun i hi ih h1 => ?_)
  have hfl := furN_lt g i
  refine cw_iload d_M_witnessOf_55 rfl ?_
  refine cw_bipush (v := 8) d_M_witnessOf_57 (by decide) ?_
  refine cw_icmp_geN (i) (8) 94 rfl rfl (by omega) d_M_witnessOf_59 (by decide) (fun c_59 => ?_) (fun c_59 => ?_)
  · have ei : i = 8 := by omega
    subst ei
    exact K
  · refine cw_aload_n d_M_witnessOf_62 rfl ?_
    refine cw_getR fl_M_64 so_M rfl d_M_witnessOf_63 ?_
    refine cw_iload d_M_witnessOf_66 rfl ?_
    refine cw_ialdN (i := i) sm_off rfl (by omega) (by decide) d_M_witnessOf_68 ?_
    refine cw_top (hg i (by omega)) ?_
    refine cw_aload_n d_M_witnessOf_69 rfl ?_
    refine cw_getR fl_M_64 so_M rfl d_M_witnessOf_70 ?_
    refine cw_iload d_M_witnessOf_73 rfl ?_
    refine cw_ialdN (i := furN g i) sm_off rfl (by omega) (by decide) d_M_witnessOf_75 ?_
    refine cw_top (hg (furN g i) (by omega)) ?_
    refine cw_icmp_le 84 d_M_witnessOf_76 (by decide) (fun c_76 => ?_) (fun c_76 => ?_)
    · have hs : furN g (i + 1) = furN g i := if_neg (i32_nlt.mpr c_76)
      refine cw_iload d_M_witnessOf_84 rfl ?_
      refine cw_istore d_M_witnessOf_86 rfl ?_
      refine cw_iincN (x := i) d_M_witnessOf_88 rfl rfl ?_
      refine cw_goto 55 d_M_witnessOf_91 (by decide) ?_
      exact cw_cast (by simp only [lset1, kl, hs]) rfl rfl (ih c_59 (by omega))
    · have hs : furN g (i + 1) = i := if_pos (i32_nle.mp c_76)
      refine cw_iload d_M_witnessOf_79 rfl ?_
      refine cw_goto 86 d_M_witnessOf_81 (by decide) ?_
      refine cw_istore d_M_witnessOf_86 rfl ?_
      refine cw_iincN (x := i) d_M_witnessOf_88 rfl rfl ?_
      refine cw_goto 55 d_M_witnessOf_91 (by decide) ?_
      exact cw_cast (by simp only [lset1, kl, hs]) rfl rfl (ih c_59 (by omega))
set_option maxRecDepth 100000 in
theorem l_M_wit2 {M : Mem} {σ : Sg} {h : Nat} {s t : Int32} (ht0 : 0 ≤ t)  : ∀ (n k : Nat) (M' : Mem) (g : Nat → Int32) (o5 o6 : Option Value), phi g ≤ n → kq M M' → (∀ p, p < 8 → mG M' 1027 p = g p) → (∀ p, p < 8 → rD (g p) 0 99) → CW u_M_witnessOf (rQ (witN t n k g) M) 49 [some (.ref 1000), some (.int (nI h)), some (.int s), some (.int t), some (.int (nI k)), o5, o6] [] M' := by
  skip
  intro n
  induction n with
  | zero =>
    intro k M' g o5 o6 hphi hk hg hr
    refine cw_iconst (v := 0) d_M_witnessOf_49 (by decide) ?_
    refine cw_istore d_M_witnessOf_50 rfl ?_
    refine cw_iconst (v := 1) d_M_witnessOf_52 (by decide) ?_
    refine cw_istore d_M_witnessOf_53 rfl ?_
    have hfl := furN_lt g 8
    have hl1 := fun K => l_M_far (h := h) (k := k) (s := s) (t := t) (g := g) (post := rQ (witN t 0 k g) M) hg K 1 (by omega) (by omega)
    rw [furN_1] at hl1
    refine hl1 ?_
    refine cw_aload_n d_M_witnessOf_94 rfl ?_
    refine cw_getR fl_M_64 so_M rfl d_M_witnessOf_95 ?_
    refine cw_iload d_M_witnessOf_98 rfl ?_
    refine cw_ialdN (i := furN g 8) sm_off rfl (by omega) (by decide) d_M_witnessOf_100 ?_
    refine cw_top (hg (furN g 8) (by omega)) ?_
    refine cw_iload_n d_M_witnessOf_101 rfl ?_
    refine cw_icmp_gt 108 d_M_witnessOf_102 (by decide) (fun c_102 => ?_) (fun c_102 => ?_)
    · exact absurd ht0 (i32_nle.mpr (by rw [phi_0 hr (by omega) (show furN g 8 < 8 by omega)] at c_102; exact c_102))
    · refine cw_iload d_M_witnessOf_105 rfl ?_
      refine cw_iret rfl d_M_witnessOf_107 ?_
      exact ⟨rfl, hk⟩
  | succ n ih =>
    intro k M' g o5 o6 hphi hk hg hr
    refine cw_iconst (v := 0) d_M_witnessOf_49 (by decide) ?_
    refine cw_istore d_M_witnessOf_50 rfl ?_
    refine cw_iconst (v := 1) d_M_witnessOf_52 (by decide) ?_
    refine cw_istore d_M_witnessOf_53 rfl ?_
    have hfl := furN_lt g 8
    have hl1 := fun K => l_M_far (h := h) (k := k) (s := s) (t := t) (g := g) (post := rQ (witN t (n + 1) k g) M) hg K 1 (by omega) (by omega)
    rw [furN_1] at hl1
    refine hl1 ?_
    refine cw_aload_n d_M_witnessOf_94 rfl ?_
    refine cw_getR fl_M_64 so_M rfl d_M_witnessOf_95 ?_
    refine cw_iload d_M_witnessOf_98 rfl ?_
    refine cw_ialdN (i := furN g 8) sm_off rfl (by omega) (by decide) d_M_witnessOf_100 ?_
    refine cw_top (hg (furN g 8) (by omega)) ?_
    refine cw_iload_n d_M_witnessOf_101 rfl ?_
    refine cw_icmp_gt 108 d_M_witnessOf_102 (by decide) (fun c_102 => ?_) (fun c_102 => ?_)
    · have hw : witN t (n + 1) k g = witN t n (k + 1) (upd g (furN g 8) (g (furN g 8) / 2)) := if_neg (i32_nle.mpr c_102)
      rw [hw]
      have hnz : ¬ g (furN g 8) = 0 := fun z => absurd ht0 (i32_nle.mpr (by rw [z] at c_102; exact c_102))
      have hpd := phi_dn (show furN g 8 < 8 by omega) (hr _ (by omega)) hnz
      refine cw_aload_n d_M_witnessOf_108 rfl ?_
      refine cw_getR fl_M_64 so_M rfl d_M_witnessOf_109 ?_
      refine cw_iload d_M_witnessOf_112 rfl ?_
      refine cw_dup2 d_M_witnessOf_114 ?_
      refine cw_ialdN (i := furN g 8) sm_off rfl (by omega) (by decide) d_M_witnessOf_115 ?_
      refine cw_top (hg (furN g 8) (by omega)) ?_
      refine cw_iconst (v := 2) d_M_witnessOf_116 (by decide) ?_
      refine cw_idiv d_M_witnessOf_117 (by decide) ?_
      refine cw_iastN (i := furN g 8) sm_off rfl (by omega) (by decide) d_M_witnessOf_118 ?_
      refine cw_iincN (x := k) d_M_witnessOf_119 rfl rfl ?_
      refine cw_goto 49 d_M_witnessOf_122 (by decide) ?_
      exact ih (k + 1) _ (upd g (furN g 8) (g (furN g 8) / 2)) _ _ (by omega) (hk.tr (mS_kq (sc_off _))) (fun p hp => by
        by_cases e : p = furN g 8
        · subst e; rw [mS_at]; simp [upd]
        · rw [mS_j e, hg p hp]; simp [upd, e]) (fun p hp => by
        by_cases e : p = furN g 8
        · subst e; simp only [upd, if_true]; exact half_rd (hr (furN g 8) (by omega))
        · simp only [upd, if_neg e]; exact hr p hp)
    · have hw : witN t (n + 1) k g = nI k := if_pos (i32_nlt.mp c_102)
      rw [hw]
      refine cw_iload d_M_witnessOf_105 rfl ?_
      refine cw_iret rfl d_M_witnessOf_107 ?_
      exact ⟨rfl, hk⟩
set_option maxRecDepth 100000 in
theorem l_M_wit1 {M : Mem} {σ : Sg} (hR : RM M σ) (hI : Iv σ) {h : Nat} {s t : Int32} (hh : h < σ.1.1) (hs : setB s σ.1.1 = true) (ht0 : 0 ≤ t)  : ∀ i, i ≤ 8 → CW u_M_witnessOf (rQ (witS σ h s t) M) 3 [some (.ref 1000), some (.int (nI h)), some (.int s), some (.int t), some (.int (nI i)), none, none] [] (mRow M 1027 i (witG σ h s)) := by
  obtain ⟨hn1, hn2, hn3⟩ := hI.n
  refine up_ind (fun i hi ih => ?_)
  have hk1 : kq M (mRow M 1027 i (witG σ h s)) := mRow_kq sc_off
  have hR1 := RM_kq hR hk1
  refine cw_iload d_M_witnessOf_3 rfl ?_
  refine cw_bipush (v := 8) d_M_witnessOf_5 (by decide) ?_
  refine cw_icmp_geN (i) (8) 46 rfl rfl (by omega) d_M_witnessOf_7 (by decide) (fun c_7 => ?_) (fun c_7 => ?_)
  · refine cw_iconst (v := 0) d_M_witnessOf_46 (by decide) ?_
    refine cw_istore d_M_witnessOf_47 rfl ?_
    have ei : i = 8 := by omega
    subst ei
    have hr9 : ∀ p, p < 8 → rD ((witG σ h s) p) 0 99 := fun p hp => abs_rd (hI.2.2.2.1 h p) (meanS_rd hI hs p)
    exact l_M_wit2 (σ := σ) ht0 56 0 _ (witG σ h s) _ _ (phi_b hr9) hk1 (fun p hp => mRow_in hp) hr9
  · refine cw_aload_n d_M_witnessOf_10 rfl ?_
    refine cw_getR fl_M_64 so_M rfl d_M_witnessOf_11 ?_
    refine cw_iload d_M_witnessOf_14 rfl ?_
    refine cw_aload_n d_M_witnessOf_16 rfl ?_
    refine cw_getR fl_M_22 so_M rfl d_M_witnessOf_17 ?_
    refine cw_bipush (v := 8) d_M_witnessOf_20 (by decide) ?_
    refine cw_iload_n d_M_witnessOf_22 rfl ?_
    refine cw_imul d_M_witnessOf_23 ?_
    refine cw_iload d_M_witnessOf_24 rfl ?_
    refine cw_iadd d_M_witnessOf_26 ?_
    refine cw_ialdN (i := (8 * h) + i) sm_places (nAdd (nMul rfl rfl) rfl) (by omega) (by decide) d_M_witnessOf_27 ?_
    refine cw_top (hR1.pl hh (by omega)) ?_
    refine cw_aload_n d_M_witnessOf_28 rfl ?_
    refine cw_iload_n d_M_witnessOf_29 rfl ?_
    refine cw_iload d_M_witnessOf_30 rfl ?_
    refine cw_virtP (s_M_meanOf hR1 hI (s := s) (p := i) (by omega) hs) rfl ml_M_117 so_M rfl rfl d_M_witnessOf_32 ?_
    refine cw_isub d_M_witnessOf_35 ?_
    refine cw_staticP (s_M_amount) rfl ml_M_166 rfl rfl d_M_witnessOf_36 ?_
    refine cw_iastN (i := i) sm_off rfl (by omega) (by decide) d_M_witnessOf_39 ?_
    refine cw_iincN (x := i) d_M_witnessOf_40 rfl rfl ?_
    refine cw_goto 3 d_M_witnessOf_43 (by decide) ?_
    exact cw_cast (by simp only [lset1, kl]) rfl (mRow_s (f := (witG σ h s))) (ih c_7)
set_option maxRecDepth 100000 in
theorem s_M_witnessOf {M : Mem} {σ : Sg} (hR : RM M σ) (hI : Iv σ) {h : Nat} {s t : Int32} (hh : h < σ.1.1) (hs : setB s σ.1.1 = true) (ht0 : 0 ≤ t)  : CS u_M_witnessOf [.ref 1000, .int (nI h), .int s, .int t] M (rQ (witS σ h s t) M) := by
  refine cs_introF (L := [some (.ref 1000), some (.int (nI h)), some (.int s), some (.int t), none, none, none]) (by decide +kernel) (fun ad q h => h) (fun ad => Nat.le_of_ble_eq_true rfl) ?_
  refine cw_iconst (v := 0) d_M_witnessOf_0 (by decide) ?_
  refine cw_istore d_M_witnessOf_1 rfl ?_
  exact cw_mem mRow_0.symm (l_M_wit1 hR hI hh hs ht0 0 (by omega))
set_option maxRecDepth 100000 in
theorem m_witness {M : Mem} {σ : Sg} (hR : RM M σ) (hI : Iv σ) {x s t : Int32} : CS u_M_witness [.ref 1000, .int x, .int s, .int t] M (rM (ans_witness σ x s t) σ M) := by
  obtain ⟨hn1, hn2, hn3⟩ := hI.n
  refine cs_introF (L := [some (.ref 1000), some (.int x), some (.int s), some (.int t)]) (by decide +kernel) (fun ad q h => h) (fun ad => Nat.le_of_ble_eq_true rfl) ?_
  refine cw_aload_n d_M_witness_0 rfl ?_
  refine cw_iload_n d_M_witness_1 rfl ?_
  refine cw_virtP (s_M_isHead hR hI) rfl ml_M_103 so_M rfl rfl d_M_witness_2 ?_
  refine cw_bif_eq 38 d_M_witness_5 (by decide) (fun c_5 => ?_) (fun c_5 => ?_)
  · refine cw_bipush (v := (-2)) d_M_witness_38 (by decide) ?_
    refine cw_iret rfl d_M_witness_40 ?_
    exact ⟨by simp [ans_witness, c_5], hR, kM.rf⟩
  · obtain ⟨h, hhh, e_h⟩ := ixB_t c_5 (by omega)
    subst e_h
    refine cw_aload_n d_M_witness_8 rfl ?_
    refine cw_iload_n d_M_witness_9 rfl ?_
    refine cw_virtP (s_M_isSet hR hI) rfl ml_M_114 so_M rfl rfl d_M_witness_10 ?_
    refine cw_bif_eq 38 d_M_witness_13 (by decide) (fun c_13 => ?_) (fun c_13 => ?_)
    · refine cw_bipush (v := (-2)) d_M_witness_38 (by decide) ?_
      refine cw_iret rfl d_M_witness_40 ?_
      exact ⟨by simp [ans_witness, c_5, c_13], hR, kM.rf⟩
    · refine cw_iload_n d_M_witness_16 rfl ?_
      refine cw_i2l d_M_witness_17 ?_
      refine cw_lconst (v := 0) d_M_witness_18 (by decide) ?_
      refine cw_ldc2_w kc_M_109 d_M_witness_19 ?_
      refine cw_staticP (s_M_in) rfl ml_M_69 rfl rfl d_M_witness_22 ?_
      refine cw_top (y := b2 (ixB t 100)) (by rw [inJ_ix 100 (by decide)]) ?_
      refine cw_bif_eq 38 d_M_witness_25 (by decide) (fun c_25 => ?_) (fun c_25 => ?_)
      · refine cw_bipush (v := (-2)) d_M_witness_38 (by decide) ?_
        refine cw_iret rfl d_M_witness_40 ?_
        exact ⟨by simp [ans_witness, c_5, c_13, c_25], hR, kM.rf⟩
      · refine cw_aload_n d_M_witness_28 rfl ?_
        refine cw_iload_n d_M_witness_29 rfl ?_
        refine cw_iload_n d_M_witness_30 rfl ?_
        refine cw_iload_n d_M_witness_31 rfl ?_
        refine cw_virtI (s_M_witnessOf hR hI (h := h) (s := s) (t := t) (by omega) c_13 (i32_le.mpr (of_decide_eq_true c_25).1)) rfl ml_M_267 so_M rfl rfl d_M_witness_32 (fun r_32 M_32 q_32 => ?_)
        obtain ⟨e_32, k_32⟩ := q_32
        subst e_32
        refine cw_goto 40 d_M_witness_35 (by decide) ?_
        refine cw_iret rfl d_M_witness_40 ?_
        exact ⟨by simp [ans_witness, c_5, c_13, c_25, ix_nI (show h < 2 ^ 31 by omega)], RM_kq hR k_32, k_32.kM⟩
set_option maxRecDepth 100000 in
theorem l_M_pla2 {M : Mem} {σ : Sg} (hR : RM M σ) (hI : Iv σ) {s : Int32} {i : Nat} {post : Option Value → Mem → Prop} (hi : i < σ.1.1) (hs : setB s σ.1.1 = true) (K : CW u_M_plainest post 85 [some (.ref 1000), some (.int s), some (.int (minUp (bit s) (plaF σ s) i).1), some (.int (minUp (bit s) (plaF σ s) i).2), some (.int (nI i)), some (.int (plaF σ s i)), some (.int (nI 8))] [] M)  : ∀ j, j ≤ 8 → CW u_M_plainest post 43 [some (.ref 1000), some (.int s), some (.int (minUp (bit s) (plaF σ s) i).1), some (.int (minUp (bit s) (plaF σ s) i).2), some (.int (nI i)), some (.int (sumUp (fun p => absS (σ.2 1 i p - meanS σ s p)) j)), some (.int (nI j))] [] M := by
  obtain ⟨hn1, hn2, hn3⟩ := hI.n
  refine up_ind (fun j hj ih => ?_)
  refine cw_iload d_M_plainest_43 rfl ?_
  refine cw_bipush (v := 8) d_M_plainest_45 (by decide) ?_
  refine cw_icmp_geN (j) (8) 85 rfl rfl (by omega) d_M_plainest_47 (by decide) (fun c_47 => ?_) (fun c_47 => ?_)
  · have ej : j = 8 := by omega
    subst ej
    exact K
  · refine cw_iload d_M_plainest_50 rfl ?_
    refine cw_aload_n d_M_plainest_52 rfl ?_
    refine cw_getR fl_M_22 so_M rfl d_M_plainest_53 ?_
    refine cw_bipush (v := 8) d_M_plainest_56 (by decide) ?_
    refine cw_iload d_M_plainest_58 rfl ?_
    refine cw_imul d_M_plainest_60 ?_
    refine cw_iload d_M_plainest_61 rfl ?_
    refine cw_iadd d_M_plainest_63 ?_
    refine cw_ialdN (i := (8 * i) + j) sm_places (nAdd (nMul rfl rfl) rfl) (by omega) (by decide) d_M_plainest_64 ?_
    refine cw_top (hR.pl hi (by omega)) ?_
    refine cw_aload_n d_M_plainest_65 rfl ?_
    refine cw_iload_n d_M_plainest_66 rfl ?_
    refine cw_iload d_M_plainest_67 rfl ?_
    refine cw_virtP (s_M_meanOf hR hI (s := s) (p := j) (by omega) hs) rfl ml_M_117 so_M rfl rfl d_M_plainest_69 ?_
    refine cw_isub d_M_plainest_72 ?_
    refine cw_staticP (s_M_amount) rfl ml_M_166 rfl rfl d_M_plainest_73 ?_
    refine cw_iadd d_M_plainest_76 ?_
    refine cw_istore d_M_plainest_77 rfl ?_
    refine cw_iincN (x := j) d_M_plainest_79 rfl rfl ?_
    refine cw_goto 43 d_M_plainest_82 (by decide) ?_
    exact cw_cast (by rw [sumUp_s]; rfl) rfl rfl (ih c_47)
set_option maxRecDepth 100000 in
theorem l_M_plainest {M : Mem} {σ : Sg} (hR : RM M σ) (hI : Iv σ) {s : Int32} (hs : setB s σ.1.1 = true)  : ∀ i, i ≤ σ.1.1 → ∀ o5 o6, CW u_M_plainest (rM (plaS σ s) σ M) 18 [some (.ref 1000), some (.int s), some (.int (minUp (bit s) (plaF σ s) i).1), some (.int (minUp (bit s) (plaF σ s) i).2), some (.int (nI i)), o5, o6] [] M := by
  obtain ⟨hn1, hn2, hn3⟩ := hI.n
  refine up_ind (fun i hi ih o5 o6 => ?_)
  refine cw_iload d_M_plainest_18 rfl ?_
  refine cw_aload_n d_M_plainest_20 rfl ?_
  refine cw_getI fl_M_98 so_M rfl d_M_plainest_21 ?_
  refine cw_icmp_geN (i) (σ.1.1) 108 rfl hR.n1 (by omega) d_M_plainest_24 (by decide) (fun c_24 => ?_) (fun c_24 => ?_)
  · refine cw_iload_n d_M_plainest_108 rfl ?_
    refine cw_iret rfl d_M_plainest_109 ?_
    have ei : i = σ.1.1 := by omega
    subst ei
    exact ⟨rfl, hR, kM.rf⟩
  · refine cw_iload_n d_M_plainest_27 rfl ?_
    refine cw_iload d_M_plainest_28 rfl ?_
    refine cw_ishr d_M_plainest_30 ?_
    refine cw_iconst (v := 1) d_M_plainest_31 (by decide) ?_
    refine cw_iand d_M_plainest_32 ?_
    refine cw_iconst (v := 1) d_M_plainest_33 (by decide) ?_
    refine cw_icmp_ne 102 d_M_plainest_34 (by decide) (fun c_34 => ?_) (fun c_34 => ?_)
    · have hs2 : minUp (bit s) (plaF σ s) (i + 1) = minUp (bit s) (plaF σ s) i := if_neg (Bool.eq_false_iff.mp (decide_eq_false c_34))
      refine cw_iincN (x := i) d_M_plainest_102 rfl rfl ?_
      refine cw_goto 18 d_M_plainest_105 (by decide) ?_
      exact cw_cast (by rw [hs2]; rfl) rfl rfl (ih c_24 _ _)
    · have hs0 : minUp (bit s) (plaF σ s) (i + 1) = _ := if_pos (decide_eq_true c_34)
      refine cw_iconst (v := 0) d_M_plainest_37 (by decide) ?_
      refine cw_istore d_M_plainest_38 rfl ?_
      refine cw_iconst (v := 0) d_M_plainest_40 (by decide) ?_
      refine cw_istore d_M_plainest_41 rfl ?_
      refine l_M_pla2 hR hI c_24 hs ?_ 0 (by omega)
      refine cw_iload_n d_M_plainest_85 rfl ?_
      refine cw_iconst (v := (-1)) d_M_plainest_86 (by decide) ?_
      refine cw_icmp_eq 96 d_M_plainest_87 (by decide) (fun c_87 => ?_) (fun c_87 => ?_)
      · have hs2 : minUp (bit s) (plaF σ s) (i + 1) = (nI i, plaF σ s i) := hs0.trans (if_pos (Or.inl c_87))
        refine cw_iload d_M_plainest_96 rfl ?_
        refine cw_istore_n d_M_plainest_98 rfl ?_
        refine cw_iload d_M_plainest_99 rfl ?_
        refine cw_istore_n d_M_plainest_101 rfl ?_
        refine cw_iincN (x := i) d_M_plainest_102 rfl rfl ?_
        refine cw_goto 18 d_M_plainest_105 (by decide) ?_
        exact cw_cast (by rw [hs2]; rfl) rfl rfl (ih c_24 _ _)
      · refine cw_iload d_M_plainest_90 rfl ?_
        refine cw_iload_n d_M_plainest_92 rfl ?_
        refine cw_icmp_ge 102 d_M_plainest_93 (by decide) (fun c_93 => ?_) (fun c_93 => ?_)
        · have hs2 : minUp (bit s) (plaF σ s) (i + 1) = minUp (bit s) (plaF σ s) i := hs0.trans (if_neg (fun q => q.elim c_87 (fun z => absurd z (i32_nlt.mpr c_93))))
          refine cw_iincN (x := i) d_M_plainest_102 rfl rfl ?_
          refine cw_goto 18 d_M_plainest_105 (by decide) ?_
          exact cw_cast (by rw [hs2]; rfl) rfl rfl (ih c_24 _ _)
        · have hs2 : minUp (bit s) (plaF σ s) (i + 1) = (nI i, plaF σ s i) := hs0.trans (if_pos (Or.inr (i32_nle.mp c_93)))
          refine cw_iload d_M_plainest_96 rfl ?_
          refine cw_istore_n d_M_plainest_98 rfl ?_
          refine cw_iload d_M_plainest_99 rfl ?_
          refine cw_istore_n d_M_plainest_101 rfl ?_
          refine cw_iincN (x := i) d_M_plainest_102 rfl rfl ?_
          refine cw_goto 18 d_M_plainest_105 (by decide) ?_
          exact cw_cast (by rw [hs2]; rfl) rfl rfl (ih c_24 _ _)
set_option maxRecDepth 100000 in
theorem m_plainest {M : Mem} {σ : Sg} (hR : RM M σ) (hI : Iv σ) {s : Int32} : CS u_M_plainest [.ref 1000, .int s] M (rM (ans_plainest σ s) σ M) := by
  obtain ⟨hn1, hn2, hn3⟩ := hI.n
  refine cs_introF (L := [some (.ref 1000), some (.int s), none, none, none, none, none]) (by decide +kernel) (fun ad q h => h) (fun ad => Nat.le_of_ble_eq_true rfl) ?_
  refine cw_aload_n d_M_plainest_0 rfl ?_
  refine cw_iload_n d_M_plainest_1 rfl ?_
  refine cw_virtP (s_M_isSet hR hI) rfl ml_M_114 so_M rfl rfl d_M_plainest_2 ?_
  refine cw_bif_ne 11 d_M_plainest_5 (by decide) (fun c_5 => ?_) (fun c_5 => ?_)
  · refine cw_iconst (v := (-1)) d_M_plainest_11 (by decide) ?_
    refine cw_istore_n d_M_plainest_12 rfl ?_
    refine cw_iconst (v := 0) d_M_plainest_13 (by decide) ?_
    refine cw_istore_n d_M_plainest_14 rfl ?_
    refine cw_iconst (v := 0) d_M_plainest_15 (by decide) ?_
    refine cw_istore d_M_plainest_16 rfl ?_
    have hans : ans_plainest σ s = plaS σ s := if_pos c_5
    rw [hans]
    exact l_M_plainest hR hI c_5 0 (by omega) _ _
  · refine cw_bipush (v := (-2)) d_M_plainest_8 (by decide) ?_
    refine cw_iret rfl d_M_plainest_10 ?_
    exact ⟨by simp [ans_plainest, c_5], hR, kM.rf⟩
