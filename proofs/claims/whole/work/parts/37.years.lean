/-! ===== the class: grows, back, near, witness, plainest ===== -/
def gSel (σ : Sg) (h p d : Nat) : Bool := decide (σ.2 5 d 0 = nI h ∧ ¬ σ.2 9 d p = LO)
def gN (σ : Sg) (h p d : Nat) : Int64 := if gSel σ h p d = true then 1 else 0
def gY (σ : Sg) (h p d : Nat) : Int64 := if gSel σ h p d = true then (σ.2 6 d 0).toInt64 else 0
def gQ (σ : Sg) (h p d : Nat) : Int64 := if gSel σ h p d = true then (σ.2 6 d 0 * σ.2 6 d 0).toInt64 else 0
def gL (σ : Sg) (h p d : Nat) : Int64 := if gSel σ h p d = true then (σ.2 9 d p).toInt64 else 0
def gP (σ : Sg) (h p d : Nat) : Int64 := if gSel σ h p d = true then (σ.2 6 d 0 * σ.2 9 d p).toInt64 else 0
def gB (σ : Sg) (h p : Nat) : Int64 := sumUpJ (gN σ h p) σ.1.2.1 * sumUpJ (gQ σ h p) σ.1.2.1 - sumUpJ (gY σ h p) σ.1.2.1 * sumUpJ (gY σ h p) σ.1.2.1
def gA (σ : Sg) (h p : Nat) : Int64 := sumUpJ (gN σ h p) σ.1.2.1 * sumUpJ (gP σ h p) σ.1.2.1 - sumUpJ (gY σ h p) σ.1.2.1 * sumUpJ (gL σ h p) σ.1.2.1
def growS (σ : Sg) (h p : Nat) (w : Int32) : Int64 := if gB σ h p = 0 then -9223372036854775805 else finJ (gA σ h p) (gB σ h p) w (gcdJ 100 (absJ (gA σ h p)) (gB σ h p))
def ans_grows (σ : Sg) (h p w : Int32) : Int64 := if (ixB h σ.1.1 && ixB p 8 && ixB w 2) = true then growS σ (ix h) (ix p) w else -9223372036854775806
set_option maxHeartbeats 4000000 in
set_option maxRecDepth 100000 in
theorem l_C_grows {M : Mem} {σ : Sg} (hR : RC M σ) (hI : Iv σ) {h p : Nat} {w : Int32} (hh : h < 8) (hp : p < 8)  : ∀ i, i ≤ σ.1.2.1 → ∀ o15, CW u_C_grows (rCJ (growS σ h p w) σ M) 46 [some (.ref 0), some (.int (nI h)), some (.int (nI p)), some (.int w), some (.long (sumUpJ (gN σ h p) i)), none, some (.long (sumUpJ (gY σ h p) i)), none, some (.long (sumUpJ (gQ σ h p) i)), none, some (.long (sumUpJ (gL σ h p) i)), none, some (.long (sumUpJ (gP σ h p) i)), none, some (.int (nI i)), o15] [] M := by
  obtain ⟨hn1, hn2, hn3⟩ := hI.n
  refine up_ind (fun i hi ih o15 => ?_)
  refine cw_iload d_C_grows_46 rfl ?_
  refine cw_aload_n d_C_grows_48 rfl ?_
  refine cw_getI fl_C_146 so_C rfl d_C_grows_49 ?_
  refine cw_icmp_geN (i) (σ.1.2.1) 154 rfl hR.n2 (by omega) d_C_grows_52 (by decide) (fun c_52 => ?_) (fun c_52 => ?_)
  · have ei : i = σ.1.2.1 := by omega
    subst ei
    refine cw_lload d_C_grows_154 rfl ?_
    refine cw_lload d_C_grows_156 rfl ?_
    refine cw_lmul d_C_grows_158 ?_
    refine cw_lload d_C_grows_159 rfl ?_
    refine cw_lload d_C_grows_161 rfl ?_
    refine cw_lmul d_C_grows_163 ?_
    refine cw_lsub d_C_grows_164 ?_
    refine cw_lstore d_C_grows_165 rfl ?_
    refine cw_lload d_C_grows_167 rfl ?_
    refine cw_lconst (v := 0) d_C_grows_169 (by decide) ?_
    refine cw_lcmp d_C_grows_170 ?_
    refine cw_if_ne 178 d_C_grows_171 (by decide) (fun c_171 => ?_) (fun c_171 => ?_)
    · have hz : ¬ gB σ h p = 0 := fun q => c_171 (lgc_eq.mpr q)
      refine cw_aload_n d_C_grows_178 rfl ?_
      refine cw_getR fl_C_64 so_C rfl d_C_grows_179 ?_
      refine cw_lload d_C_grows_182 rfl ?_
      refine cw_lload d_C_grows_184 rfl ?_
      refine cw_lmul d_C_grows_186 ?_
      refine cw_lload d_C_grows_187 rfl ?_
      refine cw_lload d_C_grows_189 rfl ?_
      refine cw_lmul d_C_grows_191 ?_
      refine cw_lsub d_C_grows_192 ?_
      refine cw_lload d_C_grows_193 rfl ?_
      refine cw_virtV (s_Fr_become so_fr) rfl ml_C_270 so_fr rfl rfl d_C_grows_195 (fun M_195 q_195 => ?_)
      subst q_195
      refine cw_aload_n d_C_grows_198 rfl ?_
      refine cw_getR fl_C_64 so_C rfl d_C_grows_199 ?_
      refine cw_iload_n d_C_grows_202 rfl ?_
      refine cw_virtPJ (s_Fr_told so_fr) rfl ml_C_232 so_fr rfl rfl d_C_grows_203 ?_
      refine cw_lret rfl d_C_grows_206 ?_
      exact ⟨by rw [jS2_0, jS2_1]; exact (if_neg hz).symm, hR.kp hI (kF_kp (kF_j (Or.inl rfl))), (kF_kp (σ := σ) (kF_j (Or.inl rfl))).kC⟩
    · have hz : gB σ h p = 0 := lgc_eq.mp c_171
      refine cw_ldc2_w kc_C_226 d_C_grows_174 ?_
      refine cw_lret rfl d_C_grows_177 ?_
      exact ⟨(if_pos hz).symm, hR, kC.rf⟩
  · refine cw_aload_n d_C_grows_55 rfl ?_
    refine cw_getR fl_C_23 so_C rfl d_C_grows_56 ?_
    refine cw_iload d_C_grows_59 rfl ?_
    refine cw_aaldN (i := i) sr_3 rfl (by omega) (by decide) d_C_grows_61 ?_
    refine cw_astore d_C_grows_62 rfl ?_
    refine cw_aload d_C_grows_64 rfl ?_
    refine cw_getI fl_C_160 (so_Sk (d := i) (by omega)) rfl d_C_grows_66 ?_
    refine cw_top (hR.dh (by omega)) ?_
    refine cw_iload_n d_C_grows_69 rfl ?_
    refine cw_icmp_ne 148 d_C_grows_70 (by decide) (fun c_70 => ?_) (fun c_70 => ?_)
    · have hsel : gSel σ h p i = false := decide_eq_false (fun q => c_70 q.1)
      refine cw_iincN (x := i) d_C_grows_148 rfl rfl ?_
      refine cw_goto 46 d_C_grows_151 (by decide) ?_
      exact cw_cast (by simp only [lset1, lset2, kl, sumUpJ, gN, gY, gQ, gL, gP, hsel, if_true, Bool.false_eq_true, if_false, Int64.add_zero]; rfl) rfl rfl (ih c_52 _)
    · refine cw_aload d_C_grows_73 rfl ?_
      refine cw_iload_n d_C_grows_75 rfl ?_
      refine cw_virtP (s_Sk_has (d := i) (p := p) (by omega) hp) rfl ml_C_267 (so_Sk (d := i) (by omega)) rfl rfl d_C_grows_76 ?_
      refine cw_top (y := b2 (decide (¬ σ.2 9 i p = LO))) (by rw [hR.li (by omega) hp]) ?_
      refine cw_bif_eq 148 d_C_grows_79 (by decide) (fun c_79 => ?_) (fun c_79 => ?_)
      · have hsel : gSel σ h p i = false := decide_eq_false (fun q => of_decide_eq_false c_79 q.2)
        refine cw_iincN (x := i) d_C_grows_148 rfl rfl ?_
        refine cw_goto 46 d_C_grows_151 (by decide) ?_
        exact cw_cast (by simp only [lset1, lset2, kl, sumUpJ, gN, gY, gQ, gL, gP, hsel, if_true, Bool.false_eq_true, if_false, Int64.add_zero]; rfl) rfl rfl (ih c_52 _)
      · have hsel : gSel σ h p i = true := decide_eq_true ⟨c_70, of_decide_eq_true c_79⟩
        refine cw_lload d_C_grows_82 rfl ?_
        refine cw_lconst (v := 1) d_C_grows_84 (by decide) ?_
        refine cw_ladd d_C_grows_85 ?_
        refine cw_lstore d_C_grows_86 rfl ?_
        refine cw_lload d_C_grows_88 rfl ?_
        refine cw_aload d_C_grows_90 rfl ?_
        refine cw_getI fl_C_163 (so_Sk (d := i) (by omega)) rfl d_C_grows_92 ?_
        refine cw_top (hR.dy (by omega)) ?_
        refine cw_i2l d_C_grows_95 ?_
        refine cw_ladd d_C_grows_96 ?_
        refine cw_lstore d_C_grows_97 rfl ?_
        refine cw_lload d_C_grows_99 rfl ?_
        refine cw_aload d_C_grows_101 rfl ?_
        refine cw_getI fl_C_163 (so_Sk (d := i) (by omega)) rfl d_C_grows_103 ?_
        refine cw_top (hR.dy (by omega)) ?_
        refine cw_aload d_C_grows_106 rfl ?_
        refine cw_getI fl_C_163 (so_Sk (d := i) (by omega)) rfl d_C_grows_108 ?_
        refine cw_top (hR.dy (by omega)) ?_
        refine cw_imul d_C_grows_111 ?_
        refine cw_i2l d_C_grows_112 ?_
        refine cw_ladd d_C_grows_113 ?_
        refine cw_lstore d_C_grows_114 rfl ?_
        refine cw_lload d_C_grows_116 rfl ?_
        refine cw_aload d_C_grows_118 rfl ?_
        refine cw_getR fl_C_185 (so_Sk (d := i) (by omega)) rfl d_C_grows_120 ?_
        refine cw_iload_n d_C_grows_123 rfl ?_
        refine cw_ialdN (i := p) (sa_li (d := i) (by omega)) rfl (by omega) (by decide) d_C_grows_124 ?_
        refine cw_top (hR.li (by omega) hp) ?_
        refine cw_i2l d_C_grows_125 ?_
        refine cw_ladd d_C_grows_126 ?_
        refine cw_lstore d_C_grows_127 rfl ?_
        refine cw_lload d_C_grows_129 rfl ?_
        refine cw_aload d_C_grows_131 rfl ?_
        refine cw_getI fl_C_163 (so_Sk (d := i) (by omega)) rfl d_C_grows_133 ?_
        refine cw_top (hR.dy (by omega)) ?_
        refine cw_aload d_C_grows_136 rfl ?_
        refine cw_getR fl_C_185 (so_Sk (d := i) (by omega)) rfl d_C_grows_138 ?_
        refine cw_iload_n d_C_grows_141 rfl ?_
        refine cw_ialdN (i := p) (sa_li (d := i) (by omega)) rfl (by omega) (by decide) d_C_grows_142 ?_
        refine cw_top (hR.li (by omega) hp) ?_
        refine cw_imul d_C_grows_143 ?_
        refine cw_i2l d_C_grows_144 ?_
        refine cw_ladd d_C_grows_145 ?_
        refine cw_lstore d_C_grows_146 rfl ?_
        refine cw_iincN (x := i) d_C_grows_148 rfl rfl ?_
        refine cw_goto 46 d_C_grows_151 (by decide) ?_
        exact cw_cast (by simp only [lset1, lset2, kl, sumUpJ, gN, gY, gQ, gL, gP, hsel, if_true, Bool.false_eq_true, if_false, Int64.add_zero]; rfl) rfl rfl (ih c_52 _)
set_option maxRecDepth 100000 in
theorem c_grows {M : Mem} {σ : Sg} (hR : RC M σ) (hI : Iv σ) {x y w : Int32} : CS u_C_grows [.ref 0, .int x, .int y, .int w] M (rCJ (ans_grows σ x y w) σ M) := by
  obtain ⟨hn1, hn2, hn3⟩ := hI.n
  refine cs_introF (L := [some (.ref 0), some (.int x), some (.int y), some (.int w), none, none, none, none, none, none, none, none, none, none, none, none]) (by decide +kernel) (fun ad q h => h) (fun ad => Nat.le_of_ble_eq_true rfl) ?_
  refine cw_aload_n d_C_grows_0 rfl ?_
  refine cw_iload_n d_C_grows_1 rfl ?_
  refine cw_virtP (s_C_isHead hR hI) rfl ml_C_78 so_C rfl rfl d_C_grows_2 ?_
  refine cw_bif_eq 24 d_C_grows_5 (by decide) (fun c_5 => ?_) (fun c_5 => ?_)
  · refine cw_ldc2_w kc_C_221 d_C_grows_24 ?_
    refine cw_lret rfl d_C_grows_27 ?_
    exact ⟨by simp [ans_grows, c_5], hR, kC.rf⟩
  · obtain ⟨h, hhh, e_h⟩ := ixB_t c_5 (by omega)
    subst e_h
    refine cw_iload_n d_C_grows_8 rfl ?_
    refine cw_staticP (s_C_isPart) rfl ml_C_82 rfl rfl d_C_grows_9 ?_
    refine cw_bif_eq 24 d_C_grows_12 (by decide) (fun c_12 => ?_) (fun c_12 => ?_)
    · refine cw_ldc2_w kc_C_221 d_C_grows_24 ?_
      refine cw_lret rfl d_C_grows_27 ?_
      exact ⟨by simp [ans_grows, c_5, c_12], hR, kC.rf⟩
    · obtain ⟨p, hhp, e_p⟩ := ixB_t c_12 (by omega)
      subst e_p
      refine cw_iload_n d_C_grows_15 rfl ?_
      refine cw_if_lt 24 d_C_grows_16 (by decide) (fun c_16 => ?_) (fun c_16 => ?_)
      · have hb : ixB w 2 = false := ixB_lt c_16
        refine cw_ldc2_w kc_C_221 d_C_grows_24 ?_
        refine cw_lret rfl d_C_grows_27 ?_
        exact ⟨by simp [ans_grows, c_5, c_12, hb], hR, kC.rf⟩
      · refine cw_iload_n d_C_grows_19 rfl ?_
        refine cw_iconst (v := 1) d_C_grows_20 (by decide) ?_
        refine cw_icmp_le 28 d_C_grows_21 (by decide) (fun c_21 => ?_) (fun c_21 => ?_)
        · have hb : ixB w 2 = true := ixB_le (n := 1) c_16 c_21 (by decide)
          refine cw_lconst (v := 0) d_C_grows_28 (by decide) ?_
          refine cw_lstore d_C_grows_29 rfl ?_
          refine cw_lconst (v := 0) d_C_grows_31 (by decide) ?_
          refine cw_lstore d_C_grows_32 rfl ?_
          refine cw_lconst (v := 0) d_C_grows_34 (by decide) ?_
          refine cw_lstore d_C_grows_35 rfl ?_
          refine cw_lconst (v := 0) d_C_grows_37 (by decide) ?_
          refine cw_lstore d_C_grows_38 rfl ?_
          refine cw_lconst (v := 0) d_C_grows_40 (by decide) ?_
          refine cw_lstore d_C_grows_41 rfl ?_
          refine cw_iconst (v := 0) d_C_grows_43 (by decide) ?_
          refine cw_istore d_C_grows_44 rfl ?_
          have hans : ans_grows σ (nI h) (nI p) w = growS σ h p w := by simp [ans_grows, c_5, c_12, hb, ix_nI (show h < 2 ^ 31 by omega), ix_nI (show p < 2 ^ 31 by omega)]
          rw [hans]
          exact l_C_grows hR hI (by omega) (by omega) 0 (by omega) _
        · have hb : ixB w 2 = false := ixB_gt (n := 1) c_21 (by decide)
          refine cw_ldc2_w kc_C_221 d_C_grows_24 ?_
          refine cw_lret rfl d_C_grows_27 ?_
          exact ⟨by simp [ans_grows, c_5, c_12, hb], hR, kC.rf⟩
def bSel (σ : Sg) (h p d : Nat) : Bool := decide (σ.2 5 d 0 = nI h ∧ ¬ σ.2 7 d 0 = 4 ∧ ¬ σ.2 9 d p = LO)
def bTm (σ : Sg) (h a p d : Nat) : Int32 := if bSel σ h p d = true then σ.2 10 d p + (σ.2 9 d p - σ.2 10 d p) * 10 / (hPar σ a).2 p else 0
def backS (σ : Sg) (h a p : Nat) : Int32 := if (hPar σ a).2 p = LO ∨ (hPar σ a).2 p = 0 then LO else if cntUp (bSel σ h p) σ.1.2.1 = 0 then LO else sumUp (bTm σ h a p) σ.1.2.1 / nI (cntUp (bSel σ h p) σ.1.2.1)
def nearP (σ : Sg) (h a p : Nat) : Int32 := if backS σ h a p = LO then 0 else absS (backS σ h a p - σ.2 1 h p)
def nearS (σ : Sg) (h a : Nat) : Int32 := sumUp (nearP σ h a) 8
def ans_back (σ : Sg) (h a p : Int32) : Int32 := if (ixB h σ.1.1 && ixB a 4 && ixB p 8) = true then backS σ (ix h) (ix a) (ix p) else -10002
def ans_near (σ : Sg) (h a : Int32) : Int32 := if (ixB h σ.1.1 && ixB a 4) = true then nearS σ (ix h) (ix a) else -2
set_option maxRecDepth 100000 in
theorem l_C_putBack {M : Mem} {σ : Sg} (hR : RC M σ) (hI : Iv σ) {h a p : Nat} (hh : h < 8) (ha : a < 4) (hp : p < 8) (h1 : ¬ ((hPar σ a).2 p) = LO) (h2 : ¬ ((hPar σ a).2 p) = 0)  : ∀ i, i ≤ σ.1.2.1 → ∀ o8, CW u_C_putBack (pI (backS σ h a p) M) 39 [some (.ref 0), some (.int (nI h)), some (.int (nI a)), some (.int (nI p)), some (.int ((hPar σ a).2 p)), some (.int (sumUp (bTm σ h a p) i)), some (.int (nI (cntUp (bSel σ h p) i))), some (.int (nI i)), o8] [] M := by
  obtain ⟨hn1, hn2, hn3⟩ := hI.n
  have hcl := cntUp_le (bSel σ h p) σ.1.2.1
  refine up_ind (fun i hi ih o8 => ?_)
  refine cw_iload d_C_putBack_39 rfl ?_
  refine cw_aload_n d_C_putBack_41 rfl ?_
  refine cw_getI fl_C_146 so_C rfl d_C_putBack_42 ?_
  refine cw_icmp_geN (i) (σ.1.2.1) 127 rfl hR.n2 (by omega) d_C_putBack_45 (by decide) (fun c_45 => ?_) (fun c_45 => ?_)
  · have ei : i = σ.1.2.1 := by omega
    subst ei
    refine cw_iload d_C_putBack_127 rfl ?_
    refine cw_if_ne 138 d_C_putBack_129 (by decide) (fun c_129 => ?_) (fun c_129 => ?_)
    · have hz : ¬ cntUp (bSel σ h p) σ.1.2.1 = 0 := fun q => c_129 (by rw [q]; rfl)
      refine cw_iload d_C_putBack_138 rfl ?_
      refine cw_iload d_C_putBack_140 rfl ?_
      refine cw_idiv d_C_putBack_142 c_129 ?_
      refine cw_iret rfl d_C_putBack_143 ?_
      exact ⟨by unfold backS; rw [if_neg (fun q => q.elim h1 h2)]; first | exact (if_pos hz).symm | exact (if_neg hz).symm, rfl⟩
    · have hz : cntUp (bSel σ h p) σ.1.2.1 = 0 := (nI_eq (b := 0) (by omega) (by decide)).mp c_129
      refine cw_sipush (v := (-9999)) d_C_putBack_132 (by decide) ?_
      refine cw_goto 143 d_C_putBack_135 (by decide) ?_
      refine cw_iret rfl d_C_putBack_143 ?_
      exact ⟨by unfold backS; rw [if_neg (fun q => q.elim h1 h2)]; first | exact (if_pos hz).symm | exact (if_neg hz).symm, rfl⟩
  · refine cw_aload_n d_C_putBack_48 rfl ?_
    refine cw_getR fl_C_23 so_C rfl d_C_putBack_49 ?_
    refine cw_iload d_C_putBack_52 rfl ?_
    refine cw_aaldN (i := i) sr_3 rfl (by omega) (by decide) d_C_putBack_54 ?_
    refine cw_astore d_C_putBack_55 rfl ?_
    refine cw_aload d_C_putBack_57 rfl ?_
    refine cw_getI fl_C_160 (so_Sk (d := i) (by omega)) rfl d_C_putBack_59 ?_
    refine cw_top (hR.dh (by omega)) ?_
    refine cw_iload_n d_C_putBack_62 rfl ?_
    refine cw_icmp_ne 121 d_C_putBack_63 (by decide) (fun c_63 => ?_) (fun c_63 => ?_)
    · have hsel : bSel σ h p i = false := decide_eq_false (fun q => c_63 q.1)
      refine cw_iincN (x := i) d_C_putBack_121 rfl rfl ?_
      refine cw_goto 39 d_C_putBack_124 (by decide) ?_
      exact cw_cast (by simp only [lset1, kl, sumUp_s, cntUp, bTm, hsel, if_true, Bool.false_eq_true, if_false, Int32.add_zero]; rfl) rfl rfl (ih c_45 _)
    · refine cw_aload d_C_putBack_66 rfl ?_
      refine cw_getI fl_C_173 (so_Sk (d := i) (by omega)) rfl d_C_putBack_68 ?_
      refine cw_top (hR.dk (by omega)) ?_
      refine cw_iconst (v := 4) d_C_putBack_71 (by decide) ?_
      refine cw_icmp_eq 121 d_C_putBack_72 (by decide) (fun c_72 => ?_) (fun c_72 => ?_)
      · have hsel : bSel σ h p i = false := decide_eq_false (fun q => q.2.1 c_72)
        refine cw_iincN (x := i) d_C_putBack_121 rfl rfl ?_
        refine cw_goto 39 d_C_putBack_124 (by decide) ?_
        exact cw_cast (by simp only [lset1, kl, sumUp_s, cntUp, bTm, hsel, if_true, Bool.false_eq_true, if_false, Int32.add_zero]; rfl) rfl rfl (ih c_45 _)
      · refine cw_aload d_C_putBack_75 rfl ?_
        refine cw_iload_n d_C_putBack_77 rfl ?_
        refine cw_virtP (s_Sk_has (d := i) (p := p) (by omega) hp) rfl ml_C_267 (so_Sk (d := i) (by omega)) rfl rfl d_C_putBack_78 ?_
        refine cw_top (y := b2 (decide (¬ σ.2 9 i p = LO))) (by rw [hR.li (by omega) hp]) ?_
        refine cw_bif_eq 121 d_C_putBack_81 (by decide) (fun c_81 => ?_) (fun c_81 => ?_)
        · have hsel : bSel σ h p i = false := decide_eq_false (fun q => of_decide_eq_false c_81 q.2.2)
          refine cw_iincN (x := i) d_C_putBack_121 rfl rfl ?_
          refine cw_goto 39 d_C_putBack_124 (by decide) ?_
          exact cw_cast (by simp only [lset1, kl, sumUp_s, cntUp, bTm, hsel, if_true, Bool.false_eq_true, if_false, Int32.add_zero]; rfl) rfl rfl (ih c_45 _)
        · have hsel : bSel σ h p i = true := decide_eq_true ⟨c_63, c_72, of_decide_eq_true c_81⟩
          refine cw_iload d_C_putBack_84 rfl ?_
          refine cw_aload d_C_putBack_86 rfl ?_
          refine cw_getR fl_C_149 (so_Sk (d := i) (by omega)) rfl d_C_putBack_88 ?_
          refine cw_iload_n d_C_putBack_91 rfl ?_
          refine cw_ialdN (i := p) (sa_ba (d := i) (by omega)) rfl (by omega) (by decide) d_C_putBack_92 ?_
          refine cw_top (hR.me (by omega) hp) ?_
          refine cw_aload d_C_putBack_93 rfl ?_
          refine cw_getR fl_C_185 (so_Sk (d := i) (by omega)) rfl d_C_putBack_95 ?_
          refine cw_iload_n d_C_putBack_98 rfl ?_
          refine cw_ialdN (i := p) (sa_li (d := i) (by omega)) rfl (by omega) (by decide) d_C_putBack_99 ?_
          refine cw_top (hR.li (by omega) hp) ?_
          refine cw_aload d_C_putBack_100 rfl ?_
          refine cw_getR fl_C_149 (so_Sk (d := i) (by omega)) rfl d_C_putBack_102 ?_
          refine cw_iload_n d_C_putBack_105 rfl ?_
          refine cw_ialdN (i := p) (sa_ba (d := i) (by omega)) rfl (by omega) (by decide) d_C_putBack_106 ?_
          refine cw_top (hR.me (by omega) hp) ?_
          refine cw_isub d_C_putBack_107 ?_
          refine cw_bipush (v := 10) d_C_putBack_108 (by decide) ?_
          refine cw_imul d_C_putBack_110 ?_
          refine cw_iload d_C_putBack_111 rfl ?_
          refine cw_idiv d_C_putBack_113 h2 ?_
          refine cw_iadd d_C_putBack_114 ?_
          refine cw_iadd d_C_putBack_115 ?_
          refine cw_istore d_C_putBack_116 rfl ?_
          refine cw_iincN (x := cntUp (bSel σ h p) i) d_C_putBack_118 rfl rfl ?_
          refine cw_iincN (x := i) d_C_putBack_121 rfl rfl ?_
          refine cw_goto 39 d_C_putBack_124 (by decide) ?_
          exact cw_cast (by simp only [lset1, kl, sumUp_s, cntUp, bTm, hsel, if_true, Bool.false_eq_true, if_false, Int32.add_zero]; rfl) rfl rfl (ih c_45 _)
set_option maxRecDepth 100000 in
theorem s_C_putBack {M : Mem} {σ : Sg} (hR : RC M σ) (hI : Iv σ) {h a p : Nat} (hh : h < 8) (ha : a < 4) (hp : p < 8)  : CS u_C_putBack [.ref 0, .int (nI h), .int (nI a), .int (nI p)] M (pI (backS σ h a p) M) := by
  refine cs_introF (L := [some (.ref 0), some (.int (nI h)), some (.int (nI a)), some (.int (nI p)), none, none, none, none, none]) (by decide +kernel) (fun ad q h => h) (fun ad => Nat.le_of_ble_eq_true rfl) ?_
  refine cw_aload_n d_C_putBack_0 rfl ?_
  refine cw_getR fl_C_17 so_C rfl d_C_putBack_1 ?_
  refine cw_iload_n d_C_putBack_4 rfl ?_
  refine cw_aaldN (i := a) sr_2 rfl (by omega) (by decide) d_C_putBack_5 ?_
  refine cw_getR fl_C_136 (so_Ha (h := a) (by omega)) rfl d_C_putBack_6 ?_
  refine cw_iload_n d_C_putBack_9 rfl ?_
  refine cw_ialdN (i := p) (sa_tn (h := a) (by omega)) rfl (by omega) (by decide) d_C_putBack_10 ?_
  refine cw_top (hR.tn ha hp) ?_
  refine cw_istore d_C_putBack_11 rfl ?_
  refine cw_iload d_C_putBack_13 rfl ?_
  refine cw_sipush (v := (-9999)) d_C_putBack_15 (by decide) ?_
  refine cw_icmp_eq 26 d_C_putBack_18 (by decide) (fun c_18 => ?_) (fun c_18 => ?_)
  · have hz : backS σ h a p = LO := if_pos (Or.inl c_18)
    refine cw_sipush (v := (-9999)) d_C_putBack_26 (by decide) ?_
    refine cw_iret rfl d_C_putBack_29 ?_
    exact ⟨hz.symm, rfl⟩
  · refine cw_iload d_C_putBack_21 rfl ?_
    refine cw_if_ne 30 d_C_putBack_23 (by decide) (fun c_23 => ?_) (fun c_23 => ?_)
    · refine cw_iconst (v := 0) d_C_putBack_30 (by decide) ?_
      refine cw_istore d_C_putBack_31 rfl ?_
      refine cw_iconst (v := 0) d_C_putBack_33 (by decide) ?_
      refine cw_istore d_C_putBack_34 rfl ?_
      refine cw_iconst (v := 0) d_C_putBack_36 (by decide) ?_
      refine cw_istore d_C_putBack_37 rfl ?_
      exact l_C_putBack hR hI hh ha hp c_18 c_23 0 (by omega) _
    · have hz : backS σ h a p = LO := if_pos (Or.inr c_23)
      refine cw_sipush (v := (-9999)) d_C_putBack_26 (by decide) ?_
      refine cw_iret rfl d_C_putBack_29 ?_
      exact ⟨hz.symm, rfl⟩
set_option maxRecDepth 100000 in
theorem c_back {M : Mem} {σ : Sg} (hR : RC M σ) (hI : Iv σ) {x y z : Int32} : CS u_C_back [.ref 0, .int x, .int y, .int z] M (rC (ans_back σ x y z) σ M) := by
  obtain ⟨hn1, hn2, hn3⟩ := hI.n
  refine cs_introF (L := [some (.ref 0), some (.int x), some (.int y), some (.int z)]) (by decide +kernel) (fun ad q h => h) (fun ad => Nat.le_of_ble_eq_true rfl) ?_
  refine cw_aload_n d_C_back_0 rfl ?_
  refine cw_iload_n d_C_back_1 rfl ?_
  refine cw_virtP (s_C_isHead hR hI) rfl ml_C_78 so_C rfl rfl d_C_back_2 ?_
  refine cw_bif_eq 32 d_C_back_5 (by decide) (fun c_5 => ?_) (fun c_5 => ?_)
  · refine cw_sipush (v := (-10002)) d_C_back_32 (by decide) ?_
    refine cw_iret rfl d_C_back_35 ?_
    exact ⟨by simp [ans_back, c_5], hR, kC.rf⟩
  · obtain ⟨h, hhh, e_h⟩ := ixB_t c_5 (by omega)
    subst e_h
    refine cw_iload_n d_C_back_8 rfl ?_
    refine cw_staticP (s_C_isHand) rfl ml_C_120 rfl rfl d_C_back_9 ?_
    refine cw_bif_eq 32 d_C_back_12 (by decide) (fun c_12 => ?_) (fun c_12 => ?_)
    · refine cw_sipush (v := (-10002)) d_C_back_32 (by decide) ?_
      refine cw_iret rfl d_C_back_35 ?_
      exact ⟨by simp [ans_back, c_5, c_12], hR, kC.rf⟩
    · obtain ⟨a, hha, e_a⟩ := ixB_t c_12 (by omega)
      subst e_a
      refine cw_iload_n d_C_back_15 rfl ?_
      refine cw_staticP (s_C_isPart) rfl ml_C_82 rfl rfl d_C_back_16 ?_
      refine cw_bif_eq 32 d_C_back_19 (by decide) (fun c_19 => ?_) (fun c_19 => ?_)
      · refine cw_sipush (v := (-10002)) d_C_back_32 (by decide) ?_
        refine cw_iret rfl d_C_back_35 ?_
        exact ⟨by simp [ans_back, c_5, c_12, c_19], hR, kC.rf⟩
      · obtain ⟨p, hhp, e_p⟩ := ixB_t c_19 (by omega)
        subst e_p
        refine cw_aload_n d_C_back_22 rfl ?_
        refine cw_iload_n d_C_back_23 rfl ?_
        refine cw_iload_n d_C_back_24 rfl ?_
        refine cw_iload_n d_C_back_25 rfl ?_
        refine cw_virtP (s_C_putBack hR hI (h := h) (a := a) (p := p) (by omega) (by omega) (by omega)) rfl ml_C_274 so_C rfl rfl d_C_back_26 ?_
        refine cw_goto 35 d_C_back_29 (by decide) ?_
        refine cw_iret rfl d_C_back_35 ?_
        exact ⟨by simp [ans_back, c_5, c_12, c_19, ix_nI (show h < 2 ^ 31 by omega), ix_nI (show a < 2 ^ 31 by omega), ix_nI (show p < 2 ^ 31 by omega)], hR, kC.rf⟩
set_option maxRecDepth 100000 in
theorem l_C_near {M : Mem} {σ : Sg} (hR : RC M σ) (hI : Iv σ) {h a : Nat} (hh : h < 8) (ha : a < 4)  : ∀ i, i ≤ 8 → ∀ o5, CW u_C_near (rC (nearS σ h a) σ M) 23 [some (.ref 0), some (.int (nI h)), some (.int (nI a)), some (.int (sumUp (nearP σ h a) i)), some (.int (nI i)), o5] [] M := by
  obtain ⟨hn1, hn2, hn3⟩ := hI.n
  refine up_ind (fun i hi ih o5 => ?_)
  refine cw_iload d_C_near_23 rfl ?_
  refine cw_bipush (v := 8) d_C_near_25 (by decide) ?_
  refine cw_icmp_geN (i) (8) 75 rfl rfl (by omega) d_C_near_27 (by decide) (fun c_27 => ?_) (fun c_27 => ?_)
  · refine cw_iload_n d_C_near_75 rfl ?_
    refine cw_iret rfl d_C_near_76 ?_
    have ei : i = 8 := by omega
    subst ei
    exact ⟨rfl, hR, kC.rf⟩
  · refine cw_aload_n d_C_near_30 rfl ?_
    refine cw_iload_n d_C_near_31 rfl ?_
    refine cw_iload_n d_C_near_32 rfl ?_
    refine cw_iload d_C_near_33 rfl ?_
    refine cw_virtP (s_C_putBack hR hI (h := h) (a := a) (p := i) hh ha (by omega)) rfl ml_C_274 so_C rfl rfl d_C_near_35 ?_
    refine cw_istore d_C_near_38 rfl ?_
    refine cw_iload d_C_near_40 rfl ?_
    refine cw_sipush (v := (-9999)) d_C_near_42 (by decide) ?_
    refine cw_icmp_eq 69 d_C_near_45 (by decide) (fun c_45 => ?_) (fun c_45 => ?_)
    · have hs : nearP σ h a i = 0 := if_pos c_45
      refine cw_iincN (x := i) d_C_near_69 rfl rfl ?_
      refine cw_goto 23 d_C_near_72 (by decide) ?_
      exact cw_cast (by simp only [lset1, kl, sumUp_s, hs, Int32.add_zero]; rfl) rfl rfl (ih c_27 _)
    · have hs : nearP σ h a i = absS (backS σ h a i - σ.2 1 h i) := if_neg c_45
      refine cw_iload_n d_C_near_48 rfl ?_
      refine cw_iload d_C_near_49 rfl ?_
      refine cw_aload_n d_C_near_51 rfl ?_
      refine cw_getR fl_C_11 so_C rfl d_C_near_52 ?_
      refine cw_iload_n d_C_near_55 rfl ?_
      refine cw_aaldN (i := h) sr_1 rfl (by omega) (by decide) d_C_near_56 ?_
      refine cw_getR fl_C_88 (so_He (h := h) (by omega)) rfl d_C_near_57 ?_
      refine cw_iload d_C_near_60 rfl ?_
      refine cw_ialdN (i := i) (sa_pl (h := h) (by omega)) rfl (by omega) (by decide) d_C_near_62 ?_
      refine cw_top (hR.pl (by omega) (by omega)) ?_
      refine cw_isub d_C_near_63 ?_
      refine cw_staticP (s_J_abs_I) rfl ml_C_277 rfl rfl d_C_near_64 ?_
      refine cw_iadd d_C_near_67 ?_
      refine cw_istore_n d_C_near_68 rfl ?_
      refine cw_iincN (x := i) d_C_near_69 rfl rfl ?_
      refine cw_goto 23 d_C_near_72 (by decide) ?_
      exact cw_cast (by simp only [lset1, kl, sumUp_s, hs, Int32.add_zero]; rfl) rfl rfl (ih c_27 _)
set_option maxRecDepth 100000 in
theorem c_near {M : Mem} {σ : Sg} (hR : RC M σ) (hI : Iv σ) {x y : Int32} : CS u_C_near [.ref 0, .int x, .int y] M (rC (ans_near σ x y) σ M) := by
  obtain ⟨hn1, hn2, hn3⟩ := hI.n
  refine cs_introF (L := [some (.ref 0), some (.int x), some (.int y), none, none, none]) (by decide +kernel) (fun ad q h => h) (fun ad => Nat.le_of_ble_eq_true rfl) ?_
  refine cw_aload_n d_C_near_0 rfl ?_
  refine cw_iload_n d_C_near_1 rfl ?_
  refine cw_virtP (s_C_isHead hR hI) rfl ml_C_78 so_C rfl rfl d_C_near_2 ?_
  refine cw_bif_eq 15 d_C_near_5 (by decide) (fun c_5 => ?_) (fun c_5 => ?_)
  · refine cw_bipush (v := (-2)) d_C_near_15 (by decide) ?_
    refine cw_iret rfl d_C_near_17 ?_
    exact ⟨by simp [ans_near, c_5], hR, kC.rf⟩
  · obtain ⟨h, hhh, e_h⟩ := ixB_t c_5 (by omega)
    subst e_h
    refine cw_iload_n d_C_near_8 rfl ?_
    refine cw_staticP (s_C_isHand) rfl ml_C_120 rfl rfl d_C_near_9 ?_
    refine cw_bif_ne 18 d_C_near_12 (by decide) (fun c_12 => ?_) (fun c_12 => ?_)
    · obtain ⟨a, hha, e_a⟩ := ixB_t c_12 (by omega)
      subst e_a
      refine cw_iconst (v := 0) d_C_near_18 (by decide) ?_
      refine cw_istore_n d_C_near_19 rfl ?_
      refine cw_iconst (v := 0) d_C_near_20 (by decide) ?_
      refine cw_istore d_C_near_21 rfl ?_
      have hans : ans_near σ (nI h) (nI a) = nearS σ h a := by simp [ans_near, c_5, c_12, ix_nI (show h < 2 ^ 31 by omega), ix_nI (show a < 2 ^ 31 by omega)]
      rw [hans]
      exact l_C_near hR hI (by omega) (by omega) 0 (by omega) _
    · refine cw_bipush (v := (-2)) d_C_near_15 (by decide) ?_
      refine cw_iret rfl d_C_near_17 ?_
      exact ⟨by simp [ans_near, c_5, c_12], hR, kC.rf⟩
theorem mean_sum {σ : Sg} (hI : Iv σ) (s : Int32) (p : Nat) : ∀ i, i ≤ 8 → 0 ≤ (sumUp (fun h => if bit s h then σ.2 1 h p else 0) i).toInt ∧ (sumUp (fun h => if bit s h then σ.2 1 h p else 0) i).toInt ≤ 99 * cntUp (bit s) i := by
  intro i hi
  induction i with
  | zero => exact ⟨(by show (0 : Int) ≤ (0 : Int32).toInt; decide), (by show (0 : Int32).toInt ≤ 99 * ((0 : Nat) : Int); decide)⟩
  | succ i ih =>
    have h := ih (by omega)
    have hr := hI.2.2.2.1 i p
    unfold rD at hr
    have hc := cntUp_le (bit s) i
    rw [sumUp_s]
    cases hb : bit s i with
    | false =>
      rw [cntUp_f hb]
      simp only [hb, Bool.false_eq_true, if_false, Int32.add_zero]
      exact h
    | true =>
      rw [cntUp_t hb]
      simp only [hb, if_true]
      rw [Int32.toInt_add, Int.bmod_eq_of_le (by omega) (by omega)]
      omega
theorem meanS_rd {σ : Sg} (hI : Iv σ) {s : Int32} (hs : setB s σ.1.1 = true) (p : Nat) : rD (meanS σ s p) 0 99 := by
  have h := mean_sum hI s p σ.1.1 hI.1
  have hc := cnt_pos hI.1 hs
  have hl := cntUp_le (bit s) σ.1.1
  have := hI.1
  obtain ⟨k, hk⟩ : ∃ k : Nat, (sumUp (fun h => if bit s h then σ.2 1 h p else 0) σ.1.1).toInt = (k : Int) := ⟨_, (Int.toNat_of_nonneg h.1).symm⟩
  have e : sumUp (fun h => if bit s h then σ.2 1 h p else 0) σ.1.1 = nI k := nI_ofInt hk (by omega)
  unfold meanS rD
  rw [e, pk_div (by omega) hc (by omega), nI_toInt (by have := Nat.div_le_self k (cntUp (bit s) σ.1.1); omega)]
  refine ⟨Int.natCast_nonneg _, ?_⟩
  have : k / cntUp (bit s) σ.1.1 ≤ 99 := by
    apply Nat.div_le_of_le_mul
    rw [Nat.mul_comm]
    omega
  omega
theorem abs_rd {x y : Int32} (hx : rD x 0 99) (hy : rD y 0 99) : rD (absS (x - y)) 0 99 := by
  unfold rD absS at *
  have h1 : (x - y).toInt = x.toInt - y.toInt := by rw [Int32.toInt_sub, Int.bmod_eq_of_le (by omega) (by omega)]
  have := i0
  split
  · rename_i q
    have := i32_le.mp q
    omega
  · rename_i q
    have := i32_lt.mp (i32_nle.mp q)
    rw [Int32.toInt_neg, Int.bmod_eq_of_le (by omega) (by omega)]
    omega
def furN (g : Nat → Int32) : Nat → Nat
  | 0 => 0
  | i + 1 => if g (furN g i) < g i then i else furN g i
theorem furN_lt (g : Nat → Int32) : ∀ n, furN g n ≤ n - 1
  | 0 => Nat.le_refl _
  | n + 1 => by
    have := furN_lt g n
    simp only [furN]
    split <;> omega
def witN (t : Int32) : Nat → Nat → (Nat → Int32) → Int32
  | 0, step, _ => nI step
  | n + 1, step, g => if g (furN g 8) ≤ t then nI step else witN t n (step + 1) (upd g (furN g 8) (g (furN g 8) / 2))
def witG (σ : Sg) (h : Nat) (s : Int32) (p : Nat) : Int32 := absS (σ.2 1 h p - meanS σ s p)
def witS (σ : Sg) (h : Nat) (s t : Int32) : Int32 := witN t 56 0 (witG σ h s)
def ans_witness (σ : Sg) (h s t : Int32) : Int32 := if (ixB h σ.1.1 && setB s σ.1.1 && ixB t 100) = true then witS σ (ix h) s t else -2
theorem half_ok {x : Int32} (h : rD x 0 99) : x - (x + 1) / 2 = x / 2 := by
  unfold rD at h
  obtain ⟨k, hk⟩ : ∃ k : Nat, x.toInt = (k : Int) := ⟨_, (Int.toNat_of_nonneg h.1).symm⟩
  have e : x = nI k := nI_ofInt hk (by omega)
  subst e
  rw [nI_1, show (2 : Int32) = nI 2 from rfl, pk_div (by omega) (by decide) (by decide), pk_div (by omega) (by decide) (by decide), pk_sub (by omega)]
  congr 1
  omega
theorem half_rd {x : Int32} (h : rD x 0 99) : rD (x / 2) 0 99 := by
  unfold rD at *
  obtain ⟨k, hk⟩ : ∃ k : Nat, x.toInt = (k : Int) := ⟨_, (Int.toNat_of_nonneg h.1).symm⟩
  have e : x = nI k := nI_ofInt hk (by omega)
  subst e
  rw [show (2 : Int32) = nI 2 from rfl, pk_div (by omega) (by decide) (by decide), nI_toInt (by omega)]
  omega
set_option maxRecDepth 100000 in
theorem l_C_furthestOff {M : Mem} {g : Nat → Int32} (hg : ∀ p, p < 8 → mG M 7 p = g p)  : ∀ i, i ≤ 8 → 1 ≤ i → CW u_C_furthestOff (pI (nI (furN g 8)) M) 4 [some (.ref 0), some (.int (nI (furN g i))), some (.int (nI i))] [] M := by
  refine up_ind (fun i hi ih h1 => ?_)
  have hfl := furN_lt g i
  refine cw_iload_n d_C_furthestOff_4 rfl ?_
  refine cw_bipush (v := 8) d_C_furthestOff_5 (by decide) ?_
  refine cw_icmp_geN (i) (8) 33 rfl rfl (by omega) d_C_furthestOff_7 (by decide) (fun c_7 => ?_) (fun c_7 => ?_)
  · refine cw_iload_n d_C_furthestOff_33 rfl ?_
    refine cw_iret rfl d_C_furthestOff_34 ?_
    have ei : i = 8 := by omega
    subst ei
    exact ⟨rfl, rfl⟩
  · refine cw_aload_n d_C_furthestOff_10 rfl ?_
    refine cw_getR fl_C_58 so_C rfl d_C_furthestOff_11 ?_
    refine cw_iload_n d_C_furthestOff_14 rfl ?_
    refine cw_ialdN (i := i) sa_7 rfl (by omega) (by decide) d_C_furthestOff_15 ?_
    refine cw_top (hg i (by omega)) ?_
    refine cw_aload_n d_C_furthestOff_16 rfl ?_
    refine cw_getR fl_C_58 so_C rfl d_C_furthestOff_17 ?_
    refine cw_iload_n d_C_furthestOff_20 rfl ?_
    refine cw_ialdN (i := furN g i) sa_7 rfl (by omega) (by decide) d_C_furthestOff_21 ?_
    refine cw_top (hg (furN g i) (by omega)) ?_
    refine cw_icmp_le 27 d_C_furthestOff_22 (by decide) (fun c_22 => ?_) (fun c_22 => ?_)
    · have hs : furN g (i + 1) = furN g i := if_neg (i32_nlt.mpr c_22)
      refine cw_iincN (x := i) d_C_furthestOff_27 rfl rfl ?_
      refine cw_goto 4 d_C_furthestOff_30 (by decide) ?_
      exact cw_cast (by simp only [lset1, kl, hs]) rfl rfl (ih c_7 (by omega))
    · have hs : furN g (i + 1) = i := if_pos (i32_nle.mp c_22)
      refine cw_iload_n d_C_furthestOff_25 rfl ?_
      refine cw_istore_n d_C_furthestOff_26 rfl ?_
      refine cw_iincN (x := i) d_C_furthestOff_27 rfl rfl ?_
      refine cw_goto 4 d_C_furthestOff_30 (by decide) ?_
      exact cw_cast (by simp only [lset1, kl, hs]) rfl rfl (ih c_7 (by omega))
theorem furN_1 (g : Nat → Int32) : furN g 1 = 0 := by simp [furN]
set_option maxRecDepth 100000 in
theorem s_C_furthestOff {M : Mem} {g : Nat → Int32} (hg : ∀ p, p < 8 → mG M 7 p = g p)  : CS u_C_furthestOff [.ref 0] M (pI (nI (furN g 8)) M) := by
  refine cs_introF (L := [some (.ref 0), none, none]) (by decide +kernel) (fun ad q h => h) (fun ad => Nat.le_of_ble_eq_true rfl) ?_
  refine cw_iconst (v := 0) d_C_furthestOff_0 (by decide) ?_
  refine cw_istore_n d_C_furthestOff_1 rfl ?_
  refine cw_iconst (v := 1) d_C_furthestOff_2 (by decide) ?_
  refine cw_istore_n d_C_furthestOff_3 rfl ?_
  have hl := l_C_furthestOff hg 1 (by omega) (by omega)
  rw [furN_1] at hl
  exact hl
set_option maxRecDepth 100000 in
theorem l_C_witness2 {M : Mem} {σ : Sg} (hR : RC M σ) (hI : Iv σ) {h : Nat} {s t : Int32} (hh : h < σ.1.1) (hs : setB s σ.1.1 = true)  : ∀ (n k : Nat) (M' : Mem) (g : Nat → Int32) (o5 : Option Value), k + n = 56 → kp σ M M' → (∀ p, p < 8 → mG M' 7 p = g p) → (∀ p, p < 8 → rD (g p) 0 99) → CW u_C_witness (rK (witN t n k g) σ M) 78 [some (.ref 0), some (.int (nI h)), some (.int s), some (.int t), some (.int (nI k)), o5] [] M' := by
  obtain ⟨hn1, hn2, hn3⟩ := hI.n
  intro n
  induction n with
  | zero =>
    intro k M' g o5 hk hkp hg hr
    refine cw_iload d_C_witness_78 rfl ?_
    refine cw_bipush (v := 56) d_C_witness_80 (by decide) ?_
    refine cw_icmp_geN (k) (56) 132 rfl rfl (by omega) d_C_witness_82 (by decide) (fun c_82 => ?_) (fun c_82 => ?_)
    · refine cw_bipush (v := 56) d_C_witness_132 (by decide) ?_
      refine cw_iret rfl d_C_witness_134 ?_
      have ek : k = 56 := by omega
      subst ek
      exact ⟨rfl, hkp⟩
    · exact absurd c_82 (by omega)
  | succ n ih =>
    intro k M' g o5 hk hkp hg hr
    have hfl := furN_lt g 8
    have hl7 : ¬ live σ 7 := by unfold live; omega
    refine cw_iload d_C_witness_78 rfl ?_
    refine cw_bipush (v := 56) d_C_witness_80 (by decide) ?_
    refine cw_icmp_geN (k) (56) 132 rfl rfl (by omega) d_C_witness_82 (by decide) (fun c_82 => ?_) (fun c_82 => ?_)
    · exact absurd c_82 (by omega)
    · refine cw_aload_n d_C_witness_85 rfl ?_
      refine cw_virtP (s_C_furthestOff hg) rfl ml_C_280 so_C rfl rfl d_C_witness_86 ?_
      refine cw_istore d_C_witness_89 rfl ?_
      refine cw_aload_n d_C_witness_91 rfl ?_
      refine cw_getR fl_C_58 so_C rfl d_C_witness_92 ?_
      refine cw_iload d_C_witness_95 rfl ?_
      refine cw_ialdN (i := furN g 8) sa_7 rfl (by omega) (by decide) d_C_witness_97 ?_
      refine cw_top (hg (furN g 8) (by omega)) ?_
      refine cw_iload_n d_C_witness_98 rfl ?_
      refine cw_icmp_gt 105 d_C_witness_99 (by decide) (fun c_99 => ?_) (fun c_99 => ?_)
      · have hw : witN t (n + 1) k g = witN t n (k + 1) (upd g (furN g 8) (g (furN g 8) / 2)) := if_neg (i32_nle.mpr c_99)
        rw [hw]
        refine cw_aload_n d_C_witness_105 rfl ?_
        refine cw_getR fl_C_58 so_C rfl d_C_witness_106 ?_
        refine cw_iload d_C_witness_109 rfl ?_
        refine cw_dup2 d_C_witness_111 ?_
        refine cw_ialdN (i := furN g 8) sa_7 rfl (by omega) (by decide) d_C_witness_112 ?_
        refine cw_top (hg (furN g 8) (by omega)) ?_
        refine cw_aload_n d_C_witness_113 rfl ?_
        refine cw_getR fl_C_58 so_C rfl d_C_witness_114 ?_
        refine cw_iload d_C_witness_117 rfl ?_
        refine cw_ialdN (i := furN g 8) sa_7 rfl (by omega) (by decide) d_C_witness_119 ?_
        refine cw_top (hg (furN g 8) (by omega)) ?_
        refine cw_iconst (v := 1) d_C_witness_120 (by decide) ?_
        refine cw_iadd d_C_witness_121 ?_
        refine cw_iconst (v := 2) d_C_witness_122 (by decide) ?_
        refine cw_idiv d_C_witness_123 (by decide) ?_
        refine cw_isub d_C_witness_124 ?_
        refine cw_top (half_ok (hr (furN g 8) (by omega))) ?_
        refine cw_iastN (i := furN g 8) sa_7 rfl (by omega) (by decide) d_C_witness_125 ?_
        refine cw_iincN (x := k) d_C_witness_126 rfl rfl ?_
        refine cw_goto 78 d_C_witness_129 (by decide) ?_
        exact ih (k + 1) _ (upd g (furN g 8) (g (furN g 8) / 2)) _ (by omega) (hkp.tr (mS_kp hl7)) (fun p hp => by
          by_cases e : p = furN g 8
          · subst e; rw [mS_at]; simp [upd]
          · rw [mS_j e, hg p hp]; simp [upd, e]) (fun p hp => by
          by_cases e : p = furN g 8
          · subst e; simp only [upd, if_true]; exact half_rd (hr (furN g 8) (by omega))
          · simp only [upd, if_neg e]; exact hr p hp)
      · have hw : witN t (n + 1) k g = nI k := if_pos (i32_nlt.mp c_99)
        rw [hw]
        refine cw_iload d_C_witness_102 rfl ?_
        refine cw_iret rfl d_C_witness_104 ?_
        exact ⟨rfl, hkp⟩
set_option maxRecDepth 100000 in
theorem l_C_witness1 {M : Mem} {σ : Sg} (hR : RC M σ) (hI : Iv σ) {h : Nat} {s t : Int32} (hh : h < σ.1.1) (hs : setB s σ.1.1 = true)  : ∀ i, i ≤ 8 → CW u_C_witness (rK (witS σ h s t) σ M) 32 [some (.ref 0), some (.int (nI h)), some (.int s), some (.int t), some (.int (nI i)), none] [] (mRow M 7 i (witG σ h s)) := by
  obtain ⟨hn1, hn2, hn3⟩ := hI.n
  have hl7 : ¬ live σ 7 := by unfold live; omega
  refine up_ind (fun i hi ih => ?_)
  have hk1 : kp σ M (mRow M 7 i (witG σ h s)) := mRow_kp hl7
  have hR1 := hR.kp hI hk1
  refine cw_iload d_C_witness_32 rfl ?_
  refine cw_bipush (v := 8) d_C_witness_34 (by decide) ?_
  refine cw_icmp_geN (i) (8) 75 rfl rfl (by omega) d_C_witness_36 (by decide) (fun c_36 => ?_) (fun c_36 => ?_)
  · refine cw_iconst (v := 0) d_C_witness_75 (by decide) ?_
    refine cw_istore d_C_witness_76 rfl ?_
    have ei : i = 8 := by omega
    subst ei
    exact l_C_witness2 hR hI hh hs 56 0 _ (witG σ h s) _ (by omega) hk1 (fun p hp => mRow_in hp) (fun p hp => abs_rd (hI.2.2.2.1 h p) (meanS_rd hI hs p))
  · refine cw_aload_n d_C_witness_39 rfl ?_
    refine cw_getR fl_C_58 so_C rfl d_C_witness_40 ?_
    refine cw_iload d_C_witness_43 rfl ?_
    refine cw_aload_n d_C_witness_45 rfl ?_
    refine cw_getR fl_C_11 so_C rfl d_C_witness_46 ?_
    refine cw_iload_n d_C_witness_49 rfl ?_
    refine cw_aaldN (i := h) sr_1 rfl (by omega) (by decide) d_C_witness_50 ?_
    refine cw_getR fl_C_88 (so_He (h := h) (by omega)) rfl d_C_witness_51 ?_
    refine cw_iload d_C_witness_54 rfl ?_
    refine cw_ialdN (i := i) (sa_pl (h := h) (by omega)) rfl (by omega) (by decide) d_C_witness_56 ?_
    refine cw_top (hR1.pl (by omega) (by omega)) ?_
    refine cw_aload_n d_C_witness_57 rfl ?_
    refine cw_iload_n d_C_witness_58 rfl ?_
    refine cw_iload d_C_witness_59 rfl ?_
    refine cw_virtP (s_C_meanOf hR1 hI (p := i) (by omega) hs) rfl ml_C_117 so_C rfl rfl d_C_witness_61 ?_
    refine cw_isub d_C_witness_64 ?_
    refine cw_staticP (s_J_abs_I) rfl ml_C_277 rfl rfl d_C_witness_65 ?_
    refine cw_iastN (i := i) sa_7 rfl (by omega) (by decide) d_C_witness_68 ?_
    refine cw_iincN (x := i) d_C_witness_69 rfl rfl ?_
    refine cw_goto 32 d_C_witness_72 (by decide) ?_
    exact cw_cast (by simp only [lset1, kl]) rfl (mRow_s (f := (witG σ h s))) (ih c_36)
set_option maxRecDepth 100000 in
theorem c_witness {M : Mem} {σ : Sg} (hR : RC M σ) (hI : Iv σ) {x s t : Int32} : CS u_C_witness [.ref 0, .int x, .int s, .int t] M (rC (ans_witness σ x s t) σ M) := by
  obtain ⟨hn1, hn2, hn3⟩ := hI.n
  refine cs_introF (L := [some (.ref 0), some (.int x), some (.int s), some (.int t), none, none]) (by decide +kernel) (fun ad q h => h) (fun ad => Nat.le_of_ble_eq_true rfl) ?_
  refine cw_aload_n d_C_witness_0 rfl ?_
  refine cw_iload_n d_C_witness_1 rfl ?_
  refine cw_virtP (s_C_isHead hR hI) rfl ml_C_78 so_C rfl rfl d_C_witness_2 ?_
  refine cw_bif_eq 26 d_C_witness_5 (by decide) (fun c_5 => ?_) (fun c_5 => ?_)
  · refine cw_bipush (v := (-2)) d_C_witness_26 (by decide) ?_
    refine cw_iret rfl d_C_witness_28 ?_
    exact ⟨by simp [ans_witness, c_5], hR, kC.rf⟩
  · obtain ⟨h, hhh, e_h⟩ := ixB_t c_5 (by omega)
    subst e_h
    refine cw_aload_n d_C_witness_8 rfl ?_
    refine cw_iload_n d_C_witness_9 rfl ?_
    refine cw_virtP (s_C_isSet hR hI) rfl ml_C_114 so_C rfl rfl d_C_witness_10 ?_
    refine cw_bif_eq 26 d_C_witness_13 (by decide) (fun c_13 => ?_) (fun c_13 => ?_)
    · refine cw_bipush (v := (-2)) d_C_witness_26 (by decide) ?_
      refine cw_iret rfl d_C_witness_28 ?_
      exact ⟨by simp [ans_witness, c_5, c_13], hR, kC.rf⟩
    · refine cw_iload_n d_C_witness_16 rfl ?_
      refine cw_if_lt 26 d_C_witness_17 (by decide) (fun c_17 => ?_) (fun c_17 => ?_)
      · have hb : ixB t 100 = false := ixB_lt c_17
        refine cw_bipush (v := (-2)) d_C_witness_26 (by decide) ?_
        refine cw_iret rfl d_C_witness_28 ?_
        exact ⟨by simp [ans_witness, c_5, c_13, hb], hR, kC.rf⟩
      · refine cw_iload_n d_C_witness_20 rfl ?_
        refine cw_bipush (v := 99) d_C_witness_21 (by decide) ?_
        refine cw_icmp_le 29 d_C_witness_23 (by decide) (fun c_23 => ?_) (fun c_23 => ?_)
        · have hb : ixB t 100 = true := ixB_le (n := 99) c_17 c_23 (by decide)
          refine cw_iconst (v := 0) d_C_witness_29 (by decide) ?_
          refine cw_istore d_C_witness_30 rfl ?_
          have hans : ans_witness σ (nI h) s t = witS σ h s t := by simp [ans_witness, c_5, c_13, hb, ix_nI (show h < 2 ^ 31 by omega)]
          rw [hans]
          refine cw_post (fun v M2 hq => ?_) (cw_mem mRow_0.symm (l_C_witness1 hR hI (h := h) (s := s) (t := t) (by omega) c_13 0 (by omega)))
          obtain ⟨r, hv, hr, hk2⟩ := hq
          exact ⟨r, hv, hr, hR.kp hI hk2, hk2.kC⟩
        · have hb : ixB t 100 = false := ixB_gt (n := 99) c_23 (by decide)
          refine cw_bipush (v := (-2)) d_C_witness_26 (by decide) ?_
          refine cw_iret rfl d_C_witness_28 ?_
          exact ⟨by simp [ans_witness, c_5, c_13, hb], hR, kC.rf⟩
def minUp (sel : Nat → Bool) (f : Nat → Int32) : Nat → Int32 × Int32
  | 0 => (-1, 0)
  | i + 1 => if sel i = true then (if (minUp sel f i).1 = -1 ∨ f i < (minUp sel f i).2 then (nI i, f i) else minUp sel f i) else minUp sel f i
def plaF (σ : Sg) (s : Int32) (h : Nat) : Int32 := sumUp (fun p => absS (σ.2 1 h p - meanS σ s p)) 8
def plaS (σ : Sg) (s : Int32) : Int32 := (minUp (bit s) (plaF σ s) σ.1.1).1
def ans_plainest (σ : Sg) (s : Int32) : Int32 := if setB s σ.1.1 = true then plaS σ s else -2
set_option maxRecDepth 100000 in
theorem l_C_plainest {M : Mem} {σ : Sg} (hR : RC M σ) (hI : Iv σ) {s : Int32} (hm : ∀ p, p < 8 → mG M 6 p = meanS σ s p)  : ∀ i, i ≤ σ.1.1 → ∀ o5, CW u_C_plainest (pI (plaS σ s) M) 27 [some (.ref 0), some (.int s), some (.int (minUp (bit s) (plaF σ s) i).1), some (.int (minUp (bit s) (plaF σ s) i).2), some (.int (nI i)), o5] [] M := by
  obtain ⟨hn1, hn2, hn3⟩ := hI.n
  refine up_ind (fun i hi ih o5 => ?_)
  refine cw_iload d_C_plainest_27 rfl ?_
  refine cw_aload_n d_C_plainest_29 rfl ?_
  refine cw_getI fl_C_75 so_C rfl d_C_plainest_30 ?_
  refine cw_icmp_geN (i) (σ.1.1) 85 rfl hR.n1 (by omega) d_C_plainest_33 (by decide) (fun c_33 => ?_) (fun c_33 => ?_)
  · refine cw_iload_n d_C_plainest_85 rfl ?_
    refine cw_iret rfl d_C_plainest_86 ?_
    have ei : i = σ.1.1 := by omega
    subst ei
    exact ⟨rfl, rfl⟩
  · refine cw_iload_n d_C_plainest_36 rfl ?_
    refine cw_iload d_C_plainest_37 rfl ?_
    refine cw_ishr d_C_plainest_39 ?_
    refine cw_iconst (v := 1) d_C_plainest_40 (by decide) ?_
    refine cw_iand d_C_plainest_41 ?_
    refine cw_iconst (v := 1) d_C_plainest_42 (by decide) ?_
    refine cw_icmp_ne 79 d_C_plainest_43 (by decide) (fun c_43 => ?_) (fun c_43 => ?_)
    · have hs : minUp (bit s) (plaF σ s) (i + 1) = minUp (bit s) (plaF σ s) i := if_neg (Bool.eq_false_iff.mp (decide_eq_false c_43))
      refine cw_iincN (x := i) d_C_plainest_79 rfl rfl ?_
      refine cw_goto 27 d_C_plainest_82 (by decide) ?_
      exact cw_cast (by simp only [lset1, kl, hs]; rfl) rfl rfl (ih c_33 _)
    · have hs0 : minUp (bit s) (plaF σ s) (i + 1) = _ := if_pos (decide_eq_true c_43)
      refine cw_aload_n d_C_plainest_46 rfl ?_
      refine cw_getR fl_C_11 so_C rfl d_C_plainest_47 ?_
      refine cw_iload d_C_plainest_50 rfl ?_
      refine cw_aaldN (i := i) sr_1 rfl (by omega) (by decide) d_C_plainest_52 ?_
      refine cw_aload_n d_C_plainest_53 rfl ?_
      refine cw_getR fl_C_54 so_C rfl d_C_plainest_54 ?_
      refine cw_virtP (s_He_offFrom (h := i) (r := 6) (by omega) sa_6) rfl ml_C_284 (so_He (h := i) (by omega)) rfl rfl d_C_plainest_57 ?_
      refine cw_top (y := plaF σ s i) (sumUp_congr (fun p hp => by rw [hR.pl (by omega) hp, hm p hp])) ?_
      refine cw_istore d_C_plainest_60 rfl ?_
      refine cw_iload_n d_C_plainest_62 rfl ?_
      refine cw_iconst (v := (-1)) d_C_plainest_63 (by decide) ?_
      refine cw_icmp_eq 73 d_C_plainest_64 (by decide) (fun c_64 => ?_) (fun c_64 => ?_)
      · have hs : minUp (bit s) (plaF σ s) (i + 1) = (nI i, plaF σ s i) := hs0.trans (if_pos (Or.inl c_64))
        refine cw_iload d_C_plainest_73 rfl ?_
        refine cw_istore_n d_C_plainest_75 rfl ?_
        refine cw_iload d_C_plainest_76 rfl ?_
        refine cw_istore_n d_C_plainest_78 rfl ?_
        refine cw_iincN (x := i) d_C_plainest_79 rfl rfl ?_
        refine cw_goto 27 d_C_plainest_82 (by decide) ?_
        exact cw_cast (by simp only [lset1, kl, hs]; rfl) rfl rfl (ih c_33 _)
      · refine cw_iload d_C_plainest_67 rfl ?_
        refine cw_iload_n d_C_plainest_69 rfl ?_
        refine cw_icmp_ge 79 d_C_plainest_70 (by decide) (fun c_70 => ?_) (fun c_70 => ?_)
        · have hs : minUp (bit s) (plaF σ s) (i + 1) = minUp (bit s) (plaF σ s) i := hs0.trans (if_neg (fun q => q.elim c_64 (fun z => absurd c_70 (i32_nle.mpr z))))
          refine cw_iincN (x := i) d_C_plainest_79 rfl rfl ?_
          refine cw_goto 27 d_C_plainest_82 (by decide) ?_
          exact cw_cast (by simp only [lset1, kl, hs]; rfl) rfl rfl (ih c_33 _)
        · have hs : minUp (bit s) (plaF σ s) (i + 1) = (nI i, plaF σ s i) := hs0.trans (if_pos (Or.inr (i32_nle.mp c_70)))
          refine cw_iload d_C_plainest_73 rfl ?_
          refine cw_istore_n d_C_plainest_75 rfl ?_
          refine cw_iload d_C_plainest_76 rfl ?_
          refine cw_istore_n d_C_plainest_78 rfl ?_
          refine cw_iincN (x := i) d_C_plainest_79 rfl rfl ?_
          refine cw_goto 27 d_C_plainest_82 (by decide) ?_
          exact cw_cast (by simp only [lset1, kl, hs]; rfl) rfl rfl (ih c_33 _)
set_option maxRecDepth 100000 in
theorem c_plainest {M : Mem} {σ : Sg} (hR : RC M σ) (hI : Iv σ) {s : Int32} : CS u_C_plainest [.ref 0, .int s] M (rC (ans_plainest σ s) σ M) := by
  obtain ⟨hn1, hn2, hn3⟩ := hI.n
  have hl6 : ¬ live σ 6 := by unfold live; omega
  refine cs_introF (L := [some (.ref 0), some (.int s), none, none, none, none]) (by decide +kernel) (fun ad q h => h) (fun ad => Nat.le_of_ble_eq_true rfl) ?_
  refine cw_aload_n d_C_plainest_0 rfl ?_
  refine cw_iload_n d_C_plainest_1 rfl ?_
  refine cw_virtP (s_C_isSet hR hI) rfl ml_C_114 so_C rfl rfl d_C_plainest_2 ?_
  refine cw_bif_ne 11 d_C_plainest_5 (by decide) (fun c_5 => ?_) (fun c_5 => ?_)
  · refine cw_aload_n d_C_plainest_11 rfl ?_
    refine cw_iload_n d_C_plainest_12 rfl ?_
    refine cw_aload_n d_C_plainest_13 rfl ?_
    refine cw_getR fl_C_54 so_C rfl d_C_plainest_14 ?_
    refine cw_virtV (s_C_fillMean hR hI c_5 sa_6 hl6) rfl ml_C_152 so_C rfl rfl d_C_plainest_17 (fun M_17 q_17 => ?_)
    subst q_17
    have hk1 : kp σ M (mRow M 6 8 (meanS σ s)) := mRow_kp hl6
    refine cw_iconst (v := (-1)) d_C_plainest_20 (by decide) ?_
    refine cw_istore_n d_C_plainest_21 rfl ?_
    refine cw_iconst (v := 0) d_C_plainest_22 (by decide) ?_
    refine cw_istore_n d_C_plainest_23 rfl ?_
    refine cw_iconst (v := 0) d_C_plainest_24 (by decide) ?_
    refine cw_istore d_C_plainest_25 rfl ?_
    have hans : ans_plainest σ s = plaS σ s := if_pos c_5
    rw [hans]
    refine cw_post (fun v M2 hq => ?_) (l_C_plainest (hR.kp hI hk1) hI (s := s) (fun p hp => mRow_in hp) 0 (by omega) _)
    obtain ⟨r, hv, hr, rfl⟩ := hq
    exact ⟨r, hv, hr, hR.kp hI hk1, hk1.kC⟩
  · refine cw_bipush (v := (-2)) d_C_plainest_8 (by decide) ?_
    refine cw_iret rfl d_C_plainest_10 ?_
    exact ⟨by simp [ans_plainest, c_5], hR, kC.rf⟩
