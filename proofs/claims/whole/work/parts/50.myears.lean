/-! ===== the reference: years, back, near, witness, plainest ===== -/
def sI (f : Nat → Int) : Nat → Int
  | 0 => 0
  | n + 1 => sI f n + f n
theorem sumJ_I {f : Nat → Int64} : ∀ n, n ≤ 30 → (∀ i, i < n → (f i).toInt.natAbs ≤ 700000) → (sumUpJ f n).toInt = sI (fun i => (f i).toInt) n ∧ (sumUpJ f n).toInt.natAbs ≤ n * 700000 := by
  intro n
  induction n with
  | zero => exact fun _ _ => ⟨rfl, Nat.le_refl 0⟩
  | succ n ih =>
    intro hn h
    obtain ⟨h1, h3⟩ := ih (by omega) (fun i hi => h i (by omega))
    have h2 := h n (by omega)
    have e : (sumUpJ f (n + 1)).toInt = (sumUpJ f n).toInt + (f n).toInt := by
      simp only [sumUpJ]
      rw [Int64.toInt_add, bm64 (by omega) (by omega)]
    refine ⟨?_, by omega⟩
    rw [e, h1]
    rfl
theorem sq_nn (x : Int) : 0 ≤ x * x := by
  have := Int.natAbs_mul_self (a := x)
  omega
theorem cau {c y q : Nat → Int} : ∀ n, (∀ i, i < n → (c i = 0 ∧ y i = 0 ∧ q i = 0) ∨ (c i = 1 ∧ q i = y i * y i)) → 0 ≤ sI c n * sI q n - sI y n * sI y n ∧ ∀ z, 0 ≤ sI q n + sI c n * (z * z) - 2 * (sI y n * z) := by
  intro n
  induction n with
  | zero => exact fun _ => ⟨by simp [sI], fun z => by simp [sI]⟩
  | succ n ih =>
    intro h
    obtain ⟨h1, h2⟩ := ih (fun i hi => h i (by omega))
    rcases h n (by omega) with ⟨a, b, d⟩ | ⟨a, d⟩
    · simp only [sI, a, b, d, Int.add_zero]
      exact ⟨h1, h2⟩
    · simp only [sI, a, d]
      generalize sI c n = C at *
      generalize sI y n = Y at *
      generalize sI q n = Q at *
      generalize y n = w at *
      refine ⟨?_, fun z => ?_⟩
      · have e : (C + 1) * (Q + w * w) - (Y + w) * (Y + w) = (C * Q - Y * Y) + (Q + C * (w * w) - 2 * (Y * w)) := by grind
        rw [e]
        have := h2 w
        omega
      · have e : Q + w * w + (C + 1) * (z * z) - 2 * ((Y + w) * z) = (Q + C * (z * z) - 2 * (Y * z)) + (w - z) * (w - z) := by grind
        rw [e]
        have := h2 z
        have := sq_nn (w - z)
        omega
theorem mul64 {a b : Int32} (ha : rD a 0 99) (hb : rD b (-7000) 7000) : (a * b).toInt64 = a.toInt64 * b.toInt64 ∧ (a.toInt64 * b.toInt64).toInt = a.toInt * b.toInt ∧ (a.toInt * b.toInt).natAbs ≤ 693000 := by
  unfold rD at ha hb
  have h : (a.toInt * b.toInt).natAbs ≤ 99 * 7000 := mulB (by omega) (by omega)
  have e2 : (a.toInt64 * b.toInt64).toInt = a.toInt * b.toInt := by rw [Int64.toInt_mul, Int32.toInt_toInt64, Int32.toInt_toInt64, bm64 (by omega) (by omega)]
  refine ⟨Int64.toInt_inj.mp ?_, e2, h⟩
  rw [e2, Int32.toInt_toInt64, Int32.toInt_mul, Int.bmod_eq_of_le (by omega) (by omega)]
theorem gr_at {σ : Sg} (hI : Iv σ) {h p d : Nat} (hd : d < σ.1.2.1) : (gN σ h p d).toInt.natAbs ≤ 700000 ∧ (gY σ h p d).toInt.natAbs ≤ 700000 ∧ (gQ σ h p d).toInt.natAbs ≤ 700000 ∧ (gL σ h p d).toInt.natAbs ≤ 700000 ∧ (gP σ h p d).toInt.natAbs ≤ 700000 ∧ (((gN σ h p d).toInt = 0 ∧ (gY σ h p d).toInt = 0 ∧ (gQ σ h p d).toInt = 0) ∨ ((gN σ h p d).toInt = 1 ∧ (gQ σ h p d).toInt = (gY σ h p d).toInt * (gY σ h p d).toInt)) := by
  obtain ⟨h1, h2, h3, h4, h5, h6, h7, h8, h9, h10⟩ := hI
  have hy := (h8 d hd).2.1
  have hl := ((h8 d hd).2.2 p).1
  unfold gN gY gQ gL gP
  by_cases q : gSel σ h p d = true
  · simp only [if_pos q]
    have hl := hl.resolve_left (of_decide_eq_true q).2
    obtain ⟨a1, a2, a3⟩ := mul64 hy (b := σ.2 6 d 0) ⟨by have := hy.1; omega, by have := hy.2; omega⟩
    obtain ⟨b1, b2, b3⟩ := mul64 hy hl
    rw [a1, b1, a2, b2, Int32.toInt_toInt64, Int32.toInt_toInt64]
    unfold rD at hy hl
    exact ⟨by decide, by omega, by omega, by omega, by omega, Or.inr ⟨rfl, rfl⟩⟩
  · simp only [if_neg q]
    exact ⟨by decide, by decide, by decide, by decide, by decide, Or.inl ⟨rfl, rfl, rfl⟩⟩
theorem grw_ok {σ : Sg} (hI : Iv σ) (h p : Nat) : ∃ a b : Nat, absJ (gA σ h p) = nL a ∧ gB σ h p = nL b ∧ a < 2 ^ 63 ∧ b < 2 ^ 49 := by
  have hn := hI.2.1
  obtain ⟨n1, n2⟩ := sumJ_I (f := gN σ h p) σ.1.2.1 hn (fun i hi => (gr_at hI hi).1)
  obtain ⟨y1, y2⟩ := sumJ_I (f := gY σ h p) σ.1.2.1 hn (fun i hi => (gr_at hI hi).2.1)
  obtain ⟨q1, q2⟩ := sumJ_I (f := gQ σ h p) σ.1.2.1 hn (fun i hi => (gr_at hI hi).2.2.1)
  obtain ⟨l1, l2⟩ := sumJ_I (f := gL σ h p) σ.1.2.1 hn (fun i hi => (gr_at hI hi).2.2.2.1)
  obtain ⟨p1, p2⟩ := sumJ_I (f := gP σ h p) σ.1.2.1 hn (fun i hi => (gr_at hI hi).2.2.2.2.1)
  have hc := (cau (c := fun i => (gN σ h p i).toInt) (y := fun i => (gY σ h p i).toInt) (q := fun i => (gQ σ h p i).toInt) σ.1.2.1 (fun i hi => (gr_at hI hi).2.2.2.2.2)).1
  rw [← n1, ← y1, ← q1] at hc
  unfold gA gB
  generalize sumUpJ (gN σ h p) σ.1.2.1 = N at *
  generalize sumUpJ (gY σ h p) σ.1.2.1 = Y at *
  generalize sumUpJ (gQ σ h p) σ.1.2.1 = Q at *
  generalize sumUpJ (gL σ h p) σ.1.2.1 = L at *
  generalize sumUpJ (gP σ h p) σ.1.2.1 = P at *
  have m1 : (N.toInt * Q.toInt).natAbs ≤ 21000000 * 21000000 := mulB (by omega) (by omega)
  have m2 : (Y.toInt * Y.toInt).natAbs ≤ 21000000 * 21000000 := mulB (by omega) (by omega)
  have m3 : (N.toInt * P.toInt).natAbs ≤ 21000000 * 21000000 := mulB (by omega) (by omega)
  have m4 : (Y.toInt * L.toInt).natAbs ≤ 21000000 * 21000000 := mulB (by omega) (by omega)
  have m5 := sq_nn Y.toInt
  have e1 : (N * Q).toInt = N.toInt * Q.toInt := by rw [Int64.toInt_mul, bm64 (by omega) (by omega)]
  have e2 : (Y * Y).toInt = Y.toInt * Y.toInt := by rw [Int64.toInt_mul, bm64 (by omega) (by omega)]
  have e3 : (N * P).toInt = N.toInt * P.toInt := by rw [Int64.toInt_mul, bm64 (by omega) (by omega)]
  have e4 : (Y * L).toInt = Y.toInt * L.toInt := by rw [Int64.toInt_mul, bm64 (by omega) (by omega)]
  have e5 : (N * Q - Y * Y).toInt = N.toInt * Q.toInt - Y.toInt * Y.toInt := by rw [Int64.toInt_sub, e1, e2, bm64 (by omega) (by omega)]
  have e6 : (N * P - Y * L).toInt = N.toInt * P.toInt - Y.toInt * L.toInt := by rw [Int64.toInt_sub, e3, e4, bm64 (by omega) (by omega)]
  refine ⟨(N * P - Y * L).toInt.natAbs, (N * Q - Y * Y).toInt.toNat, ?_, nL_of (by omega), by omega, by omega⟩
  refine nL_of ?_
  unfold absJ
  have z : (0 : Int64).toInt = 0 := rfl
  split
  · rename_i q
    rw [i64_le, z] at q
    omega
  · rename_i q
    rw [i64_nle, i64_lt, z] at q
    rw [Int64.toInt_neg, bm64 (by omega) (by omega)]
    omega
set_option maxRecDepth 100000 in
theorem l_M_grows {M : Mem} {σ : Sg} (hR : RM M σ) (hI : Iv σ) {h p : Nat} {w : Int32} (hh : h < σ.1.1) (hp : p < 8)  : ∀ i, i ≤ σ.1.2.1 → ∀ o15 o16, CW u_M_grows (rMJ (growS σ h p w) σ M) 46 [some (.ref 1000), some (.int (nI h)), some (.int (nI p)), some (.int w), some (.long (sumUpJ (gN σ h p) i)), none, some (.long (sumUpJ (gY σ h p) i)), none, some (.long (sumUpJ (gL σ h p) i)), none, some (.long (sumUpJ (gP σ h p) i)), none, some (.long (sumUpJ (gQ σ h p) i)), none, some (.int (nI i)), o15, o16, none] [] M := by
  obtain ⟨hn1, hn2, hn3⟩ := hI.n
  refine up_ind (fun i hi ih o15 o16 => ?_)
  refine cw_iload d_M_grows_46 rfl ?_
  refine cw_aload_n d_M_grows_48 rfl ?_
  refine cw_getI fl_M_157 so_M rfl d_M_grows_49 ?_
  refine cw_icmp_geN (i) (σ.1.2.1) 146 rfl hR.n2 (by omega) d_M_grows_52 (by decide) (fun c_52 => ?_) (fun c_52 => ?_)
  · have ei : i = σ.1.2.1 := by omega
    subst ei
    refine cw_lload d_M_grows_146 rfl ?_
    refine cw_lload d_M_grows_148 rfl ?_
    refine cw_lmul d_M_grows_150 ?_
    refine cw_lload d_M_grows_151 rfl ?_
    refine cw_lload d_M_grows_153 rfl ?_
    refine cw_lmul d_M_grows_155 ?_
    refine cw_lsub d_M_grows_156 ?_
    refine cw_lstore d_M_grows_157 rfl ?_
    refine cw_lload d_M_grows_159 rfl ?_
    refine cw_lconst (v := 0) d_M_grows_161 (by decide) ?_
    refine cw_lcmp d_M_grows_162 ?_
    refine cw_if_ne 174 d_M_grows_163 (by decide) (fun c_163 => ?_) (fun c_163 => ?_)
    · have hz : ¬ gB σ h p = 0 := fun z => c_163 (lgc_eq.mpr z)
      obtain ⟨a, b, ga1, ga2, ga3, ga4⟩ := grw_ok hI h p
      have hb0 : ¬ b = 0 := fun z => hz (by rw [ga2, z]; rfl)
      have hgs : growS σ h p w = finJ (gA σ h p) (nL b) w (gcdJ 100 (absJ (gA σ h p)) (nL b)) := (if_neg hz).trans (by rw [ga2])
      refine cw_lload d_M_grows_174 rfl ?_
      refine cw_lload d_M_grows_176 rfl ?_
      refine cw_lmul d_M_grows_178 ?_
      refine cw_lload d_M_grows_179 rfl ?_
      refine cw_lload d_M_grows_181 rfl ?_
      refine cw_lmul d_M_grows_183 ?_
      refine cw_lsub d_M_grows_184 ?_
      refine cw_lload d_M_grows_185 rfl ?_
      refine cw_topJ (show _ = nL b from ga2) ?_
      refine cw_iload_n d_M_grows_187 rfl ?_
      refine cw_staticPJ (s_M_part (a := a) (b := b) ga1 ga3 (by omega) ga4) rfl ml_M_230 rfl rfl d_M_grows_188 ?_
      refine cw_lret rfl d_M_grows_191 ?_
      exact ⟨hgs.symm, hR, kM.rf⟩
    · have hz : gB σ h p = 0 := lgc_eq.mp c_163
      refine cw_bipush (v := (-3)) d_M_grows_166 (by decide) ?_
      refine cw_staticPJ (s_M_no) rfl ml_M_214 rfl rfl d_M_grows_168 ?_
      refine cw_topJ (y := -9223372036854775805) (by decide) ?_
      refine cw_goto 191 d_M_grows_171 (by decide) ?_
      refine cw_lret rfl d_M_grows_191 ?_
      exact ⟨(if_pos hz).symm, hR, kM.rf⟩
  · have hy9 := (hI.2.2.2.2.2.2.2.1 i c_52).2.1
    have hl9 := ((hI.2.2.2.2.2.2.2.1 i c_52).2.2 p).1
    refine cw_aload_n d_M_grows_55 rfl ?_
    refine cw_getR fl_M_49 so_M rfl d_M_grows_56 ?_
    refine cw_bipush (v := 8) d_M_grows_59 (by decide) ?_
    refine cw_iload d_M_grows_61 rfl ?_
    refine cw_imul d_M_grows_63 ?_
    refine cw_iload_n d_M_grows_64 rfl ?_
    refine cw_iadd d_M_grows_65 ?_
    refine cw_ialdN (i := (8 * i) + p) sm_lines (nAdd (nMul rfl rfl) rfl) (by omega) (by decide) d_M_grows_66 ?_
    refine cw_top (hR.li c_52 hp) ?_
    refine cw_istore d_M_grows_67 rfl ?_
    refine cw_aload_n d_M_grows_69 rfl ?_
    refine cw_getR fl_M_37 so_M rfl d_M_grows_70 ?_
    refine cw_iload d_M_grows_73 rfl ?_
    refine cw_ialdN (i := i) sm_drawnHead rfl (by omega) (by decide) d_M_grows_75 ?_
    refine cw_top (hR.dh c_52) ?_
    refine cw_iload_n d_M_grows_76 rfl ?_
    refine cw_icmp_ne 140 d_M_grows_77 (by decide) (fun c_77 => ?_) (fun c_77 => ?_)
    · refine cw_iincN (x := i) d_M_grows_140 rfl rfl ?_
      refine cw_goto 46 d_M_grows_143 (by decide) ?_
      have hsel : ¬ gSel σ h p i = true := fun q => c_77 (of_decide_eq_true q).1
      have e_N : (sumUpJ (gN σ h p) (i + 1)) = (sumUpJ (gN σ h p) i) := (congrArg ((sumUpJ (gN σ h p) i) + ·) (if_neg hsel)).trans (Int64.add_zero _)
      have e_Y : (sumUpJ (gY σ h p) (i + 1)) = (sumUpJ (gY σ h p) i) := (congrArg ((sumUpJ (gY σ h p) i) + ·) (if_neg hsel)).trans (Int64.add_zero _)
      have e_L : (sumUpJ (gL σ h p) (i + 1)) = (sumUpJ (gL σ h p) i) := (congrArg ((sumUpJ (gL σ h p) i) + ·) (if_neg hsel)).trans (Int64.add_zero _)
      have e_P : (sumUpJ (gP σ h p) (i + 1)) = (sumUpJ (gP σ h p) i) := (congrArg ((sumUpJ (gP σ h p) i) + ·) (if_neg hsel)).trans (Int64.add_zero _)
      have e_Q : (sumUpJ (gQ σ h p) (i + 1)) = (sumUpJ (gQ σ h p) i) := (congrArg ((sumUpJ (gQ σ h p) i) + ·) (if_neg hsel)).trans (Int64.add_zero _)
      exact cw_cast (by rw [e_N, e_Y, e_L, e_P, e_Q]; rfl) rfl rfl (ih c_52 _ _)
    · refine cw_iload d_M_grows_80 rfl ?_
      refine cw_sipush (v := (-9999)) d_M_grows_82 (by decide) ?_
      refine cw_icmp_eq 140 d_M_grows_85 (by decide) (fun c_85 => ?_) (fun c_85 => ?_)
      · refine cw_iincN (x := i) d_M_grows_140 rfl rfl ?_
        refine cw_goto 46 d_M_grows_143 (by decide) ?_
        have hsel : ¬ gSel σ h p i = true := fun q => (of_decide_eq_true q).2 c_85
        have e_N : (sumUpJ (gN σ h p) (i + 1)) = (sumUpJ (gN σ h p) i) := (congrArg ((sumUpJ (gN σ h p) i) + ·) (if_neg hsel)).trans (Int64.add_zero _)
        have e_Y : (sumUpJ (gY σ h p) (i + 1)) = (sumUpJ (gY σ h p) i) := (congrArg ((sumUpJ (gY σ h p) i) + ·) (if_neg hsel)).trans (Int64.add_zero _)
        have e_L : (sumUpJ (gL σ h p) (i + 1)) = (sumUpJ (gL σ h p) i) := (congrArg ((sumUpJ (gL σ h p) i) + ·) (if_neg hsel)).trans (Int64.add_zero _)
        have e_P : (sumUpJ (gP σ h p) (i + 1)) = (sumUpJ (gP σ h p) i) := (congrArg ((sumUpJ (gP σ h p) i) + ·) (if_neg hsel)).trans (Int64.add_zero _)
        have e_Q : (sumUpJ (gQ σ h p) (i + 1)) = (sumUpJ (gQ σ h p) i) := (congrArg ((sumUpJ (gQ σ h p) i) + ·) (if_neg hsel)).trans (Int64.add_zero _)
        exact cw_cast (by rw [e_N, e_Y, e_L, e_P, e_Q]; rfl) rfl rfl (ih c_52 _ _)
      · refine cw_aload_n d_M_grows_88 rfl ?_
        refine cw_getR fl_M_40 so_M rfl d_M_grows_89 ?_
        refine cw_iload d_M_grows_92 rfl ?_
        refine cw_ialdN (i := i) sm_drawnYear rfl (by omega) (by decide) d_M_grows_94 ?_
        refine cw_top (hR.dy c_52) ?_
        refine cw_i2l d_M_grows_95 ?_
        refine cw_lstore d_M_grows_96 rfl ?_
        refine cw_lload d_M_grows_98 rfl ?_
        refine cw_lconst (v := 1) d_M_grows_100 (by decide) ?_
        refine cw_ladd d_M_grows_101 ?_
        refine cw_lstore d_M_grows_102 rfl ?_
        refine cw_lload d_M_grows_104 rfl ?_
        refine cw_lload d_M_grows_106 rfl ?_
        refine cw_ladd d_M_grows_108 ?_
        refine cw_lstore d_M_grows_109 rfl ?_
        refine cw_lload d_M_grows_111 rfl ?_
        refine cw_iload d_M_grows_113 rfl ?_
        refine cw_i2l d_M_grows_115 ?_
        refine cw_ladd d_M_grows_116 ?_
        refine cw_lstore d_M_grows_117 rfl ?_
        refine cw_lload d_M_grows_119 rfl ?_
        refine cw_lload d_M_grows_121 rfl ?_
        refine cw_iload d_M_grows_123 rfl ?_
        refine cw_i2l d_M_grows_125 ?_
        refine cw_lmul d_M_grows_126 ?_
        refine cw_ladd d_M_grows_127 ?_
        refine cw_lstore d_M_grows_128 rfl ?_
        refine cw_lload d_M_grows_130 rfl ?_
        refine cw_lload d_M_grows_132 rfl ?_
        refine cw_lload d_M_grows_134 rfl ?_
        refine cw_lmul d_M_grows_136 ?_
        refine cw_ladd d_M_grows_137 ?_
        refine cw_lstore d_M_grows_138 rfl ?_
        refine cw_iincN (x := i) d_M_grows_140 rfl rfl ?_
        refine cw_goto 46 d_M_grows_143 (by decide) ?_
        have hsel : gSel σ h p i = true := decide_eq_true ⟨c_77, c_85⟩
        have hl9 := hl9.resolve_left c_85
        obtain ⟨a1, a2, a3⟩ := mul64 hy9 (b := σ.2 6 i 0) ⟨by have := hy9.1; omega, by have := hy9.2; omega⟩
        obtain ⟨b1, b2, b3⟩ := mul64 hy9 hl9
        have e_N : (sumUpJ (gN σ h p) (i + 1)) = (sumUpJ (gN σ h p) i) + 1 := congrArg ((sumUpJ (gN σ h p) i) + ·) ((if_pos hsel))
        have e_Y : (sumUpJ (gY σ h p) (i + 1)) = (sumUpJ (gY σ h p) i) + (σ.2 6 i 0).toInt64 := congrArg ((sumUpJ (gY σ h p) i) + ·) ((if_pos hsel))
        have e_L : (sumUpJ (gL σ h p) (i + 1)) = (sumUpJ (gL σ h p) i) + (σ.2 9 i p).toInt64 := congrArg ((sumUpJ (gL σ h p) i) + ·) ((if_pos hsel))
        have e_P : (sumUpJ (gP σ h p) (i + 1)) = (sumUpJ (gP σ h p) i) + (σ.2 6 i 0).toInt64 * (σ.2 9 i p).toInt64 := congrArg ((sumUpJ (gP σ h p) i) + ·) ((if_pos hsel).trans b1)
        have e_Q : (sumUpJ (gQ σ h p) (i + 1)) = (sumUpJ (gQ σ h p) i) + (σ.2 6 i 0).toInt64 * (σ.2 6 i 0).toInt64 := congrArg ((sumUpJ (gQ σ h p) i) + ·) ((if_pos hsel).trans a1)
        exact cw_cast (by rw [e_N, e_Y, e_L, e_P, e_Q]; rfl) rfl rfl (ih c_52 _ _)
set_option maxRecDepth 100000 in
theorem m_grows {M : Mem} {σ : Sg} (hR : RM M σ) (hI : Iv σ) {x y w : Int32} : CS u_M_grows [.ref 1000, .int x, .int y, .int w] M (rMJ (ans_grows σ x y w) σ M) := by
  obtain ⟨hn1, hn2, hn3⟩ := hI.n
  refine cs_introF (L := [some (.ref 1000), some (.int x), some (.int y), some (.int w), none, none, none, none, none, none, none, none, none, none, none, none, none, none]) (by decide +kernel) (fun ad q h => h) (fun ad => Nat.le_of_ble_eq_true rfl) ?_
  refine cw_aload_n d_M_grows_0 rfl ?_
  refine cw_iload_n d_M_grows_1 rfl ?_
  refine cw_virtP (s_M_isHead hR hI) rfl ml_M_103 so_M rfl rfl d_M_grows_2 ?_
  refine cw_bif_eq 22 d_M_grows_5 (by decide) (fun c_5 => ?_) (fun c_5 => ?_)
  · refine cw_bipush (v := (-2)) d_M_grows_22 (by decide) ?_
    refine cw_staticPJ (s_M_no) rfl ml_M_214 rfl rfl d_M_grows_24 ?_
    refine cw_topJ (y := -9223372036854775806) (by decide) ?_
    refine cw_lret rfl d_M_grows_27 ?_
    exact ⟨by simp [ans_grows, c_5], hR, kM.rf⟩
  · obtain ⟨h, hhh, e_h⟩ := ixB_t c_5 (by omega)
    subst e_h
    refine cw_iload_n d_M_grows_8 rfl ?_
    refine cw_staticP (s_M_isPart) rfl ml_M_106 rfl rfl d_M_grows_9 ?_
    refine cw_bif_eq 22 d_M_grows_12 (by decide) (fun c_12 => ?_) (fun c_12 => ?_)
    · refine cw_bipush (v := (-2)) d_M_grows_22 (by decide) ?_
      refine cw_staticPJ (s_M_no) rfl ml_M_214 rfl rfl d_M_grows_24 ?_
      refine cw_topJ (y := -9223372036854775806) (by decide) ?_
      refine cw_lret rfl d_M_grows_27 ?_
      exact ⟨by simp [ans_grows, c_5, c_12], hR, kM.rf⟩
    · obtain ⟨p, hhp, e_p⟩ := ixB_t c_12 (by omega)
      subst e_p
      refine cw_iload_n d_M_grows_15 rfl ?_
      refine cw_staticP (s_M_isTwo) rfl ml_M_211 rfl rfl d_M_grows_16 ?_
      refine cw_bif_ne 28 d_M_grows_19 (by decide) (fun c_19 => ?_) (fun c_19 => ?_)
      · refine cw_lconst (v := 0) d_M_grows_28 (by decide) ?_
        refine cw_lstore d_M_grows_29 rfl ?_
        refine cw_lconst (v := 0) d_M_grows_31 (by decide) ?_
        refine cw_lstore d_M_grows_32 rfl ?_
        refine cw_lconst (v := 0) d_M_grows_34 (by decide) ?_
        refine cw_lstore d_M_grows_35 rfl ?_
        refine cw_lconst (v := 0) d_M_grows_37 (by decide) ?_
        refine cw_lstore d_M_grows_38 rfl ?_
        refine cw_lconst (v := 0) d_M_grows_40 (by decide) ?_
        refine cw_lstore d_M_grows_41 rfl ?_
        refine cw_iconst (v := 0) d_M_grows_43 (by decide) ?_
        refine cw_istore d_M_grows_44 rfl ?_
        have hans : ans_grows σ (nI h) (nI p) w = growS σ h p w := by simp [ans_grows, c_5, c_12, c_19, ix_nI (show h < 2 ^ 31 by omega), ix_nI (show p < 2 ^ 31 by omega)]
        rw [hans]
        exact l_M_grows hR hI (by omega) (by omega) 0 (by omega) _ _
      · refine cw_bipush (v := (-2)) d_M_grows_22 (by decide) ?_
        refine cw_staticPJ (s_M_no) rfl ml_M_214 rfl rfl d_M_grows_24 ?_
        refine cw_topJ (y := -9223372036854775806) (by decide) ?_
        refine cw_lret rfl d_M_grows_27 ?_
        exact ⟨by simp [ans_grows, c_5, c_12, c_19], hR, kM.rf⟩
set_option maxRecDepth 100000 in
theorem l_M_backOf {M : Mem} {σ : Sg} (hR : RM M σ) (hI : Iv σ) {h a p : Nat} (hh : h < σ.1.1) (hp : p < 8) (ht : mG M 1011 p = (hPar σ a).2 p) (h0 : ¬ (hPar σ a).2 p = 0) (hL : ¬ (hPar σ a).2 p = LO)  : ∀ i, i ≤ σ.1.2.1 → ∀ o7 o8, CW u_M_backOf (pI (backS σ h a p) M) 16 [some (.ref 1000), some (.int (nI h)), some (.int (nI p)), some (.int ((hPar σ a).2 p)), some (.int (nI (cntUp (bSel σ h p) i))), some (.int (sumUp (bTm σ h a p) i)), some (.int (nI i)), o7, o8] [] M := by
  obtain ⟨hn1, hn2, hn3⟩ := hI.n
  refine up_ind (fun i hi ih o7 o8 => ?_)
  have hcl := cntUp_le (bSel σ h p) i
  refine cw_iload d_M_backOf_16 rfl ?_
  refine cw_aload_n d_M_backOf_18 rfl ?_
  refine cw_getI fl_M_157 so_M rfl d_M_backOf_19 ?_
  refine cw_icmp_geN (i) (σ.1.2.1) 121 rfl hR.n2 (by omega) d_M_backOf_22 (by decide) (fun c_22 => ?_) (fun c_22 => ?_)
  · have ei : i = σ.1.2.1 := by omega
    subst ei
    have hbs : backS σ h a p = if cntUp (bSel σ h p) σ.1.2.1 = 0 then LO else sumUp (bTm σ h a p) σ.1.2.1 / nI (cntUp (bSel σ h p) σ.1.2.1) := if_neg (fun q => q.elim hL h0)
    refine cw_iload d_M_backOf_121 rfl ?_
    refine cw_if_ne 132 d_M_backOf_123 (by decide) (fun c_123 => ?_) (fun c_123 => ?_)
    · refine cw_iload d_M_backOf_132 rfl ?_
      refine cw_iload d_M_backOf_134 rfl ?_
      refine cw_idiv d_M_backOf_136 c_123 ?_
      refine cw_iret rfl d_M_backOf_137 ?_
      exact ⟨(hbs.trans (if_neg (fun z => c_123 (by rw [z]; rfl)))).symm, rfl⟩
    · refine cw_sipush (v := (-9999)) d_M_backOf_126 (by decide) ?_
      refine cw_goto 137 d_M_backOf_129 (by decide) ?_
      refine cw_iret rfl d_M_backOf_137 ?_
      exact ⟨(hbs.trans (if_pos ((nI_eq (b := 0) (by omega) (by decide)).mp c_123))).symm, rfl⟩
  · refine cw_iload_n d_M_backOf_25 rfl ?_
    refine cw_if_eq 121 d_M_backOf_26 (by decide) (fun c_26 => ?_) (fun c_26 => ?_)
    · exact absurd c_26 h0
    · refine cw_iload_n d_M_backOf_29 rfl ?_
      refine cw_sipush (v := (-9999)) d_M_backOf_30 (by decide) ?_
      refine cw_icmp_eq 121 d_M_backOf_33 (by decide) (fun c_33 => ?_) (fun c_33 => ?_)
      · exact absurd c_33 hL
      · refine cw_aload_n d_M_backOf_36 rfl ?_
        refine cw_getR fl_M_49 so_M rfl d_M_backOf_37 ?_
        refine cw_bipush (v := 8) d_M_backOf_40 (by decide) ?_
        refine cw_iload d_M_backOf_42 rfl ?_
        refine cw_imul d_M_backOf_44 ?_
        refine cw_iload_n d_M_backOf_45 rfl ?_
        refine cw_iadd d_M_backOf_46 ?_
        refine cw_ialdN (i := (8 * i) + p) sm_lines (nAdd (nMul rfl rfl) rfl) (by omega) (by decide) d_M_backOf_47 ?_
        refine cw_top (hR.li c_22 hp) ?_
        refine cw_istore d_M_backOf_48 rfl ?_
        refine cw_aload_n d_M_backOf_50 rfl ?_
        refine cw_getR fl_M_37 so_M rfl d_M_backOf_51 ?_
        refine cw_iload d_M_backOf_54 rfl ?_
        refine cw_ialdN (i := i) sm_drawnHead rfl (by omega) (by decide) d_M_backOf_56 ?_
        refine cw_top (hR.dh c_22) ?_
        refine cw_iload_n d_M_backOf_57 rfl ?_
        refine cw_icmp_ne 115 d_M_backOf_58 (by decide) (fun c_58 => ?_) (fun c_58 => ?_)
        · refine cw_iincN (x := i) d_M_backOf_115 rfl rfl ?_
          refine cw_goto 16 d_M_backOf_118 (by decide) ?_
          have hsel : ¬ bSel σ h p i = true := fun q => c_58 (of_decide_eq_true q).1
          have e1 : cntUp (bSel σ h p) (i + 1) = cntUp (bSel σ h p) i := cntUp_f (Bool.eq_false_iff.mpr hsel)
          have e2 : sumUp (bTm σ h a p) (i + 1) = sumUp (bTm σ h a p) i := (sumUp_s _ _).trans ((congrArg (sumUp (bTm σ h a p) i + ·) (if_neg hsel)).trans (Int32.add_zero _))
          exact cw_cast (by rw [e1, e2]; rfl) rfl rfl (ih c_22 _ _)
        · refine cw_aload_n d_M_backOf_61 rfl ?_
          refine cw_getR fl_M_43 so_M rfl d_M_backOf_62 ?_
          refine cw_iload d_M_backOf_65 rfl ?_
          refine cw_ialdN (i := i) sm_drawnKind rfl (by omega) (by decide) d_M_backOf_67 ?_
          refine cw_top (hR.dk c_22) ?_
          refine cw_iconst (v := 4) d_M_backOf_68 (by decide) ?_
          refine cw_icmp_eq 115 d_M_backOf_69 (by decide) (fun c_69 => ?_) (fun c_69 => ?_)
          · refine cw_iincN (x := i) d_M_backOf_115 rfl rfl ?_
            refine cw_goto 16 d_M_backOf_118 (by decide) ?_
            have hsel : ¬ bSel σ h p i = true := fun q => (of_decide_eq_true q).2.1 c_69
            have e1 : cntUp (bSel σ h p) (i + 1) = cntUp (bSel σ h p) i := cntUp_f (Bool.eq_false_iff.mpr hsel)
            have e2 : sumUp (bTm σ h a p) (i + 1) = sumUp (bTm σ h a p) i := (sumUp_s _ _).trans ((congrArg (sumUp (bTm σ h a p) i + ·) (if_neg hsel)).trans (Int32.add_zero _))
            exact cw_cast (by rw [e1, e2]; rfl) rfl rfl (ih c_22 _ _)
          · refine cw_iload d_M_backOf_72 rfl ?_
            refine cw_sipush (v := (-9999)) d_M_backOf_74 (by decide) ?_
            refine cw_icmp_eq 115 d_M_backOf_77 (by decide) (fun c_77 => ?_) (fun c_77 => ?_)
            · refine cw_iincN (x := i) d_M_backOf_115 rfl rfl ?_
              refine cw_goto 16 d_M_backOf_118 (by decide) ?_
              have hsel : ¬ bSel σ h p i = true := fun q => (of_decide_eq_true q).2.2 c_77
              have e1 : cntUp (bSel σ h p) (i + 1) = cntUp (bSel σ h p) i := cntUp_f (Bool.eq_false_iff.mpr hsel)
              have e2 : sumUp (bTm σ h a p) (i + 1) = sumUp (bTm σ h a p) i := (sumUp_s _ _).trans ((congrArg (sumUp (bTm σ h a p) i + ·) (if_neg hsel)).trans (Int32.add_zero _))
              exact cw_cast (by rw [e1, e2]; rfl) rfl rfl (ih c_22 _ _)
            · refine cw_aload_n d_M_backOf_80 rfl ?_
              refine cw_getR fl_M_52 so_M rfl d_M_backOf_81 ?_
              refine cw_bipush (v := 8) d_M_backOf_84 (by decide) ?_
              refine cw_iload d_M_backOf_86 rfl ?_
              refine cw_imul d_M_backOf_88 ?_
              refine cw_iload_n d_M_backOf_89 rfl ?_
              refine cw_iadd d_M_backOf_90 ?_
              refine cw_ialdN (i := (8 * i) + p) sm_means (nAdd (nMul rfl rfl) rfl) (by omega) (by decide) d_M_backOf_91 ?_
              refine cw_top (hR.me c_22 hp) ?_
              refine cw_istore d_M_backOf_92 rfl ?_
              refine cw_iload d_M_backOf_94 rfl ?_
              refine cw_iload d_M_backOf_96 rfl ?_
              refine cw_iload d_M_backOf_98 rfl ?_
              refine cw_iload d_M_backOf_100 rfl ?_
              refine cw_isub d_M_backOf_102 ?_
              refine cw_bipush (v := 10) d_M_backOf_103 (by decide) ?_
              refine cw_imul d_M_backOf_105 ?_
              refine cw_iload_n d_M_backOf_106 rfl ?_
              refine cw_idiv d_M_backOf_107 h0 ?_
              refine cw_iadd d_M_backOf_108 ?_
              refine cw_iadd d_M_backOf_109 ?_
              refine cw_istore d_M_backOf_110 rfl ?_
              refine cw_iincN (x := cntUp (bSel σ h p) i) d_M_backOf_112 rfl rfl ?_
              refine cw_iincN (x := i) d_M_backOf_115 rfl rfl ?_
              refine cw_goto 16 d_M_backOf_118 (by decide) ?_
              have hsel : bSel σ h p i = true := decide_eq_true ⟨c_58, c_69, c_77⟩
              have e1 : cntUp (bSel σ h p) (i + 1) = cntUp (bSel σ h p) i + 1 := cntUp_t hsel
              have e2 : sumUp (bTm σ h a p) (i + 1) = sumUp (bTm σ h a p) i + (σ.2 10 i p + (σ.2 9 i p - σ.2 10 i p) * 10 / (hPar σ a).2 p) := (sumUp_s _ _).trans (congrArg (sumUp (bTm σ h a p) i + ·) (if_pos hsel))
              exact cw_cast (by rw [e1, e2]; rfl) rfl rfl (ih c_22 _ _)
set_option maxRecDepth 100000 in
theorem s_M_backOf {M : Mem} {σ : Sg} (hR : RM M σ) (hI : Iv σ) {h a p : Nat} (hh : h < σ.1.1) (hp : p < 8) (ht : mG M 1011 p = (hPar σ a).2 p)  : CS u_M_backOf [.ref 1000, .int (nI h), .int (nI p)] M (pI (backS σ h a p) M) := by
  obtain ⟨hn1, hn2, hn3⟩ := hI.n
  refine cs_introF (L := [some (.ref 1000), some (.int (nI h)), some (.int (nI p)), none, none, none, none, none, none]) (by decide +kernel) (fun ad q h => h) (fun ad => Nat.le_of_ble_eq_true rfl) ?_
  refine cw_aload_n d_M_backOf_0 rfl ?_
  refine cw_getR fl_M_31 so_M rfl d_M_backOf_1 ?_
  refine cw_iload_n d_M_backOf_4 rfl ?_
  refine cw_ialdN (i := p) sm_tenthsOf rfl (by omega) (by decide) d_M_backOf_5 ?_
  refine cw_top ht ?_
  refine cw_istore_n d_M_backOf_6 rfl ?_
  refine cw_iconst (v := 0) d_M_backOf_7 (by decide) ?_
  refine cw_istore d_M_backOf_8 rfl ?_
  refine cw_iconst (v := 0) d_M_backOf_10 (by decide) ?_
  refine cw_istore d_M_backOf_11 rfl ?_
  refine cw_iconst (v := 0) d_M_backOf_13 (by decide) ?_
  refine cw_istore d_M_backOf_14 rfl ?_
  by_cases hq : (hPar σ a).2 p = LO ∨ (hPar σ a).2 p = 0
  · refine cw_iload d_M_backOf_16 rfl ?_
    refine cw_aload_n d_M_backOf_18 rfl ?_
    refine cw_getI fl_M_157 so_M rfl d_M_backOf_19 ?_
    refine cw_icmp_geN (0) (σ.1.2.1) 121 rfl hR.n2 (by omega) d_M_backOf_22 (by decide) (fun c_22 => ?_) (fun c_22 => ?_)
    · refine cw_iload d_M_backOf_121 rfl ?_
      refine cw_if_ne 132 d_M_backOf_123 (by decide) (fun c_123 => ?_) (fun c_123 => ?_)
      · exact absurd rfl c_123
      · refine cw_sipush (v := (-9999)) d_M_backOf_126 (by decide) ?_
        refine cw_goto 137 d_M_backOf_129 (by decide) ?_
        refine cw_iret rfl d_M_backOf_137 ?_
        exact ⟨(if_pos hq).symm, rfl⟩
    · refine cw_iload_n d_M_backOf_25 rfl ?_
      refine cw_if_eq 121 d_M_backOf_26 (by decide) (fun c_26 => ?_) (fun c_26 => ?_)
      · refine cw_iload d_M_backOf_121 rfl ?_
        refine cw_if_ne 132 d_M_backOf_123 (by decide) (fun c_123 => ?_) (fun c_123 => ?_)
        · exact absurd rfl c_123
        · refine cw_sipush (v := (-9999)) d_M_backOf_126 (by decide) ?_
          refine cw_goto 137 d_M_backOf_129 (by decide) ?_
          refine cw_iret rfl d_M_backOf_137 ?_
          exact ⟨(if_pos hq).symm, rfl⟩
      · refine cw_iload_n d_M_backOf_29 rfl ?_
        refine cw_sipush (v := (-9999)) d_M_backOf_30 (by decide) ?_
        refine cw_icmp_eq 121 d_M_backOf_33 (by decide) (fun c_33 => ?_) (fun c_33 => ?_)
        · refine cw_iload d_M_backOf_121 rfl ?_
          refine cw_if_ne 132 d_M_backOf_123 (by decide) (fun c_123 => ?_) (fun c_123 => ?_)
          · exact absurd rfl c_123
          · refine cw_sipush (v := (-9999)) d_M_backOf_126 (by decide) ?_
            refine cw_goto 137 d_M_backOf_129 (by decide) ?_
            refine cw_iret rfl d_M_backOf_137 ?_
            exact ⟨(if_pos hq).symm, rfl⟩
        · exact absurd hq (fun q => q.elim c_33 c_26)
  · exact l_M_backOf hR hI hh hp ht (fun z => hq (Or.inr z)) (fun z => hq (Or.inl z)) 0 (by omega) _ _
set_option maxRecDepth 100000 in
theorem m_back {M : Mem} {σ : Sg} (hR : RM M σ) (hI : Iv σ) {x y z : Int32} : CS u_M_back [.ref 1000, .int x, .int y, .int z] M (rM (ans_back σ x y z) σ M) := by
  obtain ⟨hn1, hn2, hn3⟩ := hI.n
  refine cs_introF (L := [some (.ref 1000), some (.int x), some (.int y), some (.int z)]) (by decide +kernel) (fun ad q h => h) (fun ad => Nat.le_of_ble_eq_true rfl) ?_
  refine cw_aload_n d_M_back_0 rfl ?_
  refine cw_iload_n d_M_back_1 rfl ?_
  refine cw_virtP (s_M_isHead hR hI) rfl ml_M_103 so_M rfl rfl d_M_back_2 ?_
  refine cw_bif_eq 22 d_M_back_5 (by decide) (fun c_5 => ?_) (fun c_5 => ?_)
  · refine cw_bipush (v := (-2)) d_M_back_22 (by decide) ?_
    refine cw_staticP (s_M_dear) rfl ml_M_149 rfl rfl d_M_back_24 ?_
    refine cw_top (y := -10002) (by decide) ?_
    refine cw_iret rfl d_M_back_27 ?_
    exact ⟨by simp [ans_back, c_5], hR, kM.rf⟩
  · obtain ⟨h, hhh, e_h⟩ := ixB_t c_5 (by omega)
    subst e_h
    refine cw_iload_n d_M_back_8 rfl ?_
    refine cw_staticP (s_M_isHand) rfl ml_M_120 rfl rfl d_M_back_9 ?_
    refine cw_bif_eq 22 d_M_back_12 (by decide) (fun c_12 => ?_) (fun c_12 => ?_)
    · refine cw_bipush (v := (-2)) d_M_back_22 (by decide) ?_
      refine cw_staticP (s_M_dear) rfl ml_M_149 rfl rfl d_M_back_24 ?_
      refine cw_top (y := -10002) (by decide) ?_
      refine cw_iret rfl d_M_back_27 ?_
      exact ⟨by simp [ans_back, c_5, c_12], hR, kM.rf⟩
    · obtain ⟨a, hha, e_a⟩ := ixB_t c_12 (by omega)
      subst e_a
      refine cw_iload_n d_M_back_15 rfl ?_
      refine cw_staticP (s_M_isPart) rfl ml_M_106 rfl rfl d_M_back_16 ?_
      refine cw_bif_ne 28 d_M_back_19 (by decide) (fun c_19 => ?_) (fun c_19 => ?_)
      · obtain ⟨p, hhp, e_p⟩ := ixB_t c_19 (by omega)
        subst e_p
        refine cw_aload_n d_M_back_28 rfl ?_
        refine cw_iload_n d_M_back_29 rfl ?_
        refine cw_virtI (s_M_reads hR hI (a := a) (by omega)) rfl ml_M_146 so_M rfl rfl d_M_back_30 (fun r_30 M_30 q_30 => ?_)
        obtain ⟨e_30, k_30, t_30⟩ := q_30
        subst e_30
        have hR_30 := RM_kq hR k_30
        refine cw_pop_int d_M_back_33 ?_
        refine cw_aload_n d_M_back_34 rfl ?_
        refine cw_iload_n d_M_back_35 rfl ?_
        refine cw_iload_n d_M_back_36 rfl ?_
        refine cw_virtP (s_M_backOf hR_30 hI (h := h) (a := a) (p := p) (by omega) (by omega) (t_30 p (by omega))) rfl ml_M_261 so_M rfl rfl d_M_back_37 ?_
        refine cw_iret rfl d_M_back_40 ?_
        exact ⟨by simp [ans_back, c_5, c_12, c_19, ix_nI (show h < 2 ^ 31 by omega), ix_nI (show a < 2 ^ 31 by omega), ix_nI (show p < 2 ^ 31 by omega)], hR_30, k_30.kM⟩
      · refine cw_bipush (v := (-2)) d_M_back_22 (by decide) ?_
        refine cw_staticP (s_M_dear) rfl ml_M_149 rfl rfl d_M_back_24 ?_
        refine cw_top (y := -10002) (by decide) ?_
        refine cw_iret rfl d_M_back_27 ?_
        exact ⟨by simp [ans_back, c_5, c_12, c_19], hR, kM.rf⟩
set_option maxRecDepth 100000 in
theorem l_M_nearOf {M : Mem} {σ : Sg} (hR : RM M σ) (hI : Iv σ) {h a : Nat} {M0 : Mem} (hh : h < σ.1.1) (ht : ∀ p, p < 8 → mG M 1011 p = (hPar σ a).2 p) (hk0 : kq M0 M)  : ∀ i, i ≤ 8 → ∀ o5, CW u_M_nearOf (rQ (nearS σ h a) M0) 11 [some (.ref 1000), some (.int (nI h)), some (.int (nI a)), some (.int (sumUp (nearP σ h a) i)), some (.int (nI i)), o5] [] M := by
  obtain ⟨hn1, hn2, hn3⟩ := hI.n
  refine up_ind (fun i hi ih o5 => ?_)
  refine cw_iload d_M_nearOf_11 rfl ?_
  refine cw_bipush (v := 8) d_M_nearOf_13 (by decide) ?_
  refine cw_icmp_geN (i) (8) 66 rfl rfl (by omega) d_M_nearOf_15 (by decide) (fun c_15 => ?_) (fun c_15 => ?_)
  · refine cw_iload_n d_M_nearOf_66 rfl ?_
    refine cw_iret rfl d_M_nearOf_67 ?_
    have ei : i = 8 := by omega
    subst ei
    exact ⟨rfl, hk0⟩
  · refine cw_aload_n d_M_nearOf_18 rfl ?_
    refine cw_iload_n d_M_nearOf_19 rfl ?_
    refine cw_iload d_M_nearOf_20 rfl ?_
    refine cw_virtP (s_M_backOf hR hI (h := h) (a := a) (p := i) hh (by omega) (ht i (by omega))) rfl ml_M_261 so_M rfl rfl d_M_nearOf_22 ?_
    refine cw_istore d_M_nearOf_25 rfl ?_
    refine cw_iload_n d_M_nearOf_27 rfl ?_
    refine cw_iload d_M_nearOf_28 rfl ?_
    refine cw_sipush (v := (-9999)) d_M_nearOf_30 (by decide) ?_
    refine cw_tern2 58 (nearP σ h a i) ?_ (fun k_33 => ?_)
    · refine cw_iadd d_M_nearOf_58 ?_
      refine cw_istore_n d_M_nearOf_59 rfl ?_
      refine cw_iincN (x := i) d_M_nearOf_60 rfl rfl ?_
      refine cw_goto 11 d_M_nearOf_63 (by decide) ?_
      exact cw_cast (by rw [sumUp_s]; rfl) rfl rfl (ih c_15 _)
    · refine cw_icmp_ne 40 d_M_nearOf_33 (by decide) (fun c_33 => ?_) (fun c_33 => ?_)
      · refine cw_iload d_M_nearOf_40 rfl ?_
        refine cw_aload_n d_M_nearOf_42 rfl ?_
        refine cw_getR fl_M_22 so_M rfl d_M_nearOf_43 ?_
        refine cw_bipush (v := 8) d_M_nearOf_46 (by decide) ?_
        refine cw_iload_n d_M_nearOf_48 rfl ?_
        refine cw_imul d_M_nearOf_49 ?_
        refine cw_iload d_M_nearOf_50 rfl ?_
        refine cw_iadd d_M_nearOf_52 ?_
        refine cw_ialdN (i := (8 * h) + i) sm_places (nAdd (nMul rfl rfl) rfl) (by omega) (by decide) d_M_nearOf_53 ?_
        refine cw_top (hR.pl hh (by omega)) ?_
        refine cw_isub d_M_nearOf_54 ?_
        refine cw_staticP (s_M_amount) rfl ml_M_166 rfl rfl d_M_nearOf_55 ?_
        exact k_33 _ ((if_neg c_33).symm)
      · refine cw_iconst (v := 0) d_M_nearOf_36 (by decide) ?_
        refine cw_goto 58 d_M_nearOf_37 (by decide) ?_
        exact k_33 _ ((if_pos c_33).symm)
set_option maxRecDepth 100000 in
theorem s_M_nearOf {M : Mem} {σ : Sg} (hR : RM M σ) (hI : Iv σ) {h a : Nat} (hh : h < σ.1.1) (ha : a < 4)  : CS u_M_nearOf [.ref 1000, .int (nI h), .int (nI a)] M (rQ (nearS σ h a) M) := by
  obtain ⟨hn1, hn2, hn3⟩ := hI.n
  refine cs_introF (L := [some (.ref 1000), some (.int (nI h)), some (.int (nI a)), none, none, none]) (by decide +kernel) (fun ad q h => h) (fun ad => Nat.le_of_ble_eq_true rfl) ?_
  refine cw_aload_n d_M_nearOf_0 rfl ?_
  refine cw_iload_n d_M_nearOf_1 rfl ?_
  refine cw_virtI (s_M_reads hR hI (a := a) (by omega)) rfl ml_M_146 so_M rfl rfl d_M_nearOf_2 (fun r_2 M_2 q_2 => ?_)
  obtain ⟨e_2, k_2, t_2⟩ := q_2
  subst e_2
  have hR_2 := RM_kq hR k_2
  refine cw_pop_int d_M_nearOf_5 ?_
  refine cw_iconst (v := 0) d_M_nearOf_6 (by decide) ?_
  refine cw_istore_n d_M_nearOf_7 rfl ?_
  refine cw_iconst (v := 0) d_M_nearOf_8 (by decide) ?_
  refine cw_istore d_M_nearOf_9 rfl ?_
  exact l_M_nearOf hR_2 hI hh t_2 k_2 0 (by omega) _
set_option maxRecDepth 100000 in
theorem m_near {M : Mem} {σ : Sg} (hR : RM M σ) (hI : Iv σ) {x y : Int32} : CS u_M_near [.ref 1000, .int x, .int y] M (rM (ans_near σ x y) σ M) := by
  obtain ⟨hn1, hn2, hn3⟩ := hI.n
  refine cs_introF (L := [some (.ref 1000), some (.int x), some (.int y)]) (by decide +kernel) (fun ad q h => h) (fun ad => Nat.le_of_ble_eq_true rfl) ?_
  refine cw_aload_n d_M_near_0 rfl ?_
  refine cw_iload_n d_M_near_1 rfl ?_
  refine cw_virtP (s_M_isHead hR hI) rfl ml_M_103 so_M rfl rfl d_M_near_2 ?_
  refine cw_bif_eq 24 d_M_near_5 (by decide) (fun c_5 => ?_) (fun c_5 => ?_)
  · refine cw_bipush (v := (-2)) d_M_near_24 (by decide) ?_
    refine cw_iret rfl d_M_near_26 ?_
    exact ⟨by simp [ans_near, c_5], hR, kM.rf⟩
  · obtain ⟨h, hhh, e_h⟩ := ixB_t c_5 (by omega)
    subst e_h
    refine cw_iload_n d_M_near_8 rfl ?_
    refine cw_staticP (s_M_isHand) rfl ml_M_120 rfl rfl d_M_near_9 ?_
    refine cw_bif_eq 24 d_M_near_12 (by decide) (fun c_12 => ?_) (fun c_12 => ?_)
    · refine cw_bipush (v := (-2)) d_M_near_24 (by decide) ?_
      refine cw_iret rfl d_M_near_26 ?_
      exact ⟨by simp [ans_near, c_5, c_12], hR, kM.rf⟩
    · obtain ⟨a, hha, e_a⟩ := ixB_t c_12 (by omega)
      subst e_a
      refine cw_aload_n d_M_near_15 rfl ?_
      refine cw_iload_n d_M_near_16 rfl ?_
      refine cw_iload_n d_M_near_17 rfl ?_
      refine cw_virtI (s_M_nearOf hR hI (h := h) (a := a) (by omega) (by omega)) rfl ml_M_264 so_M rfl rfl d_M_near_18 (fun r_18 M_18 q_18 => ?_)
      obtain ⟨e_18, k_18⟩ := q_18
      subst e_18
      refine cw_goto 26 d_M_near_21 (by decide) ?_
      refine cw_iret rfl d_M_near_26 ?_
      exact ⟨by simp [ans_near, c_5, c_12, ix_nI (show h < 2 ^ 31 by omega), ix_nI (show a < 2 ^ 31 by omega)], RM_kq hR k_18, k_18.kM⟩
