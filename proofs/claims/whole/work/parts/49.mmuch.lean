/-! ===== the reference: much, few, stands ===== -/
def frUp (f : Nat → Bool) (g : Nat → Int32) : Nat → Int32 × Int32
  | 0 => (-1, 0)
  | i + 1 => if f i = true then (if (frUp f g i).1 = -1 then (nI i, g i) else frUp f g i) else frUp f g i
theorem fst_s (f : Nat → Bool) : ∀ n i, i + n < 900 → fstUp f (n + 1) i = if fstUp f n i = -1 then (if f (i + n) = true then nI (i + n) else -1) else fstUp f n i := by
  intro n
  induction n with
  | zero => intro i _; rfl
  | succ n ih =>
    intro i hi
    rw [fstUp]
    by_cases q : f i = true
    · have e : fstUp f (n + 1) i = nI i := if_pos q
      rw [if_pos q, e, if_neg (nI_m1 (by omega))]
    · have e : fstUp f (n + 1) i = fstUp f n (i + 1) := if_neg q
      rw [if_neg q, e, ih (i + 1) (by omega), show i + 1 + n = i + (n + 1) by omega]
theorem fr_fst (f : Nat → Bool) (g : Nat → Int32) : ∀ n, n < 900 → (frUp f g n).1 = fstUp f n 0 := by
  intro n
  induction n with
  | zero => intro _; rfl
  | succ n ih =>
    intro hn
    rw [fst_s f n 0 (by omega), Nat.zero_add, ← ih (by omega)]
    simp only [frUp]
    by_cases q : f n = true <;> by_cases q2 : (frUp f g n).1 = -1 <;> simp [q, q2]
set_option maxRecDepth 100000 in
theorem l_M_much2 {M : Mem} {σ : Sg} (hR : RM M σ) (hI : Iv σ) {k h : Nat} {s : Int32} (hk : k < σ.1.2.2) (hh : h < σ.1.1) (hs : setB s σ.1.1 = true)  : ∀ n t, t + n = 61 → ∀ (M' : Mem) (o8 : Option Value), RM M' σ → kq M M' → CW u_M_much (rM (fstUp (fun t => offB (σ.2 4 0 0) (tryS σ h s 255 (nI t)) (meanS σ s)) n t) σ M) 67 [some (.ref 1000), some (.int (nI k)), some (.int (nI h)), some (.int s), some (.int (nI 2)), some (.int (-1)), some (.int 0), some (.int (nI t)), o8] [] M' := by
  obtain ⟨hn1, hn2, hn3⟩ := hI.n
  intro n
  induction n with
  | zero =>
    intro t ht M' o8 hR' hk1
    refine cw_iload d_M_much_67 rfl ?_
    refine cw_bipush (v := 60) d_M_much_69 (by decide) ?_
    refine cw_icmp_gtN (t) (60) 157 rfl rfl (by omega) d_M_much_71 (by decide) (fun c_71 => ?_) (fun c_71 => ?_)
    · refine cw_iload d_M_much_157 rfl ?_
      refine cw_iret rfl d_M_much_159 ?_
      exact ⟨rfl, hR', hk1.kM⟩
    · exact absurd c_71 (by omega)
  | succ n ih =>
    intro t ht M' o8 hR' hk1
    refine cw_iload d_M_much_67 rfl ?_
    refine cw_bipush (v := 60) d_M_much_69 (by decide) ?_
    refine cw_icmp_gtN (t) (60) 157 rfl rfl (by omega) d_M_much_71 (by decide) (fun c_71 => ?_) (fun c_71 => ?_)
    · exact absurd c_71 (by omega)
    · refine cw_aload_n d_M_much_74 rfl ?_
      refine cw_iload_n d_M_much_75 rfl ?_
      refine cw_iload_n d_M_much_76 rfl ?_
      refine cw_iload d_M_much_77 rfl ?_
      refine cw_sipush (v := 255) d_M_much_79 (by decide) ?_
      refine cw_virtV (s_M_sees_IIII hR' hI (h := h) (s := s) hh hs) rfl ml_M_247 so_M rfl rfl d_M_much_82 (fun M_82 q_82 => ?_)
      obtain ⟨k_82, n_82⟩ := q_82
      have hR_82 := RM_kq hR' k_82
      refine cw_iload d_M_much_85 rfl ?_
      refine cw_iconst (v := 2) d_M_much_87 (by decide) ?_
      refine cw_icmp_neN (2) (2) 101 rfl rfl (by omega) d_M_much_88 (by decide) (fun c_88 => ?_) (fun c_88 => ?_)
      · exact absurd rfl c_88
      · refine cw_aload_n d_M_much_91 rfl ?_
        refine cw_getI fl_M_196 so_M rfl d_M_much_92 ?_
        refine cw_top n_82.2 ?_
        refine cw_bif_eq 101 d_M_much_95 (by decide) (fun c_95 => ?_) (fun c_95 => ?_)
        · refine cw_iload d_M_much_101 rfl ?_
          refine cw_iconst (v := 2) d_M_much_103 (by decide) ?_
          refine cw_icmp_geN (2) (2) 151 rfl rfl (by omega) d_M_much_104 (by decide) (fun c_104 => ?_) (fun c_104 => ?_)
          · refine cw_iincN (x := t) d_M_much_151 rfl rfl ?_
            refine cw_goto 67 d_M_much_154 (by decide) ?_
            have hf : fstUp (fun t => offB (σ.2 4 0 0) (tryS σ h s 255 (nI t)) (meanS σ s)) (n + 1) t = fstUp (fun t => offB (σ.2 4 0 0) (tryS σ h s 255 (nI t)) (meanS σ s)) n (t + 1) := if_neg (fun q => absurd (c_95.symm.trans q) (by decide))
            rw [hf]
            exact ih (t + 1) (by omega) _ _ hR_82 (hk1.tr k_82)
          · exact absurd c_104 (by decide)
        · refine cw_iload d_M_much_98 rfl ?_
          refine cw_iret rfl d_M_much_100 ?_
          exact ⟨(if_pos c_95).symm, hR_82, (hk1.tr k_82).kM⟩
set_option maxRecDepth 100000 in
theorem l_M_much0 {M : Mem} {σ : Sg} (hR : RM M σ) (hI : Iv σ) {k h : Nat} {s : Int32} (hk : k < σ.1.2.2) (hh : h < σ.1.1) (hs : setB s σ.1.1 = true) (hkh : bit (σ.2 11 k 0) h = true)  : ∀ i, i ≤ 61 → ∀ (M' : Mem) (o8 : Option Value), RM M' σ → kq M M' → CW u_M_much (rM (frUp (fun t => enB σ k h s 255 (nI t)) (fun t => marS σ k (tryS σ h s 255 (nI t)) h) 61).1 σ M) 67 [some (.ref 1000), some (.int (nI k)), some (.int (nI h)), some (.int s), some (.int (nI 0)), some (.int (frUp (fun t => enB σ k h s 255 (nI t)) (fun t => marS σ k (tryS σ h s 255 (nI t)) h) i).1), some (.int (frUp (fun t => enB σ k h s 255 (nI t)) (fun t => marS σ k (tryS σ h s 255 (nI t)) h) i).2), some (.int (nI i)), o8] [] M' := by
  obtain ⟨hn1, hn2, hn3⟩ := hI.n
  refine up_ind (fun i hi ih M' o8 hR' hk1 => ?_)
  refine cw_iload d_M_much_67 rfl ?_
  refine cw_bipush (v := 60) d_M_much_69 (by decide) ?_
  refine cw_icmp_gtN (i) (60) 157 rfl rfl (by omega) d_M_much_71 (by decide) (fun c_71 => ?_) (fun c_71 => ?_)
  · refine cw_iload d_M_much_157 rfl ?_
    refine cw_iret rfl d_M_much_159 ?_
    have ei : i = 61 := by omega
    subst ei
    exact ⟨rfl, hR', hk1.kM⟩
  · have c_71 : i < 61 := by omega
    refine cw_aload_n d_M_much_74 rfl ?_
    refine cw_iload_n d_M_much_75 rfl ?_
    refine cw_iload_n d_M_much_76 rfl ?_
    refine cw_iload d_M_much_77 rfl ?_
    refine cw_sipush (v := 255) d_M_much_79 (by decide) ?_
    refine cw_virtV (s_M_sees_IIII hR' hI (h := h) (s := s) hh hs) rfl ml_M_247 so_M rfl rfl d_M_much_82 (fun M_82 q_82 => ?_)
    obtain ⟨k_82, n_82⟩ := q_82
    have hR_82 := RM_kq hR' k_82
    refine cw_iload d_M_much_85 rfl ?_
    refine cw_iconst (v := 2) d_M_much_87 (by decide) ?_
    refine cw_icmp_neN (0) (2) 101 rfl rfl (by omega) d_M_much_88 (by decide) (fun c_88 => ?_) (fun c_88 => ?_)
    · refine cw_iload d_M_much_101 rfl ?_
      refine cw_iconst (v := 2) d_M_much_103 (by decide) ?_
      refine cw_icmp_geN (0) (2) 151 rfl rfl (by omega) d_M_much_104 (by decide) (fun c_104 => ?_) (fun c_104 => ?_)
      · exact absurd c_104 (by decide)
      · refine cw_aload_n d_M_much_107 rfl ?_
        refine cw_iload_n d_M_much_108 rfl ?_
        refine cw_virtI (s_M_namedBy hR_82 hI (k := k) (mn := meanS σ s) hk (fun g => scB_try hI hk) n_82) rfl ml_M_238 so_M rfl rfl d_M_much_109 (fun r_109 M_109 q_109 => ?_)
        obtain ⟨e_109, j_109⟩ := q_109
        subst e_109
        have hR_109 := RM_kq hR_82 j_109.kq
        refine cw_iload_n d_M_much_112 rfl ?_
        refine cw_icmp_ne 151 d_M_much_113 (by decide) (fun c_113 => ?_) (fun c_113 => ?_)
        · refine cw_iincN (x := i) d_M_much_151 rfl rfl ?_
          refine cw_goto 67 d_M_much_154 (by decide) ?_
          have hst : (frUp (fun t => enB σ k h s 255 (nI t)) (fun t => marS σ k (tryS σ h s 255 (nI t)) h) (i + 1)) = (frUp (fun t => enB σ k h s 255 (nI t)) (fun t => marS σ k (tryS σ h s 255 (nI t)) h) i) := if_neg (fun q => c_113 (of_decide_eq_true q))
          exact cw_cast (by rw [hst]; rfl) rfl rfl (ih c_71 _ _ hR_109 (hk1.tr (k_82.tr j_109.kq)))
        · refine cw_aload_n d_M_much_116 rfl ?_
          refine cw_iload_n d_M_much_117 rfl ?_
          refine cw_iload_n d_M_much_118 rfl ?_
          refine cw_virtI (s_M_marginOf hR_109 hI (k := k) (m := h) hk hh hkh (fun g => scB_try hI hk) (n_82.kj j_109)) rfl ml_M_241 so_M rfl rfl d_M_much_119 (fun r_119 M_119 q_119 => ?_)
          obtain ⟨e_119, j_119⟩ := q_119
          subst e_119
          refine cw_istore d_M_much_122 rfl ?_
          refine cw_iload d_M_much_124 rfl ?_
          refine cw_iconst (v := (-1)) d_M_much_126 (by decide) ?_
          refine cw_icmp_eq 143 d_M_much_127 (by decide) (fun c_127 => ?_) (fun c_127 => ?_)
          · refine cw_iload d_M_much_143 rfl ?_
            refine cw_istore d_M_much_145 rfl ?_
            refine cw_iload d_M_much_147 rfl ?_
            refine cw_istore d_M_much_149 rfl ?_
            refine cw_iincN (x := i) d_M_much_151 rfl rfl ?_
            refine cw_goto 67 d_M_much_154 (by decide) ?_
            have hst : (frUp (fun t => enB σ k h s 255 (nI t)) (fun t => marS σ k (tryS σ h s 255 (nI t)) h) (i + 1)) = (nI i, (fun t => marS σ k (tryS σ h s 255 (nI t)) h) i) := (if_pos (decide_eq_true c_113)).trans (if_pos c_127)
            exact cw_cast (by rw [hst]; rfl) rfl rfl (ih c_71 _ _ (RM_kq hR_109 j_119.kq) (hk1.tr (k_82.tr (j_109.kq.tr j_119.kq))))
          · refine cw_iload d_M_much_130 rfl ?_
            refine cw_iconst (v := 1) d_M_much_132 (by decide) ?_
            refine cw_icmp_neN (0) (1) 151 rfl rfl (by omega) d_M_much_133 (by decide) (fun c_133 => ?_) (fun c_133 => ?_)
            · refine cw_iincN (x := i) d_M_much_151 rfl rfl ?_
              refine cw_goto 67 d_M_much_154 (by decide) ?_
              have hst : (frUp (fun t => enB σ k h s 255 (nI t)) (fun t => marS σ k (tryS σ h s 255 (nI t)) h) (i + 1)) = (frUp (fun t => enB σ k h s 255 (nI t)) (fun t => marS σ k (tryS σ h s 255 (nI t)) h) i) := (if_pos (decide_eq_true c_113)).trans (if_neg c_127)
              exact cw_cast (by rw [hst]; rfl) rfl rfl (ih c_71 _ _ (RM_kq hR_109 j_119.kq) (hk1.tr (k_82.tr (j_109.kq.tr j_119.kq))))
            · exact absurd c_133 (by decide)
    · exact absurd c_88 (by decide)
set_option maxRecDepth 100000 in
theorem l_M_much1 {M : Mem} {σ : Sg} (hR : RM M σ) (hI : Iv σ) {k h : Nat} {s : Int32} (hk : k < σ.1.2.2) (hh : h < σ.1.1) (hs : setB s σ.1.1 = true) (hkh : bit (σ.2 11 k 0) h = true)  : ∀ i, i ≤ 61 → ∀ (M' : Mem) (o8 : Option Value), RM M' σ → kq M M' → CW u_M_much (rM (bstUp (fun t => enB σ k h s 255 (nI t)) (fun t => marS σ k (tryS σ h s 255 (nI t)) h) 61).1 σ M) 67 [some (.ref 1000), some (.int (nI k)), some (.int (nI h)), some (.int s), some (.int (nI 1)), some (.int (bstUp (fun t => enB σ k h s 255 (nI t)) (fun t => marS σ k (tryS σ h s 255 (nI t)) h) i).1), some (.int (bstUp (fun t => enB σ k h s 255 (nI t)) (fun t => marS σ k (tryS σ h s 255 (nI t)) h) i).2), some (.int (nI i)), o8] [] M' := by
  obtain ⟨hn1, hn2, hn3⟩ := hI.n
  refine up_ind (fun i hi ih M' o8 hR' hk1 => ?_)
  refine cw_iload d_M_much_67 rfl ?_
  refine cw_bipush (v := 60) d_M_much_69 (by decide) ?_
  refine cw_icmp_gtN (i) (60) 157 rfl rfl (by omega) d_M_much_71 (by decide) (fun c_71 => ?_) (fun c_71 => ?_)
  · refine cw_iload d_M_much_157 rfl ?_
    refine cw_iret rfl d_M_much_159 ?_
    have ei : i = 61 := by omega
    subst ei
    exact ⟨rfl, hR', hk1.kM⟩
  · have c_71 : i < 61 := by omega
    refine cw_aload_n d_M_much_74 rfl ?_
    refine cw_iload_n d_M_much_75 rfl ?_
    refine cw_iload_n d_M_much_76 rfl ?_
    refine cw_iload d_M_much_77 rfl ?_
    refine cw_sipush (v := 255) d_M_much_79 (by decide) ?_
    refine cw_virtV (s_M_sees_IIII hR' hI (h := h) (s := s) hh hs) rfl ml_M_247 so_M rfl rfl d_M_much_82 (fun M_82 q_82 => ?_)
    obtain ⟨k_82, n_82⟩ := q_82
    have hR_82 := RM_kq hR' k_82
    refine cw_iload d_M_much_85 rfl ?_
    refine cw_iconst (v := 2) d_M_much_87 (by decide) ?_
    refine cw_icmp_neN (1) (2) 101 rfl rfl (by omega) d_M_much_88 (by decide) (fun c_88 => ?_) (fun c_88 => ?_)
    · refine cw_iload d_M_much_101 rfl ?_
      refine cw_iconst (v := 2) d_M_much_103 (by decide) ?_
      refine cw_icmp_geN (1) (2) 151 rfl rfl (by omega) d_M_much_104 (by decide) (fun c_104 => ?_) (fun c_104 => ?_)
      · exact absurd c_104 (by decide)
      · refine cw_aload_n d_M_much_107 rfl ?_
        refine cw_iload_n d_M_much_108 rfl ?_
        refine cw_virtI (s_M_namedBy hR_82 hI (k := k) (mn := meanS σ s) hk (fun g => scB_try hI hk) n_82) rfl ml_M_238 so_M rfl rfl d_M_much_109 (fun r_109 M_109 q_109 => ?_)
        obtain ⟨e_109, j_109⟩ := q_109
        subst e_109
        have hR_109 := RM_kq hR_82 j_109.kq
        refine cw_iload_n d_M_much_112 rfl ?_
        refine cw_icmp_ne 151 d_M_much_113 (by decide) (fun c_113 => ?_) (fun c_113 => ?_)
        · refine cw_iincN (x := i) d_M_much_151 rfl rfl ?_
          refine cw_goto 67 d_M_much_154 (by decide) ?_
          have hst : (bstUp (fun t => enB σ k h s 255 (nI t)) (fun t => marS σ k (tryS σ h s 255 (nI t)) h) (i + 1)) = (bstUp (fun t => enB σ k h s 255 (nI t)) (fun t => marS σ k (tryS σ h s 255 (nI t)) h) i) := if_neg (fun q => c_113 (of_decide_eq_true q))
          exact cw_cast (by rw [hst]; rfl) rfl rfl (ih c_71 _ _ hR_109 (hk1.tr (k_82.tr j_109.kq)))
        · refine cw_aload_n d_M_much_116 rfl ?_
          refine cw_iload_n d_M_much_117 rfl ?_
          refine cw_iload_n d_M_much_118 rfl ?_
          refine cw_virtI (s_M_marginOf hR_109 hI (k := k) (m := h) hk hh hkh (fun g => scB_try hI hk) (n_82.kj j_109)) rfl ml_M_241 so_M rfl rfl d_M_much_119 (fun r_119 M_119 q_119 => ?_)
          obtain ⟨e_119, j_119⟩ := q_119
          subst e_119
          refine cw_istore d_M_much_122 rfl ?_
          refine cw_iload d_M_much_124 rfl ?_
          refine cw_iconst (v := (-1)) d_M_much_126 (by decide) ?_
          refine cw_icmp_eq 143 d_M_much_127 (by decide) (fun c_127 => ?_) (fun c_127 => ?_)
          · refine cw_iload d_M_much_143 rfl ?_
            refine cw_istore d_M_much_145 rfl ?_
            refine cw_iload d_M_much_147 rfl ?_
            refine cw_istore d_M_much_149 rfl ?_
            refine cw_iincN (x := i) d_M_much_151 rfl rfl ?_
            refine cw_goto 67 d_M_much_154 (by decide) ?_
            have hst : (bstUp (fun t => enB σ k h s 255 (nI t)) (fun t => marS σ k (tryS σ h s 255 (nI t)) h) (i + 1)) = (nI i, (fun t => marS σ k (tryS σ h s 255 (nI t)) h) i) := (if_pos (decide_eq_true c_113)).trans (if_pos (Or.inl c_127))
            exact cw_cast (by rw [hst]; rfl) rfl rfl (ih c_71 _ _ (RM_kq hR_109 j_119.kq) (hk1.tr (k_82.tr (j_109.kq.tr j_119.kq))))
          · refine cw_iload d_M_much_130 rfl ?_
            refine cw_iconst (v := 1) d_M_much_132 (by decide) ?_
            refine cw_icmp_neN (1) (1) 151 rfl rfl (by omega) d_M_much_133 (by decide) (fun c_133 => ?_) (fun c_133 => ?_)
            · exact absurd rfl c_133
            · refine cw_iload d_M_much_136 rfl ?_
              refine cw_iload d_M_much_138 rfl ?_
              refine cw_icmp_le 151 d_M_much_140 (by decide) (fun c_140 => ?_) (fun c_140 => ?_)
              · refine cw_iincN (x := i) d_M_much_151 rfl rfl ?_
                refine cw_goto 67 d_M_much_154 (by decide) ?_
                have hst : (bstUp (fun t => enB σ k h s 255 (nI t)) (fun t => marS σ k (tryS σ h s 255 (nI t)) h) (i + 1)) = (bstUp (fun t => enB σ k h s 255 (nI t)) (fun t => marS σ k (tryS σ h s 255 (nI t)) h) i) := (if_pos (decide_eq_true c_113)).trans (if_neg (fun q => q.elim c_127 (fun z => absurd c_140 (i32_nle.mpr z))))
                exact cw_cast (by rw [hst]; rfl) rfl rfl (ih c_71 _ _ (RM_kq hR_109 j_119.kq) (hk1.tr (k_82.tr (j_109.kq.tr j_119.kq))))
              · refine cw_iload d_M_much_143 rfl ?_
                refine cw_istore d_M_much_145 rfl ?_
                refine cw_iload d_M_much_147 rfl ?_
                refine cw_istore d_M_much_149 rfl ?_
                refine cw_iincN (x := i) d_M_much_151 rfl rfl ?_
                refine cw_goto 67 d_M_much_154 (by decide) ?_
                have hst : (bstUp (fun t => enB σ k h s 255 (nI t)) (fun t => marS σ k (tryS σ h s 255 (nI t)) h) (i + 1)) = (nI i, (fun t => marS σ k (tryS σ h s 255 (nI t)) h) i) := (if_pos (decide_eq_true c_113)).trans (if_pos (Or.inr (i32_nle.mp c_140)))
                exact cw_cast (by rw [hst]; rfl) rfl rfl (ih c_71 _ _ (RM_kq hR_109 j_119.kq) (hk1.tr (k_82.tr (j_109.kq.tr j_119.kq))))
    · exact absurd c_88 (by decide)
set_option maxRecDepth 100000 in
theorem m_much {M : Mem} {σ : Sg} (hR : RM M σ) (hI : Iv σ) {x y s w : Int32} : CS u_M_much [.ref 1000, .int x, .int y, .int s, .int w] M (rM (ans_much σ x y s w) σ M) := by
  obtain ⟨hn1, hn2, hn3⟩ := hI.n
  refine cs_introF (L := [some (.ref 1000), some (.int x), some (.int y), some (.int s), some (.int w), none, none, none, none]) (by decide +kernel) (fun ad q h => h) (fun ad => Nat.le_of_ble_eq_true rfl) ?_
  refine cw_aload_n d_M_much_0 rfl ?_
  refine cw_iload_n d_M_much_1 rfl ?_
  refine cw_virtP (s_M_isKnower hR hI) rfl ml_M_193 so_M rfl rfl d_M_much_2 ?_
  refine cw_bif_eq 37 d_M_much_5 (by decide) (fun c_5 => ?_) (fun c_5 => ?_)
  · refine cw_bipush (v := (-2)) d_M_much_37 (by decide) ?_
    refine cw_iret rfl d_M_much_39 ?_
    exact ⟨by simp [ans_much, c_5], hR, kM.rf⟩
  · obtain ⟨k, hhk, e_k⟩ := ixB_t c_5 (by omega)
    subst e_k
    refine cw_aload_n d_M_much_8 rfl ?_
    refine cw_iload_n d_M_much_9 rfl ?_
    refine cw_virtP (s_M_isHead hR hI) rfl ml_M_103 so_M rfl rfl d_M_much_10 ?_
    refine cw_bif_eq 37 d_M_much_13 (by decide) (fun c_13 => ?_) (fun c_13 => ?_)
    · refine cw_bipush (v := (-2)) d_M_much_37 (by decide) ?_
      refine cw_iret rfl d_M_much_39 ?_
      exact ⟨by simp [ans_much, c_5, c_13], hR, kM.rf⟩
    · obtain ⟨h, hhh, e_h⟩ := ixB_t c_13 (by omega)
      subst e_h
      refine cw_aload_n d_M_much_16 rfl ?_
      refine cw_iload_n d_M_much_17 rfl ?_
      refine cw_virtP (s_M_isSet hR hI) rfl ml_M_114 so_M rfl rfl d_M_much_18 ?_
      refine cw_bif_eq 37 d_M_much_21 (by decide) (fun c_21 => ?_) (fun c_21 => ?_)
      · refine cw_bipush (v := (-2)) d_M_much_37 (by decide) ?_
        refine cw_iret rfl d_M_much_39 ?_
        exact ⟨by simp [ans_much, c_5, c_13, c_21], hR, kM.rf⟩
      · refine cw_iload d_M_much_24 rfl ?_
        refine cw_i2l d_M_much_26 ?_
        refine cw_lconst (v := 0) d_M_much_27 (by decide) ?_
        refine cw_ldc2_w kc_M_83 d_M_much_28 ?_
        refine cw_staticP (s_M_in) rfl ml_M_69 rfl rfl d_M_much_31 ?_
        refine cw_top (y := b2 (ixB w 3)) (by rw [inJ_ix 3 (by decide)]) ?_
        refine cw_bif_ne 40 d_M_much_34 (by decide) (fun c_34 => ?_) (fun c_34 => ?_)
        · obtain ⟨v, hhv, e_v⟩ := ixB_t c_34 (by omega)
          subst e_v
          rcases (show v = 0 ∨ v = 1 ∨ v = 2 by omega) with rfl | rfl | rfl
          · refine cw_iload d_M_much_40 rfl ?_
            refine cw_iconst (v := 2) d_M_much_42 (by decide) ?_
            refine cw_icmp_geN (0) (2) 58 rfl rfl (by omega) d_M_much_43 (by decide) (fun c_43 => ?_) (fun c_43 => ?_)
            · exact absurd c_43 (by decide)
            · refine cw_aload_n d_M_much_46 rfl ?_
              refine cw_iload_n d_M_much_47 rfl ?_
              refine cw_iload_n d_M_much_48 rfl ?_
              refine cw_virtP (s_M_doesKnow hR hI (k := k) (h := h) (by omega) (by omega)) rfl ml_M_218 so_M rfl rfl d_M_much_49 ?_
              refine cw_bif_ne 58 d_M_much_52 (by decide) (fun c_52 => ?_) (fun c_52 => ?_)
              · refine cw_iconst (v := (-1)) d_M_much_58 (by decide) ?_
                refine cw_istore d_M_much_59 rfl ?_
                refine cw_iconst (v := 0) d_M_much_61 (by decide) ?_
                refine cw_istore d_M_much_62 rfl ?_
                refine cw_iconst (v := 0) d_M_much_64 (by decide) ?_
                refine cw_istore d_M_much_65 rfl ?_
                have ham : ans_much σ (nI k) (nI h) s (nI 0) = lstN σ k h s := by
                  unfold ans_much
                  rw [if_pos (by simp [c_5, c_13, c_21, c_34]), ix_nI (by omega), ix_nI (by omega)]
                  rw [if_neg (fun q => by rw [c_52] at q; exact absurd q.2 (by decide))]
                  unfold muchS
                  rw [if_neg (by decide), if_pos (by decide)]
                rw [ham]
                have hz : lstN σ k h s = (frUp (fun t => enB σ k h s 255 (nI t)) (fun t => marS σ k (tryS σ h s 255 (nI t)) h) 61).1 := by unfold lstN; exact (fr_fst _ _ 61 (by decide)).symm
                rw [hz]
                exact l_M_much0 hR hI (by omega) (by omega) c_21 c_52 0 (by omega) _ _ hR kq.rf
              · refine cw_bipush (v := (-3)) d_M_much_55 (by decide) ?_
                refine cw_iret rfl d_M_much_57 ?_
                have ham : ans_much σ (nI k) (nI h) s (nI 0) = -3 := by
                  unfold ans_much
                  rw [if_pos (by simp [c_5, c_13, c_21, c_34]), ix_nI (by omega), ix_nI (by omega)]
                  rw [if_pos ⟨by decide, c_52⟩]
                rw [ham]
                exact ⟨rfl, hR, kM.rf⟩
          · refine cw_iload d_M_much_40 rfl ?_
            refine cw_iconst (v := 2) d_M_much_42 (by decide) ?_
            refine cw_icmp_geN (1) (2) 58 rfl rfl (by omega) d_M_much_43 (by decide) (fun c_43 => ?_) (fun c_43 => ?_)
            · exact absurd c_43 (by decide)
            · refine cw_aload_n d_M_much_46 rfl ?_
              refine cw_iload_n d_M_much_47 rfl ?_
              refine cw_iload_n d_M_much_48 rfl ?_
              refine cw_virtP (s_M_doesKnow hR hI (k := k) (h := h) (by omega) (by omega)) rfl ml_M_218 so_M rfl rfl d_M_much_49 ?_
              refine cw_bif_ne 58 d_M_much_52 (by decide) (fun c_52 => ?_) (fun c_52 => ?_)
              · refine cw_iconst (v := (-1)) d_M_much_58 (by decide) ?_
                refine cw_istore d_M_much_59 rfl ?_
                refine cw_iconst (v := 0) d_M_much_61 (by decide) ?_
                refine cw_istore d_M_much_62 rfl ?_
                refine cw_iconst (v := 0) d_M_much_64 (by decide) ?_
                refine cw_istore d_M_much_65 rfl ?_
                have ham : ans_much σ (nI k) (nI h) s (nI 1) = bstN σ k h s := by
                  unfold ans_much
                  rw [if_pos (by simp [c_5, c_13, c_21, c_34]), ix_nI (by omega), ix_nI (by omega)]
                  rw [if_neg (fun q => by rw [c_52] at q; exact absurd q.2 (by decide))]
                  unfold muchS
                  rw [if_neg (by decide), if_neg (by decide)]
                rw [ham]
                unfold bstN
                exact l_M_much1 hR hI (by omega) (by omega) c_21 c_52 0 (by omega) _ _ hR kq.rf
              · refine cw_bipush (v := (-3)) d_M_much_55 (by decide) ?_
                refine cw_iret rfl d_M_much_57 ?_
                have ham : ans_much σ (nI k) (nI h) s (nI 1) = -3 := by
                  unfold ans_much
                  rw [if_pos (by simp [c_5, c_13, c_21, c_34]), ix_nI (by omega), ix_nI (by omega)]
                  rw [if_pos ⟨by decide, c_52⟩]
                rw [ham]
                exact ⟨rfl, hR, kM.rf⟩
          · refine cw_iload d_M_much_40 rfl ?_
            refine cw_iconst (v := 2) d_M_much_42 (by decide) ?_
            refine cw_icmp_geN (2) (2) 58 rfl rfl (by omega) d_M_much_43 (by decide) (fun c_43 => ?_) (fun c_43 => ?_)
            · refine cw_iconst (v := (-1)) d_M_much_58 (by decide) ?_
              refine cw_istore d_M_much_59 rfl ?_
              refine cw_iconst (v := 0) d_M_much_61 (by decide) ?_
              refine cw_istore d_M_much_62 rfl ?_
              refine cw_iconst (v := 0) d_M_much_64 (by decide) ?_
              refine cw_istore d_M_much_65 rfl ?_
              have ham : ans_much σ (nI k) (nI h) s (nI 2) = lstM σ h s := by
                unfold ans_much
                rw [if_pos (by simp [c_5, c_13, c_21, c_34]), ix_nI (by omega), ix_nI (by omega)]
                rw [if_neg (fun q => q.1 rfl)]
                unfold muchS
                rw [if_pos (by decide)]
              rw [ham]
              unfold lstM
              exact l_M_much2 hR hI (k := k) (by omega) (by omega) c_21 61 0 (by omega) _ _ hR kq.rf
            · exact absurd c_43 (by decide)
        · refine cw_bipush (v := (-2)) d_M_much_37 (by decide) ?_
          refine cw_iret rfl d_M_much_39 ?_
          exact ⟨by simp [ans_much, c_5, c_13, c_21, c_34], hR, kM.rf⟩
def clN (c : Nat) : Nat := c &&& (c - 1)
theorem cl_ok : ∀ c, c < 256 → ¬ c = 0 → nI c &&& (nI c - 1) = nI (clN c) ∧ popN (clN c) + 1 = popN c ∧ clN c < 256 := by decide +kernel
theorem pop_b : ∀ c, c < 256 → popN c ≤ 8 ∧ (popN c = 0 ↔ c = 0) := by decide +kernel
set_option maxRecDepth 100000 in
theorem l_M_ones {M : Mem} {b : Nat} {x0 : Int32} (hb : b < 256)  : ∀ n c i, c < 256 → popN c = n → i + n = popN b → CW u_M_ones (pI (nI (popN b)) M) 4 [some (.int x0), some (.int (nI i)), some (.int (nI c))] [] M := by
  have hpb := (pop_b b hb).1
  intro n
  induction n with
  | zero =>
    intro c i hc hp hi
    have hc0 : c = 0 := (pop_b c hc).2.mp hp
    refine cw_iload_n d_M_ones_4 rfl ?_
    refine cw_if_eq 20 d_M_ones_5 (by decide) (fun c_5 => ?_) (fun c_5 => ?_)
    · refine cw_iload_n d_M_ones_20 rfl ?_
      refine cw_iret rfl d_M_ones_21 ?_
      exact ⟨by rw [← hi]; rfl, rfl⟩
    · exact absurd (by rw [hc0]; rfl) c_5
  | succ n ih =>
    intro c i hc hp hi
    have hc0 : ¬ c = 0 := fun z => by have := (pop_b c hc).2.mpr z; omega
    obtain ⟨g1, g2, g3⟩ := cl_ok c hc hc0
    refine cw_iload_n d_M_ones_4 rfl ?_
    refine cw_if_eq 20 d_M_ones_5 (by decide) (fun c_5 => ?_) (fun c_5 => ?_)
    · exact absurd ((nI_eq (b := 0) (by omega) (by decide)).mp c_5) hc0
    · refine cw_iincN (x := i) d_M_ones_8 rfl rfl ?_
      refine cw_iload_n d_M_ones_11 rfl ?_
      refine cw_iload_n d_M_ones_12 rfl ?_
      refine cw_iconst (v := 1) d_M_ones_13 (by decide) ?_
      refine cw_isub d_M_ones_14 ?_
      refine cw_iand d_M_ones_15 ?_
      refine cw_top g1 ?_
      refine cw_istore_n d_M_ones_16 rfl ?_
      refine cw_goto 4 d_M_ones_17 (by decide) ?_
      exact ih (clN c) (i + 1) g3 (by omega) (by omega)
set_option maxRecDepth 100000 in
theorem s_M_ones {M : Mem} {b : Nat} (hb : b < 256)  : CS u_M_ones [.int (nI b)] M (pI (nI (popN b)) M) := by
  refine cs_introF (L := [some (.int (nI b)), none, none]) (by decide +kernel) (fun ad q h => h) (fun ad => Nat.le_of_ble_eq_true rfl) ?_
  refine cw_iconst (v := 0) d_M_ones_0 (by decide) ?_
  refine cw_istore_n d_M_ones_1 rfl ?_
  refine cw_iload_n d_M_ones_2 rfl ?_
  refine cw_istore_n d_M_ones_3 rfl ?_
  exact l_M_ones hb (popN b) b 0 hb rfl (by omega)
set_option maxRecDepth 100000 in
theorem s_M_isEnough {M : Mem} {σ : Sg} (hR : RM M σ) (hI : Iv σ) {k h : Nat} {s bits t : Int32} (hk : k < σ.1.2.2) (hh : h < σ.1.1) (hs : setB s σ.1.1 = true)  : CS u_M_isEnough [.ref 1000, .int (nI k), .int (nI h), .int s, .int t, .int bits] M (retI (fun r M2 => r = b2 (enB σ k h s bits t) ∧ kq M M2)) := by
  obtain ⟨hn1, hn2, hn3⟩ := hI.n
  refine cs_introF (L := [some (.ref 1000), some (.int (nI k)), some (.int (nI h)), some (.int s), some (.int t), some (.int bits)]) (by decide +kernel) (fun ad q h => h) (fun ad => Nat.le_of_ble_eq_true rfl) ?_
  refine cw_aload_n d_M_isEnough_0 rfl ?_
  refine cw_iload_n d_M_isEnough_1 rfl ?_
  refine cw_iload_n d_M_isEnough_2 rfl ?_
  refine cw_iload d_M_isEnough_3 rfl ?_
  refine cw_iload d_M_isEnough_5 rfl ?_
  refine cw_virtV (s_M_sees_IIII hR hI (h := h) (s := s) hh hs) rfl ml_M_247 so_M rfl rfl d_M_isEnough_7 (fun M_7 q_7 => ?_)
  obtain ⟨k_7, n_7⟩ := q_7
  have hR_7 := RM_kq hR k_7
  refine cw_aload_n d_M_isEnough_10 rfl ?_
  refine cw_iload_n d_M_isEnough_11 rfl ?_
  refine cw_virtI (s_M_namedBy hR_7 hI (k := k) (mn := meanS σ s) hk (fun g => scB_try hI hk) n_7) rfl ml_M_238 so_M rfl rfl d_M_isEnough_12 (fun r_12 M_12 q_12 => ?_)
  obtain ⟨e_12, j_12⟩ := q_12
  subst e_12
  refine cw_iload_n d_M_isEnough_15 rfl ?_
  refine cw_icmp_ne 23 d_M_isEnough_16 (by decide) (fun c_16 => ?_) (fun c_16 => ?_)
  · refine cw_iconst (v := 0) d_M_isEnough_23 (by decide) ?_
    refine cw_zret rfl d_M_isEnough_24 (by first | exact Or.inl rfl | exact Or.inr rfl | exact b2_01 _) ?_
    exact ⟨b2_0 (decide_eq_false c_16), k_7.tr j_12.kq⟩
  · refine cw_iconst (v := 1) d_M_isEnough_19 (by decide) ?_
    refine cw_goto 24 d_M_isEnough_20 (by decide) ?_
    refine cw_zret rfl d_M_isEnough_24 (by first | exact Or.inl rfl | exact Or.inr rfl | exact b2_01 _) ?_
    exact ⟨b2_1 (decide_eq_true c_16), k_7.tr j_12.kq⟩
set_option maxRecDepth 100000 in
theorem s_M_isAsked {M : Mem} {σ : Sg} (hR : RM M σ) (hI : Iv σ) {x y s t : Int32} : CS u_M_isAsked [.ref 1000, .int x, .int y, .int s, .int t] M (pI (b2 (okPart σ x y s t)) M) := by
  obtain ⟨hn1, hn2, hn3⟩ := hI.n
  refine cs_introF (L := [some (.ref 1000), some (.int x), some (.int y), some (.int s), some (.int t)]) (by decide +kernel) (fun ad q h => h) (fun ad => Nat.le_of_ble_eq_true rfl) ?_
  refine cw_aload_n d_M_isAsked_0 rfl ?_
  refine cw_iload_n d_M_isAsked_1 rfl ?_
  refine cw_virtP (s_M_isKnower hR hI) rfl ml_M_193 so_M rfl rfl d_M_isAsked_2 ?_
  refine cw_bif_eq 41 d_M_isAsked_5 (by decide) (fun c_5 => ?_) (fun c_5 => ?_)
  · refine cw_iconst (v := 0) d_M_isAsked_41 (by decide) ?_
    refine cw_zret rfl d_M_isAsked_42 (by first | exact Or.inl rfl | exact Or.inr rfl | exact b2_01 _) ?_
    exact ⟨by simp [okPart, c_5, b2], rfl⟩
  · refine cw_aload_n d_M_isAsked_8 rfl ?_
    refine cw_iload_n d_M_isAsked_9 rfl ?_
    refine cw_virtP (s_M_isHead hR hI) rfl ml_M_103 so_M rfl rfl d_M_isAsked_10 ?_
    refine cw_bif_eq 41 d_M_isAsked_13 (by decide) (fun c_13 => ?_) (fun c_13 => ?_)
    · refine cw_iconst (v := 0) d_M_isAsked_41 (by decide) ?_
      refine cw_zret rfl d_M_isAsked_42 (by first | exact Or.inl rfl | exact Or.inr rfl | exact b2_01 _) ?_
      exact ⟨by simp [okPart, c_5, c_13, b2], rfl⟩
    · refine cw_aload_n d_M_isAsked_16 rfl ?_
      refine cw_iload_n d_M_isAsked_17 rfl ?_
      refine cw_virtP (s_M_isSet hR hI) rfl ml_M_114 so_M rfl rfl d_M_isAsked_18 ?_
      refine cw_bif_eq 41 d_M_isAsked_21 (by decide) (fun c_21 => ?_) (fun c_21 => ?_)
      · refine cw_iconst (v := 0) d_M_isAsked_41 (by decide) ?_
        refine cw_zret rfl d_M_isAsked_42 (by first | exact Or.inl rfl | exact Or.inr rfl | exact b2_01 _) ?_
        exact ⟨by simp [okPart, c_5, c_13, c_21, b2], rfl⟩
      · refine cw_iload d_M_isAsked_24 rfl ?_
        refine cw_i2l d_M_isAsked_26 ?_
        refine cw_lconst (v := 0) d_M_isAsked_27 (by decide) ?_
        refine cw_ldc2_w kc_M_155 d_M_isAsked_28 ?_
        refine cw_staticP (s_M_in) rfl ml_M_69 rfl rfl d_M_isAsked_31 ?_
        refine cw_top (y := b2 (ixB t 61)) (by rw [inJ_ix 61 (by decide)]) ?_
        refine cw_bif_eq 41 d_M_isAsked_34 (by decide) (fun c_34 => ?_) (fun c_34 => ?_)
        · refine cw_iconst (v := 0) d_M_isAsked_41 (by decide) ?_
          refine cw_zret rfl d_M_isAsked_42 (by first | exact Or.inl rfl | exact Or.inr rfl | exact b2_01 _) ?_
          exact ⟨by simp [okPart, c_5, c_13, c_21, c_34, b2], rfl⟩
        · refine cw_iconst (v := 1) d_M_isAsked_37 (by decide) ?_
          refine cw_goto 42 d_M_isAsked_38 (by decide) ?_
          refine cw_zret rfl d_M_isAsked_42 (by first | exact Or.inl rfl | exact Or.inr rfl | exact b2_01 _) ?_
          exact ⟨by simp [okPart, c_5, c_13, c_21, c_34, b2], rfl⟩
theorem or_s (f : Nat → Bool) (i : Nat) : orUp f i ||| (if f i = true then (1 : Int32) <<< (nI i &&& 31) else 0) = orUp f (i + 1) := by
  simp only [orUp]
  split
  · rfl
  · exact Int32.or_zero
set_option maxRecDepth 100000 in
theorem l_M_stands {M : Mem} {σ : Sg} (hR : RM M σ) (hI : Iv σ) {k h : Nat} {s t : Int32} (hk : k < σ.1.2.2) (hh : h < σ.1.1) (hs : setB s σ.1.1 = true)  : ∀ i, i ≤ 8 → ∀ (M' : Mem), RM M' σ → kq M M' → CW u_M_stands (rM (orUp (fun p => enB σ k h s (1 <<< (nI p &&& 31)) t) 8) σ M) 33 [some (.ref 1000), some (.int (nI k)), some (.int (nI h)), some (.int s), some (.int t), some (.int (orUp (fun p => enB σ k h s (1 <<< (nI p &&& 31)) t) i)), some (.int (nI i))] [] M' := by
  obtain ⟨hn1, hn2, hn3⟩ := hI.n
  refine up_ind (fun i hi ih M' hR' hk1 => ?_)
  refine cw_iload d_M_stands_33 rfl ?_
  refine cw_bipush (v := 8) d_M_stands_35 (by decide) ?_
  refine cw_icmp_geN (i) (8) 75 rfl rfl (by omega) d_M_stands_37 (by decide) (fun c_37 => ?_) (fun c_37 => ?_)
  · refine cw_iload d_M_stands_75 rfl ?_
    refine cw_iret rfl d_M_stands_77 ?_
    have ei : i = 8 := by omega
    subst ei
    exact ⟨rfl, hR', hk1.kM⟩
  · refine cw_iload d_M_stands_40 rfl ?_
    refine cw_aload_n d_M_stands_42 rfl ?_
    refine cw_iload_n d_M_stands_43 rfl ?_
    refine cw_iload_n d_M_stands_44 rfl ?_
    refine cw_iload_n d_M_stands_45 rfl ?_
    refine cw_iload d_M_stands_46 rfl ?_
    refine cw_iconst (v := 1) d_M_stands_48 (by decide) ?_
    refine cw_iload d_M_stands_49 rfl ?_
    refine cw_ishl d_M_stands_51 ?_
    refine cw_virtI (s_M_isEnough hR' hI (k := k) (h := h) (s := s) hk hh hs) rfl ml_M_257 so_M rfl rfl d_M_stands_52 (fun r_52 M_52 q_52 => ?_)
    obtain ⟨e_52, k_52⟩ := q_52
    subst e_52
    have hR_52 := RM_kq hR' k_52
    refine cw_tern1 66 (if (fun p => enB σ k h s (1 <<< (nI p &&& 31)) t) i = true then (1 : Int32) <<< (nI i &&& 31) else 0) ?_ (fun k_55 => ?_)
    · refine cw_ior d_M_stands_66 ?_
      refine cw_top (y := orUp (fun p => enB σ k h s (1 <<< (nI p &&& 31)) t) (i + 1)) (or_s _ _) ?_
      refine cw_istore d_M_stands_67 rfl ?_
      refine cw_iincN (x := i) d_M_stands_69 rfl rfl ?_
      refine cw_goto 33 d_M_stands_72 (by decide) ?_
      exact ih c_37 _ hR_52 (hk1.tr k_52)
    · refine cw_bif_eq 65 d_M_stands_55 (by decide) (fun c_55 => ?_) (fun c_55 => ?_)
      · refine cw_iconst (v := 0) d_M_stands_65 (by decide) ?_
        exact k_55 _ ((if_neg (by show ¬ enB σ k h s (1 <<< (nI i &&& 31)) t = true; rw [c_55]; decide)).symm)
      · refine cw_iconst (v := 1) d_M_stands_58 (by decide) ?_
        refine cw_iload d_M_stands_59 rfl ?_
        refine cw_ishl d_M_stands_61 ?_
        refine cw_goto 66 d_M_stands_62 (by decide) ?_
        exact k_55 _ ((if_pos c_55).symm)
set_option maxRecDepth 100000 in
theorem m_stands {M : Mem} {σ : Sg} (hR : RM M σ) (hI : Iv σ) {x y s t : Int32} : CS u_M_stands [.ref 1000, .int x, .int y, .int s, .int t] M (rM (ans_stands σ x y s t) σ M) := by
  obtain ⟨hn1, hn2, hn3⟩ := hI.n
  refine cs_introF (L := [some (.ref 1000), some (.int x), some (.int y), some (.int s), some (.int t), none, none]) (by decide +kernel) (fun ad q h => h) (fun ad => Nat.le_of_ble_eq_true rfl) ?_
  refine cw_aload_n d_M_stands_0 rfl ?_
  refine cw_iload_n d_M_stands_1 rfl ?_
  refine cw_iload_n d_M_stands_2 rfl ?_
  refine cw_iload_n d_M_stands_3 rfl ?_
  refine cw_iload d_M_stands_4 rfl ?_
  refine cw_virtP (s_M_isAsked hR hI) rfl ml_M_250 so_M rfl rfl d_M_stands_6 ?_
  refine cw_bif_ne 15 d_M_stands_9 (by decide) (fun c_9 => ?_) (fun c_9 => ?_)
  · have hok := c_9
    unfold okPart at hok
    simp only [Bool.and_eq_true] at hok
    obtain ⟨⟨⟨o1, o2⟩, hs⟩, o4⟩ := hok
    obtain ⟨k, hhk, e_k⟩ := ixB_t o1 (by omega)
    subst e_k
    obtain ⟨h, hhh, e_h⟩ := ixB_t o2 (by omega)
    subst e_h
    refine cw_aload_n d_M_stands_15 rfl ?_
    refine cw_iload_n d_M_stands_16 rfl ?_
    refine cw_iload_n d_M_stands_17 rfl ?_
    refine cw_virtP (s_M_doesKnow hR hI (k := k) (h := h) (by omega) (by omega)) rfl ml_M_218 so_M rfl rfl d_M_stands_18 ?_
    refine cw_bif_ne 27 d_M_stands_21 (by decide) (fun c_21 => ?_) (fun c_21 => ?_)
    · refine cw_iconst (v := 0) d_M_stands_27 (by decide) ?_
      refine cw_istore d_M_stands_28 rfl ?_
      refine cw_iconst (v := 0) d_M_stands_30 (by decide) ?_
      refine cw_istore d_M_stands_31 rfl ?_
      have hr : refS σ (nI k) (nI h) s t = 0 := by simp [refS, c_9, c_21, ix_nI (show k < 2 ^ 31 by omega), ix_nI (show h < 2 ^ 31 by omega)]
      have ha : ans_stands σ (nI k) (nI h) s t = orUp (fun p => enB σ k h s (1 <<< (nI p &&& 31)) t) 8 := by
        unfold ans_stands
        rw [hr, if_pos rfl, ix_nI (by omega), ix_nI (by omega)]
      rw [ha]
      exact l_M_stands hR hI (by omega) (by omega) hs 0 (by omega) _ hR kq.rf
    · refine cw_bipush (v := (-3)) d_M_stands_24 (by decide) ?_
      refine cw_iret rfl d_M_stands_26 ?_
      have hr : refS σ (nI k) (nI h) s t = -3 := by simp [refS, c_9, c_21, ix_nI (show k < 2 ^ 31 by omega), ix_nI (show h < 2 ^ 31 by omega)]
      have ha : ans_stands σ (nI k) (nI h) s t = -3 := by
        unfold ans_stands
        rw [hr, if_neg (by decide)]
      rw [ha]
      exact ⟨rfl, hR, kM.rf⟩
  · refine cw_bipush (v := (-2)) d_M_stands_12 (by decide) ?_
    refine cw_iret rfl d_M_stands_14 ?_
    exact ⟨by simp [ans_stands, refS, c_9], hR, kM.rf⟩
def bfUp (f : Nat → Bool) : Nat → Nat
  | 0 => 0
  | i + 1 => if (bfUp f i = 0 ∨ popN (i + 1) < popN (bfUp f i)) ∧ f (i + 1) = true then i + 1 else bfUp f i
def bfI (x : Nat) : Int32 := if x = 0 then -1 else nI x
def bfP (f : Nat → Bool) (N x : Nat) : Prop := (x = 0 ∧ ∀ b, 1 ≤ b → b ≤ N → f b = false) ∨ (1 ≤ x ∧ x ≤ N ∧ f x = true ∧ ∀ b, 1 ≤ b → b ≤ N → f b = true → popN x < popN b ∨ (popN x = popN b ∧ x ≤ b))
theorem bf_P (f : Nat → Bool) : ∀ n, bfP f n (bfUp f n) := by
  intro n
  induction n with
  | zero => exact Or.inl ⟨rfl, fun b h1 h2 => by omega⟩
  | succ n ih =>
    simp only [bfUp]
    by_cases q : (bfUp f n = 0 ∨ popN (n + 1) < popN (bfUp f n)) ∧ f (n + 1) = true
    · rw [if_pos q]
      refine Or.inr ⟨by omega, by omega, q.2, fun b h1 h2 h3 => ?_⟩
      by_cases e : b = n + 1
      · subst e; exact Or.inr ⟨rfl, by omega⟩
      · rcases ih with ⟨z, hz⟩ | ⟨x1, x2, x3, x4⟩
        · exact absurd h3 (by rw [hz b h1 (by omega)]; decide)
        · have := x4 b h1 (by omega) h3
          rcases q.1 with q1 | q1 <;> omega
    · rw [if_neg q]
      have hn : f (n + 1) = true → ¬ bfUp f n = 0 ∧ popN (bfUp f n) ≤ popN (n + 1) := fun z => ⟨fun y => q ⟨Or.inl y, z⟩, Nat.not_lt.mp (fun y => q ⟨Or.inr y, z⟩)⟩
      rcases ih with ⟨z, hz⟩ | ⟨x1, x2, x3, x4⟩
      · refine Or.inl ⟨z, fun b h1 h2 => ?_⟩
        by_cases e : b = n + 1
        · subst e
          cases hf : f (n + 1) with
          | false => rfl
          | true => exact absurd z (hn hf).1
        · exact hz b h1 (by omega)
      · refine Or.inr ⟨x1, by omega, x3, fun b h1 h2 h3 => ?_⟩
        by_cases e : b = n + 1
        · subst e
          have := (hn h3).2
          omega
        · exact x4 b h1 (by omega) h3
theorem bf_u {f : Nat → Bool} {N x y : Nat} (h1 : bfP f N x) (h2 : bfP f N y) : x = y := by
  rcases h1 with ⟨z1, h1⟩ | ⟨a1, a2, a3, a4⟩ <;> rcases h2 with ⟨z2, h2⟩ | ⟨b1, b2, b3, b4⟩
  · omega
  · exact absurd b3 (by rw [h1 y b1 b2]; decide)
  · exact absurd a3 (by rw [h2 x a1 a2]; decide)
  · have := a4 y b1 b2 b3
    have := b4 x a1 a2 a3
    omega
theorem fst_c (f : Nat → Bool) : ∀ n i, i + n < 900 → (fstUp f n i = -1 ∧ ∀ j, i ≤ j → j < i + n → f j = false) ∨ (∃ j, i ≤ j ∧ j < i + n ∧ f j = true ∧ fstUp f n i = nI j ∧ ∀ j', i ≤ j' → j' < j → f j' = false) := by
  intro n
  induction n with
  | zero => exact fun i _ => Or.inl ⟨rfl, fun j h1 h2 => by omega⟩
  | succ n ih =>
    intro i hi
    by_cases q : f i = true
    · exact Or.inr ⟨i, by omega, by omega, q, if_pos q, fun j h1 h2 => by omega⟩
    · have e : fstUp f (n + 1) i = fstUp f n (i + 1) := if_neg q
      have q' : f i = false := Bool.eq_false_iff.mpr q
      rcases ih (i + 1) (by omega) with ⟨h1, h2⟩ | ⟨j, h1, h2, h3, h4, h5⟩
      · refine Or.inl ⟨e.trans h1, fun j a b => ?_⟩
        by_cases z : j = i
        · rw [z]; exact q'
        · exact h2 j (by omega) (by omega)
      · refine Or.inr ⟨j, by omega, by omega, h3, e.trans h4, fun j' a b => ?_⟩
        by_cases z : j' = i
        · rw [z]; exact q'
        · exact h5 j' (by omega) b
theorem few_c (f : Nat → Bool) : ∀ n m, 1 ≤ m → (fewUp f n m = -1 ∧ ∀ b, 1 ≤ b → b ≤ 255 → m ≤ popN b → popN b < m + n → f b = false) ∨ (∃ x, 1 ≤ x ∧ x ≤ 255 ∧ f x = true ∧ m ≤ popN x ∧ fewUp f n m = nI x ∧ ∀ b, 1 ≤ b → b ≤ 255 → m ≤ popN b → f b = true → popN x < popN b ∨ (popN x = popN b ∧ x ≤ b)) := by
  intro n
  induction n with
  | zero => exact fun m _ => Or.inl ⟨rfl, fun b _ _ h1 h2 => by omega⟩
  | succ n ih =>
    intro m hm
    rcases fst_c (fun b => decide (popN b = m) && f b) 255 1 (by decide) with ⟨h1, h2⟩ | ⟨j, h1, h2, h3, h4, h5⟩
    · have e : fewUp f (n + 1) m = fewUp f n (m + 1) := if_pos h1
      have ne : ∀ b, 1 ≤ b → b ≤ 255 → f b = true → ¬ popN b = m := fun b a c d z => by
        have := h2 b a (by omega)
        simp [z, d] at this
      rcases ih (m + 1) (by omega) with ⟨g1, g2⟩ | ⟨x, g1, g2, g3, g4, g5, g6⟩
      · refine Or.inl ⟨e.trans g1, fun b a c d z => ?_⟩
        cases hf : f b with
        | false => rfl
        | true => exact absurd (g2 b a c (by have := ne b a c hf; omega) (by omega)) (by rw [hf]; decide)
      · exact Or.inr ⟨x, g1, g2, g3, by omega, e.trans g5, fun b a c d z => g6 b a c (by have := ne b a c z; omega) z⟩
    · simp only [Bool.and_eq_true, decide_eq_true_eq] at h3
      have e : fewUp f (n + 1) m = nI j := (if_neg (by rw [h4]; exact nI_m1 (by omega))).trans h4
      refine Or.inr ⟨j, h1, by omega, h3.2, by omega, e, fun b a c d z => ?_⟩
      by_cases q : popN b = m
      · refine Or.inr ⟨by omega, Nat.not_lt.mp (fun y => ?_)⟩
        have := h5 b a y
        simp [q, z] at this
      · exact Or.inl (by omega)
theorem few_bf (f : Nat → Bool) : fewUp f 8 1 = bfI (bfUp f 255) := by
  have pb : ∀ b, 1 ≤ b → b ≤ 255 → 1 ≤ popN b ∧ popN b < 9 := fun b a c => by
    have := pop_b b (by omega)
    omega
  rcases few_c f 8 1 (by decide) with ⟨h1, h2⟩ | ⟨x, h1, h2, h3, h4, h5, h6⟩
  · have : bfUp f 255 = 0 := bf_u (bf_P f 255) (Or.inl ⟨rfl, fun b a c => h2 b a c (pb b a c).1 (pb b a c).2⟩)
    rw [h1, this]; rfl
  · have : bfUp f 255 = x := bf_u (bf_P f 255) (Or.inr ⟨h1, h2, h3, fun b a c d => h6 b a c (pb b a c).1 d⟩)
    rw [h5, this]
    exact (if_neg (by omega)).symm
theorem bf_le (f : Nat → Bool) (n : Nat) : bfUp f n ≤ n := by
  rcases bf_P f n with h | h <;> omega
theorem bfI_m {x : Nat} (h : x < 900) : bfI x = -1 ↔ x = 0 := by
  unfold bfI
  by_cases q : x = 0
  · simp [q]
  · rw [if_neg q]
    exact ⟨fun z => absurd z (nI_m1 (by omega)), fun z => absurd z q⟩
set_option maxRecDepth 100000 in
theorem l_M_few {M : Mem} {σ : Sg} (hR : RM M σ) (hI : Iv σ) {k h : Nat} {s t : Int32} (hk : k < σ.1.2.2) (hh : h < σ.1.1) (hs : setB s σ.1.1 = true)  : ∀ i, i ≤ 255 → ∀ (M' : Mem) (o7 : Option Value), RM M' σ → kq M M' → CW u_M_few (rM (bfI (bfUp (fun b => enB σ k h s (nI b) t) 255)) σ M) 33 [some (.ref 1000), some (.int (nI k)), some (.int (nI h)), some (.int s), some (.int t), some (.int (bfI (bfUp (fun b => enB σ k h s (nI b) t) i))), some (.int (nI (i + 1))), o7] [] M' := by
  obtain ⟨hn1, hn2, hn3⟩ := hI.n
  refine up_ind (fun i hi ih M' o7 hR' hk1 => ?_)
  have hle := bf_le (fun b => enB σ k h s (nI b) t) i
  refine cw_iload d_M_few_33 rfl ?_
  refine cw_sipush (v := 256) d_M_few_35 (by decide) ?_
  refine cw_icmp_geN (i + 1) (256) 101 rfl rfl (by omega) d_M_few_38 (by decide) (fun c_38 => ?_) (fun c_38 => ?_)
  · refine cw_iload d_M_few_101 rfl ?_
    refine cw_iret rfl d_M_few_103 ?_
    have ei : i = 255 := by omega
    subst ei
    exact ⟨rfl, hR', hk1.kM⟩
  · refine cw_iload d_M_few_41 rfl ?_
    refine cw_iconst (v := (-1)) d_M_few_43 (by decide) ?_
    refine cw_tern2 65 (b2 (decide ((bfUp (fun b => enB σ k h s (nI b) t) i) = 0 ∨ popN (i + 1) < popN (bfUp (fun b => enB σ k h s (nI b) t) i)))) ?_ (fun k_44 => ?_)
    · refine cw_istore d_M_few_65 rfl ?_
      refine cw_iload d_M_few_67 rfl ?_
      refine cw_bif_eq 91 d_M_few_69 (by decide) (fun c_69 => ?_) (fun c_69 => ?_)
      · refine cw_iload d_M_few_91 rfl ?_
        refine cw_istore d_M_few_93 rfl ?_
        refine cw_iincN (x := i + 1) d_M_few_95 rfl rfl ?_
        refine cw_goto 33 d_M_few_98 (by decide) ?_
        have hst : (bfUp (fun b => enB σ k h s (nI b) t) (i + 1)) = (bfUp (fun b => enB σ k h s (nI b) t) i) := if_neg (fun q => (of_decide_eq_false c_69) q.1)
        exact cw_cast (by rw [hst]; rfl) rfl rfl (ih (by omega) _ _ hR' hk1)
      · refine cw_aload_n d_M_few_72 rfl ?_
        refine cw_iload_n d_M_few_73 rfl ?_
        refine cw_iload_n d_M_few_74 rfl ?_
        refine cw_iload_n d_M_few_75 rfl ?_
        refine cw_iload d_M_few_76 rfl ?_
        refine cw_iload d_M_few_78 rfl ?_
        refine cw_virtI (s_M_isEnough hR' hI (k := k) (h := h) (s := s) hk hh hs) rfl ml_M_257 so_M rfl rfl d_M_few_80 (fun r_80 M_80 q_80 => ?_)
        obtain ⟨e_80, k_80⟩ := q_80
        subst e_80
        have hR_80 := RM_kq hR' k_80
        refine cw_bif_eq 91 d_M_few_83 (by decide) (fun c_83 => ?_) (fun c_83 => ?_)
        · refine cw_iload d_M_few_91 rfl ?_
          refine cw_istore d_M_few_93 rfl ?_
          refine cw_iincN (x := i + 1) d_M_few_95 rfl rfl ?_
          refine cw_goto 33 d_M_few_98 (by decide) ?_
          have hst : (bfUp (fun b => enB σ k h s (nI b) t) (i + 1)) = (bfUp (fun b => enB σ k h s (nI b) t) i) := if_neg (fun q => by have h2 := q.2; exact absurd (c_83.symm.trans h2) (by decide))
          exact cw_cast (by rw [hst]; rfl) rfl rfl (ih (by omega) _ _ hR_80 (hk1.tr k_80))
        · refine cw_iload d_M_few_86 rfl ?_
          refine cw_goto 93 d_M_few_88 (by decide) ?_
          refine cw_istore d_M_few_93 rfl ?_
          refine cw_iincN (x := i + 1) d_M_few_95 rfl rfl ?_
          refine cw_goto 33 d_M_few_98 (by decide) ?_
          have hst : (bfUp (fun b => enB σ k h s (nI b) t) (i + 1)) = i + 1 := if_pos ⟨of_decide_eq_true c_69, c_83⟩
          exact cw_cast (by rw [hst, show bfI (i + 1) = nI (i + 1) from if_neg (by omega)]; rfl) rfl rfl (ih (by omega) _ _ hR_80 (hk1.tr k_80))
    · refine cw_icmp_eq 60 d_M_few_44 (by decide) (fun c_44 => ?_) (fun c_44 => ?_)
      · have h44 : (bfUp (fun b => enB σ k h s (nI b) t) i) = 0 := (bfI_m (by omega)).mp c_44
        refine cw_iconst (v := 1) d_M_few_60 (by decide) ?_
        refine cw_goto 65 d_M_few_61 (by decide) ?_
        exact k_44 _ (b2_1 (decide_eq_true (Or.inl h44)))
      · have h44 : ¬ (bfUp (fun b => enB σ k h s (nI b) t) i) = 0 := fun z => c_44 ((bfI_m (by omega)).mpr z)
        refine cw_iload d_M_few_47 rfl ?_
        refine cw_staticP (s_M_ones (b := i + 1) (by omega)) rfl ml_M_254 rfl rfl d_M_few_49 ?_
        refine cw_iload d_M_few_52 rfl ?_
        refine cw_top (show bfI (bfUp (fun b => enB σ k h s (nI b) t) i) = nI (bfUp (fun b => enB σ k h s (nI b) t) i) from if_neg h44) ?_
        refine cw_staticP (s_M_ones (b := (bfUp (fun b => enB σ k h s (nI b) t) i)) (by omega)) rfl ml_M_254 rfl rfl d_M_few_54 ?_
        have p1 := (pop_b (i + 1) (by omega)).1
        have p2 := (pop_b (bfUp (fun b => enB σ k h s (nI b) t) i) (by omega)).1
        refine cw_icmp_geN (popN (i + 1)) (popN (bfUp (fun b => enB σ k h s (nI b) t) i)) 64 rfl rfl (by omega) d_M_few_57 (by decide) (fun c_57 => ?_) (fun c_57 => ?_)
        · refine cw_iconst (v := 0) d_M_few_64 (by decide) ?_
          exact k_44 _ (b2_0 (decide_eq_false (fun q => q.elim h44 (fun z => by omega))))
        · refine cw_iconst (v := 1) d_M_few_60 (by decide) ?_
          refine cw_goto 65 d_M_few_61 (by decide) ?_
          exact k_44 _ (b2_1 (decide_eq_true (Or.inr (by omega))))
set_option maxRecDepth 100000 in
theorem m_few {M : Mem} {σ : Sg} (hR : RM M σ) (hI : Iv σ) {x y s t : Int32} : CS u_M_few [.ref 1000, .int x, .int y, .int s, .int t] M (rM (ans_few σ x y s t) σ M) := by
  obtain ⟨hn1, hn2, hn3⟩ := hI.n
  refine cs_introF (L := [some (.ref 1000), some (.int x), some (.int y), some (.int s), some (.int t), none, none, none]) (by decide +kernel) (fun ad q h => h) (fun ad => Nat.le_of_ble_eq_true rfl) ?_
  refine cw_aload_n d_M_few_0 rfl ?_
  refine cw_iload_n d_M_few_1 rfl ?_
  refine cw_iload_n d_M_few_2 rfl ?_
  refine cw_iload_n d_M_few_3 rfl ?_
  refine cw_iload d_M_few_4 rfl ?_
  refine cw_virtP (s_M_isAsked hR hI) rfl ml_M_250 so_M rfl rfl d_M_few_6 ?_
  refine cw_bif_ne 15 d_M_few_9 (by decide) (fun c_9 => ?_) (fun c_9 => ?_)
  · have hok := c_9
    unfold okPart at hok
    simp only [Bool.and_eq_true] at hok
    obtain ⟨⟨⟨o1, o2⟩, hs⟩, o4⟩ := hok
    obtain ⟨k, hhk, e_k⟩ := ixB_t o1 (by omega)
    subst e_k
    obtain ⟨h, hhh, e_h⟩ := ixB_t o2 (by omega)
    subst e_h
    refine cw_aload_n d_M_few_15 rfl ?_
    refine cw_iload_n d_M_few_16 rfl ?_
    refine cw_iload_n d_M_few_17 rfl ?_
    refine cw_virtP (s_M_doesKnow hR hI (k := k) (h := h) (by omega) (by omega)) rfl ml_M_218 so_M rfl rfl d_M_few_18 ?_
    refine cw_bif_ne 27 d_M_few_21 (by decide) (fun c_21 => ?_) (fun c_21 => ?_)
    · refine cw_iconst (v := (-1)) d_M_few_27 (by decide) ?_
      refine cw_istore d_M_few_28 rfl ?_
      refine cw_iconst (v := 1) d_M_few_30 (by decide) ?_
      refine cw_istore d_M_few_31 rfl ?_
      have hr : refS σ (nI k) (nI h) s t = 0 := by simp [refS, c_9, c_21, ix_nI (show k < 2 ^ 31 by omega), ix_nI (show h < 2 ^ 31 by omega)]
      have ha : ans_few σ (nI k) (nI h) s t = fewUp (fun b => enB σ k h s (nI b) t) 8 1 := by
        unfold ans_few
        rw [hr, if_pos rfl, ix_nI (by omega), ix_nI (by omega)]
      rw [ha]
      rw [few_bf]
      exact l_M_few hR hI (by omega) (by omega) hs 0 (by omega) _ _ hR kq.rf
    · refine cw_bipush (v := (-3)) d_M_few_24 (by decide) ?_
      refine cw_iret rfl d_M_few_26 ?_
      have hr : refS σ (nI k) (nI h) s t = -3 := by simp [refS, c_9, c_21, ix_nI (show k < 2 ^ 31 by omega), ix_nI (show h < 2 ^ 31 by omega)]
      have ha : ans_few σ (nI k) (nI h) s t = -3 := by
        unfold ans_few
        rw [hr, if_neg (by decide)]
      rw [ha]
      exact ⟨rfl, hR, kM.rf⟩
  · refine cw_bipush (v := (-2)) d_M_few_12 (by decide) ?_
    refine cw_iret rfl d_M_few_14 ?_
    exact ⟨by simp [ans_few, refS, c_9], hR, kM.rf⟩
