/-! ===== the reference: calls that write ===== -/
theorem LM_dom {σ : Sg} {t i j : Nat} (h : dM σ t i j) : ((LM t i j).1 = 1014 ∨ (LM t i j).1 = 1015 ∨ (LM t i j).1 = 1016 ∨ (LM t i j).1 = 1017 → (LM t i j).2 < σ.1.2.1) ∧ ((LM t i j).1 = 1018 ∨ (LM t i j).1 = 1019 → (LM t i j).2 < 8 * σ.1.2.1) ∧ ((LM t i j).1 = 1021 → (LM t i j).2 < σ.1.2.2) ∧ ((LM t i j).1 = 1022 → (LM t i j).2 < 8 * σ.1.2.2) := by
  unfold dM at h
  split at h
  all_goals first | exact h.elim | skip
  all_goals simp only [LM]
  all_goals refine ⟨fun q => ?_, fun q => ?_, fun q => ?_, fun q => ?_⟩
  all_goals omega
theorem RM_drw {M M0 : Mem} {σ : Sg} {hd yr kd src : Int32} {ln mn : Nat → Int32} (hR : RM M σ) (hk : ∀ t i j, dM σ t i j → mG M0 (LM t i j).1 (LM t i j).2 = mG M (LM t i j).1 (LM t i j).2) (k1 : mG M0 1000 5 = mG M 1000 5) (k2 : mG M0 1000 19 = mG M 1000 19) (g1 : mG M0 1014 σ.1.2.1 = hd) (g2 : mG M0 1015 σ.1.2.1 = yr) (g3 : mG M0 1016 σ.1.2.1 = kd) (g4 : mG M0 1017 σ.1.2.1 = src) (g5 : ∀ p, p < 8 → mG M0 1018 (8 * σ.1.2.1 + p) = ln p) (g6 : ∀ p, p < 8 → mG M0 1019 (8 * σ.1.2.1 + p) = mn p) : RM (mS M0 1000 12 (nI (σ.1.2.1 + 1))) (aftD σ hd yr kd src ln mn) := by
  refine ⟨(mS_j (by omega)).trans (k1.trans hR.n1), mS_at, (mS_j (by omega)).trans (k2.trans hR.n3), fun t i j hd' => ?_⟩
  by_cases q : i = σ.1.2.1 ∧ 5 ≤ t ∧ t ≤ 10
  · have ev : (aftD σ hd yr kd src ln mn).2 t i j = _ := if_pos q
    rw [ev]
    obtain ⟨rfl, q1, q2⟩ := q
    rcases (show t = 5 ∨ t = 6 ∨ t = 7 ∨ t = 8 ∨ t = 9 ∨ t = 10 by omega) with rfl | rfl | rfl | rfl | rfl | rfl
    · exact (mS_k (k' := 1014) (by omega)).trans g1
    · exact (mS_k (k' := 1015) (by omega)).trans g2
    · exact (mS_k (k' := 1016) (by omega)).trans g3
    · exact (mS_k (k' := 1017) (by omega)).trans g4
    · exact (mS_k (k' := 1018) (by omega)).trans (g5 j hd'.2)
    · exact (mS_k (k' := 1019) (by omega)).trans (g6 j hd'.2)
  · have ev : (aftD σ hd yr kd src ln mn).2 t i j = σ.2 t i j := if_neg q
    rw [ev]
    have e13 : (aftD σ hd yr kd src ln mn).2 13 i 0 = σ.2 13 i 0 := if_neg (by omega)
    have e14 : (aftD σ hd yr kd src ln mn).2 14 i 0 = σ.2 14 i 0 := if_neg (by omega)
    have hd2 : dM σ t i j := by
      unfold dM at hd' ⊢
      rw [e13, e14] at hd'
      split at hd' <;> simp_all [aftD] <;> omega
    have := (LM_ns hd2).2
    refine Eq.trans ?_ ((hk t i j hd2).trans (hR.2.2.2 t i j hd2))
    show (if _ then _ else _) = _
    rw [if_neg (fun q => by have := this q.1; omega)]
    rfl
theorem RM_knw {M M0 : Mem} {σ : Sg} {kn : Int32} {mn : Nat → Int32} (hR : RM M σ) (hk : ∀ t i j, dM σ t i j → mG M0 (LM t i j).1 (LM t i j).2 = mG M (LM t i j).1 (LM t i j).2) (k1 : mG M0 1000 5 = mG M 1000 5) (k2 : mG M0 1000 12 = mG M 1000 12) (g1 : mG M0 1021 σ.1.2.2 = kn) (g5 : ∀ p, p < 8 → mG M0 1022 (8 * σ.1.2.2 + p) = mn p) : RM (mS M0 1000 19 (nI (σ.1.2.2 + 1))) (aftK σ kn mn) := by
  refine ⟨(mS_j (by omega)).trans (k1.trans hR.n1), (mS_j (by omega)).trans (k2.trans hR.n2), mS_at, fun t i j hd' => ?_⟩
  by_cases q : i = σ.1.2.2 ∧ 11 ≤ t ∧ t ≤ 12
  · have ev : (aftK σ kn mn).2 t i j = _ := if_pos q
    rw [ev]
    obtain ⟨rfl, q1, q2⟩ := q
    rcases (show t = 11 ∨ t = 12 by omega) with rfl | rfl
    · exact (mS_k (k' := 1021) (by omega)).trans g1
    · exact (mS_k (k' := 1022) (by omega)).trans (g5 j hd'.2)
  · have ev : (aftK σ kn mn).2 t i j = σ.2 t i j := if_neg q
    rw [ev]
    have e13 : (aftK σ kn mn).2 13 i 0 = σ.2 13 i 0 := if_neg (by omega)
    have e14 : (aftK σ kn mn).2 14 i 0 = σ.2 14 i 0 := if_neg (by omega)
    have hd2 : dM σ t i j := by
      unfold dM at hd' ⊢
      rw [e13, e14] at hd'
      split at hd' <;> simp_all [aftK] <;> omega
    have := (LM_ns hd2).2
    refine Eq.trans ?_ ((hk t i j hd2).trans (hR.2.2.2 t i j hd2))
    show (if _ then _ else _) = _
    rw [if_neg (fun q => by have := this q.1; omega)]
    rfl
def mSg2 (M : Mem) (b n : Nat) (mn ln : Nat → Int32) : Mem := mSeg (mSeg M 1019 b n mn) 1018 b n ln
theorem mSg2_0 {M : Mem} {b : Nat} {mn ln : Nat → Int32} : mSg2 M b 0 mn ln = M := by unfold mSg2; rw [mSeg_0, mSeg_0]
theorem mS_mSeg {M : Mem} {k b n k' j : Nat} {f : Nat → Int32} {v : Int32} (h : k' ≠ k) : mS (mSeg M k b n f) k' j v = mSeg (mS M k' j v) k b n f := by
  unfold mS mSeg
  apply Prod.ext
  · funext a c
    by_cases q : a = k' ∧ c = j
    · have : ¬ (a = k ∧ b ≤ c ∧ c < b + n) := fun z => h (by omega)
      simp only [if_pos q, if_neg this]
    · simp only [if_neg q]
  · rfl
theorem mSg2_s {M : Mem} {b n : Nat} {mn ln : Nat → Int32} : mS (mS (mSg2 M b n mn ln) 1019 (b + n) (mn n)) 1018 (b + n) (ln n) = mSg2 M b (n + 1) mn ln := by
  unfold mSg2
  rw [mS_mSeg (by omega), mSeg_s, mSeg_s]
theorem mSg2_k {M : Mem} {b n k j : Nat} {mn ln : Nat → Int32} (h1 : k ≠ 1018) (h2 : k ≠ 1019) : mG (mSg2 M b n mn ln) k j = mG M k j := (mSeg_k h1).trans (mSeg_k h2)
theorem mSg2_o {M : Mem} {b n k j : Nat} {mn ln : Nat → Int32} (h : j < b) : mG (mSg2 M b n mn ln) k j = mG M k j := (mSeg_out (by omega)).trans (mSeg_out (by omega))
theorem mSg2_l {M : Mem} {b n p : Nat} {mn ln : Nat → Int32} (h : p < n) : mG (mSg2 M b n mn ln) 1018 (b + p) = ln p := mSeg_in h
theorem mSg2_m {M : Mem} {b n p : Nat} {mn ln : Nat → Int32} (h : p < n) : mG (mSg2 M b n mn ln) 1019 (b + p) = mn p := (mSeg_k (by omega)).trans (mSeg_in h)
/-- the seen sketch's four numbers beside its rows -/
def m4 (M : Mem) (d : Nat) (a b c e : Int32) : Mem := mS (mS (mS (mS M 1014 d a) 1015 d b) 1016 d c) 1017 d e
theorem m4_k {M : Mem} {d k j : Nat} {a b c e : Int32} (h : ¬ (1014 ≤ k ∧ k ≤ 1017 ∧ j = d)) : mG (m4 M d a b c e) k j = mG M k j := by
  unfold m4
  simp only [mG, mS]
  rw [if_neg (by omega), if_neg (by omega), if_neg (by omega), if_neg (by omega)]
theorem drw_keep {M : Mem} {σ : Sg} {a b c e : Int32} {mn ln : Nat → Int32} {n : Nat} : ∀ t i j, dM σ t i j → mG (m4 (mSg2 M (8 * σ.1.2.1) n mn ln) σ.1.2.1 a b c e) (LM t i j).1 (LM t i j).2 = mG M (LM t i j).1 (LM t i j).2 := by
  intro t i j hd
  have h := LM_dom hd
  rw [m4_k (fun q => by have := h.1 (by omega); omega)]
  by_cases q : (LM t i j).1 = 1018 ∨ (LM t i j).1 = 1019
  · exact mSg2_o (h.2.1 q)
  · exact mSg2_k (by omega) (by omega)
theorem RM_drw2 {M : Mem} {σ : Sg} {a b c e : Int32} {mn ln : Nat → Int32} (hR : RM M σ) : RM (mS (m4 (mSg2 M (8 * σ.1.2.1) 8 mn ln) σ.1.2.1 a b c e) 1000 12 (nI (σ.1.2.1 + 1))) (aftD σ a b c e ln mn) :=
  RM_drw hR drw_keep ((m4_k (by omega)).trans (mSg2_k (by omega) (by omega))) ((m4_k (by omega)).trans (mSg2_k (by omega) (by omega))) (by simp [m4, mS, mG]) (by simp [m4, mS, mG]) (by simp [m4, mS, mG]) (by simp [m4, mS, mG]) (fun p hp => (m4_k (by omega)).trans (mSg2_l hp)) (fun p hp => (m4_k (by omega)).trans (mSg2_m hp))
theorem mSg2_kM {M : Mem} {b n : Nat} {mn ln : Nat → Int32} : kM M (mSg2 M b n mn ln) := (mSeg_kM (by omega)).tr (mSeg_kM (by omega))
theorem m4_kM {M : Mem} {d : Nat} {a b c e : Int32} : kM M (m4 M d a b c e) := (((mS_kM (by omega)).tr (mS_kM (by omega))).tr (mS_kM (by omega))).tr (mS_kM (by omega))
set_option maxRecDepth 100000 in
theorem s_M_isLate {M : Mem} {σ : Sg} (hR : RM M σ) (hI : Iv σ) {x : Int32} : CS u_M_isLate [.ref 1000, .int x] M (pI (b2 (lateB σ x)) M) := by
  obtain ⟨hn1, hn2, hn3⟩ := hI.n
  refine cs_introF (L := [some (.ref 1000), some (.int x)]) (by decide +kernel) (fun ad q h => h) (fun ad => Nat.le_of_ble_eq_true rfl) ?_
  refine cw_iload_n d_M_isLate_0 rfl ?_
  refine cw_i2l d_M_isLate_1 ?_
  refine cw_aload_n d_M_isLate_2 rfl ?_
  refine cw_getI fl_M_157 so_M rfl d_M_isLate_3 ?_
  refine cw_tern1J 25 ((lastY σ).toInt64) ?_ (fun k_6 => ?_)
  · refine cw_ldc2_w kc_M_109 d_M_isLate_25 ?_
    refine cw_staticP (s_M_in) rfl ml_M_69 rfl rfl d_M_isLate_28 ?_
    refine cw_top (y := b2 (lateB σ x)) (by rw [inJ_lh, Int32.toInt_toInt64]; rfl) ?_
    refine cw_zret rfl d_M_isLate_31 (by first | exact Or.inl rfl | exact Or.inr rfl | exact b2_01 _) ?_
    exact ⟨rfl, rfl⟩
  · refine cw_if_ne 13 d_M_isLate_6 (by decide) (fun c_6 => ?_) (fun c_6 => ?_)
    · have hz0 : ¬ σ.1.2.1 = 0 := fun q => c_6 (by rw [hR.n2, q]; rfl)
      refine cw_aload_n d_M_isLate_13 rfl ?_
      refine cw_getR fl_M_40 so_M rfl d_M_isLate_14 ?_
      refine cw_aload_n d_M_isLate_17 rfl ?_
      refine cw_getI fl_M_157 so_M rfl d_M_isLate_18 ?_
      refine cw_iconst (v := 1) d_M_isLate_21 (by decide) ?_
      refine cw_isub d_M_isLate_22 ?_
      refine cw_ialdN (i := σ.1.2.1 - 1) sm_drawnYear (nSub hR.n2 rfl (by omega)) (by omega) (by decide) d_M_isLate_23 ?_
      refine cw_i2l d_M_isLate_24 ?_
      exact k_6 _ (by first | exact (show (0 : Int64) = (0 : Int32).toInt64 from rfl).trans (congrArg Int32.toInt64 (if_pos hz0).symm) | (rw [hR.dy (by omega)]; exact congrArg Int32.toInt64 (if_neg hz0).symm))
    · have hz0 : σ.1.2.1 = 0 := (nI_eq (b := 0) (by omega) (by decide)).mp (hR.n2 ▸ c_6)
      refine cw_lconst (v := 0) d_M_isLate_9 (by decide) ?_
      refine cw_goto 25 d_M_isLate_10 (by decide) ?_
      exact k_6 _ (by first | exact (show (0 : Int64) = (0 : Int32).toInt64 from rfl).trans (congrArg Int32.toInt64 (if_pos hz0).symm) | (rw [hR.dy (by omega)]; exact congrArg Int32.toInt64 (if_neg hz0).symm))
theorem nb_f {b : Bool} (h : (!b) = false) : b = true := by cases b; exact absurd h (by decide); rfl
theorem nb_t {b : Bool} (h : (!b) = true) : b = false := by cases b; rfl; exact absurd h (by decide)
def oppM (mn pl ten : Nat → Int32) (p : Nat) : Bool := decide (¬ pl p = mn p ∧ ten p < 0 ∧ ¬ ten p = LO)
theorem kind_M {σ : Sg} {a h : Nat} {s : Int32} : (if anyUp (fun p => decide (lnDraw σ a h s p = LO)) 8 = true then (3 : Int32) else if (!anyUp (fun p => decide (¬ lnDraw σ a h s p = σ.2 1 h p)) 8) = true then 0 else if anyUp (oppM (meanS σ s) (σ.2 1 h) (hPar σ a).2) 8 = true then 2 else 1) = kindS (lnDraw σ a h s) (meanS σ s) (σ.2 1 h) (hPar σ a).2 := by
  unfold kindS
  by_cases h1 : anyUp (fun p => decide (lnDraw σ a h s p = LO)) 8 = true
  · rw [if_pos h1, if_pos h1]
  · rw [if_neg h1, if_neg h1]
    have e : anyUp (oppM (meanS σ s) (σ.2 1 h) (hPar σ a).2) 8 = anyUp (oppP (meanS σ s) (σ.2 1 h) (hPar σ a).2) 8 := anyUp_congr (fun p hp => by
      have hl : ¬ lnDraw σ a h s p = LO := fun q => h1 (anyUp_t hp (decide_eq_true q))
      have ht : ¬ (hPar σ a).2 p = LO := fun q => hl (if_pos (Or.inr q))
      unfold oppM oppP
      exact decide_eq_decide.mpr ⟨fun q => ⟨q.1, q.2.1⟩, fun q => ⟨q.1, q.2, ht⟩⟩)
    rw [e]
    cases anyUp (fun p => decide (¬ lnDraw σ a h s p = σ.2 1 h p)) 8 <;> rfl
set_option maxHeartbeats 4000000 in
set_option maxRecDepth 100000 in
theorem l_M_draw {M : Mem} {σ : Sg} (hR : RM M σ) (hI : Iv σ) {a h : Nat} {s y : Int32} (ha : a < 4) (hh : h < σ.1.1) (hs : setB s σ.1.1 = true) (h30 : σ.1.2.1 < 30) (ht : ∀ p, p < 8 → mG M 1011 p = (hPar σ a).2 p)  : ∀ i, i ≤ 8 → ∀ o9 o10 o11, CW u_M_draw (rM (nI σ.1.2.1) (aftD σ (nI h) y (kindS (lnDraw σ a h s) (meanS σ s) (σ.2 1 h) (hPar σ a).2) (-1) (lnDraw σ a h s) (meanS σ s)) M) 65 [some (.ref 1000), some (.int (nI a)), some (.int (nI h)), some (.int s), some (.int y), some (.int (b2 (anyUp (fun p => decide (lnDraw σ a h s p = LO)) i))), some (.int (b2 (!anyUp (fun p => decide (¬ lnDraw σ a h s p = σ.2 1 h p)) i))), some (.int (b2 (anyUp (oppM (meanS σ s) (σ.2 1 h) (hPar σ a).2) i))), some (.int (nI i)), o9, o10, o11] [] (mSg2 M (8 * σ.1.2.1) i (meanS σ s) (lnDraw σ a h s)) := by
  obtain ⟨hn1, hn2, hn3⟩ := hI.n
  refine up_ind (fun i hi ih o9 o10 o11 => ?_)
  have ek : ∀ k j, k ≠ 1018 → k ≠ 1019 → mG (mSg2 M (8 * σ.1.2.1) i (meanS σ s) (lnDraw σ a h s)) k j = mG M k j := fun k j q1 q2 => mSg2_k q1 q2
  have hR1 : RM (mSg2 M (8 * σ.1.2.1) i (meanS σ s) (lnDraw σ a h s)) σ := ⟨(ek _ _ (by omega) (by omega)).trans hR.n1, (ek _ _ (by omega) (by omega)).trans hR.n2, (ek _ _ (by omega) (by omega)).trans hR.n3, fun t x z hd => by
    have hq := LM_dom hd
    refine Eq.trans ?_ (hR.2.2.2 t x z hd)
    by_cases q : (LM t x z).1 = 1018 ∨ (LM t x z).1 = 1019
    · exact mSg2_o (hq.2.1 q)
    · exact mSg2_k (by omega) (by omega)⟩
  refine cw_iload d_M_draw_65 rfl ?_
  refine cw_bipush (v := 8) d_M_draw_67 (by decide) ?_
  refine cw_icmp_geN (i) (8) 232 rfl rfl (by omega) d_M_draw_69 (by decide) (fun c_69 => ?_) (fun c_69 => ?_)
  · have ei : i = 8 := by omega
    subst ei
    have hq : mG (mSg2 M (8 * σ.1.2.1) 8 (meanS σ s) (lnDraw σ a h s)) 1000 12 = nI σ.1.2.1 := (ek _ _ (by omega) (by omega)).trans hR.n2
    refine cw_aload_n d_M_draw_232 rfl ?_
    refine cw_getR fl_M_37 so_M rfl d_M_draw_233 ?_
    refine cw_aload_n d_M_draw_236 rfl ?_
    refine cw_getI fl_M_157 so_M rfl d_M_draw_237 ?_
    refine cw_iload_n d_M_draw_240 rfl ?_
    refine cw_iastN (i := σ.1.2.1) sm_drawnHead hq (by omega) (by decide) d_M_draw_241 ?_
    refine cw_aload_n d_M_draw_242 rfl ?_
    refine cw_getR fl_M_40 so_M rfl d_M_draw_243 ?_
    refine cw_aload_n d_M_draw_246 rfl ?_
    refine cw_getI fl_M_157 so_M rfl d_M_draw_247 ?_
    refine cw_iload d_M_draw_250 rfl ?_
    refine cw_iastN (i := σ.1.2.1) sm_drawnYear ((mS_k (by omega)).trans hq) (by omega) (by decide) d_M_draw_252 ?_
    refine cw_aload_n d_M_draw_253 rfl ?_
    refine cw_getR fl_M_43 so_M rfl d_M_draw_254 ?_
    refine cw_aload_n d_M_draw_257 rfl ?_
    refine cw_getI fl_M_157 so_M rfl d_M_draw_258 ?_
    refine cw_iload d_M_draw_261 rfl ?_
    refine cw_tern1 289 ((kindS (lnDraw σ a h s) (meanS σ s) (σ.2 1 h) (hPar σ a).2)) ?_ (fun k_263 => ?_)
    · refine cw_iastN (i := σ.1.2.1) sm_drawnKind ((mS_k (by omega)).trans ((mS_k (by omega)).trans hq)) (by omega) (by decide) d_M_draw_289 ?_
      refine cw_aload_n d_M_draw_290 rfl ?_
      refine cw_getR fl_M_46 so_M rfl d_M_draw_291 ?_
      refine cw_aload_n d_M_draw_294 rfl ?_
      refine cw_getI fl_M_157 so_M rfl d_M_draw_295 ?_
      refine cw_iconst (v := (-1)) d_M_draw_298 (by decide) ?_
      refine cw_iastN (i := σ.1.2.1) sm_copiedFrom ((mS_k (by omega)).trans ((mS_k (by omega)).trans ((mS_k (by omega)).trans hq))) (by omega) (by decide) d_M_draw_299 ?_
      refine cw_mem (M' := m4 (mSg2 M (8 * σ.1.2.1) 8 (meanS σ s) (lnDraw σ a h s)) σ.1.2.1 (nI h) y (kindS (lnDraw σ a h s) (meanS σ s) (σ.2 1 h) (hPar σ a).2) (-1)) rfl ?_
      refine cw_aload_n d_M_draw_300 rfl ?_
      refine cw_dup_ref d_M_draw_301 ?_
      refine cw_getI fl_M_157 so_M rfl d_M_draw_302 ?_
      refine cw_top ((m4_k (by omega)).trans hq) ?_
      refine cw_iconst (v := 1) d_M_draw_305 (by decide) ?_
      refine cw_iadd d_M_draw_306 ?_
      refine cw_top (nI_1 σ.1.2.1) ?_
      refine cw_putI fp_M_157 so_M rfl d_M_draw_307 ?_
      refine cw_aload_n d_M_draw_310 rfl ?_
      refine cw_getI fl_M_157 so_M rfl d_M_draw_311 ?_
      refine cw_top mS_at ?_
      refine cw_iconst (v := 1) d_M_draw_314 (by decide) ?_
      refine cw_isub d_M_draw_315 ?_
      refine cw_iret rfl d_M_draw_316 ?_
      exact ⟨by rw [← nI_1]; exact Int32.add_sub_cancel _ _, RM_drw2 hR, (mSg2_kM.tr m4_kM).tr (mS_kM (by omega))⟩
    · refine cw_bif_eq 270 d_M_draw_263 (by decide) (fun c_263 => ?_) (fun c_263 => ?_)
      · refine cw_iload d_M_draw_270 rfl ?_
        refine cw_bif_eq 279 d_M_draw_272 (by decide) (fun c_272 => ?_) (fun c_272 => ?_)
        · refine cw_iload d_M_draw_279 rfl ?_
          refine cw_bif_eq 288 d_M_draw_281 (by decide) (fun c_281 => ?_) (fun c_281 => ?_)
          · refine cw_iconst (v := 1) d_M_draw_288 (by decide) ?_
            exact k_263 _ (by rw [← kind_M]; first | exact (if_pos c_263).symm | (rw [if_neg (Bool.eq_false_iff.mp c_263)]; first | exact (if_pos c_272).symm | (rw [if_neg (Bool.eq_false_iff.mp c_272)]; first | exact (if_pos c_281).symm | exact (if_neg (Bool.eq_false_iff.mp c_281)).symm)))
          · refine cw_iconst (v := 2) d_M_draw_284 (by decide) ?_
            refine cw_goto 289 d_M_draw_285 (by decide) ?_
            exact k_263 _ (by rw [← kind_M]; first | exact (if_pos c_263).symm | (rw [if_neg (Bool.eq_false_iff.mp c_263)]; first | exact (if_pos c_272).symm | (rw [if_neg (Bool.eq_false_iff.mp c_272)]; first | exact (if_pos c_281).symm | exact (if_neg (Bool.eq_false_iff.mp c_281)).symm)))
        · refine cw_iconst (v := 0) d_M_draw_275 (by decide) ?_
          refine cw_goto 289 d_M_draw_276 (by decide) ?_
          exact k_263 _ (by rw [← kind_M]; first | exact (if_pos c_263).symm | (rw [if_neg (Bool.eq_false_iff.mp c_263)]; first | exact (if_pos c_272).symm | (rw [if_neg (Bool.eq_false_iff.mp c_272)]; first | exact (if_pos c_281).symm | exact (if_neg (Bool.eq_false_iff.mp c_281)).symm)))
      · refine cw_iconst (v := 3) d_M_draw_266 (by decide) ?_
        refine cw_goto 289 d_M_draw_267 (by decide) ?_
        exact k_263 _ (by rw [← kind_M]; first | exact (if_pos c_263).symm | (rw [if_neg (Bool.eq_false_iff.mp c_263)]; first | exact (if_pos c_272).symm | (rw [if_neg (Bool.eq_false_iff.mp c_272)]; first | exact (if_pos c_281).symm | exact (if_neg (Bool.eq_false_iff.mp c_281)).symm)))
  · refine cw_aload_n d_M_draw_72 rfl ?_
    refine cw_getR fl_M_22 so_M rfl d_M_draw_73 ?_
    refine cw_bipush (v := 8) d_M_draw_76 (by decide) ?_
    refine cw_iload_n d_M_draw_78 rfl ?_
    refine cw_imul d_M_draw_79 ?_
    refine cw_iload d_M_draw_80 rfl ?_
    refine cw_iadd d_M_draw_82 ?_
    refine cw_ialdN (i := (8 * h) + i) sm_places (nAdd (nMul rfl rfl) rfl) (by omega) (by decide) d_M_draw_83 ?_
    refine cw_top (hR1.pl hh (by omega)) ?_
    refine cw_istore d_M_draw_84 rfl ?_
    refine cw_aload_n d_M_draw_86 rfl ?_
    refine cw_iload_n d_M_draw_87 rfl ?_
    refine cw_iload d_M_draw_88 rfl ?_
    refine cw_virtP (s_M_meanOf hR1 hI (p := i) (by omega) hs) rfl ml_M_117 so_M rfl rfl d_M_draw_90 ?_
    refine cw_istore d_M_draw_93 rfl ?_
    refine cw_iload d_M_draw_95 rfl ?_
    refine cw_iload d_M_draw_97 rfl ?_
    refine cw_aload_n d_M_draw_99 rfl ?_
    refine cw_getR fl_M_31 so_M rfl d_M_draw_100 ?_
    refine cw_iload d_M_draw_103 rfl ?_
    refine cw_ialdN (i := i) sm_tenthsOf rfl (by omega) (by decide) d_M_draw_105 ?_
    refine cw_top ((ek _ _ (by omega) (by omega)).trans (ht i (by omega))) ?_
    refine cw_staticP (s_M_drawnBy) rfl ml_M_152 rfl rfl d_M_draw_106 ?_
    refine cw_top (y := lnDraw σ a h s i) rfl ?_
    refine cw_istore d_M_draw_109 rfl ?_
    refine cw_aload_n d_M_draw_111 rfl ?_
    refine cw_getR fl_M_52 so_M rfl d_M_draw_112 ?_
    refine cw_bipush (v := 8) d_M_draw_115 (by decide) ?_
    refine cw_aload_n d_M_draw_117 rfl ?_
    refine cw_getI fl_M_157 so_M rfl d_M_draw_118 ?_
    refine cw_imul d_M_draw_121 ?_
    refine cw_iload d_M_draw_122 rfl ?_
    refine cw_iadd d_M_draw_124 ?_
    refine cw_iload d_M_draw_125 rfl ?_
    refine cw_iastN (i := (8 * (σ.1.2.1)) + i) sm_means (nAdd (nMul rfl ((ek _ _ (by omega) (by omega)).trans hR.n2)) rfl) (by omega) (by decide) d_M_draw_127 ?_
    refine cw_aload_n d_M_draw_128 rfl ?_
    refine cw_getR fl_M_49 so_M rfl d_M_draw_129 ?_
    refine cw_bipush (v := 8) d_M_draw_132 (by decide) ?_
    refine cw_aload_n d_M_draw_134 rfl ?_
    refine cw_getI fl_M_157 so_M rfl d_M_draw_135 ?_
    refine cw_imul d_M_draw_138 ?_
    refine cw_iload d_M_draw_139 rfl ?_
    refine cw_iadd d_M_draw_141 ?_
    refine cw_iload d_M_draw_142 rfl ?_
    refine cw_iastN (i := (8 * (σ.1.2.1)) + i) sm_lines (nAdd (nMul rfl ((mS_k (by omega)).trans ((ek _ _ (by omega) (by omega)).trans hR.n2))) rfl) (by omega) (by decide) d_M_draw_144 ?_
    refine cw_iload d_M_draw_145 rfl ?_
    refine cw_tern1 163 (b2 (anyUp (fun p => decide (lnDraw σ a h s p = LO)) (i + 1))) ?_ (fun k_147 => ?_)
    · refine cw_istore d_M_draw_163 rfl ?_
      refine cw_iload d_M_draw_165 rfl ?_
      refine cw_tern1 182 (b2 (!anyUp (fun p => decide (¬ lnDraw σ a h s p = σ.2 1 h p)) (i + 1))) ?_ (fun k_167 => ?_)
      · refine cw_istore d_M_draw_182 rfl ?_
        refine cw_iload d_M_draw_184 rfl ?_
        refine cw_tern1 224 (b2 (anyUp (oppM (meanS σ s) (σ.2 1 h) (hPar σ a).2) (i + 1))) ?_ (fun k_186 => ?_)
        · refine cw_istore d_M_draw_224 rfl ?_
          refine cw_iincN (x := i) d_M_draw_226 rfl rfl ?_
          refine cw_goto 65 d_M_draw_229 (by decide) ?_
          exact cw_cast (by simp only [lset1, kl]; rfl) rfl (mSg2_s (mn := (meanS σ s)) (ln := (lnDraw σ a h s))) (ih c_69 _ _ _)
        · refine cw_bif_ne 219 d_M_draw_186 (by decide) (fun c_186 => ?_) (fun c_186 => ?_)
          · refine cw_iconst (v := 1) d_M_draw_219 (by decide) ?_
            refine cw_goto 224 d_M_draw_220 (by decide) ?_
            exact k_186 _ (b2_1 (by simp only [anyUp, c_186, Bool.true_or]))
          · refine cw_iload d_M_draw_189 rfl ?_
            refine cw_iload d_M_draw_191 rfl ?_
            refine cw_icmp_eq 223 d_M_draw_193 (by decide) (fun c_193 => ?_) (fun c_193 => ?_)
            · refine cw_iconst (v := 0) d_M_draw_223 (by decide) ?_
              exact k_186 _ (b2_0 (by simp only [anyUp, c_186, Bool.false_or]; exact decide_eq_false (fun q => q.1 c_193)))
            · refine cw_aload_n d_M_draw_196 rfl ?_
              refine cw_getR fl_M_31 so_M rfl d_M_draw_197 ?_
              refine cw_iload d_M_draw_200 rfl ?_
              refine cw_ialdN (i := i) sm_tenthsOf rfl (by omega) (by decide) d_M_draw_202 ?_
              refine cw_top (((mS_k (by omega)).trans ((mS_k (by omega)).trans (ek _ _ (by omega) (by omega)))).trans (ht i (by omega))) ?_
              refine cw_if_ge 223 d_M_draw_203 (by decide) (fun c_203 => ?_) (fun c_203 => ?_)
              · refine cw_iconst (v := 0) d_M_draw_223 (by decide) ?_
                exact k_186 _ (b2_0 (by simp only [anyUp, c_186, Bool.false_or]; exact decide_eq_false (fun q => absurd c_203 (i32_nle.mpr q.2.1))))
              · refine cw_aload_n d_M_draw_206 rfl ?_
                refine cw_getR fl_M_31 so_M rfl d_M_draw_207 ?_
                refine cw_iload d_M_draw_210 rfl ?_
                refine cw_ialdN (i := i) sm_tenthsOf rfl (by omega) (by decide) d_M_draw_212 ?_
                refine cw_top (((mS_k (by omega)).trans ((mS_k (by omega)).trans (ek _ _ (by omega) (by omega)))).trans (ht i (by omega))) ?_
                refine cw_sipush (v := (-9999)) d_M_draw_213 (by decide) ?_
                refine cw_icmp_eq 223 d_M_draw_216 (by decide) (fun c_216 => ?_) (fun c_216 => ?_)
                · refine cw_iconst (v := 0) d_M_draw_223 (by decide) ?_
                  exact k_186 _ (b2_0 (by simp only [anyUp, c_186, Bool.false_or]; exact decide_eq_false (fun q => q.2.2 c_216)))
                · refine cw_iconst (v := 1) d_M_draw_219 (by decide) ?_
                  refine cw_goto 224 d_M_draw_220 (by decide) ?_
                  exact k_186 _ (b2_1 (by simp only [anyUp, c_186, Bool.false_or]; exact decide_eq_true ⟨c_193, i32_nle.mp c_203, c_216⟩))
      · refine cw_bif_eq 181 d_M_draw_167 (by decide) (fun c_167 => ?_) (fun c_167 => ?_)
        · refine cw_iconst (v := 0) d_M_draw_181 (by decide) ?_
          exact k_167 _ (b2_0 (by simp only [anyUp]; rw [nb_f c_167, Bool.true_or]; rfl))
        · refine cw_iload d_M_draw_170 rfl ?_
          refine cw_iload d_M_draw_172 rfl ?_
          refine cw_icmp_ne 181 d_M_draw_174 (by decide) (fun c_174 => ?_) (fun c_174 => ?_)
          · refine cw_iconst (v := 0) d_M_draw_181 (by decide) ?_
            exact k_167 _ (b2_0 (by simp only [anyUp]; rw [decide_eq_true c_174, Bool.or_true]; rfl))
          · refine cw_iconst (v := 1) d_M_draw_177 (by decide) ?_
            refine cw_goto 182 d_M_draw_178 (by decide) ?_
            exact k_167 _ (b2_1 (by simp only [anyUp]; rw [nb_t c_167, decide_eq_false (fun q => q c_174)]; rfl))
    · refine cw_bif_ne 158 d_M_draw_147 (by decide) (fun c_147 => ?_) (fun c_147 => ?_)
      · refine cw_iconst (v := 1) d_M_draw_158 (by decide) ?_
        refine cw_goto 163 d_M_draw_159 (by decide) ?_
        exact k_147 _ (b2_1 (by simp only [anyUp, c_147, Bool.true_or]))
      · refine cw_iload d_M_draw_150 rfl ?_
        refine cw_sipush (v := (-9999)) d_M_draw_152 (by decide) ?_
        refine cw_icmp_ne 162 d_M_draw_155 (by decide) (fun c_155 => ?_) (fun c_155 => ?_)
        · refine cw_iconst (v := 0) d_M_draw_162 (by decide) ?_
          exact k_147 _ (b2_0 (by simp only [anyUp, c_147, Bool.false_or]; exact decide_eq_false c_155))
        · refine cw_iconst (v := 1) d_M_draw_158 (by decide) ?_
          refine cw_goto 163 d_M_draw_159 (by decide) ?_
          exact k_147 _ (b2_1 (by simp only [anyUp, c_147, Bool.false_or]; exact decide_eq_true c_155))
set_option maxRecDepth 100000 in
theorem m_draw {M : Mem} {σ : Sg} (hR : RM M σ) (hI : Iv σ) {x z s y : Int32} : CS u_M_draw [.ref 1000, .int x, .int z, .int s, .int y] M (rM (ans_draw σ x z s y) (aft_draw σ x z s y) M) := by
  obtain ⟨hn1, hn2, hn3⟩ := hI.n
  refine cs_introF (L := [some (.ref 1000), some (.int x), some (.int z), some (.int s), some (.int y), none, none, none, none, none, none, none]) (by decide +kernel) (fun ad q h => h) (fun ad => Nat.le_of_ble_eq_true rfl) ?_
  refine cw_iload_n d_M_draw_0 rfl ?_
  refine cw_staticP (s_M_isHand) rfl ml_M_120 rfl rfl d_M_draw_1 ?_
  refine cw_bif_eq 32 d_M_draw_4 (by decide) (fun c_4 => ?_) (fun c_4 => ?_)
  · refine cw_bipush (v := (-2)) d_M_draw_32 (by decide) ?_
    refine cw_iret rfl d_M_draw_34 ?_
    exact ⟨by simp [ans_draw, okDraw, c_4], by simp [aft_draw, okDraw, c_4]; exact hR, kM.rf⟩
  · obtain ⟨a, hha, e_a⟩ := ixB_t c_4 (by omega)
    subst e_a
    refine cw_aload_n d_M_draw_7 rfl ?_
    refine cw_iload_n d_M_draw_8 rfl ?_
    refine cw_virtP (s_M_isHead hR hI) rfl ml_M_103 so_M rfl rfl d_M_draw_9 ?_
    refine cw_bif_eq 32 d_M_draw_12 (by decide) (fun c_12 => ?_) (fun c_12 => ?_)
    · refine cw_bipush (v := (-2)) d_M_draw_32 (by decide) ?_
      refine cw_iret rfl d_M_draw_34 ?_
      exact ⟨by simp [ans_draw, okDraw, c_4, c_12], by simp [aft_draw, okDraw, c_4, c_12]; exact hR, kM.rf⟩
    · obtain ⟨h, hhh, e_h⟩ := ixB_t c_12 (by omega)
      subst e_h
      refine cw_aload_n d_M_draw_15 rfl ?_
      refine cw_iload_n d_M_draw_16 rfl ?_
      refine cw_virtP (s_M_isSet hR hI) rfl ml_M_114 so_M rfl rfl d_M_draw_17 ?_
      refine cw_bif_eq 32 d_M_draw_20 (by decide) (fun c_20 => ?_) (fun c_20 => ?_)
      · refine cw_bipush (v := (-2)) d_M_draw_32 (by decide) ?_
        refine cw_iret rfl d_M_draw_34 ?_
        exact ⟨by simp [ans_draw, okDraw, c_4, c_12, c_20], by simp [aft_draw, okDraw, c_4, c_12, c_20]; exact hR, kM.rf⟩
      · refine cw_aload_n d_M_draw_23 rfl ?_
        refine cw_iload d_M_draw_24 rfl ?_
        refine cw_virtP (s_M_isLate hR hI) rfl ml_M_160 so_M rfl rfl d_M_draw_26 ?_
        refine cw_bif_ne 35 d_M_draw_29 (by decide) (fun c_29 => ?_) (fun c_29 => ?_)
        · refine cw_aload_n d_M_draw_35 rfl ?_
          refine cw_getI fl_M_157 so_M rfl d_M_draw_36 ?_
          refine cw_bipush (v := 30) d_M_draw_39 (by decide) ?_
          refine cw_icmp_neN (σ.1.2.1) (30) 47 hR.n2 rfl (by omega) d_M_draw_41 (by decide) (fun c_41 => ?_) (fun c_41 => ?_)
          · refine cw_aload_n d_M_draw_47 rfl ?_
            refine cw_iload_n d_M_draw_48 rfl ?_
            refine cw_virtI (s_M_reads hR hI (a := a) (by omega)) rfl ml_M_146 so_M rfl rfl d_M_draw_49 (fun r_49 M_49 q_49 => ?_)
            obtain ⟨e_49, k_49, t_49⟩ := q_49
            subst e_49
            have hR_49 := RM_kq hR k_49
            refine cw_pop_int d_M_draw_52 ?_
            refine cw_iconst (v := 0) d_M_draw_53 (by decide) ?_
            refine cw_istore d_M_draw_54 rfl ?_
            refine cw_iconst (v := 1) d_M_draw_56 (by decide) ?_
            refine cw_istore d_M_draw_57 rfl ?_
            refine cw_iconst (v := 0) d_M_draw_59 (by decide) ?_
            refine cw_istore d_M_draw_60 rfl ?_
            refine cw_iconst (v := 0) d_M_draw_62 (by decide) ?_
            refine cw_istore d_M_draw_63 rfl ?_
            have hok : okDraw σ (nI a) (nI h) s y = true := by simp [okDraw, c_4, c_12, c_20, c_29]
            have hans : ans_draw σ (nI a) (nI h) s y = nI σ.1.2.1 := by simp [ans_draw, hok, c_41]
            have haft : aft_draw σ (nI a) (nI h) s y = aftD σ (nI h) y (kindS (lnDraw σ a h s) (meanS σ s) (σ.2 1 h) (hPar σ a).2) (-1) (lnDraw σ a h s) (meanS σ s) := by simp only [aft_draw, hok, if_true, if_neg c_41, ix_nI (show a < 2 ^ 31 by omega), ix_nI (show h < 2 ^ 31 by omega)]
            rw [hans, haft]
            refine cw_post (fun v M2 hq => ?_) (cw_mem mSg2_0.symm (l_M_draw hR_49 hI (a := a) (h := h) (s := s) (y := y) (by omega) (by omega) c_20 (by omega) t_49 0 (by omega) _ _ _))
            obtain ⟨r, hv, hr, hR2, hk2⟩ := hq
            exact ⟨r, hv, hr, hR2, k_49.kM.tr hk2⟩
          · refine cw_bipush (v := (-4)) d_M_draw_44 (by decide) ?_
            refine cw_iret rfl d_M_draw_46 ?_
            have hok : okDraw σ (nI a) (nI h) s y = true := by simp [okDraw, c_4, c_12, c_20, c_29]
            exact ⟨by simp [ans_draw, hok, c_41], by simp [aft_draw, hok, c_41]; exact hR, kM.rf⟩
        · refine cw_bipush (v := (-2)) d_M_draw_32 (by decide) ?_
          refine cw_iret rfl d_M_draw_34 ?_
          exact ⟨by simp [ans_draw, okDraw, c_4, c_12, c_20, c_29], by simp [aft_draw, okDraw, c_4, c_12, c_20, c_29]; exact hR, kM.rf⟩
set_option maxHeartbeats 4000000 in
set_option maxRecDepth 100000 in
theorem l_M_copied {M : Mem} {σ : Sg} (hR : RM M σ) (hI : Iv σ) {a d : Nat} {y : Int32} (ha : a < 4) (hd : d < σ.1.2.1) (h30 : σ.1.2.1 < 30) (ht : ∀ p, p < 8 → mG M 1011 p = (hPar σ a).2 p)  : ∀ i, i ≤ 8 → ∀ o5, CW u_M_copied (rM (nI σ.1.2.1) (aftD σ (σ.2 5 d 0) y 4 (nI d) (fun p => drawnS (σ.2 10 d p) (σ.2 9 d p) ((hPar σ a).2 p)) (σ.2 10 d)) M) 47 [some (.ref 1000), some (.int (nI a)), some (.int (nI d)), some (.int y), some (.int (nI i)), o5] [] (mSg2 M (8 * σ.1.2.1) i (σ.2 10 d) (fun p => drawnS (σ.2 10 d p) (σ.2 9 d p) ((hPar σ a).2 p))) := by
  obtain ⟨hn1, hn2, hn3⟩ := hI.n
  refine up_ind (fun i hi ih o5 => ?_)
  have ek : ∀ k j, k ≠ 1018 → k ≠ 1019 → mG (mSg2 M (8 * σ.1.2.1) i (σ.2 10 d) (fun p => drawnS (σ.2 10 d p) (σ.2 9 d p) ((hPar σ a).2 p))) k j = mG M k j := fun k j q1 q2 => mSg2_k q1 q2
  refine cw_iload d_M_copied_47 rfl ?_
  refine cw_bipush (v := 8) d_M_copied_49 (by decide) ?_
  refine cw_icmp_geN (i) (8) 130 rfl rfl (by omega) d_M_copied_51 (by decide) (fun c_51 => ?_) (fun c_51 => ?_)
  · have ei : i = 8 := by omega
    subst ei
    have hq : mG (mSg2 M (8 * σ.1.2.1) 8 (σ.2 10 d) (fun p => drawnS (σ.2 10 d p) (σ.2 9 d p) ((hPar σ a).2 p))) 1000 12 = nI σ.1.2.1 := (ek _ _ (by omega) (by omega)).trans hR.n2
    refine cw_aload_n d_M_copied_130 rfl ?_
    refine cw_getR fl_M_37 so_M rfl d_M_copied_131 ?_
    refine cw_aload_n d_M_copied_134 rfl ?_
    refine cw_getI fl_M_157 so_M rfl d_M_copied_135 ?_
    refine cw_aload_n d_M_copied_138 rfl ?_
    refine cw_getR fl_M_37 so_M rfl d_M_copied_139 ?_
    refine cw_iload_n d_M_copied_142 rfl ?_
    refine cw_ialdN (i := d) sm_drawnHead rfl (by omega) (by decide) d_M_copied_143 ?_
    refine cw_top ((ek _ _ (by omega) (by omega)).trans (hR.dh hd)) ?_
    refine cw_iastN (i := σ.1.2.1) sm_drawnHead hq (by omega) (by decide) d_M_copied_144 ?_
    refine cw_aload_n d_M_copied_145 rfl ?_
    refine cw_getR fl_M_40 so_M rfl d_M_copied_146 ?_
    refine cw_aload_n d_M_copied_149 rfl ?_
    refine cw_getI fl_M_157 so_M rfl d_M_copied_150 ?_
    refine cw_iload_n d_M_copied_153 rfl ?_
    refine cw_iastN (i := σ.1.2.1) sm_drawnYear ((mS_k (by omega)).trans hq) (by omega) (by decide) d_M_copied_154 ?_
    refine cw_aload_n d_M_copied_155 rfl ?_
    refine cw_getR fl_M_43 so_M rfl d_M_copied_156 ?_
    refine cw_aload_n d_M_copied_159 rfl ?_
    refine cw_getI fl_M_157 so_M rfl d_M_copied_160 ?_
    refine cw_iconst (v := 4) d_M_copied_163 (by decide) ?_
    refine cw_iastN (i := σ.1.2.1) sm_drawnKind ((mS_k (by omega)).trans ((mS_k (by omega)).trans hq)) (by omega) (by decide) d_M_copied_164 ?_
    refine cw_aload_n d_M_copied_165 rfl ?_
    refine cw_getR fl_M_46 so_M rfl d_M_copied_166 ?_
    refine cw_aload_n d_M_copied_169 rfl ?_
    refine cw_getI fl_M_157 so_M rfl d_M_copied_170 ?_
    refine cw_iload_n d_M_copied_173 rfl ?_
    refine cw_iastN (i := σ.1.2.1) sm_copiedFrom ((mS_k (by omega)).trans ((mS_k (by omega)).trans ((mS_k (by omega)).trans hq))) (by omega) (by decide) d_M_copied_174 ?_
    refine cw_mem (M' := m4 (mSg2 M (8 * σ.1.2.1) 8 (σ.2 10 d) (fun p => drawnS (σ.2 10 d p) (σ.2 9 d p) ((hPar σ a).2 p))) σ.1.2.1 (σ.2 5 d 0) y 4 (nI d)) rfl ?_
    refine cw_aload_n d_M_copied_175 rfl ?_
    refine cw_dup_ref d_M_copied_176 ?_
    refine cw_getI fl_M_157 so_M rfl d_M_copied_177 ?_
    refine cw_top ((m4_k (by omega)).trans hq) ?_
    refine cw_iconst (v := 1) d_M_copied_180 (by decide) ?_
    refine cw_iadd d_M_copied_181 ?_
    refine cw_top (nI_1 σ.1.2.1) ?_
    refine cw_putI fp_M_157 so_M rfl d_M_copied_182 ?_
    refine cw_aload_n d_M_copied_185 rfl ?_
    refine cw_getI fl_M_157 so_M rfl d_M_copied_186 ?_
    refine cw_top mS_at ?_
    refine cw_iconst (v := 1) d_M_copied_189 (by decide) ?_
    refine cw_isub d_M_copied_190 ?_
    refine cw_iret rfl d_M_copied_191 ?_
    exact ⟨by rw [← nI_1]; exact Int32.add_sub_cancel _ _, RM_drw2 hR, (mSg2_kM.tr m4_kM).tr (mS_kM (by omega))⟩
  · refine cw_aload_n d_M_copied_54 rfl ?_
    refine cw_getR fl_M_52 so_M rfl d_M_copied_55 ?_
    refine cw_bipush (v := 8) d_M_copied_58 (by decide) ?_
    refine cw_iload_n d_M_copied_60 rfl ?_
    refine cw_imul d_M_copied_61 ?_
    refine cw_iload d_M_copied_62 rfl ?_
    refine cw_iadd d_M_copied_64 ?_
    refine cw_ialdN (i := (8 * d) + i) sm_means (nAdd (nMul rfl rfl) rfl) (by omega) (by decide) d_M_copied_65 ?_
    refine cw_top ((mSg2_o (by omega)).trans (hR.me hd (by omega))) ?_
    refine cw_istore d_M_copied_66 rfl ?_
    refine cw_aload_n d_M_copied_68 rfl ?_
    refine cw_getR fl_M_52 so_M rfl d_M_copied_69 ?_
    refine cw_bipush (v := 8) d_M_copied_72 (by decide) ?_
    refine cw_aload_n d_M_copied_74 rfl ?_
    refine cw_getI fl_M_157 so_M rfl d_M_copied_75 ?_
    refine cw_imul d_M_copied_78 ?_
    refine cw_iload d_M_copied_79 rfl ?_
    refine cw_iadd d_M_copied_81 ?_
    refine cw_iload d_M_copied_82 rfl ?_
    refine cw_iastN (i := (8 * (σ.1.2.1)) + i) sm_means (nAdd (nMul rfl ((ek _ _ (by omega) (by omega)).trans hR.n2)) rfl) (by omega) (by decide) d_M_copied_84 ?_
    refine cw_aload_n d_M_copied_85 rfl ?_
    refine cw_getR fl_M_49 so_M rfl d_M_copied_86 ?_
    refine cw_bipush (v := 8) d_M_copied_89 (by decide) ?_
    refine cw_aload_n d_M_copied_91 rfl ?_
    refine cw_getI fl_M_157 so_M rfl d_M_copied_92 ?_
    refine cw_imul d_M_copied_95 ?_
    refine cw_iload d_M_copied_96 rfl ?_
    refine cw_iadd d_M_copied_98 ?_
    refine cw_aload_n d_M_copied_99 rfl ?_
    refine cw_getR fl_M_49 so_M rfl d_M_copied_100 ?_
    refine cw_bipush (v := 8) d_M_copied_103 (by decide) ?_
    refine cw_iload_n d_M_copied_105 rfl ?_
    refine cw_imul d_M_copied_106 ?_
    refine cw_iload d_M_copied_107 rfl ?_
    refine cw_iadd d_M_copied_109 ?_
    refine cw_ialdN (i := (8 * d) + i) sm_lines (nAdd (nMul rfl rfl) rfl) (by omega) (by decide) d_M_copied_110 ?_
    refine cw_top (((mS_k (by omega)).trans (mSg2_o (by omega))).trans (hR.li hd (by omega))) ?_
    refine cw_iload d_M_copied_111 rfl ?_
    refine cw_aload_n d_M_copied_113 rfl ?_
    refine cw_getR fl_M_31 so_M rfl d_M_copied_114 ?_
    refine cw_iload d_M_copied_117 rfl ?_
    refine cw_ialdN (i := i) sm_tenthsOf rfl (by omega) (by decide) d_M_copied_119 ?_
    refine cw_top (((mS_k (by omega)).trans (ek _ _ (by omega) (by omega))).trans (ht i (by omega))) ?_
    refine cw_staticP (s_M_drawnBy) rfl ml_M_152 rfl rfl d_M_copied_120 ?_
    refine cw_iastN (i := (8 * (σ.1.2.1)) + i) sm_lines (nAdd (nMul rfl ((mS_k (by omega)).trans ((ek _ _ (by omega) (by omega)).trans hR.n2))) rfl) (by omega) (by decide) d_M_copied_123 ?_
    refine cw_iincN (x := i) d_M_copied_124 rfl rfl ?_
    refine cw_goto 47 d_M_copied_127 (by decide) ?_
    exact cw_cast (by simp only [lset1, kl]; rfl) rfl (mSg2_s (mn := (σ.2 10 d)) (ln := (fun p => drawnS (σ.2 10 d p) (σ.2 9 d p) ((hPar σ a).2 p)))) (ih c_51 _)
set_option maxRecDepth 100000 in
theorem m_copied {M : Mem} {σ : Sg} (hR : RM M σ) (hI : Iv σ) {x z y : Int32} : CS u_M_copied [.ref 1000, .int x, .int z, .int y] M (rM (ans_copied σ x z y) (aft_copied σ x z y) M) := by
  obtain ⟨hn1, hn2, hn3⟩ := hI.n
  refine cs_introF (L := [some (.ref 1000), some (.int x), some (.int z), some (.int y), none, none]) (by decide +kernel) (fun ad q h => h) (fun ad => Nat.le_of_ble_eq_true rfl) ?_
  refine cw_iload_n d_M_copied_0 rfl ?_
  refine cw_staticP (s_M_isHand) rfl ml_M_120 rfl rfl d_M_copied_1 ?_
  refine cw_bif_eq 23 d_M_copied_4 (by decide) (fun c_4 => ?_) (fun c_4 => ?_)
  · refine cw_bipush (v := (-2)) d_M_copied_23 (by decide) ?_
    refine cw_iret rfl d_M_copied_25 ?_
    exact ⟨by simp [ans_copied, okCopied, c_4], by simp [aft_copied, okCopied, c_4]; exact hR, kM.rf⟩
  · obtain ⟨a, hha, e_a⟩ := ixB_t c_4 (by omega)
    subst e_a
    refine cw_aload_n d_M_copied_7 rfl ?_
    refine cw_iload_n d_M_copied_8 rfl ?_
    refine cw_virtP (s_M_isDrawing hR hI) rfl ml_M_163 so_M rfl rfl d_M_copied_9 ?_
    refine cw_bif_eq 23 d_M_copied_12 (by decide) (fun c_12 => ?_) (fun c_12 => ?_)
    · refine cw_bipush (v := (-2)) d_M_copied_23 (by decide) ?_
      refine cw_iret rfl d_M_copied_25 ?_
      exact ⟨by simp [ans_copied, okCopied, c_4, c_12], by simp [aft_copied, okCopied, c_4, c_12]; exact hR, kM.rf⟩
    · obtain ⟨d, hhd, e_d⟩ := ixB_t c_12 (by omega)
      subst e_d
      refine cw_aload_n d_M_copied_15 rfl ?_
      refine cw_iload_n d_M_copied_16 rfl ?_
      refine cw_virtP (s_M_isLate hR hI) rfl ml_M_160 so_M rfl rfl d_M_copied_17 ?_
      refine cw_bif_ne 26 d_M_copied_20 (by decide) (fun c_20 => ?_) (fun c_20 => ?_)
      · refine cw_aload_n d_M_copied_26 rfl ?_
        refine cw_getI fl_M_157 so_M rfl d_M_copied_27 ?_
        refine cw_bipush (v := 30) d_M_copied_30 (by decide) ?_
        refine cw_icmp_neN (σ.1.2.1) (30) 38 hR.n2 rfl (by omega) d_M_copied_32 (by decide) (fun c_32 => ?_) (fun c_32 => ?_)
        · refine cw_aload_n d_M_copied_38 rfl ?_
          refine cw_iload_n d_M_copied_39 rfl ?_
          refine cw_virtI (s_M_reads hR hI (a := a) (by omega)) rfl ml_M_146 so_M rfl rfl d_M_copied_40 (fun r_40 M_40 q_40 => ?_)
          obtain ⟨e_40, k_40, t_40⟩ := q_40
          subst e_40
          have hR_40 := RM_kq hR k_40
          refine cw_pop_int d_M_copied_43 ?_
          refine cw_iconst (v := 0) d_M_copied_44 (by decide) ?_
          refine cw_istore d_M_copied_45 rfl ?_
          have hok : okCopied σ (nI a) (nI d) y = true := by simp [okCopied, c_4, c_12, c_20]
          have hans : ans_copied σ (nI a) (nI d) y = nI σ.1.2.1 := by simp [ans_copied, hok, c_32]
          have haft : aft_copied σ (nI a) (nI d) y = aftD σ (σ.2 5 d 0) y 4 (nI d) (fun p => drawnS (σ.2 10 d p) (σ.2 9 d p) ((hPar σ a).2 p)) (σ.2 10 d) := by simp only [aft_copied, hok, if_true, if_neg c_32, ix_nI (show a < 2 ^ 31 by omega), ix_nI (show d < 2 ^ 31 by omega)]
          rw [hans, haft]
          refine cw_post (fun v M2 hq => ?_) (cw_mem mSg2_0.symm (l_M_copied hR_40 hI (a := a) (d := d) (y := y) (by omega) (by omega) (by omega) t_40 0 (by omega) _))
          obtain ⟨r, hv, hr, hR2, hk2⟩ := hq
          exact ⟨r, hv, hr, hR2, k_40.kM.tr hk2⟩
        · refine cw_bipush (v := (-4)) d_M_copied_35 (by decide) ?_
          refine cw_iret rfl d_M_copied_37 ?_
          have hok : okCopied σ (nI a) (nI d) y = true := by simp [okCopied, c_4, c_12, c_20]
          exact ⟨by simp [ans_copied, hok, c_32], by simp [aft_copied, hok, c_32]; exact hR, kM.rf⟩
      · refine cw_bipush (v := (-2)) d_M_copied_23 (by decide) ?_
        refine cw_iret rfl d_M_copied_25 ?_
        exact ⟨by simp [ans_copied, okCopied, c_4, c_12, c_20], by simp [aft_copied, okCopied, c_4, c_12, c_20]; exact hR, kM.rf⟩
theorem inJ_set0 {x y : Int32} {n : Nat} (h : y = nI n) (hn : n ≤ 8) : inJ x.toInt64 0 (1 <<< (y &&& 31) - 1).toInt64 = (decide (x = 0) || setB x n) := by
  have hp := pow8 hn
  have hx0 : x = 0 ↔ x.toInt = 0 := ⟨fun q => by rw [q]; rfl, fun q => Int32.toInt_inj.mp (by rw [q]; rfl)⟩
  unfold inJ setB
  rw [Int32.toInt_toInt64, Int32.toInt_toInt64, h, shl1 n hn, Int32.toInt_sub, nI_toInt (by omega), show (1 : Int32).toInt = 1 from rfl, show (0 : Int64).toInt = 0 from rfl, Int.bmod_eq_of_le (by omega) (by omega), ← Bool.decide_or]
  exact decide_eq_decide.mpr ⟨fun q => by rw [hx0]; omega, fun q => by rw [hx0] at q; omega⟩
set_option maxRecDepth 100000 in
theorem l_M_knower {M : Mem} {σ : Sg} (hR : RM M σ) (hI : Iv σ) {s z : Int32} (hs : setB s σ.1.1 = true) (h4 : σ.1.2.2 < 4)  : ∀ i, i ≤ 8 → CW u_M_knower (rM (nI σ.1.2.2) (aftK σ z (meanS σ s)) M) 42 [some (.ref 1000), some (.int s), some (.int z), some (.int (nI i))] [] (mSeg M 1022 (8 * σ.1.2.2) i (meanS σ s)) := by
  obtain ⟨hn1, hn2, hn3⟩ := hI.n
  refine up_ind (fun i hi ih => ?_)
  have ek : ∀ k j, k ≠ 1022 → mG (mSeg M 1022 (8 * σ.1.2.2) i (meanS σ s)) k j = mG M k j := fun k j q1 => mSeg_k q1
  have ekd : ∀ t x y, dM σ t x y → mG (mSeg M 1022 (8 * σ.1.2.2) i (meanS σ s)) (LM t x y).1 (LM t x y).2 = mG M (LM t x y).1 (LM t x y).2 := fun t x y hd => mSeg_out (fun q => by have := (LM_dom hd).2.2.2 q.1; omega)
  have hR1 : RM (mSeg M 1022 (8 * σ.1.2.2) i (meanS σ s)) σ := ⟨(ek _ _ (by omega)).trans hR.n1, (ek _ _ (by omega)).trans hR.n2, (ek _ _ (by omega)).trans hR.n3, fun t x y hd => (ekd t x y hd).trans (hR.2.2.2 t x y hd)⟩
  refine cw_iload_n d_M_knower_42 rfl ?_
  refine cw_bipush (v := 8) d_M_knower_43 (by decide) ?_
  refine cw_icmp_geN (i) (8) 74 rfl rfl (by omega) d_M_knower_45 (by decide) (fun c_45 => ?_) (fun c_45 => ?_)
  · refine cw_aload_n d_M_knower_74 rfl ?_
    refine cw_getR fl_M_55 so_M rfl d_M_knower_75 ?_
    refine cw_aload_n d_M_knower_78 rfl ?_
    refine cw_getI fl_M_190 so_M rfl d_M_knower_79 ?_
    refine cw_iload_n d_M_knower_82 rfl ?_
    refine cw_iastN (i := σ.1.2.2) sm_knows hR1.n3 (by omega) (by decide) d_M_knower_83 ?_
    refine cw_aload_n d_M_knower_84 rfl ?_
    refine cw_dup_ref d_M_knower_85 ?_
    refine cw_getI fl_M_190 so_M rfl d_M_knower_86 ?_
    refine cw_top ((mS_k (by omega)).trans hR1.n3) ?_
    refine cw_iconst (v := 1) d_M_knower_89 (by decide) ?_
    refine cw_iadd d_M_knower_90 ?_
    refine cw_top (nI_1 σ.1.2.2) ?_
    refine cw_putI fp_M_190 so_M rfl d_M_knower_91 ?_
    refine cw_aload_n d_M_knower_94 rfl ?_
    refine cw_getI fl_M_190 so_M rfl d_M_knower_95 ?_
    refine cw_top mS_at ?_
    refine cw_iconst (v := 1) d_M_knower_98 (by decide) ?_
    refine cw_isub d_M_knower_99 ?_
    refine cw_iret rfl d_M_knower_100 ?_
    have ei : i = 8 := by omega
    subst ei
    exact ⟨by rw [← nI_1]; exact Int32.add_sub_cancel _ _, RM_knw hR (fun t x y hd => (by have hq := LM_dom hd; show (if _ then _ else _) = _; rw [if_neg (fun q => by have := hq.2.2.1 q.1; omega)]; exact ekd t x y hd)) ((mS_k (by omega)).trans (ek _ _ (by omega))) ((mS_k (by omega)).trans (ek _ _ (by omega))) mS_at (fun p hp => (mS_k (by omega)).trans (mSeg_in hp)), ((mSeg_kM (by omega)).tr (mS_kM (by omega))).tr (mS_kM (by omega))⟩
  · refine cw_aload_n d_M_knower_48 rfl ?_
    refine cw_getR fl_M_58 so_M rfl d_M_knower_49 ?_
    refine cw_bipush (v := 8) d_M_knower_52 (by decide) ?_
    refine cw_aload_n d_M_knower_54 rfl ?_
    refine cw_getI fl_M_190 so_M rfl d_M_knower_55 ?_
    refine cw_imul d_M_knower_58 ?_
    refine cw_iload_n d_M_knower_59 rfl ?_
    refine cw_iadd d_M_knower_60 ?_
    refine cw_aload_n d_M_knower_61 rfl ?_
    refine cw_iload_n d_M_knower_62 rfl ?_
    refine cw_iload_n d_M_knower_63 rfl ?_
    refine cw_virtP (s_M_meanOf hR1 hI (p := i) (by omega) hs) rfl ml_M_117 so_M rfl rfl d_M_knower_64 ?_
    refine cw_iastN (i := (8 * (σ.1.2.2)) + i) sm_own (nAdd (nMul rfl hR1.n3) rfl) (by omega) (by decide) d_M_knower_67 ?_
    refine cw_iincN (x := i) d_M_knower_68 rfl rfl ?_
    refine cw_goto 42 d_M_knower_71 (by decide) ?_
    exact cw_cast (by simp only [lset1, kl]) rfl (mSeg_s (f := (meanS σ s))) (ih c_45)
set_option maxRecDepth 100000 in
theorem m_knower {M : Mem} {σ : Sg} (hR : RM M σ) (hI : Iv σ) {s z : Int32} : CS u_M_knower [.ref 1000, .int s, .int z] M (rM (ans_knower σ s z) (aft_knower σ s z) M) := by
  obtain ⟨hn1, hn2, hn3⟩ := hI.n
  refine cs_introF (L := [some (.ref 1000), some (.int s), some (.int z), none]) (by decide +kernel) (fun ad q h => h) (fun ad => Nat.le_of_ble_eq_true rfl) ?_
  refine cw_aload_n d_M_knower_0 rfl ?_
  refine cw_iload_n d_M_knower_1 rfl ?_
  refine cw_virtP (s_M_isSet hR hI) rfl ml_M_114 so_M rfl rfl d_M_knower_2 ?_
  refine cw_bif_eq 26 d_M_knower_5 (by decide) (fun c_5 => ?_) (fun c_5 => ?_)
  · refine cw_bipush (v := (-2)) d_M_knower_26 (by decide) ?_
    refine cw_iret rfl d_M_knower_28 ?_
    have hok : okKnower σ s z = false := by simp only [okKnower, c_5, Bool.false_and, Bool.and_false]
    exact ⟨by simp [ans_knower, hok], by simp [aft_knower, hok]; exact hR, kM.rf⟩
  · refine cw_iload_n d_M_knower_8 rfl ?_
    refine cw_i2l d_M_knower_9 ?_
    refine cw_lconst (v := 0) d_M_knower_10 (by decide) ?_
    refine cw_iconst (v := 1) d_M_knower_11 (by decide) ?_
    refine cw_aload_n d_M_knower_12 rfl ?_
    refine cw_getI fl_M_98 so_M rfl d_M_knower_13 ?_
    refine cw_top rfl ?_
    refine cw_ishl d_M_knower_16 ?_
    refine cw_iconst (v := 1) d_M_knower_17 (by decide) ?_
    refine cw_isub d_M_knower_18 ?_
    refine cw_i2l d_M_knower_19 ?_
    refine cw_staticP (s_M_in) rfl ml_M_69 rfl rfl d_M_knower_20 ?_
    refine cw_top (y := b2 (decide (z = 0) || setB z σ.1.1)) (by rw [inJ_set0 hR.n1 hn1]) ?_
    refine cw_bif_ne 29 d_M_knower_23 (by decide) (fun c_23 => ?_) (fun c_23 => ?_)
    · refine cw_aload_n d_M_knower_29 rfl ?_
      refine cw_getI fl_M_190 so_M rfl d_M_knower_30 ?_
      refine cw_iconst (v := 4) d_M_knower_33 (by decide) ?_
      refine cw_icmp_neN (σ.1.2.2) (4) 40 hR.n3 rfl (by omega) d_M_knower_34 (by decide) (fun c_34 => ?_) (fun c_34 => ?_)
      · refine cw_iconst (v := 0) d_M_knower_40 (by decide) ?_
        refine cw_istore_n d_M_knower_41 rfl ?_
        have hok : okKnower σ s z = true := by simp only [okKnower, c_5, c_23, Bool.and_self]
        unfold ans_knower aft_knower
        rw [if_pos hok, if_neg c_34, if_pos hok, if_neg c_34]
        exact cw_mem mSeg_0.symm (l_M_knower hR hI c_5 (by omega) 0 (by omega))
      · refine cw_bipush (v := (-4)) d_M_knower_37 (by decide) ?_
        refine cw_iret rfl d_M_knower_39 ?_
        have hok : okKnower σ s z = true := by simp only [okKnower, c_5, c_23, Bool.and_self]
        exact ⟨by simp [ans_knower, hok, c_34], by simp [aft_knower, hok, c_34]; exact hR, kM.rf⟩
    · refine cw_bipush (v := (-2)) d_M_knower_26 (by decide) ?_
      refine cw_iret rfl d_M_knower_28 ?_
      have hok : okKnower σ s z = false := by simp only [okKnower, c_5, c_23, Bool.false_and, Bool.and_false]
      exact ⟨by simp [ans_knower, hok], by simp [aft_knower, hok]; exact hR, kM.rf⟩
set_option maxRecDepth 100000 in
theorem l_M_look {M : Mem} {σ : Sg} (hR : RM M σ) (hI : Iv σ) {k d : Nat} {m : Int32} (hk : k < σ.1.2.2) (hd : d < σ.1.2.1) (hsp : ¬ m + σ.2 4 1 0 = 0)  : ∀ i, i ≤ 8 → ∀ o5 o6, CW u_M_look (rM 1 (aftR σ 12 k 8 (fun p => gazeP (σ.2 9 d p) (σ.2 12 k p) m (σ.2 4 1 0))) M) 34 [some (.ref 1000), some (.int (nI k)), some (.int (nI d)), some (.int m), some (.int (nI i)), o5, o6] [] (mSeg M 1022 (8 * k) i (fun p => gazeP (σ.2 9 d p) (σ.2 12 k p) m (σ.2 4 1 0))) := by
  obtain ⟨hn1, hn2, hn3⟩ := hI.n
  refine up_ind (fun i hi ih o5 o6 => ?_)
  have ek : ∀ z j, z ≠ 1022 → mG (mSeg M 1022 (8 * k) i (fun p => gazeP (σ.2 9 d p) (σ.2 12 k p) m (σ.2 4 1 0))) z j = mG M z j := fun z j q1 => mSeg_k q1
  have eo : i < 8 → mG (mSeg M 1022 (8 * k) i (fun p => gazeP (σ.2 9 d p) (σ.2 12 k p) m (σ.2 4 1 0))) 1022 (8 * k + i) = σ.2 12 k i := fun q => (mSeg_out (by omega)).trans (hR.ow hk q)
  refine cw_iload d_M_look_34 rfl ?_
  refine cw_bipush (v := 8) d_M_look_36 (by decide) ?_
  refine cw_icmp_geN (i) (8) 118 rfl rfl (by omega) d_M_look_38 (by decide) (fun c_38 => ?_) (fun c_38 => ?_)
  · refine cw_iconst (v := 1) d_M_look_118 (by decide) ?_
    refine cw_iret rfl d_M_look_119 ?_
    have ei : i = 8 := by omega
    subst ei
    exact ⟨rfl, RM_row hI hR 1022 (8 * k) (fun j hj => ⟨⟨hk, hj⟩, rfl⟩) (by decide) (by omega), mSeg_kM (by omega)⟩
  · refine cw_aload_n d_M_look_41 rfl ?_
    refine cw_getR fl_M_49 so_M rfl d_M_look_42 ?_
    refine cw_bipush (v := 8) d_M_look_45 (by decide) ?_
    refine cw_iload_n d_M_look_47 rfl ?_
    refine cw_imul d_M_look_48 ?_
    refine cw_iload d_M_look_49 rfl ?_
    refine cw_iadd d_M_look_51 ?_
    refine cw_ialdN (i := (8 * d) + i) sm_lines (nAdd (nMul rfl rfl) rfl) (by omega) (by decide) d_M_look_52 ?_
    refine cw_top ((ek _ _ (by omega)).trans (hR.li hd (by omega))) ?_
    refine cw_istore d_M_look_53 rfl ?_
    refine cw_iload d_M_look_55 rfl ?_
    refine cw_aload_n d_M_look_57 rfl ?_
    refine cw_getR fl_M_58 so_M rfl d_M_look_58 ?_
    refine cw_bipush (v := 8) d_M_look_61 (by decide) ?_
    refine cw_iload_n d_M_look_63 rfl ?_
    refine cw_imul d_M_look_64 ?_
    refine cw_iload d_M_look_65 rfl ?_
    refine cw_iadd d_M_look_67 ?_
    refine cw_ialdN (i := (8 * k) + i) sm_own (nAdd (nMul rfl rfl) rfl) (by omega) (by decide) d_M_look_68 ?_
    refine cw_top (eo c_38) ?_
    refine cw_isub d_M_look_69 ?_
    refine cw_istore d_M_look_70 rfl ?_
    refine cw_aload_n d_M_look_72 rfl ?_
    refine cw_getR fl_M_58 so_M rfl d_M_look_73 ?_
    refine cw_bipush (v := 8) d_M_look_76 (by decide) ?_
    refine cw_iload_n d_M_look_78 rfl ?_
    refine cw_imul d_M_look_79 ?_
    refine cw_iload d_M_look_80 rfl ?_
    refine cw_iadd d_M_look_82 ?_
    refine cw_dup2 d_M_look_83 ?_
    refine cw_ialdN (i := (8 * k) + i) sm_own (nAdd (nMul rfl rfl) rfl) (by omega) (by decide) d_M_look_84 ?_
    refine cw_top (eo c_38) ?_
    refine cw_iload d_M_look_85 rfl ?_
    refine cw_sipush (v := (-9999)) d_M_look_87 (by decide) ?_
    refine cw_tern2 110 (if σ.2 9 d i = LO then 0 else (σ.2 9 d i - σ.2 12 k i) * m / (m + σ.2 4 1 0)) ?_ (fun k_90 => ?_)
    · refine cw_iadd d_M_look_110 ?_
      refine cw_top (y := (fun p => gazeP (σ.2 9 d p) (σ.2 12 k p) m (σ.2 4 1 0)) i) (by show _ = gazeP _ _ _ _; unfold gazeP; split <;> first | exact Int32.add_zero _ | rfl) ?_
      refine cw_iastN (i := (8 * k) + i) sm_own (nAdd (nMul rfl rfl) rfl) (by omega) (by decide) d_M_look_111 ?_
      refine cw_iincN (x := i) d_M_look_112 rfl rfl ?_
      refine cw_goto 34 d_M_look_115 (by decide) ?_
      exact cw_cast (by simp only [lset1, kl]; rfl) rfl (mSeg_s (f := (fun p => gazeP (σ.2 9 d p) (σ.2 12 k p) m (σ.2 4 1 0)))) (ih c_38 _ _)
    · refine cw_icmp_ne 97 d_M_look_90 (by decide) (fun c_90 => ?_) (fun c_90 => ?_)
      · refine cw_iload d_M_look_97 rfl ?_
        refine cw_iload_n d_M_look_99 rfl ?_
        refine cw_imul d_M_look_100 ?_
        refine cw_iload_n d_M_look_101 rfl ?_
        refine cw_aload_n d_M_look_102 rfl ?_
        refine cw_getR fl_M_34 so_M rfl d_M_look_103 ?_
        refine cw_iconst (v := 1) d_M_look_106 (by decide) ?_
        refine cw_ialdN (i := 1) sm_settings rfl (by omega) (by decide) d_M_look_107 ?_
        refine cw_top ((ek _ _ (by omega)).trans (hR.st (by omega))) ?_
        refine cw_iadd d_M_look_108 ?_
        refine cw_idiv d_M_look_109 hsp ?_
        exact k_90 _ (by first | exact (if_pos c_90).symm | exact (if_neg c_90).symm)
      · refine cw_iconst (v := 0) d_M_look_93 (by decide) ?_
        refine cw_goto 110 d_M_look_94 (by decide) ?_
        exact k_90 _ (by first | exact (if_pos c_90).symm | exact (if_neg c_90).symm)
set_option maxRecDepth 100000 in
theorem m_look {M : Mem} {σ : Sg} (hR : RM M σ) (hI : Iv σ) {x z m : Int32} : CS u_M_look [.ref 1000, .int x, .int z, .int m] M (rM (ans_look σ x z m) (aft_look σ x z m) M) := by
  obtain ⟨hn1, hn2, hn3⟩ := hI.n
  refine cs_introF (L := [some (.ref 1000), some (.int x), some (.int z), some (.int m), none, none, none]) (by decide +kernel) (fun ad q h => h) (fun ad => Nat.le_of_ble_eq_true rfl) ?_
  refine cw_aload_n d_M_look_0 rfl ?_
  refine cw_iload_n d_M_look_1 rfl ?_
  refine cw_virtP (s_M_isKnower hR hI) rfl ml_M_193 so_M rfl rfl d_M_look_2 ?_
  refine cw_bif_eq 28 d_M_look_5 (by decide) (fun c_5 => ?_) (fun c_5 => ?_)
  · refine cw_bipush (v := (-2)) d_M_look_28 (by decide) ?_
    refine cw_iret rfl d_M_look_30 ?_
    exact ⟨by simp [ans_look, okLook, c_5], by simp [aft_look, okLook, c_5]; exact hR, kM.rf⟩
  · obtain ⟨k, hhk, e_k⟩ := ixB_t c_5 (by omega)
    subst e_k
    refine cw_aload_n d_M_look_8 rfl ?_
    refine cw_iload_n d_M_look_9 rfl ?_
    refine cw_virtP (s_M_isDrawing hR hI) rfl ml_M_163 so_M rfl rfl d_M_look_10 ?_
    refine cw_bif_eq 28 d_M_look_13 (by decide) (fun c_13 => ?_) (fun c_13 => ?_)
    · refine cw_bipush (v := (-2)) d_M_look_28 (by decide) ?_
      refine cw_iret rfl d_M_look_30 ?_
      exact ⟨by simp [ans_look, okLook, c_5, c_13], by simp [aft_look, okLook, c_5, c_13]; exact hR, kM.rf⟩
    · obtain ⟨d, hhd, e_d⟩ := ixB_t c_13 (by omega)
      subst e_d
      refine cw_iload_n d_M_look_16 rfl ?_
      refine cw_i2l d_M_look_17 ?_
      refine cw_lconst (v := 0) d_M_look_18 (by decide) ?_
      refine cw_ldc2_w kc_M_155 d_M_look_19 ?_
      refine cw_staticP (s_M_in) rfl ml_M_69 rfl rfl d_M_look_22 ?_
      refine cw_top (y := b2 (ixB m 61)) (by rw [inJ_ix 61 (by decide)]) ?_
      refine cw_bif_ne 31 d_M_look_25 (by decide) (fun c_25 => ?_) (fun c_25 => ?_)
      · refine cw_iconst (v := 0) d_M_look_31 (by decide) ?_
        refine cw_istore d_M_look_32 rfl ?_
        have hok : okLook σ (nI k) (nI d) m = true := by simp [okLook, c_5, c_13, c_25]
        have hsp : ¬ m + σ.2 4 1 0 = 0 := fun q => by
          have q2 := congrArg Int32.toInt q
          rw [Int32.toInt_add] at q2
          have h1 := of_decide_eq_true c_25
          have h2 := hI.2.2.2.2.2.2.1.2.1
          unfold rD at h2
          have := i0
          rw [Int.bmod_eq_of_le (by omega) (by omega)] at q2
          omega
        unfold ans_look aft_look
        rw [if_pos hok, if_pos hok, ix_nI (show k < 2 ^ 31 by omega), ix_nI (show d < 2 ^ 31 by omega)]
        exact cw_mem mSeg_0.symm (l_M_look hR hI (by omega) (by omega) hsp 0 (by omega) _ _)
      · refine cw_bipush (v := (-2)) d_M_look_28 (by decide) ?_
        refine cw_iret rfl d_M_look_30 ?_
        exact ⟨by simp [ans_look, okLook, c_5, c_13, c_25], by simp [aft_look, okLook, c_5, c_13, c_25]; exact hR, kM.rf⟩
