/-! ===== the reference: count, digest ===== -/
theorem cnt_b2 (f : Nat → Bool) (i : Nat) : nI (cntUp f i) + b2 (f i) = nI (cntUp f (i + 1)) := by
  cases h : f i with
  | false => rw [cntUp_f h]; exact Int32.add_zero _
  | true => rw [cntUp_t h]; exact nI_1 _
set_option maxRecDepth 100000 in
theorem l_M_count {M : Mem} {σ : Sg} (hR : RM M σ) (hI : Iv σ) {x : Int32}  : ∀ i, i ≤ σ.1.2.1 → CW u_M_count (pI (nI (cntUp (fun d => offB (σ.2 4 0 0) (σ.2 9 d) (σ.2 10 d)) σ.1.2.1)) M) 78 [some (.ref 1000), some (.int x), some (.int (nI (cntUp (fun d => offB (σ.2 4 0 0) (σ.2 9 d) (σ.2 10 d)) i))), some (.int (nI i))] [] M := by
  obtain ⟨hn1, hn2, hn3⟩ := hI.n
  refine up_ind (fun i hi ih => ?_)
  refine cw_iload_n d_M_count_78 rfl ?_
  refine cw_aload_n d_M_count_79 rfl ?_
  refine cw_getI fl_M_157 so_M rfl d_M_count_80 ?_
  refine cw_icmp_geN (i) (σ.1.2.1) 108 rfl hR.n2 (by omega) d_M_count_83 (by decide) (fun c_83 => ?_) (fun c_83 => ?_)
  · refine cw_iload_n d_M_count_108 rfl ?_
    refine cw_iret rfl d_M_count_109 ?_
    have ei : i = σ.1.2.1 := by omega
    subst ei
    exact ⟨rfl, rfl⟩
  · refine cw_iload_n d_M_count_86 rfl ?_
    refine cw_aload_n d_M_count_87 rfl ?_
    refine cw_iload_n d_M_count_88 rfl ?_
    refine cw_virtP (s_M_isMonster hR hI (d := i) (by omega)) rfl ml_M_178 so_M rfl rfl d_M_count_89 ?_
    refine cw_tern1 100 (b2 (offB (σ.2 4 0 0) (σ.2 9 i) (σ.2 10 i))) ?_ (fun k_92 => ?_)
    · refine cw_iadd d_M_count_100 ?_
      refine cw_top (y := nI (cntUp (fun d => offB (σ.2 4 0 0) (σ.2 9 d) (σ.2 10 d)) (i + 1))) (cnt_b2 _ _) ?_
      refine cw_istore_n d_M_count_101 rfl ?_
      refine cw_iincN (x := i) d_M_count_102 rfl rfl ?_
      refine cw_goto 78 d_M_count_105 (by decide) ?_
      exact ih c_83
    · refine cw_bif_eq 99 d_M_count_92 (by decide) (fun c_92 => ?_) (fun c_92 => ?_)
      · refine cw_iconst (v := 0) d_M_count_99 (by decide) ?_
        exact k_92 _ (by rw [c_92]; rfl)
      · refine cw_iconst (v := 1) d_M_count_95 (by decide) ?_
        refine cw_goto 100 d_M_count_96 (by decide) ?_
        exact k_92 _ (by rw [c_92]; rfl)
set_option maxRecDepth 100000 in
theorem s_M_count {M : Mem} {σ : Sg} (hR : RM M σ) (hI : Iv σ) {x : Int32} : CS u_M_count [.ref 1000, .int x] M (pI (ans_count σ x) M) := by
  obtain ⟨hn1, hn2, hn3⟩ := hI.n
  refine cs_introF (L := [some (.ref 1000), some (.int x), none, none]) (by decide +kernel) (fun ad q h => h) (fun ad => Nat.le_of_ble_eq_true rfl) ?_
  refine cw_iconst (v := 0) d_M_count_0 (by decide) ?_
  refine cw_istore_n d_M_count_1 rfl ?_
  refine cw_iload_n d_M_count_2 rfl ?_
  by_cases hw : ixB x 9 = true
  · obtain ⟨k, hk, e_k⟩ := ixB_t hw (by decide)
    subst e_k
    rcases (show k = 0 ∨ k = 1 ∨ k = 2 ∨ k = 3 ∨ k = 4 ∨ k = 5 ∨ k = 6 ∨ k = 7 ∨ k = 8 by omega) with rfl | rfl | rfl | rfl | rfl | rfl | rfl | rfl | rfl
    · refine cw_swIn 52 d_M_count_3 (by decide) (by decide) rfl (by decide) ?_
      refine cw_aload_n d_M_count_52 rfl ?_
      refine cw_getI fl_M_98 so_M rfl d_M_count_53 ?_
      refine cw_iret rfl d_M_count_56 ?_
      exact ⟨by unfold ans_count; rw [if_pos hw]; exact hR.n1, rfl⟩
    · refine cw_swIn 57 d_M_count_3 (by decide) (by decide) rfl (by decide) ?_
      refine cw_aload_n d_M_count_57 rfl ?_
      refine cw_getI fl_M_157 so_M rfl d_M_count_58 ?_
      refine cw_iret rfl d_M_count_61 ?_
      exact ⟨by unfold ans_count; rw [if_pos hw]; exact hR.n2, rfl⟩
    · refine cw_swIn 62 d_M_count_3 (by decide) (by decide) rfl (by decide) ?_
      refine cw_aload_n d_M_count_62 rfl ?_
      refine cw_getI fl_M_190 so_M rfl d_M_count_63 ?_
      refine cw_iret rfl d_M_count_66 ?_
      exact ⟨by unfold ans_count; rw [if_pos hw]; exact hR.n3, rfl⟩
    · refine cw_swIn 67 d_M_count_3 (by decide) (by decide) rfl (by decide) ?_
      refine cw_aload_n d_M_count_67 rfl ?_
      refine cw_getR fl_M_28 so_M rfl d_M_count_68 ?_
      refine cw_iload_n d_M_count_71 rfl ?_
      refine cw_iconst (v := 3) d_M_count_72 (by decide) ?_
      refine cw_isub d_M_count_73 ?_
      refine cw_ialdN (i := 3 - 3) sm_typed (nSub rfl rfl (by omega)) (by omega) (by decide) d_M_count_74 ?_
      refine cw_iret rfl d_M_count_75 ?_
      exact ⟨by unfold ans_count; rw [if_pos hw]; exact hR.ty (i := 0) (by omega), rfl⟩
    · refine cw_swIn 67 d_M_count_3 (by decide) (by decide) rfl (by decide) ?_
      refine cw_aload_n d_M_count_67 rfl ?_
      refine cw_getR fl_M_28 so_M rfl d_M_count_68 ?_
      refine cw_iload_n d_M_count_71 rfl ?_
      refine cw_iconst (v := 3) d_M_count_72 (by decide) ?_
      refine cw_isub d_M_count_73 ?_
      refine cw_ialdN (i := 4 - 3) sm_typed (nSub rfl rfl (by omega)) (by omega) (by decide) d_M_count_74 ?_
      refine cw_iret rfl d_M_count_75 ?_
      exact ⟨by unfold ans_count; rw [if_pos hw]; exact hR.ty (i := 1) (by omega), rfl⟩
    · refine cw_swIn 67 d_M_count_3 (by decide) (by decide) rfl (by decide) ?_
      refine cw_aload_n d_M_count_67 rfl ?_
      refine cw_getR fl_M_28 so_M rfl d_M_count_68 ?_
      refine cw_iload_n d_M_count_71 rfl ?_
      refine cw_iconst (v := 3) d_M_count_72 (by decide) ?_
      refine cw_isub d_M_count_73 ?_
      refine cw_ialdN (i := 5 - 3) sm_typed (nSub rfl rfl (by omega)) (by omega) (by decide) d_M_count_74 ?_
      refine cw_iret rfl d_M_count_75 ?_
      exact ⟨by unfold ans_count; rw [if_pos hw]; exact hR.ty (i := 2) (by omega), rfl⟩
    · refine cw_swIn 67 d_M_count_3 (by decide) (by decide) rfl (by decide) ?_
      refine cw_aload_n d_M_count_67 rfl ?_
      refine cw_getR fl_M_28 so_M rfl d_M_count_68 ?_
      refine cw_iload_n d_M_count_71 rfl ?_
      refine cw_iconst (v := 3) d_M_count_72 (by decide) ?_
      refine cw_isub d_M_count_73 ?_
      refine cw_ialdN (i := 6 - 3) sm_typed (nSub rfl rfl (by omega)) (by omega) (by decide) d_M_count_74 ?_
      refine cw_iret rfl d_M_count_75 ?_
      exact ⟨by unfold ans_count; rw [if_pos hw]; exact hR.ty (i := 3) (by omega), rfl⟩
    · refine cw_swIn 76 d_M_count_3 (by decide) (by decide) rfl (by decide) ?_
      refine cw_iconst (v := 0) d_M_count_76 (by decide) ?_
      refine cw_istore_n d_M_count_77 rfl ?_
      refine cw_post (fun v M2 hq => ?_) (l_M_count hR hI 0 (by omega))
      obtain ⟨r, hv, hr, hm⟩ := hq
      exact ⟨r, hv, by unfold ans_count; rw [if_pos hw]; exact hr, hm⟩
    · refine cw_swIn 110 d_M_count_3 (by decide) (by decide) rfl (by decide) ?_
      refine cw_aload_n d_M_count_110 rfl ?_
      refine cw_getI fl_M_73 so_M rfl d_M_count_111 ?_
      refine cw_iret rfl d_M_count_114 ?_
      exact ⟨by unfold ans_count; rw [if_pos hw]; exact hR.lt, rfl⟩
  · have hw : ixB x 9 = false := Bool.eq_false_iff.mpr hw
    refine cw_swOut 115 d_M_count_3 (by have := of_decide_eq_false hw; omega) (by decide) ?_
    refine cw_bipush (v := (-2)) d_M_count_115 (by decide) ?_
    refine cw_iret rfl d_M_count_117 ?_
    exact ⟨by simp [ans_count, hw], rfl⟩
theorem m_count {M : Mem} {σ : Sg} (hR : RM M σ) (hI : Iv σ) {x : Int32} : CS u_M_count [.ref 1000, .int x] M (rM (ans_count σ x) σ M) := cs_post (fun v M2 hq => by
  obtain ⟨r, hv, hr, hm⟩ := hq
  subst hm
  exact ⟨r, hv, hr, hR, kM.rf⟩) (s_M_count hR hI)
theorem av_line {σ : Sg} (hI : Iv σ) {d p : Nat} (hd : d < σ.1.2.1) (hp : p < 8) : ans_line σ (nI d) (nI p) = σ.2 9 d p := by
  obtain ⟨hn1, hn2, hn3⟩ := hI.n
  unfold ans_line
  rw [if_pos (by rw [ixB_nI hd (by omega), ixB_nI hp (by decide)]; rfl), ix_nI (by omega), ix_nI (by omega)]
theorem av_leans {σ : Sg} (hI : Iv σ) {k p : Nat} (hk : k < σ.1.2.2) (hp : p < 8) : ans_leans σ (nI k) (nI p) = σ.2 12 k p := by
  obtain ⟨hn1, hn2, hn3⟩ := hI.n
  unfold ans_leans
  rw [if_pos (by rw [ixB_nI hk (by omega), ixB_nI hp (by decide)]; rfl), ix_nI (by omega), ix_nI (by omega)]
theorem av_tenths {σ : Sg} {a p : Nat} (ha : a < 4) (hp : p < 8) : ans_tenths σ (nI a) (nI p) = (hPar σ a).2 p := by
  unfold ans_tenths
  rw [if_pos (by rw [ixB_nI ha (by decide), ixB_nI hp (by decide)]; rfl), ix_nI (by omega), ix_nI (by omega)]
theorem av_fault {σ : Sg} {a : Nat} (ha : a < 4) : ans_fault σ (nI a) = (hPar σ a).1 := by
  unfold ans_fault
  rw [if_pos (ixB_nI ha (by decide)), ix_nI (by omega)]
theorem av_near {σ : Sg} (hI : Iv σ) {h : Nat} (hh : h < σ.1.1) : ans_near σ (nI h) 0 = nearS σ h 0 := by
  obtain ⟨hn1, hn2, hn3⟩ := hI.n
  unfold ans_near
  rw [if_pos (by rw [ixB_nI hh (by omega)]; rfl), ix_nI (by omega)]
  rfl
theorem set_1 {n : Nat} (h0 : 0 < n) (h8 : n ≤ 8) : setB 1 n = true := by
  have : ∀ k, k < 9 → 0 < k → setB 1 k = true := by decide +kernel
  exact this n (by omega) h0
theorem av_wit {σ : Sg} (hI : Iv σ) {h : Nat} (hh : h < σ.1.1) : ans_witness σ (nI h) 1 9 = witS σ h 1 9 := by
  obtain ⟨hn1, hn2, hn3⟩ := hI.n
  unfold ans_witness
  rw [if_pos (by rw [ixB_nI hh (by omega), set_1 (by omega) hn1]; rfl), ix_nI (by omega)]
theorem av_named {σ : Sg} (hI : Iv σ) {k d : Nat} {w : Int32} (hk : k < σ.1.2.2) (hd : d < σ.1.2.1) (hw : ixB w 2 = true) : ans_named σ (nI k) (nI d) w = nmS σ k d w := by
  obtain ⟨hn1, hn2, hn3⟩ := hI.n
  unfold ans_named
  rw [if_pos (by rw [ixB_nI hk (by omega), ixB_nI hd (by omega), hw]; rfl), ix_nI (by omega), ix_nI (by omega)]
  rfl
set_option maxRecDepth 100000 in
theorem l_M_dg5b {M : Mem} {σ : Sg} (hR : RM M σ) (hI : Iv σ) (x : Int64) {k : Nat} (hk : k < σ.1.2.2) (K : ∀ (M' : Mem), RM M' σ → kq M M' → CW u_M_digest (rMJ ((dgF (dgK σ) σ.1.2.2 x)) σ M) 313 [some (.ref 1000), some (.long (dgF (dgK σ) (k + 1) x)), none, some (.int (nI k)), some (.int (nI σ.1.2.1))] [] M')  : ∀ i, i ≤ σ.1.2.1 → ∀ (M' : Mem), RM M' σ → kq M M' → CW u_M_digest (rMJ ((dgF (dgK σ) σ.1.2.2 x)) σ M) 266 [some (.ref 1000), some (.long (dgN σ k i (dgU (fun p => ans_leans σ (nI k) (nI p)) 8 (dgF (dgK σ) k x)))), none, some (.int (nI k)), some (.int (nI i))] [] M' := by
  obtain ⟨hn1, hn2, hn3⟩ := hI.n
  refine up_ind (fun i hi ih M' hR' hkc => ?_)
  refine cw_iload d_M_digest_266 rfl ?_
  refine cw_aload_n d_M_digest_268 rfl ?_
  refine cw_getI fl_M_157 so_M rfl d_M_digest_269 ?_
  refine cw_icmp_geN (i) (σ.1.2.1) 313 rfl hR'.n2 (by omega) d_M_digest_272 (by decide) (fun c_272 => ?_) (fun c_272 => ?_)
  · have ei : i = σ.1.2.1 := by omega
    subst ei
    exact K _ hR' hkc
  · refine cw_ldc2_w kc_M_272 d_M_digest_275 ?_
    refine cw_lload_n d_M_digest_278 rfl ?_
    refine cw_lmul d_M_digest_279 ?_
    refine cw_aload_n d_M_digest_280 rfl ?_
    refine cw_iload_n d_M_digest_281 rfl ?_
    refine cw_iload d_M_digest_282 rfl ?_
    refine cw_iconst (v := 0) d_M_digest_284 (by decide) ?_
    refine cw_virtI (s_M_namedOf hR' hI (k := k) (d := i) (w := 0) hk (by omega)) rfl ml_M_244 so_M rfl rfl d_M_digest_285 (fun r_285 M_285 q_285 => ?_)
    obtain ⟨e_285, k_285⟩ := q_285
    subst e_285
    have w_285 := RM_kq hR' k_285
    refine cw_top (av_named hI hk (by omega) (by decide)).symm ?_
    refine cw_i2l d_M_digest_288 ?_
    refine cw_ladd d_M_digest_289 ?_
    refine cw_lstore_n d_M_digest_290 rfl ?_
    refine cw_ldc2_w kc_M_272 d_M_digest_291 ?_
    refine cw_lload_n d_M_digest_294 rfl ?_
    refine cw_lmul d_M_digest_295 ?_
    refine cw_aload_n d_M_digest_296 rfl ?_
    refine cw_iload_n d_M_digest_297 rfl ?_
    refine cw_iload d_M_digest_298 rfl ?_
    refine cw_iconst (v := 1) d_M_digest_300 (by decide) ?_
    refine cw_virtI (s_M_namedOf w_285 hI (k := k) (d := i) (w := 1) hk (by omega)) rfl ml_M_244 so_M rfl rfl d_M_digest_301 (fun r_301 M_301 q_301 => ?_)
    obtain ⟨e_301, k_301⟩ := q_301
    subst e_301
    have w_301 := RM_kq w_285 k_301
    refine cw_top (av_named hI hk (by omega) (by decide)).symm ?_
    refine cw_i2l d_M_digest_304 ?_
    refine cw_ladd d_M_digest_305 ?_
    refine cw_lstore_n d_M_digest_306 rfl ?_
    refine cw_iincN (x := i) d_M_digest_307 rfl rfl ?_
    refine cw_goto 266 d_M_digest_310 (by decide) ?_
    exact ih c_272 _ w_301 ((hkc.tr k_285).tr k_301)
set_option maxRecDepth 100000 in
theorem l_M_dg5a {M : Mem} {σ : Sg} (hR : RM M σ) (hI : Iv σ) (x : Int64) {k : Nat} (hk : k < σ.1.2.2) (K : ∀ (M' : Mem), RM M' σ → kq M M' → CW u_M_digest (rMJ ((dgF (dgK σ) σ.1.2.2 x)) σ M) 263 [some (.ref 1000), some (.long (dgU (fun p => ans_leans σ (nI k) (nI p)) 8 (dgF (dgK σ) k x))), none, some (.int (nI k)), some (.int (nI 8))] [] M')  : ∀ i, i ≤ 8 → ∀ (M' : Mem), RM M' σ → kq M M' → CW u_M_digest (rMJ ((dgF (dgK σ) σ.1.2.2 x)) σ M) 230 [some (.ref 1000), some (.long (dgU (fun p => ans_leans σ (nI k) (nI p)) i (dgF (dgK σ) k x))), none, some (.int (nI k)), some (.int (nI i))] [] M' := by
  obtain ⟨hn1, hn2, hn3⟩ := hI.n
  refine up_ind (fun i hi ih M' hR' hkc => ?_)
  refine cw_iload d_M_digest_230 rfl ?_
  refine cw_bipush (v := 8) d_M_digest_232 (by decide) ?_
  refine cw_icmp_geN (i) (8) 263 rfl rfl (by omega) d_M_digest_234 (by decide) (fun c_234 => ?_) (fun c_234 => ?_)
  · have ei : i = 8 := by omega
    subst ei
    exact K _ hR' hkc
  · refine cw_ldc2_w kc_M_272 d_M_digest_237 ?_
    refine cw_lload_n d_M_digest_240 rfl ?_
    refine cw_lmul d_M_digest_241 ?_
    refine cw_aload_n d_M_digest_242 rfl ?_
    refine cw_getR fl_M_58 so_M rfl d_M_digest_243 ?_
    refine cw_bipush (v := 8) d_M_digest_246 (by decide) ?_
    refine cw_iload_n d_M_digest_248 rfl ?_
    refine cw_imul d_M_digest_249 ?_
    refine cw_iload d_M_digest_250 rfl ?_
    refine cw_iadd d_M_digest_252 ?_
    refine cw_ialdN (i := (8 * k) + i) sm_own (nAdd (nMul rfl rfl) rfl) (by omega) (by decide) d_M_digest_253 ?_
    refine cw_top ((hR'.ow hk (by omega)).trans (av_leans hI hk (by omega)).symm) ?_
    refine cw_i2l d_M_digest_254 ?_
    refine cw_ladd d_M_digest_255 ?_
    refine cw_lstore_n d_M_digest_256 rfl ?_
    refine cw_iincN (x := i) d_M_digest_257 rfl rfl ?_
    refine cw_goto 230 d_M_digest_260 (by decide) ?_
    exact ih c_234 _ hR' hkc
set_option maxRecDepth 100000 in
theorem l_M_dg5 {M : Mem} {σ : Sg} (hR : RM M σ) (hI : Iv σ) (x : Int64)  : ∀ i, i ≤ σ.1.2.2 → ∀ (M' : Mem) (o4 : Option Value), RM M' σ → kq M M' → CW u_M_digest (rMJ ((dgF (dgK σ) σ.1.2.2 x)) σ M) 219 [some (.ref 1000), some (.long (dgF (dgK σ) i x)), none, some (.int (nI i)), o4] [] M' := by
  obtain ⟨hn1, hn2, hn3⟩ := hI.n
  refine up_ind (fun i hi ih M' o4 hR' hkc => ?_)
  refine cw_iload_n d_M_digest_219 rfl ?_
  refine cw_aload_n d_M_digest_220 rfl ?_
  refine cw_getI fl_M_190 so_M rfl d_M_digest_221 ?_
  refine cw_icmp_geN (i) (σ.1.2.2) 319 rfl hR'.n3 (by omega) d_M_digest_224 (by decide) (fun c_224 => ?_) (fun c_224 => ?_)
  · refine cw_lload_n d_M_digest_319 rfl ?_
    refine cw_lret rfl d_M_digest_320 ?_
    have ei : i = σ.1.2.2 := by omega
    subst ei
    exact ⟨rfl, hR', hkc.kM⟩
  · refine cw_iconst (v := 0) d_M_digest_227 (by decide) ?_
    refine cw_istore d_M_digest_228 rfl ?_
    refine l_M_dg5a hR hI x (k := i) (by omega) (fun M2 q1 q2 => ?_) 0 (by omega) M' hR' hkc
    refine cw_iconst (v := 0) d_M_digest_263 (by decide) ?_
    refine cw_istore d_M_digest_264 rfl ?_
    refine l_M_dg5b hR hI x (k := i) (by omega) (fun M3 q3 q4 => ?_) 0 (by omega) M2 q1 q2
    refine cw_iincN (x := i) d_M_digest_313 rfl rfl ?_
    refine cw_goto 219 d_M_digest_316 (by decide) ?_
    exact ih c_224 M3 _ q3 q4
set_option maxRecDepth 100000 in
theorem l_M_dg4b {M : Mem} {σ : Sg} (hR : RM M σ) (hI : Iv σ) (x : Int64) {d : Nat} (hd : d < σ.1.2.1) (K : ∀ (M' : Mem), RM M' σ → kq M M' → CW u_M_digest (rMJ ((dgF (dgK σ) σ.1.2.2 (dgF (dgD σ) σ.1.2.1 x))) σ M) 211 [some (.ref 1000), some (.long (dgF (dgD σ) (d + 1) x)), none, some (.int (nI d)), some (.int (nI 8))] [] M')  : ∀ i, i ≤ 8 → ∀ (M' : Mem), RM M' σ → kq M M' → CW u_M_digest (rMJ ((dgF (dgK σ) σ.1.2.2 (dgF (dgD σ) σ.1.2.1 x))) σ M) 178 [some (.ref 1000), some (.long (dgU (fun p => ans_line σ (nI d) (nI p)) i (dgU (fun w => ans_about σ (nI d) (nI w)) 8 (dgF (dgD σ) d x)))), none, some (.int (nI d)), some (.int (nI i))] [] M' := by
  obtain ⟨hn1, hn2, hn3⟩ := hI.n
  refine up_ind (fun i hi ih M' hR' hkc => ?_)
  refine cw_iload d_M_digest_178 rfl ?_
  refine cw_bipush (v := 8) d_M_digest_180 (by decide) ?_
  refine cw_icmp_geN (i) (8) 211 rfl rfl (by omega) d_M_digest_182 (by decide) (fun c_182 => ?_) (fun c_182 => ?_)
  · have ei : i = 8 := by omega
    subst ei
    exact K _ hR' hkc
  · refine cw_ldc2_w kc_M_272 d_M_digest_185 ?_
    refine cw_lload_n d_M_digest_188 rfl ?_
    refine cw_lmul d_M_digest_189 ?_
    refine cw_aload_n d_M_digest_190 rfl ?_
    refine cw_getR fl_M_49 so_M rfl d_M_digest_191 ?_
    refine cw_bipush (v := 8) d_M_digest_194 (by decide) ?_
    refine cw_iload_n d_M_digest_196 rfl ?_
    refine cw_imul d_M_digest_197 ?_
    refine cw_iload d_M_digest_198 rfl ?_
    refine cw_iadd d_M_digest_200 ?_
    refine cw_ialdN (i := (8 * d) + i) sm_lines (nAdd (nMul rfl rfl) rfl) (by omega) (by decide) d_M_digest_201 ?_
    refine cw_top ((hR'.li hd (by omega)).trans (av_line hI hd (by omega)).symm) ?_
    refine cw_i2l d_M_digest_202 ?_
    refine cw_ladd d_M_digest_203 ?_
    refine cw_lstore_n d_M_digest_204 rfl ?_
    refine cw_iincN (x := i) d_M_digest_205 rfl rfl ?_
    refine cw_goto 178 d_M_digest_208 (by decide) ?_
    exact ih c_182 _ hR' hkc
set_option maxRecDepth 100000 in
theorem l_M_dg4a {M : Mem} {σ : Sg} (hR : RM M σ) (hI : Iv σ) (x : Int64) {d : Nat} (hd : d < σ.1.2.1) (K : ∀ (M' : Mem), RM M' σ → kq M M' → CW u_M_digest (rMJ ((dgF (dgK σ) σ.1.2.2 (dgF (dgD σ) σ.1.2.1 x))) σ M) 175 [some (.ref 1000), some (.long (dgU (fun w => ans_about σ (nI d) (nI w)) 8 (dgF (dgD σ) d x))), none, some (.int (nI d)), some (.int (nI 8))] [] M')  : ∀ i, i ≤ 8 → ∀ (M' : Mem), RM M' σ → kq M M' → CW u_M_digest (rMJ ((dgF (dgK σ) σ.1.2.2 (dgF (dgD σ) σ.1.2.1 x))) σ M) 147 [some (.ref 1000), some (.long (dgU (fun w => ans_about σ (nI d) (nI w)) i (dgF (dgD σ) d x))), none, some (.int (nI d)), some (.int (nI i))] [] M' := by
  obtain ⟨hn1, hn2, hn3⟩ := hI.n
  refine up_ind (fun i hi ih M' hR' hkc => ?_)
  refine cw_iload d_M_digest_147 rfl ?_
  refine cw_bipush (v := 8) d_M_digest_149 (by decide) ?_
  refine cw_icmp_geN (i) (8) 175 rfl rfl (by omega) d_M_digest_151 (by decide) (fun c_151 => ?_) (fun c_151 => ?_)
  · have ei : i = 8 := by omega
    subst ei
    exact K _ hR' hkc
  · refine cw_ldc2_w kc_M_272 d_M_digest_154 ?_
    refine cw_lload_n d_M_digest_157 rfl ?_
    refine cw_lmul d_M_digest_158 ?_
    refine cw_aload_n d_M_digest_159 rfl ?_
    refine cw_iload_n d_M_digest_160 rfl ?_
    refine cw_iload d_M_digest_161 rfl ?_
    refine cw_virtI (s_M_aboutOf hR' hI (d := d) (k := i) hd (by omega)) rfl ml_M_187 so_M rfl rfl d_M_digest_163 (fun r_163 M_163 q_163 => ?_)
    obtain ⟨e_163, k_163⟩ := q_163
    subst e_163
    have w_163 := RM_kq hR' k_163
    refine cw_top (ab_eq hd hI (by omega)).symm ?_
    refine cw_i2l d_M_digest_166 ?_
    refine cw_ladd d_M_digest_167 ?_
    refine cw_lstore_n d_M_digest_168 rfl ?_
    refine cw_iincN (x := i) d_M_digest_169 rfl rfl ?_
    refine cw_goto 147 d_M_digest_172 (by decide) ?_
    exact ih c_151 _ w_163 (hkc.tr k_163)
set_option maxRecDepth 100000 in
theorem l_M_dg4 {M : Mem} {σ : Sg} (hR : RM M σ) (hI : Iv σ) (x : Int64)  : ∀ i, i ≤ σ.1.2.1 → ∀ (M' : Mem) (o4 : Option Value), RM M' σ → kq M M' → CW u_M_digest (rMJ ((dgF (dgK σ) σ.1.2.2 (dgF (dgD σ) σ.1.2.1 x))) σ M) 136 [some (.ref 1000), some (.long (dgF (dgD σ) i x)), none, some (.int (nI i)), o4] [] M' := by
  obtain ⟨hn1, hn2, hn3⟩ := hI.n
  refine up_ind (fun i hi ih M' o4 hR' hkc => ?_)
  refine cw_iload_n d_M_digest_136 rfl ?_
  refine cw_aload_n d_M_digest_137 rfl ?_
  refine cw_getI fl_M_157 so_M rfl d_M_digest_138 ?_
  refine cw_icmp_geN (i) (σ.1.2.1) 217 rfl hR'.n2 (by omega) d_M_digest_141 (by decide) (fun c_141 => ?_) (fun c_141 => ?_)
  · refine cw_iconst (v := 0) d_M_digest_217 (by decide) ?_
    refine cw_istore_n d_M_digest_218 rfl ?_
    have ei : i = σ.1.2.1 := by omega
    subst ei
    exact l_M_dg5 hR hI _ 0 (by omega) M' _ hR' hkc
  · refine cw_iconst (v := 0) d_M_digest_144 (by decide) ?_
    refine cw_istore d_M_digest_145 rfl ?_
    refine l_M_dg4a hR hI x (d := i) (by omega) (fun M2 q1 q2 => ?_) 0 (by omega) M' hR' hkc
    refine cw_iconst (v := 0) d_M_digest_175 (by decide) ?_
    refine cw_istore d_M_digest_176 rfl ?_
    refine l_M_dg4b hR hI x (d := i) (by omega) (fun M3 q3 q4 => ?_) 0 (by omega) M2 q1 q2
    refine cw_iincN (x := i) d_M_digest_211 rfl rfl ?_
    refine cw_goto 136 d_M_digest_214 (by decide) ?_
    exact ih c_141 M3 _ q3 q4
set_option maxRecDepth 100000 in
theorem l_M_dg3 {M : Mem} {σ : Sg} (hR : RM M σ) (hI : Iv σ) (x : Int64)  : ∀ i, i ≤ σ.1.1 → ∀ (M' : Mem) (o4 : Option Value), RM M' σ → kq M M' → CW u_M_digest (rMJ ((dgF (dgK σ) σ.1.2.2 (dgF (dgD σ) σ.1.2.1 (dgE σ σ.1.1 x)))) σ M) 90 [some (.ref 1000), some (.long (dgE σ i x)), none, some (.int (nI i)), o4] [] M' := by
  obtain ⟨hn1, hn2, hn3⟩ := hI.n
  refine up_ind (fun i hi ih M' o4 hR' hkc => ?_)
  refine cw_iload_n d_M_digest_90 rfl ?_
  refine cw_aload_n d_M_digest_91 rfl ?_
  refine cw_getI fl_M_98 so_M rfl d_M_digest_92 ?_
  refine cw_icmp_geN (i) (σ.1.1) 134 rfl hR'.n1 (by omega) d_M_digest_95 (by decide) (fun c_95 => ?_) (fun c_95 => ?_)
  · refine cw_iconst (v := 0) d_M_digest_134 (by decide) ?_
    refine cw_istore_n d_M_digest_135 rfl ?_
    have ei : i = σ.1.1 := by omega
    subst ei
    exact l_M_dg4 hR hI _ 0 (by omega) M' _ hR' hkc
  · refine cw_ldc2_w kc_M_272 d_M_digest_98 ?_
    refine cw_lload_n d_M_digest_101 rfl ?_
    refine cw_lmul d_M_digest_102 ?_
    refine cw_aload_n d_M_digest_103 rfl ?_
    refine cw_iload_n d_M_digest_104 rfl ?_
    refine cw_iconst (v := 0) d_M_digest_105 (by decide) ?_
    refine cw_virtI (s_M_nearOf hR' hI (h := i) (a := 0) (by omega) (by decide)) rfl ml_M_264 so_M rfl rfl d_M_digest_106 (fun r_106 M_106 q_106 => ?_)
    obtain ⟨e_106, k_106⟩ := q_106
    subst e_106
    have w_106 := RM_kq hR' k_106
    refine cw_top (av_near hI (by omega)).symm ?_
    refine cw_i2l d_M_digest_109 ?_
    refine cw_ladd d_M_digest_110 ?_
    refine cw_lstore_n d_M_digest_111 rfl ?_
    refine cw_ldc2_w kc_M_272 d_M_digest_112 ?_
    refine cw_lload_n d_M_digest_115 rfl ?_
    refine cw_lmul d_M_digest_116 ?_
    refine cw_aload_n d_M_digest_117 rfl ?_
    refine cw_iload_n d_M_digest_118 rfl ?_
    refine cw_iconst (v := 1) d_M_digest_119 (by decide) ?_
    refine cw_bipush (v := 9) d_M_digest_120 (by decide) ?_
    refine cw_virtI (s_M_witnessOf w_106 hI (h := i) (s := 1) (t := 9) (by omega) (set_1 (by omega) hn1) (by decide)) rfl ml_M_267 so_M rfl rfl d_M_digest_122 (fun r_122 M_122 q_122 => ?_)
    obtain ⟨e_122, k_122⟩ := q_122
    subst e_122
    have w_122 := RM_kq w_106 k_122
    refine cw_top (av_wit hI (by omega)).symm ?_
    refine cw_i2l d_M_digest_125 ?_
    refine cw_ladd d_M_digest_126 ?_
    refine cw_lstore_n d_M_digest_127 rfl ?_
    refine cw_iincN (x := i) d_M_digest_128 rfl rfl ?_
    refine cw_goto 90 d_M_digest_131 (by decide) ?_
    exact ih c_95 _ _ w_122 ((hkc.tr k_106).tr k_122)
set_option maxRecDepth 100000 in
theorem l_M_dg2a {M : Mem} {σ : Sg} (hR : RM M σ) (hI : Iv σ) (x : Int64) {a : Nat} {M' : Mem} (ha : a < 4) (hR' : RM M' σ) (ht : ∀ p, p < 8 → mG M' 1011 p = (hPar σ a).2 p) (K : CW u_M_digest (rMJ ((dgF (dgK σ) σ.1.2.2 (dgF (dgD σ) σ.1.2.1 (dgE σ σ.1.1 (dgH σ 4 x))))) σ M) 82 [some (.ref 1000), some (.long (dgH σ (a + 1) x)), none, some (.int (nI a)), some (.int (nI 8))] [] M')  : ∀ i, i ≤ 8 → CW u_M_digest (rMJ ((dgF (dgK σ) σ.1.2.2 (dgF (dgD σ) σ.1.2.1 (dgE σ σ.1.1 (dgH σ 4 x))))) σ M) 54 [some (.ref 1000), some (.long (dgU (fun p => ans_tenths σ (nI a) (nI p)) i (31 * dgH σ a x + (ans_fault σ (nI a)).toInt64))), none, some (.int (nI a)), some (.int (nI i))] [] M' := by
  obtain ⟨hn1, hn2, hn3⟩ := hI.n
  refine up_ind (fun i hi ih => ?_)
  refine cw_iload d_M_digest_54 rfl ?_
  refine cw_bipush (v := 8) d_M_digest_56 (by decide) ?_
  refine cw_icmp_geN (i) (8) 82 rfl rfl (by omega) d_M_digest_58 (by decide) (fun c_58 => ?_) (fun c_58 => ?_)
  · have ei : i = 8 := by omega
    subst ei
    exact K
  · refine cw_ldc2_w kc_M_272 d_M_digest_61 ?_
    refine cw_lload_n d_M_digest_64 rfl ?_
    refine cw_lmul d_M_digest_65 ?_
    refine cw_aload_n d_M_digest_66 rfl ?_
    refine cw_getR fl_M_31 so_M rfl d_M_digest_67 ?_
    refine cw_iload d_M_digest_70 rfl ?_
    refine cw_ialdN (i := i) sm_tenthsOf rfl (by omega) (by decide) d_M_digest_72 ?_
    refine cw_top ((ht i (by omega)).trans (av_tenths ha (by omega)).symm) ?_
    refine cw_i2l d_M_digest_73 ?_
    refine cw_ladd d_M_digest_74 ?_
    refine cw_lstore_n d_M_digest_75 rfl ?_
    refine cw_iincN (x := i) d_M_digest_76 rfl rfl ?_
    refine cw_goto 54 d_M_digest_79 (by decide) ?_
    exact ih c_58
set_option maxRecDepth 100000 in
theorem l_M_dg2 {M : Mem} {σ : Sg} (hR : RM M σ) (hI : Iv σ) (x : Int64)  : ∀ i, i ≤ 4 → ∀ (M' : Mem) (o4 : Option Value), RM M' σ → kq M M' → CW u_M_digest (rMJ ((dgF (dgK σ) σ.1.2.2 (dgF (dgD σ) σ.1.2.1 (dgE σ σ.1.1 (dgH σ 4 x))))) σ M) 33 [some (.ref 1000), some (.long (dgH σ i x)), none, some (.int (nI i)), o4] [] M' := by
  obtain ⟨hn1, hn2, hn3⟩ := hI.n
  refine up_ind (fun i hi ih M' o4 hR' hkc => ?_)
  refine cw_iload_n d_M_digest_33 rfl ?_
  refine cw_iconst (v := 4) d_M_digest_34 (by decide) ?_
  refine cw_icmp_geN (i) (4) 88 rfl rfl (by omega) d_M_digest_35 (by decide) (fun c_35 => ?_) (fun c_35 => ?_)
  · refine cw_iconst (v := 0) d_M_digest_88 (by decide) ?_
    refine cw_istore_n d_M_digest_89 rfl ?_
    have ei : i = 4 := by omega
    subst ei
    exact l_M_dg3 hR hI _ 0 (by omega) M' _ hR' hkc
  · refine cw_ldc2_w kc_M_272 d_M_digest_38 ?_
    refine cw_lload_n d_M_digest_41 rfl ?_
    refine cw_lmul d_M_digest_42 ?_
    refine cw_aload_n d_M_digest_43 rfl ?_
    refine cw_iload_n d_M_digest_44 rfl ?_
    refine cw_virtI (s_M_reads hR' hI (a := i) (by omega)) rfl ml_M_146 so_M rfl rfl d_M_digest_45 (fun r_45 M_45 q_45 => ?_)
    obtain ⟨e_45, k_45, t_45⟩ := q_45
    subst e_45
    have w_45 := RM_kq hR' k_45
    refine cw_top (av_fault (by omega)).symm ?_
    refine cw_i2l d_M_digest_48 ?_
    refine cw_ladd d_M_digest_49 ?_
    refine cw_lstore_n d_M_digest_50 rfl ?_
    refine cw_iconst (v := 0) d_M_digest_51 (by decide) ?_
    refine cw_istore d_M_digest_52 rfl ?_
    refine l_M_dg2a hR hI x (a := i) (by omega) w_45 t_45 ?_ 0 (by omega)
    refine cw_iincN (x := i) d_M_digest_82 rfl rfl ?_
    refine cw_goto 33 d_M_digest_85 (by decide) ?_
    exact ih c_35 _ _ w_45 (hkc.tr k_45)
set_option maxRecDepth 100000 in
theorem l_M_dg1 {M : Mem} {σ : Sg} (hR : RM M σ) (hI : Iv σ) (x : Int64)  : ∀ i, i ≤ 8 → ∀ (M' : Mem) (o4 : Option Value), RM M' σ → kq M M' → CW u_M_digest (rMJ ((dgF (dgK σ) σ.1.2.2 (dgF (dgD σ) σ.1.2.1 (dgE σ σ.1.1 (dgH σ 4 (dgU (fun w => ans_count σ (nI w)) 8 x)))))) σ M) 6 [some (.ref 1000), some (.long (dgU (fun w => ans_count σ (nI w)) i x)), none, some (.int (nI i)), o4] [] M' := by
  obtain ⟨hn1, hn2, hn3⟩ := hI.n
  refine up_ind (fun i hi ih M' o4 hR' hkc => ?_)
  refine cw_iload_n d_M_digest_6 rfl ?_
  refine cw_bipush (v := 8) d_M_digest_7 (by decide) ?_
  refine cw_icmp_geN (i) (8) 31 rfl rfl (by omega) d_M_digest_9 (by decide) (fun c_9 => ?_) (fun c_9 => ?_)
  · refine cw_iconst (v := 0) d_M_digest_31 (by decide) ?_
    refine cw_istore_n d_M_digest_32 rfl ?_
    have ei : i = 8 := by omega
    subst ei
    exact l_M_dg2 hR hI _ 0 (by omega) M' _ hR' hkc
  · refine cw_ldc2_w kc_M_272 d_M_digest_12 ?_
    refine cw_lload_n d_M_digest_15 rfl ?_
    refine cw_lmul d_M_digest_16 ?_
    refine cw_aload_n d_M_digest_17 rfl ?_
    refine cw_iload_n d_M_digest_18 rfl ?_
    refine cw_virtP (s_M_count hR' hI (x := nI i)) rfl ml_M_274 so_M rfl rfl d_M_digest_19 ?_
    refine cw_i2l d_M_digest_22 ?_
    refine cw_ladd d_M_digest_23 ?_
    refine cw_lstore_n d_M_digest_24 rfl ?_
    refine cw_iincN (x := i) d_M_digest_25 rfl rfl ?_
    refine cw_goto 6 d_M_digest_28 (by decide) ?_
    exact ih (by omega) _ _ hR' hkc
set_option maxRecDepth 100000 in
theorem m_digest {M : Mem} {σ : Sg} (hR : RM M σ) (hI : Iv σ)  : CS u_M_digest [.ref 1000] M (rMJ (digS σ) σ M) := by
  refine cs_introF (L := [some (.ref 1000), none, none, none, none]) (by decide +kernel) (fun ad q h => h) (fun ad => Nat.le_of_ble_eq_true rfl) ?_
  refine cw_ldc2_w kc_M_270 d_M_digest_0 ?_
  refine cw_lstore_n d_M_digest_3 rfl ?_
  refine cw_iconst (v := 0) d_M_digest_4 (by decide) ?_
  refine cw_istore_n d_M_digest_5 rfl ?_
  unfold digS
  exact l_M_dg1 hR hI 17 0 (by omega) _ _ hR kq.rf
