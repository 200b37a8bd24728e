/-! ===== the reference: score, named, much ===== -/
theorem scB_li {σ : Sg} (hI : Iv σ) {k d h : Nat} (hk : k < σ.1.2.2) (hd : d < σ.1.2.1) : scB (σ.2 9 d) (σ.2 12 k) (σ.2 1 h) := by
  obtain ⟨h1, h2, h3, h4, h5, h6, h7, h8, h9, h10⟩ := hI
  exact fun p _ => ⟨((h8 d hd).2.2 p).1, h9 k p hk, h4 h p⟩
theorem clS_r (w : Int32) : rD (clS w) (-7000) 7000 := by
  have h7 : (7000 : Int32).toInt = 7000 := rfl
  have h8 : (-7000 : Int32).toInt = -7000 := rfl
  unfold clS
  split
  · exact ⟨by decide, by decide⟩
  · rename_i q
    split
    · exact ⟨by decide, by decide⟩
    · rename_i q2
      rw [i32_lt] at q q2
      exact ⟨by omega, by omega⟩
theorem drS_r (m p t : Int32) : drawnS m p t = LO ∨ rD (drawnS m p t) (-7000) 7000 := by
  unfold drawnS
  split
  · exact Or.inl rfl
  · exact Or.inr (clS_r _)
theorem scB_try {σ : Sg} (hI : Iv σ) {k g h : Nat} {s bits t : Int32} (hk : k < σ.1.2.2) : scB (tryS σ g s bits t) (σ.2 12 k) (σ.2 1 h) := by
  obtain ⟨h1, h2, h3, h4, h5, h6, h7, h8, h9, h10⟩ := hI
  refine fun p _ => ⟨?_, h9 k p hk, h4 h p⟩
  exact drS_r _ _ _
theorem absJ_n {a : Nat} (h : a < 2 ^ 63) : absJ (nL a) = nL a := if_pos (by rw [i64_le, nL_t h]; show (0 : Int) ≤ _; omega)
theorem fin_0 {b : Nat} {w : Int32} (h0 : 0 < b) (hb : b < 2 ^ 49) : finJ (nL 0) (nL b) w (gcdJ 100 (absJ (nL 0)) (nL b)) = if w = 0 then 0 else 1 := by
  have hy : ¬ nL b = 0 := fun z => by have := (nL_0 (by omega)).mp z; omega
  have hg : gcdJ 100 (nL 0) (nL b) = nL b := (if_neg hy).trans (by rw [nL_rem (by omega) (by omega), Nat.zero_mod]; rfl)
  rw [absJ_n (by decide), hg]
  unfold finJ
  rw [if_neg hy, nL_div (by omega) (by omega), nL_div (by omega) (by omega), Nat.zero_div, Nat.div_self h0]
  rfl
theorem fin_rs {ln mn pl : Nat → Int32} {w : Int32} (h : scB ln mn pl) : finJ (rsX ln mn pl) (rsY ln mn pl) w (gcdJ 100 (absJ (rsX ln mn pl)) (rsY ln mn pl)) = finJ (wgX ln mn pl) (wgY ln mn pl) w (gcdJ 100 (absJ (wgX ln mn pl)) (wgY ln mn pl)) := by
  obtain ⟨a, b, c, e1, e2, e3, e4, b0, b1, c0, c1, a1, hh⟩ := sc_ok h
  rw [e1, e2, e3, e4]
  rcases hh with rfl | rfl
  · rw [fin_0 c0 (by omega), fin_0 b0 (by omega)]
  · rfl
set_option maxRecDepth 100000 in
theorem m_score {M : Mem} {σ : Sg} (hR : RM M σ) (hI : Iv σ) {x y z w : Int32} : CS u_M_score [.ref 1000, .int x, .int y, .int z, .int w] M (rMJ (ans_score σ x y z w) σ M) := by
  obtain ⟨hn1, hn2, hn3⟩ := hI.n
  refine cs_introF (L := [some (.ref 1000), some (.int x), some (.int y), some (.int z), some (.int w)]) (by decide +kernel) (fun ad q h => h) (fun ad => Nat.le_of_ble_eq_true rfl) ?_
  refine cw_aload_n d_M_score_0 rfl ?_
  refine cw_iload_n d_M_score_1 rfl ?_
  refine cw_virtP (s_M_isKnower hR hI) rfl ml_M_193 so_M rfl rfl d_M_score_2 ?_
  refine cw_bif_eq 32 d_M_score_5 (by decide) (fun c_5 => ?_) (fun c_5 => ?_)
  · refine cw_bipush (v := (-2)) d_M_score_32 (by decide) ?_
    refine cw_staticPJ (s_M_no) rfl ml_M_214 rfl rfl d_M_score_34 ?_
    refine cw_topJ (y := -9223372036854775806) (by decide) ?_
    refine cw_lret rfl d_M_score_37 ?_
    exact ⟨by simp [ans_score, c_5], hR, kM.rf⟩
  · obtain ⟨k, hhk, e_k⟩ := ixB_t c_5 (by omega)
    subst e_k
    refine cw_aload_n d_M_score_8 rfl ?_
    refine cw_iload_n d_M_score_9 rfl ?_
    refine cw_virtP (s_M_isDrawing hR hI) rfl ml_M_163 so_M rfl rfl d_M_score_10 ?_
    refine cw_bif_eq 32 d_M_score_13 (by decide) (fun c_13 => ?_) (fun c_13 => ?_)
    · refine cw_bipush (v := (-2)) d_M_score_32 (by decide) ?_
      refine cw_staticPJ (s_M_no) rfl ml_M_214 rfl rfl d_M_score_34 ?_
      refine cw_topJ (y := -9223372036854775806) (by decide) ?_
      refine cw_lret rfl d_M_score_37 ?_
      exact ⟨by simp [ans_score, c_5, c_13], hR, kM.rf⟩
    · obtain ⟨d, hhd, e_d⟩ := ixB_t c_13 (by omega)
      subst e_d
      refine cw_aload_n d_M_score_16 rfl ?_
      refine cw_iload_n d_M_score_17 rfl ?_
      refine cw_virtP (s_M_isHead hR hI) rfl ml_M_103 so_M rfl rfl d_M_score_18 ?_
      refine cw_bif_eq 32 d_M_score_21 (by decide) (fun c_21 => ?_) (fun c_21 => ?_)
      · refine cw_bipush (v := (-2)) d_M_score_32 (by decide) ?_
        refine cw_staticPJ (s_M_no) rfl ml_M_214 rfl rfl d_M_score_34 ?_
        refine cw_topJ (y := -9223372036854775806) (by decide) ?_
        refine cw_lret rfl d_M_score_37 ?_
        exact ⟨by simp [ans_score, c_5, c_13, c_21], hR, kM.rf⟩
      · obtain ⟨h, hhh, e_h⟩ := ixB_t c_21 (by omega)
        subst e_h
        refine cw_iload d_M_score_24 rfl ?_
        refine cw_staticP (s_M_isTwo) rfl ml_M_211 rfl rfl d_M_score_26 ?_
        refine cw_bif_ne 38 d_M_score_29 (by decide) (fun c_29 => ?_) (fun c_29 => ?_)
        · obtain ⟨v, hhv, e_v⟩ := ixB_t c_29 (by omega)
          subst e_v
          refine cw_aload_n d_M_score_38 rfl ?_
          refine cw_iload_n d_M_score_39 rfl ?_
          refine cw_iload_n d_M_score_40 rfl ?_
          refine cw_virtP (s_M_doesKnow hR hI (k := k) (h := h) (by omega) (by omega)) rfl ml_M_218 so_M rfl rfl d_M_score_41 ?_
          refine cw_bif_ne 53 d_M_score_44 (by decide) (fun c_44 => ?_) (fun c_44 => ?_)
          · refine cw_aload_n d_M_score_53 rfl ?_
            refine cw_iload_n d_M_score_54 rfl ?_
            refine cw_virtV (s_M_sees_I hR hI (d := d) (by omega)) rfl ml_M_222 so_M rfl rfl d_M_score_55 (fun M_55 q_55 => ?_)
            obtain ⟨k_55, n_55⟩ := q_55
            have hR_55 := RM_kq hR k_55
            refine cw_aload_n d_M_score_58 rfl ?_
            refine cw_iload_n d_M_score_59 rfl ?_
            refine cw_iload_n d_M_score_60 rfl ?_
            refine cw_virtV (s_M_findScore hR_55 hI (k := k) (h := h) (by omega) (by omega) n_55) rfl ml_M_226 so_M rfl rfl d_M_score_61 (fun M_61 q_61 => ?_)
            obtain ⟨j_61, x_61, y_61⟩ := q_61
            have hb9 := scB_li (h := h) hI (show k < σ.1.2.2 by omega) (show d < σ.1.2.1 by omega)
            obtain ⟨a, b, c, e1, e2, e3, e4, b0, b1, c0, c1, a1, hq⟩ := sc_ok hb9
            have hf := fin_rs (w := nI v) hb9
            rw [e3, e4] at hf
            refine cw_aload_n d_M_score_64 rfl ?_
            refine cw_getJ fl_M_200 so_M rfl d_M_score_65 ?_
            refine cw_topJ (x_61.trans e3) ?_
            refine cw_aload_n d_M_score_68 rfl ?_
            refine cw_getJ fl_M_204 so_M rfl d_M_score_69 ?_
            refine cw_topJ (y_61.trans e4) ?_
            refine cw_iload d_M_score_72 rfl ?_
            refine cw_staticPJ (s_M_part (a := a) (b := c) (absJ_n (by omega)) (by omega) c0 (by omega)) rfl ml_M_230 rfl rfl d_M_score_74 ?_
            refine cw_lret rfl d_M_score_77 ?_
            exact ⟨by simp [ans_score, c_5, c_13, c_21, c_29, c_44, ix_nI (show k < 2 ^ 31 by omega), ix_nI (show d < 2 ^ 31 by omega), ix_nI (show h < 2 ^ 31 by omega)]; exact hf, RM_kq hR_55 j_61.kq, (k_55.tr j_61.kq).kM⟩
          · refine cw_bipush (v := (-3)) d_M_score_47 (by decide) ?_
            refine cw_staticPJ (s_M_no) rfl ml_M_214 rfl rfl d_M_score_49 ?_
            refine cw_topJ (y := -9223372036854775805) (by decide) ?_
            refine cw_lret rfl d_M_score_52 ?_
            exact ⟨by simp [ans_score, c_5, c_13, c_21, c_29, c_44, ix_nI (show k < 2 ^ 31 by omega), ix_nI (show d < 2 ^ 31 by omega), ix_nI (show h < 2 ^ 31 by omega)], hR, kM.rf⟩
        · refine cw_bipush (v := (-2)) d_M_score_32 (by decide) ?_
          refine cw_staticPJ (s_M_no) rfl ml_M_214 rfl rfl d_M_score_34 ?_
          refine cw_topJ (y := -9223372036854775806) (by decide) ?_
          refine cw_lret rfl d_M_score_37 ?_
          exact ⟨by simp [ans_score, c_5, c_13, c_21, c_29], hR, kM.rf⟩
def NU (t : Int32 × Int64 × Int64) (c : Nat) : Prop := ∃ a b, t.2.1 = nL a ∧ t.2.2 = nL b ∧ 0 < b ∧ b < 2 ^ 30 ∧ 0 < c ∧ c < 2 ^ 30 ∧ a < 2 ^ 60 ∧ (a = 0 ∨ b = c)
set_option maxRecDepth 100000 in
theorem l_M_namedBy {M : Mem} {σ : Sg} (hR : RM M σ) (hI : Iv σ) {k : Nat} {ln mn : Nat → Int32} (hk : k < σ.1.2.2) (hb : ∀ h, scB ln (σ.2 12 k) (σ.2 1 h)) (hs : SN M ln false) (hmo : offB (σ.2 4 0 0) ln mn = false)  : ∀ i, i ≤ σ.1.1 → ∀ (M' : Mem) (c : Nat), kj M M' → NU (namUp (bit (σ.2 11 k 0)) (fun h => wgX ln (σ.2 12 k) (σ.2 1 h)) (fun h => wgY ln (σ.2 12 k) (σ.2 1 h)) i) c → CW u_M_namedBy (retI (fun r M2 => r = nameS σ k ln mn ∧ kj M M2)) 10 [some (.ref 1000), some (.int (nI k)), some (.int (namUp (bit (σ.2 11 k 0)) (fun h => wgX ln (σ.2 12 k) (σ.2 1 h)) (fun h => wgY ln (σ.2 12 k) (σ.2 1 h)) (i)).1), some (.long (namUp (bit (σ.2 11 k 0)) (fun h => wgX ln (σ.2 12 k) (σ.2 1 h)) (fun h => wgY ln (σ.2 12 k) (σ.2 1 h)) (i)).2.1), none, some (.long (nL c)), none, some (.int (nI i))] [] M' := by
  obtain ⟨hn1, hn2, hn3⟩ := hI.n
  refine up_ind (fun i hi ih M' c hj hc => ?_)
  have hR' := RM_kq hR hj.kq
  have hs' := hs.kj hj
  obtain ⟨a0, b0, e1, e2, g1, g2, g3, g4, g5, g6⟩ := hc
  refine cw_iload d_M_namedBy_10 rfl ?_
  refine cw_aload_n d_M_namedBy_12 rfl ?_
  refine cw_getI fl_M_98 so_M rfl d_M_namedBy_13 ?_
  refine cw_icmp_geN (i) (σ.1.1) 80 rfl hR'.n1 (by omega) d_M_namedBy_16 (by decide) (fun c_16 => ?_) (fun c_16 => ?_)
  · refine cw_iload_n d_M_namedBy_80 rfl ?_
    refine cw_iret rfl d_M_namedBy_81 ?_
    have ei : i = σ.1.1 := by omega
    subst ei
    exact ⟨(if_neg (by rw [hmo]; decide)).symm, hj⟩
  · refine cw_aload_n d_M_namedBy_19 rfl ?_
    refine cw_getI fl_M_196 so_M rfl d_M_namedBy_20 ?_
    refine cw_top hs'.2 ?_
    refine cw_bif_ne 80 d_M_namedBy_23 (by decide) (fun c_23 => ?_) (fun c_23 => ?_)
    · exact absurd c_23 (by decide)
    · refine cw_aload_n d_M_namedBy_26 rfl ?_
      refine cw_iload_n d_M_namedBy_27 rfl ?_
      refine cw_iload d_M_namedBy_28 rfl ?_
      refine cw_virtP (s_M_doesKnow hR' hI (k := k) (h := i) hk (by omega)) rfl ml_M_218 so_M rfl rfl d_M_namedBy_30 ?_
      refine cw_bif_eq 74 d_M_namedBy_33 (by decide) (fun c_33 => ?_) (fun c_33 => ?_)
      · refine cw_iincN (x := i) d_M_namedBy_74 rfl rfl ?_
        refine cw_goto 10 d_M_namedBy_77 (by decide) ?_
        have hst : (namUp (bit (σ.2 11 k 0)) (fun h => wgX ln (σ.2 12 k) (σ.2 1 h)) (fun h => wgY ln (σ.2 12 k) (σ.2 1 h)) (i + 1)) = (namUp (bit (σ.2 11 k 0)) (fun h => wgX ln (σ.2 12 k) (σ.2 1 h)) (fun h => wgY ln (σ.2 12 k) (σ.2 1 h)) i) := if_neg (fun q => by rw [c_33] at q; exact absurd q.1 (by decide))
        exact cw_cast (by rw [hst]; rfl) rfl rfl (ih c_16 _ c hj (by rw [hst]; exact ⟨a0, b0, e1, e2, g1, g2, g3, g4, g5, g6⟩))
      · refine cw_aload_n d_M_namedBy_36 rfl ?_
        refine cw_iload_n d_M_namedBy_37 rfl ?_
        refine cw_iload d_M_namedBy_38 rfl ?_
        refine cw_virtV (s_M_findScore hR' hI (k := k) (h := i) hk (by omega) hs') rfl ml_M_226 so_M rfl rfl d_M_namedBy_40 (fun M_40 q_40 => ?_)
        obtain ⟨j_40, x_40, y_40⟩ := q_40
        obtain ⟨a, b, c2, f1, f2, f3, f4, f5, f6, f7, f8, f9, f10⟩ := sc_ok (hb i)
        have habv : mrB false a c2 a0 c = abvB ((fun h => wgX ln (σ.2 12 k) (σ.2 1 h)) i) ((fun h => wgY ln (σ.2 12 k) (σ.2 1 h)) i) (namUp (bit (σ.2 11 k 0)) (fun h => wgX ln (σ.2 12 k) (σ.2 1 h)) (fun h => wgY ln (σ.2 12 k) (σ.2 1 h)) i).2.1 (namUp (bit (σ.2 11 k 0)) (fun h => wgX ln (σ.2 12 k) (σ.2 1 h)) (fun h => wgY ln (σ.2 12 k) (σ.2 1 h)) i).2.2 := by
          show _ = abvB (wgX _ _ _) (wgY _ _ _) _ _
          rw [f1, f2, e1, e2, abv_mr f5 g1 f6 g2 f9 g5]
          exact mr_rep f5 f7 g1 g3 f10 g6
        refine cw_aload_n d_M_namedBy_43 rfl ?_
        refine cw_getJ fl_M_200 so_M rfl d_M_namedBy_44 ?_
        refine cw_topJ (x_40.trans f3) ?_
        refine cw_aload_n d_M_namedBy_47 rfl ?_
        refine cw_getJ fl_M_204 so_M rfl d_M_namedBy_48 ?_
        refine cw_topJ (y_40.trans f4) ?_
        refine cw_lload_n d_M_namedBy_51 rfl ?_
        refine cw_topJ e1 ?_
        refine cw_lload d_M_namedBy_52 rfl ?_
        refine cw_staticP (s_M_isMore (p := a) (q := c2) (r := a0) (t := c) f7 g3 (by omega) (by omega) (by omega) (by omega)) rfl ml_M_234 rfl rfl d_M_namedBy_54 ?_
        refine cw_top (congrArg b2 habv) ?_
        refine cw_bif_eq 74 d_M_namedBy_57 (by decide) (fun c_57 => ?_) (fun c_57 => ?_)
        · refine cw_iincN (x := i) d_M_namedBy_74 rfl rfl ?_
          refine cw_goto 10 d_M_namedBy_77 (by decide) ?_
          have hst : (namUp (bit (σ.2 11 k 0)) (fun h => wgX ln (σ.2 12 k) (σ.2 1 h)) (fun h => wgY ln (σ.2 12 k) (σ.2 1 h)) (i + 1)) = (namUp (bit (σ.2 11 k 0)) (fun h => wgX ln (σ.2 12 k) (σ.2 1 h)) (fun h => wgY ln (σ.2 12 k) (σ.2 1 h)) i) := if_neg (fun q => by rw [c_57] at q; exact absurd q.2 (by decide))
          exact cw_cast (by rw [hst]; rfl) rfl rfl (ih c_16 _ c (hj.tr j_40) (by rw [hst]; exact ⟨a0, b0, e1, e2, g1, g2, g3, g4, g5, g6⟩))
        · refine cw_iload d_M_namedBy_60 rfl ?_
          refine cw_istore_n d_M_namedBy_62 rfl ?_
          refine cw_aload_n d_M_namedBy_63 rfl ?_
          refine cw_getJ fl_M_200 so_M rfl d_M_namedBy_64 ?_
          refine cw_topJ (x_40.trans f3) ?_
          refine cw_lstore_n d_M_namedBy_67 rfl ?_
          refine cw_aload_n d_M_namedBy_68 rfl ?_
          refine cw_getJ fl_M_204 so_M rfl d_M_namedBy_69 ?_
          refine cw_topJ (y_40.trans f4) ?_
          refine cw_lstore d_M_namedBy_72 rfl ?_
          refine cw_iincN (x := i) d_M_namedBy_74 rfl rfl ?_
          refine cw_goto 10 d_M_namedBy_77 (by decide) ?_
          have hst : (namUp (bit (σ.2 11 k 0)) (fun h => wgX ln (σ.2 12 k) (σ.2 1 h)) (fun h => wgY ln (σ.2 12 k) (σ.2 1 h)) (i + 1)) = (nI i, (fun h => wgX ln (σ.2 12 k) (σ.2 1 h)) i, (fun h => wgY ln (σ.2 12 k) (σ.2 1 h)) i) := if_pos ⟨c_33, c_57⟩
          exact cw_cast (by rw [hst, ← f1]; rfl) rfl rfl (ih c_16 _ c2 (hj.tr j_40) (by rw [hst]; exact ⟨a, b, f1, f2, f5, f6, f7, f8, f9, f10⟩))
theorem nm_off {σ : Sg} {k : Nat} {ln mn : Nat → Int32} (h : offB (σ.2 4 0 0) ln mn = true) : nameS σ k ln mn = -1 := by unfold nameS nameR; rw [if_pos h]
set_option maxRecDepth 100000 in
theorem s_M_namedBy {M : Mem} {σ : Sg} (hR : RM M σ) (hI : Iv σ) {k : Nat} {ln mn : Nat → Int32} (hk : k < σ.1.2.2) (hb : ∀ h, scB ln (σ.2 12 k) (σ.2 1 h)) (hs : SN M ln (offB (σ.2 4 0 0) ln mn))  : CS u_M_namedBy [.ref 1000, .int (nI k)] M (retI (fun r M2 => r = nameS σ k ln mn ∧ kj M M2)) := by
  obtain ⟨hn1, hn2, hn3⟩ := hI.n
  refine cs_introF (L := [some (.ref 1000), some (.int (nI k)), none, none, none, none, none, none]) (by decide +kernel) (fun ad q h => h) (fun ad => Nat.le_of_ble_eq_true rfl) ?_
  refine cw_iconst (v := (-1)) d_M_namedBy_0 (by decide) ?_
  refine cw_istore_n d_M_namedBy_1 rfl ?_
  refine cw_lconst (v := 0) d_M_namedBy_2 (by decide) ?_
  refine cw_lstore_n d_M_namedBy_3 rfl ?_
  refine cw_lconst (v := 1) d_M_namedBy_4 (by decide) ?_
  refine cw_lstore d_M_namedBy_5 rfl ?_
  refine cw_iconst (v := 0) d_M_namedBy_7 (by decide) ?_
  refine cw_istore d_M_namedBy_8 rfl ?_
  cases hmo : offB (σ.2 4 0 0) ln mn with
  | false =>
    rw [hmo] at hs
    exact l_M_namedBy hR hI hk hb hs hmo 0 (by omega) _ 1 kj.rf ⟨0, 1, rfl, rfl, by decide, by decide, by decide, by decide, by decide, Or.inl rfl⟩
  | true =>
    rw [hmo] at hs
    refine cw_iload d_M_namedBy_10 rfl ?_
    refine cw_aload_n d_M_namedBy_12 rfl ?_
    refine cw_getI fl_M_98 so_M rfl d_M_namedBy_13 ?_
    refine cw_icmp_geN (0) (σ.1.1) 80 rfl hR.n1 (by omega) d_M_namedBy_16 (by decide) (fun c_16 => ?_) (fun c_16 => ?_)
    · refine cw_iload_n d_M_namedBy_80 rfl ?_
      refine cw_iret rfl d_M_namedBy_81 ?_
      exact ⟨(nm_off hmo).symm, kj.rf⟩
    · refine cw_aload_n d_M_namedBy_19 rfl ?_
      refine cw_getI fl_M_196 so_M rfl d_M_namedBy_20 ?_
      refine cw_top hs.2 ?_
      refine cw_bif_ne 80 d_M_namedBy_23 (by decide) (fun c_23 => ?_) (fun c_23 => ?_)
      · refine cw_iload_n d_M_namedBy_80 rfl ?_
        refine cw_iret rfl d_M_namedBy_81 ?_
        exact ⟨(nm_off hmo).symm, kj.rf⟩
      · exact absurd c_23 (by decide)
theorem cut_rs {ln mn pl : Nat → Int32} (h : scB ln mn pl) : ¬ rsY ln mn pl = 0 ∧ rsX ln mn pl / rsY ln mn pl = cutJ (wgX ln mn pl) (wgY ln mn pl) := by
  obtain ⟨a, b, c, e1, e2, e3, e4, b0, b1, c0, c1, a1, hh⟩ := sc_ok h
  have hc : ¬ nL c = 0 := fun z => by have := (nL_0 (by omega)).mp z; omega
  have hb : ¬ nL b = 0 := fun z => by have := (nL_0 (by omega)).mp z; omega
  rw [e1, e2, e3, e4]
  refine ⟨hc, ?_⟩
  unfold cutJ
  rw [if_neg hb, nL_div (by omega) (by omega), nL_div (by omega) (by omega)]
  rcases hh with rfl | rfl
  · rw [Nat.zero_div, Nat.zero_div]
  · rfl
theorem marUp_m {kb : Nat → Bool} {c : Nat → Int64} {m : Nat} (hm : kb m = true) : ∀ n, m < n → (marUp kb c m n).1 = c m := by
  intro n
  induction n with
  | zero => intro h; omega
  | succ n ih =>
    intro h
    simp only [marUp]
    by_cases q : n = m
    · subst q
      rw [if_pos hm, if_pos rfl]
    · split
      · exact ih (by omega)
      · exact ih (by omega)
theorem mar_eq {kb : Nat → Bool} {c : Nat → Int64} {m i : Nat} (h : i = m) : (marUp kb c m (i + 1)).2 = (marUp kb c m i).2 := by
  simp only [marUp]
  split
  · rfl
  · rfl
theorem mar_no {kb : Nat → Bool} {c : Nat → Int64} {m i : Nat} (h : kb i = false) : (marUp kb c m (i + 1)).2 = (marUp kb c m i).2 := by
  simp only [marUp]
  rw [if_neg (by rw [h]; decide)]
theorem mar_up {kb : Nat → Bool} {c : Nat → Int64} {m i : Nat} (h : kb i = true) (h2 : ¬ i = m) : (marUp kb c m (i + 1)).2 = if (marUp kb c m i).2 < c i then c i else (marUp kb c m i).2 := by
  simp only [marUp]
  rw [if_pos h, if_neg h2]
set_option maxRecDepth 100000 in
theorem l_M_marginOf {M : Mem} {σ : Sg} (hR : RM M σ) (hI : Iv σ) {k m : Nat} {ln : Nat → Int32} {mo : Bool} (hk : k < σ.1.2.2) (hm : m < σ.1.1) (hkm : bit (σ.2 11 k 0) m = true) (hb : ∀ h, scB ln (σ.2 12 k) (σ.2 1 h)) (hs : SN M ln mo)  : ∀ i, i ≤ σ.1.1 → ∀ (M' : Mem) (o6 : Option Value), kj M M' → CW u_M_marginOf (retI (fun r M2 => r = marS σ k ln m ∧ kj M M2)) 5 [some (.ref 1000), some (.int (nI k)), some (.int (nI m)), some (.long (marUp (bit (σ.2 11 k 0)) (fun h => cutJ (wgX ln (σ.2 12 k) (σ.2 1 h)) (wgY ln (σ.2 12 k) (σ.2 1 h))) m i).2), none, some (.int (nI i)), o6, none] [] M' := by
  obtain ⟨hn1, hn2, hn3⟩ := hI.n
  refine up_ind (fun i hi ih M' o6 hj => ?_)
  have hR' := RM_kq hR hj.kq
  have hs' := hs.kj hj
  refine cw_iload d_M_marginOf_5 rfl ?_
  refine cw_aload_n d_M_marginOf_7 rfl ?_
  refine cw_getI fl_M_98 so_M rfl d_M_marginOf_8 ?_
  refine cw_icmp_geN (i) (σ.1.1) 68 rfl hR'.n1 (by omega) d_M_marginOf_11 (by decide) (fun c_11 => ?_) (fun c_11 => ?_)
  · refine cw_aload_n d_M_marginOf_68 rfl ?_
    refine cw_iload_n d_M_marginOf_69 rfl ?_
    refine cw_iload_n d_M_marginOf_70 rfl ?_
    refine cw_virtV (s_M_findScore hR' hI (k := k) (h := m) hk (by omega) hs') rfl ml_M_226 so_M rfl rfl d_M_marginOf_71 (fun M_71 q_71 => ?_)
    obtain ⟨j_71, x_71, y_71⟩ := q_71
    obtain ⟨f1, f2⟩ := cut_rs (hb m)
    refine cw_aload_n d_M_marginOf_74 rfl ?_
    refine cw_getJ fl_M_200 so_M rfl d_M_marginOf_75 ?_
    refine cw_topJ x_71 ?_
    refine cw_aload_n d_M_marginOf_78 rfl ?_
    refine cw_getJ fl_M_204 so_M rfl d_M_marginOf_79 ?_
    refine cw_topJ y_71 ?_
    refine cw_ldiv d_M_marginOf_82 f1 ?_
    refine cw_topJ f2 ?_
    refine cw_lload_n d_M_marginOf_83 rfl ?_
    refine cw_lsub d_M_marginOf_84 ?_
    refine cw_l2i d_M_marginOf_85 ?_
    refine cw_iret rfl d_M_marginOf_86 ?_
    have ei : i = σ.1.1 := by omega
    subst ei
    exact ⟨by unfold marS marR; rw [marUp_m hkm σ.1.1 hm], hj.tr j_71⟩
  · refine cw_iload d_M_marginOf_14 rfl ?_
    refine cw_iload_n d_M_marginOf_16 rfl ?_
    refine cw_icmp_eqN (i) (m) 62 rfl rfl (by omega) d_M_marginOf_17 (by decide) (fun c_17 => ?_) (fun c_17 => ?_)
    · refine cw_iincN (x := i) d_M_marginOf_62 rfl rfl ?_
      refine cw_goto 5 d_M_marginOf_65 (by decide) ?_
      have hst : (marUp (bit (σ.2 11 k 0)) (fun h => cutJ (wgX ln (σ.2 12 k) (σ.2 1 h)) (wgY ln (σ.2 12 k) (σ.2 1 h))) m (i + 1)).2 = (marUp (bit (σ.2 11 k 0)) (fun h => cutJ (wgX ln (σ.2 12 k) (σ.2 1 h)) (wgY ln (σ.2 12 k) (σ.2 1 h))) m i).2 := mar_eq c_17
      exact cw_cast (by rw [hst]; rfl) rfl rfl (ih c_11 _ _ hj)
    · refine cw_aload_n d_M_marginOf_20 rfl ?_
      refine cw_iload_n d_M_marginOf_21 rfl ?_
      refine cw_iload d_M_marginOf_22 rfl ?_
      refine cw_virtP (s_M_doesKnow hR' hI (k := k) (h := i) hk (by omega)) rfl ml_M_218 so_M rfl rfl d_M_marginOf_24 ?_
      refine cw_bif_eq 62 d_M_marginOf_27 (by decide) (fun c_27 => ?_) (fun c_27 => ?_)
      · refine cw_iincN (x := i) d_M_marginOf_62 rfl rfl ?_
        refine cw_goto 5 d_M_marginOf_65 (by decide) ?_
        have hst : (marUp (bit (σ.2 11 k 0)) (fun h => cutJ (wgX ln (σ.2 12 k) (σ.2 1 h)) (wgY ln (σ.2 12 k) (σ.2 1 h))) m (i + 1)).2 = (marUp (bit (σ.2 11 k 0)) (fun h => cutJ (wgX ln (σ.2 12 k) (σ.2 1 h)) (wgY ln (σ.2 12 k) (σ.2 1 h))) m i).2 := mar_no c_27
        exact cw_cast (by rw [hst]; rfl) rfl rfl (ih c_11 _ _ hj)
      · refine cw_aload_n d_M_marginOf_30 rfl ?_
        refine cw_iload_n d_M_marginOf_31 rfl ?_
        refine cw_iload d_M_marginOf_32 rfl ?_
        refine cw_virtV (s_M_findScore hR' hI (k := k) (h := i) hk (by omega) hs') rfl ml_M_226 so_M rfl rfl d_M_marginOf_34 (fun M_34 q_34 => ?_)
        obtain ⟨j_34, x_34, y_34⟩ := q_34
        obtain ⟨f1, f2⟩ := cut_rs (hb i)
        refine cw_aload_n d_M_marginOf_37 rfl ?_
        refine cw_getJ fl_M_200 so_M rfl d_M_marginOf_38 ?_
        refine cw_topJ x_34 ?_
        refine cw_aload_n d_M_marginOf_41 rfl ?_
        refine cw_getJ fl_M_204 so_M rfl d_M_marginOf_42 ?_
        refine cw_topJ y_34 ?_
        refine cw_ldiv d_M_marginOf_45 f1 ?_
        refine cw_topJ f2 ?_
        refine cw_lstore d_M_marginOf_46 rfl ?_
        refine cw_lload d_M_marginOf_48 rfl ?_
        refine cw_lload_n d_M_marginOf_50 rfl ?_
        refine cw_lcmp d_M_marginOf_51 ?_
        refine cw_tern1J 61 (if (marUp (bit (σ.2 11 k 0)) (fun h => cutJ (wgX ln (σ.2 12 k) (σ.2 1 h)) (wgY ln (σ.2 12 k) (σ.2 1 h))) m i).2 < (fun h => cutJ (wgX ln (σ.2 12 k) (σ.2 1 h)) (wgY ln (σ.2 12 k) (σ.2 1 h))) i then (fun h => cutJ (wgX ln (σ.2 12 k) (σ.2 1 h)) (wgY ln (σ.2 12 k) (σ.2 1 h))) i else (marUp (bit (σ.2 11 k 0)) (fun h => cutJ (wgX ln (σ.2 12 k) (σ.2 1 h)) (wgY ln (σ.2 12 k) (σ.2 1 h))) m i).2) ?_ (fun k_52 => ?_)
        · refine cw_lstore_n d_M_marginOf_61 rfl ?_
          refine cw_iincN (x := i) d_M_marginOf_62 rfl rfl ?_
          refine cw_goto 5 d_M_marginOf_65 (by decide) ?_
          have hst : (marUp (bit (σ.2 11 k 0)) (fun h => cutJ (wgX ln (σ.2 12 k) (σ.2 1 h)) (wgY ln (σ.2 12 k) (σ.2 1 h))) m (i + 1)).2 = _ := mar_up c_27 c_17
          exact cw_cast (by rw [hst]; rfl) rfl rfl (ih c_11 _ _ (hj.tr j_34))
        · refine cw_if_le 60 d_M_marginOf_52 (by decide) (fun c_52 => ?_) (fun c_52 => ?_)
          · refine cw_lload_n d_M_marginOf_60 rfl ?_
            exact k_52 _ ((if_neg (fun z => absurd (lgc_le.mp c_52) (i64_nle.mpr z))).symm)
          · refine cw_lload d_M_marginOf_55 rfl ?_
            refine cw_goto 61 d_M_marginOf_57 (by decide) ?_
            exact k_52 _ ((if_pos (i64_nle.mp (fun z => c_52 (lgc_le.mpr z)))).symm)
set_option maxRecDepth 100000 in
theorem s_M_marginOf {M : Mem} {σ : Sg} (hR : RM M σ) (hI : Iv σ) {k m : Nat} {ln : Nat → Int32} {mo : Bool} (hk : k < σ.1.2.2) (hm : m < σ.1.1) (hkm : bit (σ.2 11 k 0) m = true) (hb : ∀ h, scB ln (σ.2 12 k) (σ.2 1 h)) (hs : SN M ln mo)  : CS u_M_marginOf [.ref 1000, .int (nI k), .int (nI m)] M (retI (fun r M2 => r = marS σ k ln m ∧ kj M M2)) := by
  refine cs_introF (L := [some (.ref 1000), some (.int (nI k)), some (.int (nI m)), none, none, none, none, none]) (by decide +kernel) (fun ad q h => h) (fun ad => Nat.le_of_ble_eq_true rfl) ?_
  refine cw_lconst (v := 0) d_M_marginOf_0 (by decide) ?_
  refine cw_lstore_n d_M_marginOf_1 rfl ?_
  refine cw_iconst (v := 0) d_M_marginOf_2 (by decide) ?_
  refine cw_istore d_M_marginOf_3 rfl ?_
  exact l_M_marginOf hR hI hk hm hkm hb hs 0 (by omega) _ _ kj.rf
def nmS (σ : Sg) (k d : Nat) (w : Int32) : Int32 := if w = 0 then nameS σ k (σ.2 9 d) (σ.2 10 d) else if nameS σ k (σ.2 9 d) (σ.2 10 d) = -1 then -3 else marS σ k (σ.2 9 d) (ix (nameS σ k (σ.2 9 d) (σ.2 10 d)))
set_option maxRecDepth 100000 in
theorem s_M_namedOf {M : Mem} {σ : Sg} (hR : RM M σ) (hI : Iv σ) {k d : Nat} {w : Int32} (hk : k < σ.1.2.2) (hd : d < σ.1.2.1)  : CS u_M_namedOf [.ref 1000, .int (nI k), .int (nI d), .int w] M (retI (fun r M2 => r = nmS σ k d w ∧ kq M M2)) := by
  obtain ⟨hn1, hn2, hn3⟩ := hI.n
  refine cs_introF (L := [some (.ref 1000), some (.int (nI k)), some (.int (nI d)), some (.int w), none]) (by decide +kernel) (fun ad q h => h) (fun ad => Nat.le_of_ble_eq_true rfl) ?_
  refine cw_aload_n d_M_namedOf_0 rfl ?_
  refine cw_iload_n d_M_namedOf_1 rfl ?_
  refine cw_virtV (s_M_sees_I hR hI (d := d) (by omega)) rfl ml_M_222 so_M rfl rfl d_M_namedOf_2 (fun M_2 q_2 => ?_)
  obtain ⟨k_2, n_2⟩ := q_2
  have hR_2 := RM_kq hR k_2
  refine cw_aload_n d_M_namedOf_5 rfl ?_
  refine cw_iload_n d_M_namedOf_6 rfl ?_
  refine cw_virtI (s_M_namedBy hR_2 hI (k := k) (mn := σ.2 10 d) hk (fun h => scB_li hI hk hd) n_2) rfl ml_M_238 so_M rfl rfl d_M_namedOf_7 (fun r_7 M_7 q_7 => ?_)
  obtain ⟨e_7, j_7⟩ := q_7
  subst e_7
  refine cw_istore d_M_namedOf_10 rfl ?_
  refine cw_iload_n d_M_namedOf_12 rfl ?_
  refine cw_if_ne 21 d_M_namedOf_13 (by decide) (fun c_13 => ?_) (fun c_13 => ?_)
  · refine cw_iload d_M_namedOf_21 rfl ?_
    refine cw_iconst (v := (-1)) d_M_namedOf_23 (by decide) ?_
    refine cw_icmp_ne 32 d_M_namedOf_24 (by decide) (fun c_24 => ?_) (fun c_24 => ?_)
    · obtain ⟨m, hm1, hm2, em⟩ := (nameR_in (σ.2 4 0 0) (bit (σ.2 11 k 0)) (σ.2 12 k) (σ.2 9 d) (σ.2 10 d) (σ.2 1) σ.1.1).resolve_left c_24
      have em : nameS σ k (σ.2 9 d) (σ.2 10 d) = nI m := em
      refine cw_aload_n d_M_namedOf_32 rfl ?_
      refine cw_iload_n d_M_namedOf_33 rfl ?_
      refine cw_iload d_M_namedOf_34 rfl ?_
      refine cw_top em ?_
      refine cw_virtI (s_M_marginOf (RM_kq hR_2 j_7.kq) hI (k := k) (m := m) hk (by omega) hm2 (fun h => scB_li hI hk hd) (n_2.kj j_7)) rfl ml_M_241 so_M rfl rfl d_M_namedOf_36 (fun r_36 M_36 q_36 => ?_)
      obtain ⟨e_36, j_36⟩ := q_36
      subst e_36
      refine cw_iret rfl d_M_namedOf_39 ?_
      exact ⟨by unfold nmS; rw [if_neg c_13, if_neg c_24, em, ix_nI (by omega)], (k_2.tr j_7.kq).tr j_36.kq⟩
    · refine cw_bipush (v := (-3)) d_M_namedOf_27 (by decide) ?_
      refine cw_goto 39 d_M_namedOf_29 (by decide) ?_
      refine cw_iret rfl d_M_namedOf_39 ?_
      exact ⟨by unfold nmS; rw [if_neg c_13, if_pos c_24], k_2.tr j_7.kq⟩
  · refine cw_iload d_M_namedOf_16 rfl ?_
    refine cw_goto 39 d_M_namedOf_18 (by decide) ?_
    refine cw_iret rfl d_M_namedOf_39 ?_
    exact ⟨(if_pos c_13).symm, k_2.tr j_7.kq⟩
set_option maxRecDepth 100000 in
theorem m_named {M : Mem} {σ : Sg} (hR : RM M σ) (hI : Iv σ) {x y w : Int32} : CS u_M_named [.ref 1000, .int x, .int y, .int w] M (rM (ans_named σ x y w) σ M) := by
  obtain ⟨hn1, hn2, hn3⟩ := hI.n
  refine cs_introF (L := [some (.ref 1000), some (.int x), some (.int y), some (.int w)]) (by decide +kernel) (fun ad q h => h) (fun ad => Nat.le_of_ble_eq_true rfl) ?_
  refine cw_aload_n d_M_named_0 rfl ?_
  refine cw_iload_n d_M_named_1 rfl ?_
  refine cw_virtP (s_M_isKnower hR hI) rfl ml_M_193 so_M rfl rfl d_M_named_2 ?_
  refine cw_bif_eq 33 d_M_named_5 (by decide) (fun c_5 => ?_) (fun c_5 => ?_)
  · refine cw_bipush (v := (-2)) d_M_named_33 (by decide) ?_
    refine cw_iret rfl d_M_named_35 ?_
    exact ⟨by simp [ans_named, c_5], hR, kM.rf⟩
  · obtain ⟨k, hhk, e_k⟩ := ixB_t c_5 (by omega)
    subst e_k
    refine cw_aload_n d_M_named_8 rfl ?_
    refine cw_iload_n d_M_named_9 rfl ?_
    refine cw_virtP (s_M_isDrawing hR hI) rfl ml_M_163 so_M rfl rfl d_M_named_10 ?_
    refine cw_bif_eq 33 d_M_named_13 (by decide) (fun c_13 => ?_) (fun c_13 => ?_)
    · refine cw_bipush (v := (-2)) d_M_named_33 (by decide) ?_
      refine cw_iret rfl d_M_named_35 ?_
      exact ⟨by simp [ans_named, c_5, c_13], hR, kM.rf⟩
    · obtain ⟨d, hhd, e_d⟩ := ixB_t c_13 (by omega)
      subst e_d
      refine cw_iload_n d_M_named_16 rfl ?_
      refine cw_staticP (s_M_isTwo) rfl ml_M_211 rfl rfl d_M_named_17 ?_
      refine cw_bif_eq 33 d_M_named_20 (by decide) (fun c_20 => ?_) (fun c_20 => ?_)
      · refine cw_bipush (v := (-2)) d_M_named_33 (by decide) ?_
        refine cw_iret rfl d_M_named_35 ?_
        exact ⟨by simp [ans_named, c_5, c_13, c_20], hR, kM.rf⟩
      · obtain ⟨v, hhv, e_v⟩ := ixB_t c_20 (by omega)
        subst e_v
        refine cw_aload_n d_M_named_23 rfl ?_
        refine cw_iload_n d_M_named_24 rfl ?_
        refine cw_iload_n d_M_named_25 rfl ?_
        refine cw_iload_n d_M_named_26 rfl ?_
        refine cw_virtI (s_M_namedOf hR hI (k := k) (d := d) (by omega) (by omega)) rfl ml_M_244 so_M rfl rfl d_M_named_27 (fun r_27 M_27 q_27 => ?_)
        obtain ⟨e_27, k_27⟩ := q_27
        subst e_27
        refine cw_goto 35 d_M_named_30 (by decide) ?_
        refine cw_iret rfl d_M_named_35 ?_
        exact ⟨by simp only [ans_named, c_5, c_13, c_20, ix_nI (show k < 2 ^ 31 by omega), ix_nI (show d < 2 ^ 31 by omega), Bool.and_self, if_true]; rfl, RM_kq hR k_27, k_27.kM⟩
