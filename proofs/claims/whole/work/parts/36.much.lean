/-! ===== the class: much, few, stands ===== -/
/-- a walk for a narrower end is one for a wider -/
theorem cw_post {u : MI} {post post' : Option Value → Mem → Prop} {pc : Nat} {L : List (Option Value)} {st : List Value} {M : Mem} (h : ∀ v M2, post v M2 → post' v M2) (k : CW u post pc L st M) : CW u post' pc L st M := by
  intro p l e s m args below meth c D dA ad H locs ls cx hP hS hL
  intro T hT X
  obtain ⟨t, a, o, b1, b2, ⟨⟨v, M2, q1, q2, q3⟩, q4⟩, q5⟩ := k p l e s m args below meth c D dA ad H locs ls cx hP hS hL T hT X
  exact ⟨t, a, o, b1, b2, ⟨⟨v, M2, q1, h v M2 q2, q3⟩, q4⟩, q5⟩
def tryS (σ : Sg) (h : Nat) (s bits t : Int32) (p : Nat) : Int32 := drawnS (meanS σ s p) (σ.2 1 h p) (if bit bits p = true then t else LO)
def enB (σ : Sg) (k h : Nat) (s bits t : Int32) : Bool := decide (nameS σ k (tryS σ h s bits t) (meanS σ s) = nI h)
def fstUp (f : Nat → Bool) : Nat → Nat → Int32
  | 0, _ => -1
  | n + 1, i => if f i = true then nI i else fstUp f n (i + 1)
def bstUp (f : Nat → Bool) (g : Nat → Int32) : Nat → Int32 × Int32
  | 0 => (-1, 0)
  | i + 1 => if f i = true then (if (bstUp f g i).1 = -1 ∨ (bstUp f g i).2 < g i then (nI i, g i) else bstUp f g i) else bstUp f g i
def fewUp (f : Nat → Bool) : Nat → Nat → Int32
  | 0, _ => -1
  | n + 1, m => if fstUp (fun b => decide (popN b = m) && f b) 255 1 = -1 then fewUp f n (m + 1) else fstUp (fun b => decide (popN b = m) && f b) 255 1
def orUp (f : Nat → Bool) : Nat → Int32
  | 0 => 0
  | i + 1 => if f i = true then orUp f i ||| (1 <<< (nI i &&& 31)) else orUp f i
def lstN (σ : Sg) (k h : Nat) (s : Int32) : Int32 := fstUp (fun t => enB σ k h s 255 (nI t)) 61 0
def lstM (σ : Sg) (h : Nat) (s : Int32) : Int32 := fstUp (fun t => offB (σ.2 4 0 0) (tryS σ h s 255 (nI t)) (meanS σ s)) 61 0
def bstN (σ : Sg) (k h : Nat) (s : Int32) : Int32 := (bstUp (fun t => enB σ k h s 255 (nI t)) (fun t => marS σ k (tryS σ h s 255 (nI t)) h) 61).1
set_option maxRecDepth 100000 in
theorem l_C_tryParts {M : Mem} {h : Nat} {bits t : Int32} (hh : h < 8)  : ∀ i, i ≤ 8 → ∀ o5, CW u_C_tryParts (retV (fun M2 => M2 = mRow M 330 8 (fun p => drawnS (mG M 230 p) (mG M (20 + h) p) (if bit bits p = true then t else LO)))) 3 [some (.ref 0), some (.int (nI h)), some (.int bits), some (.int t), some (.int (nI i)), o5] [] (mRow M 330 i (fun p => drawnS (mG M 230 p) (mG M (20 + h) p) (if bit bits p = true then t else LO))) := by
  refine up_ind (fun i hi ih o5 => ?_)
  refine cw_iload d_C_tryParts_3 rfl ?_
  refine cw_bipush (v := 8) d_C_tryParts_5 (by decide) ?_
  refine cw_icmp_geN (i) (8) 72 rfl rfl (by omega) d_C_tryParts_7 (by decide) (fun c_7 => ?_) (fun c_7 => ?_)
  · refine cw_vret rfl d_C_tryParts_72 ?_
    have ei : i = 8 := by omega
    subst ei
    rfl
  · refine cw_iload_n d_C_tryParts_10 rfl ?_
    refine cw_iload d_C_tryParts_11 rfl ?_
    refine cw_ishr d_C_tryParts_13 ?_
    refine cw_iconst (v := 1) d_C_tryParts_14 (by decide) ?_
    refine cw_iand d_C_tryParts_15 ?_
    refine cw_iconst (v := 1) d_C_tryParts_16 (by decide) ?_
    refine cw_tern2 27 (if bit bits i = true then t else LO) ?_ (fun k_17 => ?_)
    · refine cw_istore d_C_tryParts_27 rfl ?_
      refine cw_aload_n d_C_tryParts_29 rfl ?_
      refine cw_getR fl_C_50 so_C rfl d_C_tryParts_30 ?_
      refine cw_getR fl_C_185 so_tr rfl d_C_tryParts_33 ?_
      refine cw_iload d_C_tryParts_36 rfl ?_
      refine cw_aload_n d_C_tryParts_38 rfl ?_
      refine cw_getR fl_C_50 so_C rfl d_C_tryParts_39 ?_
      refine cw_getR fl_C_149 so_tr rfl d_C_tryParts_42 ?_
      refine cw_iload d_C_tryParts_45 rfl ?_
      refine cw_ialdN (i := i) sa_tb rfl (by omega) (by decide) d_C_tryParts_47 ?_
      refine cw_top (mRow_out (by omega)) ?_
      refine cw_aload_n d_C_tryParts_48 rfl ?_
      refine cw_getR fl_C_11 so_C rfl d_C_tryParts_49 ?_
      refine cw_iload_n d_C_tryParts_52 rfl ?_
      refine cw_aaldN (i := h) sr_1 rfl (by omega) (by decide) d_C_tryParts_53 ?_
      refine cw_getR fl_C_88 (so_He (h := h) (by omega)) rfl d_C_tryParts_54 ?_
      refine cw_iload d_C_tryParts_57 rfl ?_
      refine cw_ialdN (i := i) (sa_pl (h := h) (by omega)) rfl (by omega) (by decide) d_C_tryParts_59 ?_
      refine cw_top (mRow_out (by omega)) ?_
      refine cw_iload d_C_tryParts_60 rfl ?_
      refine cw_staticP (s_C_drawnAt) rfl ml_C_139 rfl rfl d_C_tryParts_62 ?_
      refine cw_iastN (i := i) sa_tl rfl (by omega) (by decide) d_C_tryParts_65 ?_
      refine cw_iincN (x := i) d_C_tryParts_66 rfl rfl ?_
      refine cw_goto 3 d_C_tryParts_69 (by decide) ?_
      exact cw_cast (by simp only [lset1, kl]; rfl) rfl (mRow_s (f := (fun p => drawnS (mG M 230 p) (mG M (20 + h) p) (if bit bits p = true then t else LO)))) (ih c_7 _)
    · refine cw_icmp_ne 24 d_C_tryParts_17 (by decide) (fun c_17 => ?_) (fun c_17 => ?_)
      · refine cw_sipush (v := (-9999)) d_C_tryParts_24 (by decide) ?_
        exact k_17 _ (by first | exact (if_neg (by rw [show bit bits i = false from decide_eq_false c_17]; decide)).symm | exact (if_pos (decide_eq_true c_17)).symm)
      · refine cw_iload_n d_C_tryParts_20 rfl ?_
        refine cw_goto 27 d_C_tryParts_21 (by decide) ?_
        exact k_17 _ (by first | exact (if_neg (by rw [show bit bits i = false from decide_eq_false c_17]; decide)).symm | exact (if_pos (decide_eq_true c_17)).symm)
set_option maxRecDepth 100000 in
theorem s_C_tryParts {M : Mem} {h : Nat} {bits t : Int32} (hh : h < 8)  : CS u_C_tryParts [.ref 0, .int (nI h), .int bits, .int t] M (retV (fun M2 => M2 = mRow M 330 8 (fun p => drawnS (mG M 230 p) (mG M (20 + h) p) (if bit bits p = true then t else LO)))) := by
  refine cs_introF (L := [some (.ref 0), some (.int (nI h)), some (.int bits), some (.int t), none, none]) (by decide +kernel) (fun ad q h => h) (fun ad => Nat.le_of_ble_eq_true rfl) ?_
  refine cw_iconst (v := 0) d_C_tryParts_0 (by decide) ?_
  refine cw_istore d_C_tryParts_1 rfl ?_
  exact cw_mem mRow_0.symm (l_C_tryParts hh 0 (by omega) _)
set_option maxRecDepth 100000 in
theorem s_C_isNamedBy {M : Mem} {σ : Sg} (hR : RC M σ) (hI : Iv σ) {k h : Nat} {s bits t : Int32} (hk : k < σ.1.2.2) (hh : h < σ.1.1) (hb : ∀ p, p < 8 → mG M 230 p = meanS σ s p)  : CS u_C_isNamedBy [.ref 0, .ref (60 + k), .int (nI h), .int bits, .int t] M (retI (fun r M2 => r = b2 (enB σ k h s bits t) ∧ kp σ M M2 ∧ (∀ p, p < 8 → mG M2 230 p = meanS σ s p) ∧ (∀ p, p < 8 → mG M2 330 p = tryS σ h s bits t p))) := by
  obtain ⟨hn1, hn2, hn3⟩ := hI.n
  refine cs_introF (L := [some (.ref 0), some (.ref (60 + k)), some (.int (nI h)), some (.int bits), some (.int t)]) (by decide +kernel) (fun ad q h => h) (fun ad => Nat.le_of_ble_eq_true rfl) ?_
  refine cw_aload_n d_C_isNamedBy_0 rfl ?_
  refine cw_iload_n d_C_isNamedBy_1 rfl ?_
  refine cw_iload_n d_C_isNamedBy_2 rfl ?_
  refine cw_iload d_C_isNamedBy_3 rfl ?_
  refine cw_virtV (s_C_tryParts (h := h) (by omega)) rfl ml_C_361 so_C rfl rfl d_C_isNamedBy_5 (fun M_5 q_5 => ?_)
  subst q_5
  have hl330 : ¬ live σ 330 := by unfold live; omega
  have hk1 : kp σ M (mRow M 330 8 (fun p => drawnS (mG M 230 p) (mG M (20 + h) p) (if bit bits p = true then t else LO))) := mRow_kp hl330
  have hR1 := hR.kp hI hk1
  have ht : ∀ p, p < 8 → mG (mRow M 330 8 (fun p => drawnS (mG M 230 p) (mG M (20 + h) p) (if bit bits p = true then t else LO))) 330 p = tryS σ h s bits t p := fun p hp => by rw [mRow_in hp, hb p hp, hR.pl (by omega) hp]; rfl
  have hb1 : ∀ p, p < 8 → mG (mRow M 330 8 (fun p => drawnS (mG M 230 p) (mG M (20 + h) p) (if bit bits p = true then t else LO))) 230 p = meanS σ s p := fun p hp => (mRow_out (by omega)).trans (hb p hp)
  refine cw_aload_n d_C_isNamedBy_8 rfl ?_
  refine cw_aload_n d_C_isNamedBy_9 rfl ?_
  refine cw_aload_n d_C_isNamedBy_10 rfl ?_
  refine cw_getR fl_C_50 so_C rfl d_C_isNamedBy_11 ?_
  refine cw_virtI (s_C_nameS hR1 hI (k := k) (d := 30) (ln := tryS σ h s bits t) (mn := meanS σ s) hk (by omega) ht hb1) rfl ml_C_236 so_C rfl rfl d_C_isNamedBy_14 (fun r_14 M_14 q_14 => ?_)
  obtain ⟨e_14, f_14⟩ := q_14
  subst e_14
  have hend : kp σ M M_14 ∧ (∀ p, p < 8 → mG M_14 230 p = meanS σ s p) ∧ (∀ p, p < 8 → mG M_14 330 p = tryS σ h s bits t p) := ⟨hk1.tr (kF_kp f_14), fun p hp => by rw [kF_m f_14]; exact hb1 p hp, fun p hp => by rw [kF_m f_14]; exact ht p hp⟩
  refine cw_iload_n d_C_isNamedBy_17 rfl ?_
  refine cw_icmp_ne 25 d_C_isNamedBy_18 (by decide) (fun c_18 => ?_) (fun c_18 => ?_)
  · refine cw_iconst (v := 0) d_C_isNamedBy_25 (by decide) ?_
    refine cw_zret rfl d_C_isNamedBy_26 (by first | exact Or.inl rfl | exact Or.inr rfl | exact b2_01 _) ?_
    exact ⟨by first | exact b2_0 (decide_eq_false c_18) | exact b2_1 (decide_eq_true c_18), hend⟩
  · refine cw_iconst (v := 1) d_C_isNamedBy_21 (by decide) ?_
    refine cw_goto 26 d_C_isNamedBy_22 (by decide) ?_
    refine cw_zret rfl d_C_isNamedBy_26 (by first | exact Or.inl rfl | exact Or.inr rfl | exact b2_01 _) ?_
    exact ⟨by first | exact b2_0 (decide_eq_false c_18) | exact b2_1 (decide_eq_true c_18), hend⟩
set_option maxRecDepth 100000 in
theorem l_C_leastNamed {M : Mem} {σ : Sg} (hR : RC M σ) (hI : Iv σ) {k h : Nat} {s : Int32} (hk : k < σ.1.2.2) (hh : h < σ.1.1)  : ∀ (n i : Nat) (M' : Mem), i + n = 61 → kp σ M M' → (∀ p, p < 8 → mG M' 230 p = meanS σ s p) → CW u_C_leastNamed (retI (fun r M2 => r = fstUp (fun t => enB σ k h s 255 (nI t)) n i ∧ kp σ M M2)) 2 [some (.ref 0), some (.ref (60 + k)), some (.int (nI h)), some (.int (nI i))] [] M' := by
  obtain ⟨hn1, hn2, hn3⟩ := hI.n
  intro n
  induction n with
  | zero =>
    intro i M' hi hkp hb
    refine cw_iload_n d_C_leastNamed_2 rfl ?_
    refine cw_bipush (v := 60) d_C_leastNamed_3 (by decide) ?_
    refine cw_icmp_gtN (i) (60) 29 rfl rfl (by omega) d_C_leastNamed_5 (by decide) (fun c_5 => ?_) (fun c_5 => ?_)
    · refine cw_iconst (v := (-1)) d_C_leastNamed_29 (by decide) ?_
      refine cw_iret rfl d_C_leastNamed_30 ?_
      exact ⟨rfl, hkp⟩
    · exact absurd c_5 (by omega)
  | succ n ih =>
    intro i M' hi hkp hb
    refine cw_iload_n d_C_leastNamed_2 rfl ?_
    refine cw_bipush (v := 60) d_C_leastNamed_3 (by decide) ?_
    refine cw_icmp_gtN (i) (60) 29 rfl rfl (by omega) d_C_leastNamed_5 (by decide) (fun c_5 => ?_) (fun c_5 => ?_)
    · exact absurd c_5 (by omega)
    · refine cw_aload_n d_C_leastNamed_8 rfl ?_
      refine cw_aload_n d_C_leastNamed_9 rfl ?_
      refine cw_iload_n d_C_leastNamed_10 rfl ?_
      refine cw_sipush (v := 255) d_C_leastNamed_11 (by decide) ?_
      refine cw_iload_n d_C_leastNamed_14 rfl ?_
      refine cw_virtI (s_C_isNamedBy (hR.kp hI hkp) hI (k := k) (h := h) (s := s) (bits := 255) (t := nI i) hk hh hb) rfl ml_C_263 so_C rfl rfl d_C_leastNamed_15 (fun r_15 M_15 q_15 => ?_)
      obtain ⟨e_15, k_15, b_15, t_15⟩ := q_15
      subst e_15
      refine cw_bif_eq 23 d_C_leastNamed_18 (by decide) (fun c_18 => ?_) (fun c_18 => ?_)
      · have hs : fstUp (fun t => enB σ k h s 255 (nI t)) (n + 1) i = fstUp (fun t => enB σ k h s 255 (nI t)) n (i + 1) := if_neg (Bool.eq_false_iff.mp c_18)
        rw [hs]
        refine cw_iincN (x := i) d_C_leastNamed_23 rfl rfl ?_
        refine cw_goto 2 d_C_leastNamed_26 (by decide) ?_
        exact ih (i + 1) _ (by omega) (hkp.tr k_15) b_15
      · have hs : fstUp (fun t => enB σ k h s 255 (nI t)) (n + 1) i = nI i := if_pos c_18
        rw [hs]
        refine cw_iload_n d_C_leastNamed_21 rfl ?_
        refine cw_iret rfl d_C_leastNamed_22 ?_
        exact ⟨rfl, hkp.tr k_15⟩
set_option maxRecDepth 100000 in
theorem s_C_leastNamed {M : Mem} {σ : Sg} (hR : RC M σ) (hI : Iv σ) {k h : Nat} {s : Int32} (hk : k < σ.1.2.2) (hh : h < σ.1.1) (hb : ∀ p, p < 8 → mG M 230 p = meanS σ s p)  : CS u_C_leastNamed [.ref 0, .ref (60 + k), .int (nI h)] M (rK (lstN σ k h s) σ M) := by
  refine cs_introF (L := [some (.ref 0), some (.ref (60 + k)), some (.int (nI h)), none]) (by decide +kernel) (fun ad q h => h) (fun ad => Nat.le_of_ble_eq_true rfl) ?_
  refine cw_iconst (v := 0) d_C_leastNamed_0 (by decide) ?_
  refine cw_istore_n d_C_leastNamed_1 rfl ?_
  exact l_C_leastNamed hR hI hk hh 61 0 _ rfl kp.rf hb
set_option maxRecDepth 100000 in
theorem l_C_leastMonster {M : Mem} {σ : Sg} (hR : RC M σ) (hI : Iv σ) {h : Nat} {s : Int32} (hh : h < σ.1.1)  : ∀ (n i : Nat) (M' : Mem), i + n = 61 → kp σ M M' → (∀ p, p < 8 → mG M' 230 p = meanS σ s p) → CW u_C_leastMonster (retI (fun r M2 => r = fstUp (fun t => offB (σ.2 4 0 0) (tryS σ h s 255 (nI t)) (meanS σ s)) n i ∧ kp σ M M2)) 2 [some (.ref 0), some (.int (nI h)), some (.int (nI i))] [] M' := by
  obtain ⟨hn1, hn2, hn3⟩ := hI.n
  intro n
  induction n with
  | zero =>
    intro i M' hi hkp hb
    refine cw_iload_n d_C_leastMonster_2 rfl ?_
    refine cw_bipush (v := 60) d_C_leastMonster_3 (by decide) ?_
    refine cw_icmp_gtN (i) (60) 39 rfl rfl (by omega) d_C_leastMonster_5 (by decide) (fun c_5 => ?_) (fun c_5 => ?_)
    · refine cw_iconst (v := (-1)) d_C_leastMonster_39 (by decide) ?_
      refine cw_iret rfl d_C_leastMonster_40 ?_
      exact ⟨rfl, hkp⟩
    · exact absurd c_5 (by omega)
  | succ n ih =>
    intro i M' hi hkp hb
    have hl330 : ¬ live σ 330 := by unfold live; omega
    have hR0 := hR.kp hI hkp
    refine cw_iload_n d_C_leastMonster_2 rfl ?_
    refine cw_bipush (v := 60) d_C_leastMonster_3 (by decide) ?_
    refine cw_icmp_gtN (i) (60) 39 rfl rfl (by omega) d_C_leastMonster_5 (by decide) (fun c_5 => ?_) (fun c_5 => ?_)
    · exact absurd c_5 (by omega)
    · refine cw_aload_n d_C_leastMonster_8 rfl ?_
      refine cw_iload_n d_C_leastMonster_9 rfl ?_
      refine cw_sipush (v := 255) d_C_leastMonster_10 (by decide) ?_
      refine cw_iload_n d_C_leastMonster_13 rfl ?_
      refine cw_virtV (s_C_tryParts (h := h) (by omega)) rfl ml_C_361 so_C rfl rfl d_C_leastMonster_14 (fun M_14 q_14 => ?_)
      subst q_14
      have hk1 : kp σ M (mRow M' 330 8 (fun p => drawnS (mG M' 230 p) (mG M' (20 + h) p) (if bit 255 p = true then nI i else LO))) := hkp.tr (mRow_kp hl330)
      have hR1 := hR.kp hI hk1
      have ht : ∀ p, p < 8 → mG (mRow M' 330 8 (fun p => drawnS (mG M' 230 p) (mG M' (20 + h) p) (if bit 255 p = true then nI i else LO))) 330 p = tryS σ h s 255 (nI i) p := fun p hp => by rw [mRow_in hp, hb p hp, hR0.pl (by omega) hp]; rfl
      have hb1 : ∀ p, p < 8 → mG (mRow M' 330 8 (fun p => drawnS (mG M' 230 p) (mG M' (20 + h) p) (if bit 255 p = true then nI i else LO))) 230 p = meanS σ s p := fun p hp => (mRow_out (by omega)).trans (hb p hp)
      refine cw_aload_n d_C_leastMonster_17 rfl ?_
      refine cw_getR fl_C_50 so_C rfl d_C_leastMonster_18 ?_
      refine cw_aload_n d_C_leastMonster_21 rfl ?_
      refine cw_getI fl_C_39 so_C rfl d_C_leastMonster_22 ?_
      refine cw_virtP (s_Sk_off (d := 30) (by omega)) rfl ml_C_188 so_tr rfl rfl d_C_leastMonster_25 ?_
      refine cw_top (y := b2 (offB (σ.2 4 0 0) (tryS σ h s 255 (nI i)) (meanS σ s))) (by rw [hR1.ru, offB_c ht hb1]) ?_
      refine cw_bif_eq 33 d_C_leastMonster_28 (by decide) (fun c_28 => ?_) (fun c_28 => ?_)
      · have hs : fstUp (fun t => offB (σ.2 4 0 0) (tryS σ h s 255 (nI t)) (meanS σ s)) (n + 1) i = fstUp (fun t => offB (σ.2 4 0 0) (tryS σ h s 255 (nI t)) (meanS σ s)) n (i + 1) := if_neg (Bool.eq_false_iff.mp c_28)
        rw [hs]
        refine cw_iincN (x := i) d_C_leastMonster_33 rfl rfl ?_
        refine cw_goto 2 d_C_leastMonster_36 (by decide) ?_
        exact ih (i + 1) _ (by omega) hk1 hb1
      · have hs : fstUp (fun t => offB (σ.2 4 0 0) (tryS σ h s 255 (nI t)) (meanS σ s)) (n + 1) i = nI i := if_pos c_28
        rw [hs]
        refine cw_iload_n d_C_leastMonster_31 rfl ?_
        refine cw_iret rfl d_C_leastMonster_32 ?_
        exact ⟨rfl, hk1⟩
set_option maxRecDepth 100000 in
theorem s_C_leastMonster {M : Mem} {σ : Sg} (hR : RC M σ) (hI : Iv σ) {h : Nat} {s : Int32} (hh : h < σ.1.1) (hb : ∀ p, p < 8 → mG M 230 p = meanS σ s p)  : CS u_C_leastMonster [.ref 0, .int (nI h)] M (rK (lstM σ h s) σ M) := by
  refine cs_introF (L := [some (.ref 0), some (.int (nI h)), none]) (by decide +kernel) (fun ad q h => h) (fun ad => Nat.le_of_ble_eq_true rfl) ?_
  refine cw_iconst (v := 0) d_C_leastMonster_0 (by decide) ?_
  refine cw_istore_n d_C_leastMonster_1 rfl ?_
  exact l_C_leastMonster hR hI hh 61 0 _ rfl kp.rf hb
set_option maxRecDepth 100000 in
theorem l_C_bestNamed {M : Mem} {σ : Sg} (hR : RC M σ) (hI : Iv σ) {k h : Nat} {s : Int32} (hk : k < σ.1.2.2) (hh : h < σ.1.1)  : ∀ i, i ≤ 61 → ∀ (M' : Mem) (o6 : Option Value), kp σ M M' → (∀ p, p < 8 → mG M' 230 p = meanS σ s p) → CW u_C_bestNamed (rK (bstUp (fun t => enB σ k h s 255 (nI t)) (fun t => marS σ k (tryS σ h s 255 (nI t)) h) 61).1 σ M) 8 [some (.ref 0), some (.ref (60 + k)), some (.int (nI h)), some (.int (bstUp (fun t => enB σ k h s 255 (nI t)) (fun t => marS σ k (tryS σ h s 255 (nI t)) h) i).1), some (.int (bstUp (fun t => enB σ k h s 255 (nI t)) (fun t => marS σ k (tryS σ h s 255 (nI t)) h) i).2), some (.int (nI i)), o6] [] M' := by
  obtain ⟨hn1, hn2, hn3⟩ := hI.n
  refine up_ind (fun i hi ih M' o6 hkp hb => ?_)
  refine cw_iload d_C_bestNamed_8 rfl ?_
  refine cw_bipush (v := 60) d_C_bestNamed_10 (by decide) ?_
  refine cw_icmp_gtN (i) (60) 66 rfl rfl (by omega) d_C_bestNamed_12 (by decide) (fun c_12 => ?_) (fun c_12 => ?_)
  · refine cw_iload_n d_C_bestNamed_66 rfl ?_
    refine cw_iret rfl d_C_bestNamed_67 ?_
    have ei : i = 61 := by omega
    subst ei
    exact ⟨rfl, hkp⟩
  · refine cw_aload_n d_C_bestNamed_15 rfl ?_
    refine cw_aload_n d_C_bestNamed_16 rfl ?_
    refine cw_iload_n d_C_bestNamed_17 rfl ?_
    refine cw_sipush (v := 255) d_C_bestNamed_18 (by decide) ?_
    refine cw_iload d_C_bestNamed_21 rfl ?_
    refine cw_virtI (s_C_isNamedBy (hR.kp hI hkp) hI (k := k) (h := h) (s := s) (bits := 255) (t := nI i) hk hh hb) rfl ml_C_263 so_C rfl rfl d_C_bestNamed_23 (fun r_23 M_23 q_23 => ?_)
    obtain ⟨e_23, k_23, b_23, t_23⟩ := q_23
    subst e_23
    refine cw_bif_eq 60 d_C_bestNamed_26 (by decide) (fun c_26 => ?_) (fun c_26 => ?_)
    · have hs : bstUp (fun t => enB σ k h s 255 (nI t)) (fun t => marS σ k (tryS σ h s 255 (nI t)) h) (i + 1) = bstUp (fun t => enB σ k h s 255 (nI t)) (fun t => marS σ k (tryS σ h s 255 (nI t)) h) i := if_neg (Bool.eq_false_iff.mp c_26)
      refine cw_iincN (x := i) d_C_bestNamed_60 rfl rfl ?_
      refine cw_goto 8 d_C_bestNamed_63 (by decide) ?_
      exact cw_cast (by simp only [lset1, kl, hs]; rfl) rfl rfl (ih (by omega) _ _ (hkp.tr k_23) b_23)
    · have hs0 : bstUp (fun t => enB σ k h s 255 (nI t)) (fun t => marS σ k (tryS σ h s 255 (nI t)) h) (i + 1) = _ := if_pos c_26
      refine cw_aload_n d_C_bestNamed_29 rfl ?_
      refine cw_aload_n d_C_bestNamed_30 rfl ?_
      refine cw_aload_n d_C_bestNamed_31 rfl ?_
      refine cw_getR fl_C_50 so_C rfl d_C_bestNamed_32 ?_
      refine cw_iload_n d_C_bestNamed_35 rfl ?_
      refine cw_virtI (s_C_marS (hR.kp hI (hkp.tr k_23)) hI (k := k) (d := 30) (m := h) (ln := tryS σ h s 255 (nI i)) hk (by omega) (by omega) t_23) rfl ml_C_240 so_C rfl rfl d_C_bestNamed_36 (fun r_36 M_36 q_36 => ?_)
      obtain ⟨e_36, f_36⟩ := q_36
      subst e_36
      refine cw_istore d_C_bestNamed_39 rfl ?_
      refine cw_iload_n d_C_bestNamed_41 rfl ?_
      refine cw_iconst (v := (-1)) d_C_bestNamed_42 (by decide) ?_
      refine cw_icmp_eq 53 d_C_bestNamed_43 (by decide) (fun c_43 => ?_) (fun c_43 => ?_)
      · have hs : bstUp (fun t => enB σ k h s 255 (nI t)) (fun t => marS σ k (tryS σ h s 255 (nI t)) h) (i + 1) = (nI i, (fun t => marS σ k (tryS σ h s 255 (nI t)) h) i) := hs0.trans (if_pos (Or.inl c_43))
        refine cw_iload d_C_bestNamed_53 rfl ?_
        refine cw_istore_n d_C_bestNamed_55 rfl ?_
        refine cw_iload d_C_bestNamed_56 rfl ?_
        refine cw_istore d_C_bestNamed_58 rfl ?_
        refine cw_iincN (x := i) d_C_bestNamed_60 rfl rfl ?_
        refine cw_goto 8 d_C_bestNamed_63 (by decide) ?_
        exact cw_cast (by simp only [lset1, kl, hs]; rfl) rfl rfl (ih (by omega) _ _ ((hkp.tr k_23).tr (kF_kp f_36)) (fun p hp => by rw [kF_m f_36]; exact b_23 p hp))
      · refine cw_iload d_C_bestNamed_46 rfl ?_
        refine cw_iload d_C_bestNamed_48 rfl ?_
        refine cw_icmp_le 60 d_C_bestNamed_50 (by decide) (fun c_50 => ?_) (fun c_50 => ?_)
        · have hs : bstUp (fun t => enB σ k h s 255 (nI t)) (fun t => marS σ k (tryS σ h s 255 (nI t)) h) (i + 1) = bstUp (fun t => enB σ k h s 255 (nI t)) (fun t => marS σ k (tryS σ h s 255 (nI t)) h) i := hs0.trans (if_neg (fun q => q.elim c_43 (fun z => absurd c_50 (i32_nle.mpr z))))
          refine cw_iincN (x := i) d_C_bestNamed_60 rfl rfl ?_
          refine cw_goto 8 d_C_bestNamed_63 (by decide) ?_
          exact cw_cast (by simp only [lset1, kl, hs]; rfl) rfl rfl (ih (by omega) _ _ ((hkp.tr k_23).tr (kF_kp f_36)) (fun p hp => by rw [kF_m f_36]; exact b_23 p hp))
        · have hs : bstUp (fun t => enB σ k h s 255 (nI t)) (fun t => marS σ k (tryS σ h s 255 (nI t)) h) (i + 1) = (nI i, (fun t => marS σ k (tryS σ h s 255 (nI t)) h) i) := hs0.trans (if_pos (Or.inr (i32_nle.mp c_50)))
          refine cw_iload d_C_bestNamed_53 rfl ?_
          refine cw_istore_n d_C_bestNamed_55 rfl ?_
          refine cw_iload d_C_bestNamed_56 rfl ?_
          refine cw_istore d_C_bestNamed_58 rfl ?_
          refine cw_iincN (x := i) d_C_bestNamed_60 rfl rfl ?_
          refine cw_goto 8 d_C_bestNamed_63 (by decide) ?_
          exact cw_cast (by simp only [lset1, kl, hs]; rfl) rfl rfl (ih (by omega) _ _ ((hkp.tr k_23).tr (kF_kp f_36)) (fun p hp => by rw [kF_m f_36]; exact b_23 p hp))
set_option maxRecDepth 100000 in
theorem s_C_bestNamed {M : Mem} {σ : Sg} (hR : RC M σ) (hI : Iv σ) {k h : Nat} {s : Int32} (hk : k < σ.1.2.2) (hh : h < σ.1.1) (hb : ∀ p, p < 8 → mG M 230 p = meanS σ s p)  : CS u_C_bestNamed [.ref 0, .ref (60 + k), .int (nI h)] M (rK (bstN σ k h s) σ M) := by
  refine cs_introF (L := [some (.ref 0), some (.ref (60 + k)), some (.int (nI h)), none, none, none, none]) (by decide +kernel) (fun ad q h => h) (fun ad => Nat.le_of_ble_eq_true rfl) ?_
  refine cw_iconst (v := (-1)) d_C_bestNamed_0 (by decide) ?_
  refine cw_istore_n d_C_bestNamed_1 rfl ?_
  refine cw_iconst (v := 0) d_C_bestNamed_2 (by decide) ?_
  refine cw_istore d_C_bestNamed_3 rfl ?_
  refine cw_iconst (v := 0) d_C_bestNamed_5 (by decide) ?_
  refine cw_istore d_C_bestNamed_6 rfl ?_
  exact l_C_bestNamed hR hI hk hh 0 (by omega) _ _ kp.rf hb
def muchS (σ : Sg) (k h : Nat) (s w : Int32) : Int32 := if w = 2 then lstM σ h s else if w = 0 then lstN σ k h s else bstN σ k h s
def ans_much (σ : Sg) (k h s w : Int32) : Int32 := if (ixB k σ.1.2.2 && ixB h σ.1.1 && setB s σ.1.1 && ixB w 3) = true then (if ¬ w = 2 ∧ bit (σ.2 11 (ix k) 0) (ix h) = false then -3 else muchS σ (ix k) (ix h) s w) else -2
set_option maxHeartbeats 4000000 in
set_option maxRecDepth 100000 in
theorem c_much {M : Mem} {σ : Sg} (hR : RC M σ) (hI : Iv σ) {x y s w : Int32} : CS u_C_much [.ref 0, .int x, .int y, .int s, .int w] M (rC (ans_much σ x y s w) σ M) := by
  obtain ⟨hn1, hn2, hn3⟩ := hI.n
  have hl230 : ¬ live σ 230 := by unfold live; omega
  refine cs_introF (L := [some (.ref 0), some (.int x), some (.int y), some (.int s), some (.int w)]) (by decide +kernel) (fun ad q h => h) (fun ad => Nat.le_of_ble_eq_true rfl) ?_
  refine cw_aload_n d_C_much_0 rfl ?_
  refine cw_iload_n d_C_much_1 rfl ?_
  refine cw_virtP (s_C_isKnower hR hI) rfl ml_C_214 so_C rfl rfl d_C_much_2 ?_
  refine cw_bif_eq 35 d_C_much_5 (by decide) (fun c_5 => ?_) (fun c_5 => ?_)
  · refine cw_bipush (v := (-2)) d_C_much_35 (by decide) ?_
    refine cw_iret rfl d_C_much_37 ?_
    exact ⟨by simp [ans_much, c_5], hR, kC.rf⟩
  · obtain ⟨k, hhk, e_k⟩ := ixB_t c_5 (by omega)
    subst e_k
    refine cw_aload_n d_C_much_8 rfl ?_
    refine cw_iload_n d_C_much_9 rfl ?_
    refine cw_virtP (s_C_isHead hR hI) rfl ml_C_78 so_C rfl rfl d_C_much_10 ?_
    refine cw_bif_eq 35 d_C_much_13 (by decide) (fun c_13 => ?_) (fun c_13 => ?_)
    · refine cw_bipush (v := (-2)) d_C_much_35 (by decide) ?_
      refine cw_iret rfl d_C_much_37 ?_
      exact ⟨by simp [ans_much, c_5, c_13], hR, kC.rf⟩
    · obtain ⟨h, hhh, e_h⟩ := ixB_t c_13 (by omega)
      subst e_h
      refine cw_aload_n d_C_much_16 rfl ?_
      refine cw_iload_n d_C_much_17 rfl ?_
      refine cw_virtP (s_C_isSet hR hI) rfl ml_C_114 so_C rfl rfl d_C_much_18 ?_
      refine cw_bif_eq 35 d_C_much_21 (by decide) (fun c_21 => ?_) (fun c_21 => ?_)
      · refine cw_bipush (v := (-2)) d_C_much_35 (by decide) ?_
        refine cw_iret rfl d_C_much_37 ?_
        exact ⟨by simp [ans_much, c_5, c_13, c_21], hR, kC.rf⟩
      · refine cw_iload d_C_much_24 rfl ?_
        refine cw_if_lt 35 d_C_much_26 (by decide) (fun c_26 => ?_) (fun c_26 => ?_)
        · have hb : ixB w 3 = false := ixB_lt c_26
          refine cw_bipush (v := (-2)) d_C_much_35 (by decide) ?_
          refine cw_iret rfl d_C_much_37 ?_
          exact ⟨by simp [ans_much, c_5, c_13, c_21, hb], hR, kC.rf⟩
        · refine cw_iload d_C_much_29 rfl ?_
          refine cw_iconst (v := 2) d_C_much_31 (by decide) ?_
          refine cw_icmp_le 38 d_C_much_32 (by decide) (fun c_32 => ?_) (fun c_32 => ?_)
          · have hb : ixB w 3 = true := ixB_le (n := 2) c_26 c_32 (by decide)
            refine cw_iload d_C_much_38 rfl ?_
            refine cw_iconst (v := 2) d_C_much_40 (by decide) ?_
            refine cw_icmp_eq 60 d_C_much_41 (by decide) (fun c_41 => ?_) (fun c_41 => ?_)
            · refine cw_aload_n d_C_much_60 rfl ?_
              refine cw_iload_n d_C_much_61 rfl ?_
              refine cw_aload_n d_C_much_62 rfl ?_
              refine cw_getR fl_C_50 so_C rfl d_C_much_63 ?_
              refine cw_getR fl_C_149 so_tr rfl d_C_much_66 ?_
              refine cw_virtV (s_C_fillMean hR hI c_21 sa_tb hl230) rfl ml_C_152 so_C rfl rfl d_C_much_69 (fun M_69 q_69 => ?_)
              subst q_69
              have hk1 : kp σ M (mRow M 230 8 (meanS σ s)) := mRow_kp hl230
              have hR1 := hR.kp hI hk1
              have hb1 : ∀ p, p < 8 → mG (mRow M 230 8 (meanS σ s)) 230 p = meanS σ s p := fun p hp => mRow_in hp
              refine cw_iload d_C_much_72 rfl ?_
              refine cw_iconst (v := 2) d_C_much_74 (by decide) ?_
              refine cw_icmp_ne 84 d_C_much_75 (by decide) (fun c_75 => ?_) (fun c_75 => ?_)
              · refine cw_iload d_C_much_84 rfl ?_
                refine cw_if_ne 103 d_C_much_86 (by decide) (fun c_86 => ?_) (fun c_86 => ?_)
                · refine cw_aload_n d_C_much_103 rfl ?_
                  refine cw_aload_n d_C_much_104 rfl ?_
                  refine cw_getR fl_C_29 so_C rfl d_C_much_105 ?_
                  refine cw_iload_n d_C_much_108 rfl ?_
                  refine cw_aaldN (i := k) sr_4 rfl (by omega) (by decide) d_C_much_109 ?_
                  refine cw_iload_n d_C_much_110 rfl ?_
                  refine cw_virtI (s_C_bestNamed hR1 hI (k := k) (h := h) (by omega) (by omega) hb1) rfl ml_C_251 so_C rfl rfl d_C_much_111 (fun r_111 M_111 q_111 => ?_)
                  obtain ⟨e_111, k_111⟩ := q_111
                  refine cw_iret rfl d_C_much_114 ?_
                  exact ⟨by simp only [ans_much, c_5, c_13, c_21, hb, Bool.and_self, if_true, ix_nI (show k < 2 ^ 31 by omega), ix_nI (show h < 2 ^ 31 by omega)]; rw [if_neg (fun q => absurd c_41 q.1)]; unfold muchS; rw [if_neg c_75, if_neg c_86]; exact e_111, hR.kp hI (hk1.tr k_111), (hk1.tr k_111).kC⟩
                · refine cw_aload_n d_C_much_89 rfl ?_
                  refine cw_aload_n d_C_much_90 rfl ?_
                  refine cw_getR fl_C_29 so_C rfl d_C_much_91 ?_
                  refine cw_iload_n d_C_much_94 rfl ?_
                  refine cw_aaldN (i := k) sr_4 rfl (by omega) (by decide) d_C_much_95 ?_
                  refine cw_iload_n d_C_much_96 rfl ?_
                  refine cw_virtI (s_C_leastNamed hR1 hI (k := k) (h := h) (by omega) (by omega) hb1) rfl ml_C_247 so_C rfl rfl d_C_much_97 (fun r_97 M_97 q_97 => ?_)
                  obtain ⟨e_97, k_97⟩ := q_97
                  refine cw_goto 114 d_C_much_100 (by decide) ?_
                  refine cw_iret rfl d_C_much_114 ?_
                  exact ⟨by simp only [ans_much, c_5, c_13, c_21, hb, Bool.and_self, if_true, ix_nI (show k < 2 ^ 31 by omega), ix_nI (show h < 2 ^ 31 by omega)]; rw [if_neg (fun q => absurd c_41 q.1)]; unfold muchS; rw [if_neg c_75, if_pos c_86]; exact e_97, hR.kp hI (hk1.tr k_97), (hk1.tr k_97).kC⟩
              · refine cw_aload_n d_C_much_78 rfl ?_
                refine cw_iload_n d_C_much_79 rfl ?_
                refine cw_virtI (s_C_leastMonster hR1 hI (h := h) (by omega) hb1) rfl ml_C_244 so_C rfl rfl d_C_much_80 (fun r_80 M_80 q_80 => ?_)
                obtain ⟨e_80, k_80⟩ := q_80
                refine cw_iret rfl d_C_much_83 ?_
                exact ⟨by simp only [ans_much, c_5, c_13, c_21, hb, Bool.and_self, if_true, ix_nI (show k < 2 ^ 31 by omega), ix_nI (show h < 2 ^ 31 by omega)]; rw [if_neg (fun q => absurd c_41 q.1)]; unfold muchS; rw [if_pos c_75]; exact e_80, hR.kp hI (hk1.tr k_80), (hk1.tr k_80).kC⟩
            · refine cw_aload_n d_C_much_44 rfl ?_
              refine cw_getR fl_C_29 so_C rfl d_C_much_45 ?_
              refine cw_iload_n d_C_much_48 rfl ?_
              refine cw_aaldN (i := k) sr_4 rfl (by omega) (by decide) d_C_much_49 ?_
              refine cw_iload_n d_C_much_50 rfl ?_
              refine cw_virtP (s_Kn_knows (k := k) (h := h) (by omega)) rfl ml_C_223 (so_Kn (h := k) (by omega)) rfl rfl d_C_much_51 ?_
              refine cw_top (y := b2 (bit (σ.2 11 k 0) h)) (by rw [hR.kk (by omega)]) ?_
              refine cw_bif_ne 60 d_C_much_54 (by decide) (fun c_54 => ?_) (fun c_54 => ?_)
              · refine cw_aload_n d_C_much_60 rfl ?_
                refine cw_iload_n d_C_much_61 rfl ?_
                refine cw_aload_n d_C_much_62 rfl ?_
                refine cw_getR fl_C_50 so_C rfl d_C_much_63 ?_
                refine cw_getR fl_C_149 so_tr rfl d_C_much_66 ?_
                refine cw_virtV (s_C_fillMean hR hI c_21 sa_tb hl230) rfl ml_C_152 so_C rfl rfl d_C_much_69 (fun M_69 q_69 => ?_)
                subst q_69
                have hk1 : kp σ M (mRow M 230 8 (meanS σ s)) := mRow_kp hl230
                have hR1 := hR.kp hI hk1
                have hb1 : ∀ p, p < 8 → mG (mRow M 230 8 (meanS σ s)) 230 p = meanS σ s p := fun p hp => mRow_in hp
                refine cw_iload d_C_much_72 rfl ?_
                refine cw_iconst (v := 2) d_C_much_74 (by decide) ?_
                refine cw_icmp_ne 84 d_C_much_75 (by decide) (fun c_75 => ?_) (fun c_75 => ?_)
                · refine cw_iload d_C_much_84 rfl ?_
                  refine cw_if_ne 103 d_C_much_86 (by decide) (fun c_86 => ?_) (fun c_86 => ?_)
                  · refine cw_aload_n d_C_much_103 rfl ?_
                    refine cw_aload_n d_C_much_104 rfl ?_
                    refine cw_getR fl_C_29 so_C rfl d_C_much_105 ?_
                    refine cw_iload_n d_C_much_108 rfl ?_
                    refine cw_aaldN (i := k) sr_4 rfl (by omega) (by decide) d_C_much_109 ?_
                    refine cw_iload_n d_C_much_110 rfl ?_
                    refine cw_virtI (s_C_bestNamed hR1 hI (k := k) (h := h) (by omega) (by omega) hb1) rfl ml_C_251 so_C rfl rfl d_C_much_111 (fun r_111 M_111 q_111 => ?_)
                    obtain ⟨e_111, k_111⟩ := q_111
                    refine cw_iret rfl d_C_much_114 ?_
                    exact ⟨by simp only [ans_much, c_5, c_13, c_21, hb, Bool.and_self, if_true, ix_nI (show k < 2 ^ 31 by omega), ix_nI (show h < 2 ^ 31 by omega)]; rw [if_neg (fun q => by rw [c_54] at q; exact absurd q.2 (by decide))]; unfold muchS; rw [if_neg c_75, if_neg c_86]; exact e_111, hR.kp hI (hk1.tr k_111), (hk1.tr k_111).kC⟩
                  · refine cw_aload_n d_C_much_89 rfl ?_
                    refine cw_aload_n d_C_much_90 rfl ?_
                    refine cw_getR fl_C_29 so_C rfl d_C_much_91 ?_
                    refine cw_iload_n d_C_much_94 rfl ?_
                    refine cw_aaldN (i := k) sr_4 rfl (by omega) (by decide) d_C_much_95 ?_
                    refine cw_iload_n d_C_much_96 rfl ?_
                    refine cw_virtI (s_C_leastNamed hR1 hI (k := k) (h := h) (by omega) (by omega) hb1) rfl ml_C_247 so_C rfl rfl d_C_much_97 (fun r_97 M_97 q_97 => ?_)
                    obtain ⟨e_97, k_97⟩ := q_97
                    refine cw_goto 114 d_C_much_100 (by decide) ?_
                    refine cw_iret rfl d_C_much_114 ?_
                    exact ⟨by simp only [ans_much, c_5, c_13, c_21, hb, Bool.and_self, if_true, ix_nI (show k < 2 ^ 31 by omega), ix_nI (show h < 2 ^ 31 by omega)]; rw [if_neg (fun q => by rw [c_54] at q; exact absurd q.2 (by decide))]; unfold muchS; rw [if_neg c_75, if_pos c_86]; exact e_97, hR.kp hI (hk1.tr k_97), (hk1.tr k_97).kC⟩
                · refine cw_aload_n d_C_much_78 rfl ?_
                  refine cw_iload_n d_C_much_79 rfl ?_
                  refine cw_virtI (s_C_leastMonster hR1 hI (h := h) (by omega) hb1) rfl ml_C_244 so_C rfl rfl d_C_much_80 (fun r_80 M_80 q_80 => ?_)
                  obtain ⟨e_80, k_80⟩ := q_80
                  refine cw_iret rfl d_C_much_83 ?_
                  exact ⟨by simp only [ans_much, c_5, c_13, c_21, hb, Bool.and_self, if_true, ix_nI (show k < 2 ^ 31 by omega), ix_nI (show h < 2 ^ 31 by omega)]; rw [if_neg (fun q => by rw [c_54] at q; exact absurd q.2 (by decide))]; unfold muchS; rw [if_pos c_75]; exact e_80, hR.kp hI (hk1.tr k_80), (hk1.tr k_80).kC⟩
              · refine cw_bipush (v := (-3)) d_C_much_57 (by decide) ?_
                refine cw_iret rfl d_C_much_59 ?_
                exact ⟨by simp only [ans_much, c_5, c_13, c_21, hb, Bool.and_self, if_true, ix_nI (show k < 2 ^ 31 by omega), ix_nI (show h < 2 ^ 31 by omega)]; rw [if_pos ⟨c_41, c_54⟩], hR, kC.rf⟩
          · have hb : ixB w 3 = false := ixB_gt (n := 2) c_32 (by decide)
            refine cw_bipush (v := (-2)) d_C_much_35 (by decide) ?_
            refine cw_iret rfl d_C_much_37 ?_
            exact ⟨by simp [ans_much, c_5, c_13, c_21, hb], hR, kC.rf⟩
def okPart (σ : Sg) (k h s t : Int32) : Bool := ixB k σ.1.2.2 && ixB h σ.1.1 && setB s σ.1.1 && ixB t 61
def refS (σ : Sg) (k h s t : Int32) : Int32 := if okPart σ k h s t = true then (if bit (σ.2 11 (ix k) 0) (ix h) = true then 0 else -3) else -2
theorem refS_0 {σ : Sg} {k h s t : Int32} (hr : refS σ k h s t = 0) : okPart σ k h s t = true ∧ bit (σ.2 11 (ix k) 0) (ix h) = true := by
  unfold refS at hr
  split at hr
  · rename_i h1
    split at hr
    · rename_i h2
      exact ⟨h1, h2⟩
    · exact absurd hr (by decide)
  · exact absurd hr (by decide)
set_option maxRecDepth 100000 in
theorem s_C_refusal {M : Mem} {σ : Sg} (hR : RC M σ) (hI : Iv σ) {x y s t : Int32} : CS u_C_refusalOfParts [.ref 0, .int x, .int y, .int s, .int t] M (pI (refS σ x y s t) M) := by
  obtain ⟨hn1, hn2, hn3⟩ := hI.n
  refine cs_introF (L := [some (.ref 0), some (.int x), some (.int y), some (.int s), some (.int t)]) (by decide +kernel) (fun ad q h => h) (fun ad => Nat.le_of_ble_eq_true rfl) ?_
  refine cw_aload_n d_C_refusalOfParts_0 rfl ?_
  refine cw_iload_n d_C_refusalOfParts_1 rfl ?_
  refine cw_virtP (s_C_isKnower hR hI) rfl ml_C_214 so_C rfl rfl d_C_refusalOfParts_2 ?_
  refine cw_bif_eq 36 d_C_refusalOfParts_5 (by decide) (fun c_5 => ?_) (fun c_5 => ?_)
  · refine cw_bipush (v := (-2)) d_C_refusalOfParts_36 (by decide) ?_
    refine cw_iret rfl d_C_refusalOfParts_38 ?_
    exact ⟨by simp [refS, okPart, c_5], rfl⟩
  · obtain ⟨k, hhk, e_k⟩ := ixB_t c_5 (by omega)
    subst e_k
    refine cw_aload_n d_C_refusalOfParts_8 rfl ?_
    refine cw_iload_n d_C_refusalOfParts_9 rfl ?_
    refine cw_virtP (s_C_isHead hR hI) rfl ml_C_78 so_C rfl rfl d_C_refusalOfParts_10 ?_
    refine cw_bif_eq 36 d_C_refusalOfParts_13 (by decide) (fun c_13 => ?_) (fun c_13 => ?_)
    · refine cw_bipush (v := (-2)) d_C_refusalOfParts_36 (by decide) ?_
      refine cw_iret rfl d_C_refusalOfParts_38 ?_
      exact ⟨by simp [refS, okPart, c_5, c_13], rfl⟩
    · obtain ⟨h, hhh, e_h⟩ := ixB_t c_13 (by omega)
      subst e_h
      refine cw_aload_n d_C_refusalOfParts_16 rfl ?_
      refine cw_iload_n d_C_refusalOfParts_17 rfl ?_
      refine cw_virtP (s_C_isSet hR hI) rfl ml_C_114 so_C rfl rfl d_C_refusalOfParts_18 ?_
      refine cw_bif_eq 36 d_C_refusalOfParts_21 (by decide) (fun c_21 => ?_) (fun c_21 => ?_)
      · refine cw_bipush (v := (-2)) d_C_refusalOfParts_36 (by decide) ?_
        refine cw_iret rfl d_C_refusalOfParts_38 ?_
        exact ⟨by simp [refS, okPart, c_5, c_13, c_21], rfl⟩
      · refine cw_iload d_C_refusalOfParts_24 rfl ?_
        refine cw_if_lt 36 d_C_refusalOfParts_26 (by decide) (fun c_26 => ?_) (fun c_26 => ?_)
        · have hb : ixB t 61 = false := ixB_lt c_26
          refine cw_bipush (v := (-2)) d_C_refusalOfParts_36 (by decide) ?_
          refine cw_iret rfl d_C_refusalOfParts_38 ?_
          exact ⟨by simp [refS, okPart, c_5, c_13, c_21, hb], rfl⟩
        · refine cw_iload d_C_refusalOfParts_29 rfl ?_
          refine cw_bipush (v := 60) d_C_refusalOfParts_31 (by decide) ?_
          refine cw_icmp_le 39 d_C_refusalOfParts_33 (by decide) (fun c_33 => ?_) (fun c_33 => ?_)
          · have hb : ixB t 61 = true := ixB_le (n := 60) c_26 c_33 (by decide)
            refine cw_aload_n d_C_refusalOfParts_39 rfl ?_
            refine cw_getR fl_C_29 so_C rfl d_C_refusalOfParts_40 ?_
            refine cw_iload_n d_C_refusalOfParts_43 rfl ?_
            refine cw_aaldN (i := k) sr_4 rfl (by omega) (by decide) d_C_refusalOfParts_44 ?_
            refine cw_iload_n d_C_refusalOfParts_45 rfl ?_
            refine cw_virtP (s_Kn_knows (k := k) (h := h) (by omega)) rfl ml_C_223 (so_Kn (h := k) (by omega)) rfl rfl d_C_refusalOfParts_46 ?_
            refine cw_top (y := b2 (bit (σ.2 11 k 0) h)) (by rw [hR.kk (by omega)]) ?_
            refine cw_bif_eq 56 d_C_refusalOfParts_49 (by decide) (fun c_49 => ?_) (fun c_49 => ?_)
            · refine cw_bipush (v := (-3)) d_C_refusalOfParts_56 (by decide) ?_
              refine cw_iret rfl d_C_refusalOfParts_58 ?_
              exact ⟨by simp [refS, okPart, c_5, c_13, c_21, hb, ix_nI (show k < 2 ^ 31 by omega), ix_nI (show h < 2 ^ 31 by omega), c_49], rfl⟩
            · refine cw_iconst (v := 0) d_C_refusalOfParts_52 (by decide) ?_
              refine cw_goto 58 d_C_refusalOfParts_53 (by decide) ?_
              refine cw_iret rfl d_C_refusalOfParts_58 ?_
              exact ⟨by simp [refS, okPart, c_5, c_13, c_21, hb, ix_nI (show k < 2 ^ 31 by omega), ix_nI (show h < 2 ^ 31 by omega), c_49], rfl⟩
          · have hb : ixB t 61 = false := ixB_gt (n := 60) c_33 (by decide)
            refine cw_bipush (v := (-2)) d_C_refusalOfParts_36 (by decide) ?_
            refine cw_iret rfl d_C_refusalOfParts_38 ?_
            exact ⟨by simp [refS, okPart, c_5, c_13, c_21, hb], rfl⟩
def ans_few (σ : Sg) (k h s t : Int32) : Int32 := if refS σ k h s t = 0 then fewUp (fun b => enB σ (ix k) (ix h) s (nI b) t) 8 1 else refS σ k h s t
def ans_stands (σ : Sg) (k h s t : Int32) : Int32 := if refS σ k h s t = 0 then orUp (fun p => enB σ (ix k) (ix h) s (1 <<< (nI p &&& 31)) t) 8 else refS σ k h s t
theorem fstUp_in (f : Nat → Bool) : ∀ n i, fstUp f n i = -1 ∨ ∃ j, i ≤ j ∧ j < i + n ∧ f j = true ∧ fstUp f n i = nI j
  | 0, i => Or.inl rfl
  | n + 1, i => by
    simp only [fstUp]
    split
    · rename_i q
      exact Or.inr ⟨i, by omega, by omega, q, rfl⟩
    · exact (fstUp_in f n (i + 1)).imp id (fun ⟨j, h1, h2, h3, h4⟩ => ⟨j, by omega, by omega, h3, h4⟩)
set_option maxRecDepth 100000 in
theorem l_C_few1 {M : Mem} {σ : Sg} (hR : RC M σ) (hI : Iv σ) {k h : Nat} {s t : Int32} (hk : k < σ.1.2.2) (hh : h < σ.1.1) {m : Nat} {E E' : Int32} (hm : m < 9) (K : ∀ (M' : Mem) (o7 : Option Value), kp σ M M' → (∀ p, p < 8 → mG M' 230 p = meanS σ s p) → E = E' → CW u_C_few (rK E σ M) 34 [some (.ref 0), some (.int (nI k)), some (.int (nI h)), some (.int s), some (.int t), some (.int 0), some (.int (nI (m + 1))), o7] [] M')  : ∀ (n b : Nat) (M' : Mem), 1 ≤ b → b + n = 256 → kp σ M M' → (∀ p, p < 8 → mG M' 230 p = meanS σ s p) → E = (if fstUp (fun b => decide (popN b = m) && enB σ k h s (nI b) t) n b = -1 then E' else fstUp (fun b => decide (popN b = m) && enB σ k h s (nI b) t) n b) → CW u_C_few (rK E σ M) 44 [some (.ref 0), some (.int (nI k)), some (.int (nI h)), some (.int s), some (.int t), some (.int 0), some (.int (nI m)), some (.int (nI b))] [] M' := by
  obtain ⟨hn1, hn2, hn3⟩ := hI.n
  intro n
  induction n with
  | zero =>
    intro b M' hb1 hbn hkp hb hE
    refine cw_iload d_C_few_44 rfl ?_
    refine cw_sipush (v := 256) d_C_few_46 (by decide) ?_
    refine cw_icmp_geN (b) (256) 89 rfl rfl (by omega) d_C_few_49 (by decide) (fun c_49 => ?_) (fun c_49 => ?_)
    · refine cw_iincN (x := m) d_C_few_89 rfl rfl ?_
      refine cw_goto 34 d_C_few_92 (by decide) ?_
      exact K _ _ hkp hb (hE.trans (if_pos rfl))
    · exact absurd c_49 (by omega)
  | succ n ih =>
    intro b M' hb1 hbn hkp hb hE
    have hpop := cntUp_le (fun i => b.testBit i) 8
    refine cw_iload d_C_few_44 rfl ?_
    refine cw_sipush (v := 256) d_C_few_46 (by decide) ?_
    refine cw_icmp_geN (b) (256) 89 rfl rfl (by omega) d_C_few_49 (by decide) (fun c_49 => ?_) (fun c_49 => ?_)
    · exact absurd c_49 (by omega)
    · refine cw_iload d_C_few_52 rfl ?_
      refine cw_staticP (s_J_bitCount (k := b) (by omega)) rfl ml_C_258 rfl rfl d_C_few_54 ?_
      refine cw_iload d_C_few_57 rfl ?_
      refine cw_icmp_neN (popN b) (m) 83 rfl rfl (by have : popN b ≤ 8 := hpop; omega) d_C_few_59 (by decide) (fun c_59 => ?_) (fun c_59 => ?_)
      · have hs : fstUp (fun b => decide (popN b = m) && enB σ k h s (nI b) t) (n + 1) b = fstUp (fun b => decide (popN b = m) && enB σ k h s (nI b) t) n (b + 1) := if_neg (by simp [c_59])
        rw [hs] at hE
        refine cw_iincN (x := b) d_C_few_83 rfl rfl ?_
        refine cw_goto 44 d_C_few_86 (by decide) ?_
        exact ih (b + 1) _ (by omega) (by omega) hkp hb hE
      · refine cw_aload_n d_C_few_62 rfl ?_
        refine cw_aload_n d_C_few_63 rfl ?_
        refine cw_getR fl_C_29 so_C rfl d_C_few_64 ?_
        refine cw_iload_n d_C_few_67 rfl ?_
        refine cw_aaldN (i := k) sr_4 rfl (by omega) (by decide) d_C_few_68 ?_
        refine cw_iload_n d_C_few_69 rfl ?_
        refine cw_iload d_C_few_70 rfl ?_
        refine cw_iload d_C_few_72 rfl ?_
        refine cw_virtI (s_C_isNamedBy (hR.kp hI hkp) hI (k := k) (h := h) (s := s) (bits := nI b) (t := t) hk hh hb) rfl ml_C_263 so_C rfl rfl d_C_few_74 (fun r_74 M_74 q_74 => ?_)
        obtain ⟨e_74, k_74, b_74, t_74⟩ := q_74
        subst e_74
        refine cw_bif_eq 83 d_C_few_77 (by decide) (fun c_77 => ?_) (fun c_77 => ?_)
        · have hs : fstUp (fun b => decide (popN b = m) && enB σ k h s (nI b) t) (n + 1) b = fstUp (fun b => decide (popN b = m) && enB σ k h s (nI b) t) n (b + 1) := if_neg (by simp [c_77])
          rw [hs] at hE
          refine cw_iincN (x := b) d_C_few_83 rfl rfl ?_
          refine cw_goto 44 d_C_few_86 (by decide) ?_
          exact ih (b + 1) _ (by omega) (by omega) (hkp.tr k_74) b_74 hE
        · have hs : fstUp (fun b => decide (popN b = m) && enB σ k h s (nI b) t) (n + 1) b = nI b := if_pos (by simp [c_59, c_77])
          rw [hs, if_neg (nI_m1 (by omega))] at hE
          refine cw_iload d_C_few_80 rfl ?_
          refine cw_iret rfl d_C_few_82 ?_
          exact ⟨hE.symm, hkp.tr k_74⟩
set_option maxRecDepth 100000 in
theorem l_C_few2 {M : Mem} {σ : Sg} (hR : RC M σ) (hI : Iv σ) {k h : Nat} {s t : Int32} (hk : k < σ.1.2.2) (hh : h < σ.1.1)  : ∀ (n m : Nat) (M' : Mem) (o7 : Option Value), 1 ≤ m → m + n = 9 → kp σ M M' → (∀ p, p < 8 → mG M' 230 p = meanS σ s p) → CW u_C_few (rK (fewUp (fun b => enB σ k h s (nI b) t) n m) σ M) 34 [some (.ref 0), some (.int (nI k)), some (.int (nI h)), some (.int s), some (.int t), some (.int 0), some (.int (nI m)), o7] [] M' := by
  obtain ⟨hn1, hn2, hn3⟩ := hI.n
  intro n
  induction n with
  | zero =>
    intro m M' o7 hm1 hmn hkp hb
    refine cw_iload d_C_few_34 rfl ?_
    refine cw_bipush (v := 8) d_C_few_36 (by decide) ?_
    refine cw_icmp_gtN (m) (8) 95 rfl rfl (by omega) d_C_few_38 (by decide) (fun c_38 => ?_) (fun c_38 => ?_)
    · refine cw_iconst (v := (-1)) d_C_few_95 (by decide) ?_
      refine cw_iret rfl d_C_few_96 ?_
      exact ⟨rfl, hkp⟩
    · exact absurd c_38 (by omega)
  | succ n ih =>
    intro m M' o7 hm1 hmn hkp hb
    refine cw_iload d_C_few_34 rfl ?_
    refine cw_bipush (v := 8) d_C_few_36 (by decide) ?_
    refine cw_icmp_gtN (m) (8) 95 rfl rfl (by omega) d_C_few_38 (by decide) (fun c_38 => ?_) (fun c_38 => ?_)
    · exact absurd c_38 (by omega)
    · refine cw_iconst (v := 1) d_C_few_41 (by decide) ?_
      refine cw_istore d_C_few_42 rfl ?_
      exact l_C_few1 hR hI hk hh (m := m) (E := fewUp (fun b => enB σ k h s (nI b) t) (n + 1) m) (E' := fewUp (fun b => enB σ k h s (nI b) t) n (m + 1)) (by omega) (fun M2 o8 q1 q2 q3 => q3 ▸ ih (m + 1) M2 o8 (by omega) (by omega) q1 q2) 255 1 _ (by omega) (by omega) hkp hb rfl
set_option maxRecDepth 100000 in
theorem c_few {M : Mem} {σ : Sg} (hR : RC M σ) (hI : Iv σ) {x y s t : Int32} : CS u_C_few [.ref 0, .int x, .int y, .int s, .int t] M (rC (ans_few σ x y s t) σ M) := by
  obtain ⟨hn1, hn2, hn3⟩ := hI.n
  have hl230 : ¬ live σ 230 := by unfold live; omega
  refine cs_introF (L := [some (.ref 0), some (.int x), some (.int y), some (.int s), some (.int t), none, none, none]) (by decide +kernel) (fun ad q h => h) (fun ad => Nat.le_of_ble_eq_true rfl) ?_
  refine cw_aload_n d_C_few_0 rfl ?_
  refine cw_iload_n d_C_few_1 rfl ?_
  refine cw_iload_n d_C_few_2 rfl ?_
  refine cw_iload_n d_C_few_3 rfl ?_
  refine cw_iload d_C_few_4 rfl ?_
  refine cw_virtP (s_C_refusal hR hI) rfl ml_C_254 so_C rfl rfl d_C_few_6 ?_
  refine cw_istore d_C_few_9 rfl ?_
  refine cw_iload d_C_few_11 rfl ?_
  refine cw_if_eq 19 d_C_few_13 (by decide) (fun c_13 => ?_) (fun c_13 => ?_)
  · obtain ⟨hok, hbit⟩ := refS_0 c_13
    have hok2 := hok
    simp only [okPart, Bool.and_eq_true] at hok2
    obtain ⟨⟨⟨hx, hy⟩, hs⟩, ht⟩ := hok2
    obtain ⟨k, hhk, e_k⟩ := ixB_t hx (by omega)
    obtain ⟨h, hhh, e_h⟩ := ixB_t hy (by omega)
    subst e_k; subst e_h
    refine cw_aload_n d_C_few_19 rfl ?_
    refine cw_iload_n d_C_few_20 rfl ?_
    refine cw_aload_n d_C_few_21 rfl ?_
    refine cw_getR fl_C_50 so_C rfl d_C_few_22 ?_
    refine cw_getR fl_C_149 so_tr rfl d_C_few_25 ?_
    refine cw_virtV (s_C_fillMean hR hI hs sa_tb hl230) rfl ml_C_152 so_C rfl rfl d_C_few_28 (fun M_28 q_28 => ?_)
    subst q_28
    have hk1 : kp σ M (mRow M 230 8 (meanS σ s)) := mRow_kp hl230
    have hR1 := hR.kp hI hk1
    have hb1 : ∀ p, p < 8 → mG (mRow M 230 8 (meanS σ s)) 230 p = meanS σ s p := fun p hp => mRow_in hp
    refine cw_iconst (v := 1) d_C_few_31 (by decide) ?_
    refine cw_istore d_C_few_32 rfl ?_
    have hfin := l_C_few2 hR1 hI (k := k) (h := h) (s := s) (t := t) (by omega) (by omega) 8 1 _ none (by omega) (by omega) kp.rf hb1
    have hans : ans_few σ (nI k) (nI h) s t = fewUp (fun b => enB σ k h s (nI b) t) 8 1 := by unfold ans_few; rw [if_pos c_13, ix_nI (show k < 2 ^ 31 by omega), ix_nI (show h < 2 ^ 31 by omega)]
    rw [hans]
    refine cw_post (fun v M2 hq => ?_) (cw_cast (by simp only [lset1, kl, c_13]; rfl) rfl rfl hfin)
    obtain ⟨r, hv, hr, hk2⟩ := hq
    exact ⟨r, hv, hr, hR.kp hI (hk1.tr hk2), (hk1.tr hk2).kC⟩
  · refine cw_iload d_C_few_16 rfl ?_
    refine cw_iret rfl d_C_few_18 ?_
    exact ⟨by unfold ans_few; rw [if_neg c_13], hR, kC.rf⟩
set_option maxRecDepth 100000 in
theorem l_C_stands {M : Mem} {σ : Sg} (hR : RC M σ) (hI : Iv σ) {k h : Nat} {s t : Int32} (hk : k < σ.1.2.2) (hh : h < σ.1.1)  : ∀ i, i ≤ 8 → ∀ (M' : Mem), kp σ M M' → (∀ p, p < 8 → mG M' 230 p = meanS σ s p) → CW u_C_stands (rK (orUp (fun p => enB σ k h s (1 <<< (nI p &&& 31)) t) 8) σ M) 37 [some (.ref 0), some (.int (nI k)), some (.int (nI h)), some (.int s), some (.int t), some (.int 0), some (.int (orUp (fun p => enB σ k h s (1 <<< (nI p &&& 31)) t) i)), some (.int (nI i))] [] M' := by
  obtain ⟨hn1, hn2, hn3⟩ := hI.n
  refine up_ind (fun i hi ih M' hkp hb => ?_)
  refine cw_iload d_C_stands_37 rfl ?_
  refine cw_bipush (v := 8) d_C_stands_39 (by decide) ?_
  refine cw_icmp_geN (i) (8) 79 rfl rfl (by omega) d_C_stands_41 (by decide) (fun c_41 => ?_) (fun c_41 => ?_)
  · refine cw_iload d_C_stands_79 rfl ?_
    refine cw_iret rfl d_C_stands_81 ?_
    have ei : i = 8 := by omega
    subst ei
    exact ⟨rfl, hkp⟩
  · refine cw_aload_n d_C_stands_44 rfl ?_
    refine cw_aload_n d_C_stands_45 rfl ?_
    refine cw_getR fl_C_29 so_C rfl d_C_stands_46 ?_
    refine cw_iload_n d_C_stands_49 rfl ?_
    refine cw_aaldN (i := k) sr_4 rfl (by omega) (by decide) d_C_stands_50 ?_
    refine cw_iload_n d_C_stands_51 rfl ?_
    refine cw_iconst (v := 1) d_C_stands_52 (by decide) ?_
    refine cw_iload d_C_stands_53 rfl ?_
    refine cw_ishl d_C_stands_55 ?_
    refine cw_iload d_C_stands_56 rfl ?_
    refine cw_virtI (s_C_isNamedBy (hR.kp hI hkp) hI (k := k) (h := h) (s := s) (bits := 1 <<< (nI i &&& 31)) (t := t) hk hh hb) rfl ml_C_263 so_C rfl rfl d_C_stands_58 (fun r_58 M_58 q_58 => ?_)
    obtain ⟨e_58, k_58, b_58, t_58⟩ := q_58
    subst e_58
    refine cw_bif_eq 73 d_C_stands_61 (by decide) (fun c_61 => ?_) (fun c_61 => ?_)
    · have hs : orUp (fun p => enB σ k h s (1 <<< (nI p &&& 31)) t) (i + 1) = orUp (fun p => enB σ k h s (1 <<< (nI p &&& 31)) t) i := if_neg (Bool.eq_false_iff.mp c_61)
      refine cw_iincN (x := i) d_C_stands_73 rfl rfl ?_
      refine cw_goto 37 d_C_stands_76 (by decide) ?_
      exact cw_cast (by simp only [lset1, kl, hs]) rfl rfl (ih c_41 _ (hkp.tr k_58) b_58)
    · have hs : orUp (fun p => enB σ k h s (1 <<< (nI p &&& 31)) t) (i + 1) = orUp (fun p => enB σ k h s (1 <<< (nI p &&& 31)) t) i ||| (1 <<< (nI i &&& 31)) := if_pos c_61
      refine cw_iload d_C_stands_64 rfl ?_
      refine cw_iconst (v := 1) d_C_stands_66 (by decide) ?_
      refine cw_iload d_C_stands_67 rfl ?_
      refine cw_ishl d_C_stands_69 ?_
      refine cw_ior d_C_stands_70 ?_
      refine cw_istore d_C_stands_71 rfl ?_
      refine cw_iincN (x := i) d_C_stands_73 rfl rfl ?_
      refine cw_goto 37 d_C_stands_76 (by decide) ?_
      exact cw_cast (by simp only [lset1, kl, hs]) rfl rfl (ih c_41 _ (hkp.tr k_58) b_58)
set_option maxRecDepth 100000 in
theorem c_stands {M : Mem} {σ : Sg} (hR : RC M σ) (hI : Iv σ) {x y s t : Int32} : CS u_C_stands [.ref 0, .int x, .int y, .int s, .int t] M (rC (ans_stands σ x y s t) σ M) := by
  obtain ⟨hn1, hn2, hn3⟩ := hI.n
  have hl230 : ¬ live σ 230 := by unfold live; omega
  refine cs_introF (L := [some (.ref 0), some (.int x), some (.int y), some (.int s), some (.int t), none, none, none]) (by decide +kernel) (fun ad q h => h) (fun ad => Nat.le_of_ble_eq_true rfl) ?_
  refine cw_aload_n d_C_stands_0 rfl ?_
  refine cw_iload_n d_C_stands_1 rfl ?_
  refine cw_iload_n d_C_stands_2 rfl ?_
  refine cw_iload_n d_C_stands_3 rfl ?_
  refine cw_iload d_C_stands_4 rfl ?_
  refine cw_virtP (s_C_refusal hR hI) rfl ml_C_254 so_C rfl rfl d_C_stands_6 ?_
  refine cw_istore d_C_stands_9 rfl ?_
  refine cw_iload d_C_stands_11 rfl ?_
  refine cw_if_eq 19 d_C_stands_13 (by decide) (fun c_13 => ?_) (fun c_13 => ?_)
  · obtain ⟨hok, hbit⟩ := refS_0 c_13
    have hok2 := hok
    simp only [okPart, Bool.and_eq_true] at hok2
    obtain ⟨⟨⟨hx, hy⟩, hs⟩, ht⟩ := hok2
    obtain ⟨k, hhk, e_k⟩ := ixB_t hx (by omega)
    obtain ⟨h, hhh, e_h⟩ := ixB_t hy (by omega)
    subst e_k; subst e_h
    refine cw_aload_n d_C_stands_19 rfl ?_
    refine cw_iload_n d_C_stands_20 rfl ?_
    refine cw_aload_n d_C_stands_21 rfl ?_
    refine cw_getR fl_C_50 so_C rfl d_C_stands_22 ?_
    refine cw_getR fl_C_149 so_tr rfl d_C_stands_25 ?_
    refine cw_virtV (s_C_fillMean hR hI hs sa_tb hl230) rfl ml_C_152 so_C rfl rfl d_C_stands_28 (fun M_28 q_28 => ?_)
    subst q_28
    have hk1 : kp σ M (mRow M 230 8 (meanS σ s)) := mRow_kp hl230
    have hR1 := hR.kp hI hk1
    have hb1 : ∀ p, p < 8 → mG (mRow M 230 8 (meanS σ s)) 230 p = meanS σ s p := fun p hp => mRow_in hp
    refine cw_iconst (v := 0) d_C_stands_31 (by decide) ?_
    refine cw_istore d_C_stands_32 rfl ?_
    refine cw_iconst (v := 0) d_C_stands_34 (by decide) ?_
    refine cw_istore d_C_stands_35 rfl ?_
    have hfin := l_C_stands hR1 hI (k := k) (h := h) (s := s) (t := t) (by omega) (by omega) 0 (by omega) _ kp.rf hb1
    have hans : ans_stands σ (nI k) (nI h) s t = orUp (fun p => enB σ k h s (1 <<< (nI p &&& 31)) t) 8 := by unfold ans_stands; rw [if_pos c_13, ix_nI (show k < 2 ^ 31 by omega), ix_nI (show h < 2 ^ 31 by omega)]
    rw [hans]
    refine cw_post (fun v M2 hq => ?_) (cw_cast (by simp only [lset1, kl, c_13]; rfl) rfl rfl hfin)
    obtain ⟨r, hv, hr, hk2⟩ := hq
    exact ⟨r, hv, hr, hR.kp hI (hk1.tr hk2), (hk1.tr hk2).kC⟩
  · refine cw_iload d_C_stands_16 rfl ?_
    refine cw_iret rfl d_C_stands_18 ?_
    exact ⟨by unfold ans_stands; rw [if_neg c_13], hR, kC.rf⟩
