/-! ===== the class: scores, names ===== -/
theorem wg_c {l1 m1 p1 l2 m2 p2 : Nat → Int32} (h1 : ∀ p, p < 8 → l1 p = l2 p) (h2 : ∀ p, p < 8 → m1 p = m2 p) (h3 : ∀ p, p < 8 → p1 p = p2 p) : wgX l1 m1 p1 = wgX l2 m2 p2 ∧ wgY l1 m1 p1 = wgY l2 m2 p2 := by
  have e1 : sumUpJ (wgA l1 m1 p1) 8 = sumUpJ (wgA l2 m2 p2) 8 := sumUpJ_congr (fun p hp => by unfold wgA; rw [h1 p hp, h2 p hp, h3 p hp])
  have e2 : sumUpJ (wgB l1 m1 p1) 8 = sumUpJ (wgB l2 m2 p2) 8 := sumUpJ_congr (fun p hp => by unfold wgB; rw [h1 p hp, h2 p hp, h3 p hp])
  unfold wgX wgY
  rw [e1, e2]
  exact ⟨rfl, rfl⟩
def namUp (kb : Nat → Bool) (x y : Nat → Int64) : Nat → Int32 × Int64 × Int64
  | 0 => (-1, 0, 1)
  | h + 1 => if kb h = true ∧ abvB (x h) (y h) (namUp kb x y h).2.1 (namUp kb x y h).2.2 = true then (nI h, x h, y h) else namUp kb x y h
def nameR (ru : Int32) (kb : Nat → Bool) (ow ln mn : Nat → Int32) (pl : Nat → Nat → Int32) (n : Nat) : Int32 := if offB ru ln mn = true then -1 else (namUp kb (fun h => wgX ln ow (pl h)) (fun h => wgY ln ow (pl h)) n).1
theorem namUp_c {kb kb' : Nat → Bool} {x y x' y' : Nat → Int64} {n : Nat} (h0 : ∀ h, h < n → kb h = kb' h) (h1 : ∀ h, h < n → x h = x' h) (h2 : ∀ h, h < n → y h = y' h) : namUp kb x y n = namUp kb' x' y' n := by
  induction n with
  | zero => rfl
  | succ n ih => simp only [namUp]; rw [ih (fun h q => h0 h (by omega)) (fun h q => h1 h (by omega)) (fun h q => h2 h (by omega)), h0 n (by omega), h1 n (by omega), h2 n (by omega)]
theorem nameR_c {ru : Int32} {kb : Nat → Bool} {ow ow' ln ln' mn mn' : Nat → Int32} {pl pl' : Nat → Nat → Int32} {n : Nat} (h1 : ∀ p, p < 8 → ow p = ow' p) (h2 : ∀ p, p < 8 → ln p = ln' p) (h3 : ∀ p, p < 8 → mn p = mn' p) (h4 : ∀ h p, h < n → p < 8 → pl h p = pl' h p) : nameR ru kb ow ln mn pl n = nameR ru kb ow' ln' mn' pl' n := by
  unfold nameR
  rw [offB_c h2 h3, namUp_c (kb' := kb) (x' := fun h => wgX ln' ow' (pl' h)) (y' := fun h => wgY ln' ow' (pl' h)) (fun _ _ => rfl) (fun h hh => (wg_c h2 h1 (fun p hp => h4 h p hh hp)).1) (fun h hh => (wg_c h2 h1 (fun p hp => h4 h p hh hp)).2)]
theorem namUp_in (kb : Nat → Bool) (x y : Nat → Int64) (n : Nat) : (namUp kb x y n).1 = -1 ∨ ∃ j, j < n ∧ kb j = true ∧ (namUp kb x y n).1 = nI j := by
  induction n with
  | zero => exact Or.inl rfl
  | succ n ih =>
    simp only [namUp]
    split
    · rename_i q
      exact Or.inr ⟨n, by omega, q.1, rfl⟩
    · exact ih.imp id (fun ⟨j, h1, h2, h3⟩ => ⟨j, by omega, h2, h3⟩)
theorem nameR_in (ru : Int32) (kb : Nat → Bool) (ow ln mn : Nat → Int32) (pl : Nat → Nat → Int32) (n : Nat) : nameR ru kb ow ln mn pl n = -1 ∨ ∃ j, j < n ∧ kb j = true ∧ nameR ru kb ow ln mn pl n = nI j := by
  unfold nameR
  split
  · exact Or.inl rfl
  · exact namUp_in _ _ _ _
/-- only the two fractions have changed -/
def kF (M M2 : Mem) : Prop := M2.1 = M.1 ∧ ∀ k, k ≠ 8 → k ≠ 9 → M2.2 k = M.2 k
theorem kF.rf {M : Mem} : kF M M := ⟨rfl, fun _ _ _ => rfl⟩
theorem kF.tr {M1 M2 M3 : Mem} (h1 : kF M1 M2) (h2 : kF M2 M3) : kF M1 M3 := ⟨h2.1.trans h1.1, fun k a b => (h2.2 k a b).trans (h1.2 k a b)⟩
theorem kF_kp {σ : Sg} {M M2 : Mem} (h : kF M M2) : kp σ M M2 := fun k hk => ⟨by rw [h.1], h.2 k (fun e => by subst e; unfold live at hk; omega) (fun e => by subst e; unfold live at hk; omega)⟩
theorem kF_m {M M2 : Mem} (h : kF M M2) (k : Nat) : mG M2 k = mG M k := by funext j; unfold mG; rw [h.1]
theorem kF_j {M : Mem} {a : Nat} {x y : Int64} (h : a = 8 ∨ a = 9) : kF M (jS2 M a x y) := ⟨rfl, fun k h1 h2 => by funext b; simp [jS2, jS, show ¬ k = a by omega]⟩
theorem jS2_0 {M : Mem} {a : Nat} {x y : Int64} : jG (jS2 M a x y) a 0 = x := by simp [jS2, jS, jG]
theorem jS2_1 {M : Mem} {a : Nat} {x y : Int64} : jG (jS2 M a x y) a 1 = y := by simp [jS2, jS, jG]
theorem jS2_o {M : Mem} {a k j : Nat} {x y : Int64} (h : k ≠ a) : jG (jS2 M a x y) k j = jG M k j := by simp [jS2, jS, jG, h]
set_option maxRecDepth 100000 in
theorem l_C_nameFor {M : Mem} {k d n : Nat} (hk : k < 4) (hd : d < 31) (hn : mG M 0 5 = nI n) (hn8 : n ≤ 8) (hoff : offB (mG M 0 8) (mG M (300 + d)) (mG M (200 + d)) = false)  : ∀ i, i ≤ n → ∀ (M' : Mem), kF M M' → jG M' 9 0 = (namUp (bit (mG M (60 + k) 1)) (fun h => wgX (mG M (300 + d)) (mG M (70 + k)) (mG M (20 + h))) (fun h => wgY (mG M (300 + d)) (mG M (70 + k)) (mG M (20 + h))) i).2.1 → jG M' 9 1 = (namUp (bit (mG M (60 + k) 1)) (fun h => wgX (mG M (300 + d)) (mG M (70 + k)) (mG M (20 + h))) (fun h => wgY (mG M (300 + d)) (mG M (70 + k)) (mG M (20 + h))) i).2.2 → CW u_C_nameFor (retI (fun r M2 => r = nameR (mG M 0 8) (bit (mG M (60 + k) 1)) (mG M (70 + k)) (mG M (300 + d)) (mG M (200 + d)) (fun h => mG M (20 + h)) n ∧ kF M M2)) 27 [some (.ref 0), some (.ref (60 + k)), some (.ref (100 + d)), some (.int (namUp (bit (mG M (60 + k) 1)) (fun h => wgX (mG M (300 + d)) (mG M (70 + k)) (mG M (20 + h))) (fun h => wgY (mG M (300 + d)) (mG M (70 + k)) (mG M (20 + h))) i).1), some (.int (nI i))] [] M' := by
  refine up_ind (fun i hi ih M' hF g0 g1 => ?_)
  refine cw_iload d_C_nameFor_27 rfl ?_
  refine cw_aload_n d_C_nameFor_29 rfl ?_
  refine cw_getI fl_C_75 so_C rfl d_C_nameFor_30 ?_
  refine cw_icmp_geN (i) (n) 105 rfl ((congrFun (kF_m hF 0) 5).trans hn) (by omega) d_C_nameFor_33 (by decide) (fun c_33 => ?_) (fun c_33 => ?_)
  · refine cw_iload_n d_C_nameFor_105 rfl ?_
    refine cw_iret rfl d_C_nameFor_106 ?_
    have ei : i = n := by omega
    subst ei
    exact ⟨by unfold nameR; rw [if_neg (by rw [hoff]; decide)], hF⟩
  · refine cw_aload_n d_C_nameFor_36 rfl ?_
    refine cw_iload d_C_nameFor_37 rfl ?_
    refine cw_virtP (s_Kn_knows (M := M') (k := k) (h := i) hk) rfl ml_C_223 (so_Kn (h := k) (by omega)) rfl rfl d_C_nameFor_39 ?_
    refine cw_top (y := b2 (bit (mG M (60 + k) 1) i)) (by rw [kF_m hF]) ?_
    refine cw_bif_eq 99 d_C_nameFor_42 (by decide) (fun c_42 => ?_) (fun c_42 => ?_)
    · have hs : namUp (bit (mG M (60 + k) 1)) (fun h => wgX (mG M (300 + d)) (mG M (70 + k)) (mG M (20 + h))) (fun h => wgY (mG M (300 + d)) (mG M (70 + k)) (mG M (20 + h))) (i + 1) = namUp (bit (mG M (60 + k) 1)) (fun h => wgX (mG M (300 + d)) (mG M (70 + k)) (mG M (20 + h))) (fun h => wgY (mG M (300 + d)) (mG M (70 + k)) (mG M (20 + h))) i := if_neg (fun q => by rw [c_42] at q; exact absurd q.1 (by decide))
      refine cw_iincN (x := i) d_C_nameFor_99 rfl rfl ?_
      refine cw_goto 27 d_C_nameFor_102 (by decide) ?_
      exact cw_cast (by simp only [lset1, kl, hs]) rfl rfl (ih c_33 _ hF (by rw [hs]; exact g0) (by rw [hs]; exact g1))
    · refine cw_aload_n d_C_nameFor_45 rfl ?_
      refine cw_aload_n d_C_nameFor_46 rfl ?_
      refine cw_aload_n d_C_nameFor_47 rfl ?_
      refine cw_getR fl_C_11 so_C rfl d_C_nameFor_48 ?_
      refine cw_iload d_C_nameFor_51 rfl ?_
      refine cw_aaldN (i := i) sr_1 rfl (by omega) (by decide) d_C_nameFor_53 ?_
      refine cw_aload_n d_C_nameFor_54 rfl ?_
      refine cw_getR fl_C_64 so_C rfl d_C_nameFor_55 ?_
      refine cw_virtV (s_Kn_weigh (M := M') (k := k) (d := d) (h := i) (a := 8) hk hd (by omega) so_fr) rfl ml_C_228 (so_Kn (h := k) (by omega)) rfl rfl d_C_nameFor_58 (fun M_58 q_58 => ?_)
      rw [kF_m hF, kF_m hF, kF_m hF] at q_58
      subst q_58
      have hF2 := hF.tr (kF_j (M := M') (x := (fun h => wgX (mG M (300 + d)) (mG M (70 + k)) (mG M (20 + h))) i) (y := (fun h => wgY (mG M (300 + d)) (mG M (70 + k)) (mG M (20 + h))) i) (Or.inl rfl))
      refine cw_aload_n d_C_nameFor_61 rfl ?_
      refine cw_getR fl_C_64 so_C rfl d_C_nameFor_62 ?_
      refine cw_aload_n d_C_nameFor_65 rfl ?_
      refine cw_getR fl_C_68 so_C rfl d_C_nameFor_66 ?_
      refine cw_virtP (s_Fr_isAbove so_fr so_gr) rfl ml_C_343 so_fr rfl rfl d_C_nameFor_69 ?_
      refine cw_bif_eq 99 d_C_nameFor_72 (by decide) (fun c_72 => ?_) (fun c_72 => ?_)
      · rw [jS2_0, jS2_1, jS2_o (by omega), jS2_o (by omega), g0, g1] at c_72
        have hs : namUp (bit (mG M (60 + k) 1)) (fun h => wgX (mG M (300 + d)) (mG M (70 + k)) (mG M (20 + h))) (fun h => wgY (mG M (300 + d)) (mG M (70 + k)) (mG M (20 + h))) (i + 1) = namUp (bit (mG M (60 + k) 1)) (fun h => wgX (mG M (300 + d)) (mG M (70 + k)) (mG M (20 + h))) (fun h => wgY (mG M (300 + d)) (mG M (70 + k)) (mG M (20 + h))) i := if_neg (fun q => absurd (c_72.symm.trans q.2) (by decide))
        refine cw_iincN (x := i) d_C_nameFor_99 rfl rfl ?_
        refine cw_goto 27 d_C_nameFor_102 (by decide) ?_
        exact cw_cast (by simp only [lset1, kl, hs]) rfl rfl (ih c_33 _ hF2 (by rw [hs]; exact (jS2_o (by omega)).trans g0) (by rw [hs]; exact (jS2_o (by omega)).trans g1))
      · rw [jS2_0, jS2_1, jS2_o (by omega), jS2_o (by omega), g0, g1] at c_72
        have hs : namUp (bit (mG M (60 + k) 1)) (fun h => wgX (mG M (300 + d)) (mG M (70 + k)) (mG M (20 + h))) (fun h => wgY (mG M (300 + d)) (mG M (70 + k)) (mG M (20 + h))) (i + 1) = (nI i, (fun h => wgX (mG M (300 + d)) (mG M (70 + k)) (mG M (20 + h))) i, (fun h => wgY (mG M (300 + d)) (mG M (70 + k)) (mG M (20 + h))) i) := if_pos ⟨c_42, c_72⟩
        refine cw_aload_n d_C_nameFor_75 rfl ?_
        refine cw_getR fl_C_68 so_C rfl d_C_nameFor_76 ?_
        refine cw_aload_n d_C_nameFor_79 rfl ?_
        refine cw_getR fl_C_64 so_C rfl d_C_nameFor_80 ?_
        refine cw_getJ fl_C_347 so_fr rfl d_C_nameFor_83 ?_
        refine cw_aload_n d_C_nameFor_86 rfl ?_
        refine cw_getR fl_C_64 so_C rfl d_C_nameFor_87 ?_
        refine cw_getJ fl_C_351 so_fr rfl d_C_nameFor_90 ?_
        refine cw_virtV (s_Fr_become so_gr) rfl ml_C_270 so_gr rfl rfl d_C_nameFor_93 (fun M_93 q_93 => ?_)
        subst q_93
        refine cw_iload d_C_nameFor_96 rfl ?_
        refine cw_istore_n d_C_nameFor_98 rfl ?_
        refine cw_iincN (x := i) d_C_nameFor_99 rfl rfl ?_
        refine cw_goto 27 d_C_nameFor_102 (by decide) ?_
        exact cw_cast (by simp only [lset1, kl, hs]) rfl rfl (ih c_33 _ (hF2.tr (kF_j (Or.inr rfl))) (by rw [hs]; exact jS2_0.trans jS2_0) (by rw [hs]; exact jS2_1.trans jS2_1))
set_option maxRecDepth 100000 in
theorem s_C_nameFor {M : Mem} {k d n : Nat} (hk : k < 4) (hd : d < 31) (hn : mG M 0 5 = nI n) (hn8 : n ≤ 8)  : CS u_C_nameFor [.ref 0, .ref (60 + k), .ref (100 + d)] M (retI (fun r M2 => r = nameR (mG M 0 8) (bit (mG M (60 + k) 1)) (mG M (70 + k)) (mG M (300 + d)) (mG M (200 + d)) (fun h => mG M (20 + h)) n ∧ kF M M2)) := by
  refine cs_introF (L := [some (.ref 0), some (.ref (60 + k)), some (.ref (100 + d)), none, none]) (by decide +kernel) (fun ad q h => h) (fun ad => Nat.le_of_ble_eq_true rfl) ?_
  refine cw_iconst (v := (-1)) d_C_nameFor_0 (by decide) ?_
  refine cw_istore_n d_C_nameFor_1 rfl ?_
  refine cw_aload_n d_C_nameFor_2 rfl ?_
  refine cw_aload_n d_C_nameFor_3 rfl ?_
  refine cw_getI fl_C_39 so_C rfl d_C_nameFor_4 ?_
  refine cw_virtP (s_Sk_off hd) rfl ml_C_188 (so_Sk (d := d) (by omega)) rfl rfl d_C_nameFor_7 ?_
  refine cw_bif_eq 15 d_C_nameFor_10 (by decide) (fun c_10 => ?_) (fun c_10 => ?_)
  · refine cw_aload_n d_C_nameFor_15 rfl ?_
    refine cw_getR fl_C_68 so_C rfl d_C_nameFor_16 ?_
    refine cw_lconst (v := 0) d_C_nameFor_19 (by decide) ?_
    refine cw_lconst (v := 1) d_C_nameFor_20 (by decide) ?_
    refine cw_virtV (s_Fr_become so_gr) rfl ml_C_270 so_gr rfl rfl d_C_nameFor_21 (fun M_21 q_21 => ?_)
    subst q_21
    refine cw_iconst (v := 0) d_C_nameFor_24 (by decide) ?_
    refine cw_istore d_C_nameFor_25 rfl ?_
    exact l_C_nameFor hk hd hn hn8 c_10 0 (by omega) _ (kF_j (Or.inr rfl)) jS2_0 jS2_1
  · refine cw_iload_n d_C_nameFor_13 rfl ?_
    refine cw_iret rfl d_C_nameFor_14 ?_
    exact ⟨by unfold nameR; rw [if_pos c_10], kF.rf⟩
def marUp (kb : Nat → Bool) (c : Nat → Int64) (m : Nat) : Nat → Int64 × Int64
  | 0 => (0, 0)
  | h + 1 => if kb h = true then (if h = m then (c h, (marUp kb c m h).2) else ((marUp kb c m h).1, if (marUp kb c m h).2 < c h then c h else (marUp kb c m h).2)) else marUp kb c m h
def marR (kb : Nat → Bool) (ow ln : Nat → Int32) (pl : Nat → Nat → Int32) (n m : Nat) : Int32 := ((marUp kb (fun h => cutJ (wgX ln ow (pl h)) (wgY ln ow (pl h))) m n).1 - (marUp kb (fun h => cutJ (wgX ln ow (pl h)) (wgY ln ow (pl h))) m n).2).toInt32
theorem marUp_c {kb kb' : Nat → Bool} {c c' : Nat → Int64} {m n : Nat} (h0 : ∀ h, h < n → kb h = kb' h) (h1 : ∀ h, h < n → c h = c' h) : marUp kb c m n = marUp kb' c' m n := by
  induction n with
  | zero => rfl
  | succ n ih => simp only [marUp]; rw [ih (fun h q => h0 h (by omega)) (fun h q => h1 h (by omega)), h0 n (by omega), h1 n (by omega)]
theorem marR_c {kb : Nat → Bool} {ow ow' ln ln' : Nat → Int32} {pl pl' : Nat → Nat → Int32} {n m : Nat} (h1 : ∀ p, p < 8 → ow p = ow' p) (h2 : ∀ p, p < 8 → ln p = ln' p) (h4 : ∀ h p, h < n → p < 8 → pl h p = pl' h p) : marR kb ow ln pl n m = marR kb ow' ln' pl' n m := by
  unfold marR
  rw [marUp_c (kb' := kb) (c' := fun h => cutJ (wgX ln' ow' (pl' h)) (wgY ln' ow' (pl' h))) (fun _ _ => rfl) (fun h hh => by rw [(wg_c h2 h1 (fun p hp => h4 h p hh hp)).1, (wg_c h2 h1 (fun p hp => h4 h p hh hp)).2])]
set_option maxRecDepth 100000 in
theorem l_C_marginOf {M : Mem} {k d n m : Nat} (hk : k < 4) (hd : d < 31) (hn : mG M 0 5 = nI n) (hn8 : n ≤ 8) (hm : m < 8)  : ∀ i, i ≤ n → ∀ (M' : Mem), kF M M' → CW u_C_marginOf (retI (fun r M2 => r = marR (bit (mG M (60 + k) 1)) (mG M (70 + k)) (mG M (300 + d)) (fun h => mG M (20 + h)) n m ∧ kF M M2)) 9 [some (.ref 0), some (.ref (60 + k)), some (.ref (100 + d)), some (.int (nI m)), some (.long (marUp (bit (mG M (60 + k) 1)) (fun h => cutJ (wgX (mG M (300 + d)) (mG M (70 + k)) (mG M (20 + h))) (wgY (mG M (300 + d)) (mG M (70 + k)) (mG M (20 + h)))) m i).1), none, some (.long (marUp (bit (mG M (60 + k) 1)) (fun h => cutJ (wgX (mG M (300 + d)) (mG M (70 + k)) (mG M (20 + h))) (wgY (mG M (300 + d)) (mG M (70 + k)) (mG M (20 + h)))) m i).2), none, some (.int (nI i))] [] M' := by
  refine up_ind (fun i hi ih M' hF => ?_)
  refine cw_iload d_C_marginOf_9 rfl ?_
  refine cw_aload_n d_C_marginOf_11 rfl ?_
  refine cw_getI fl_C_75 so_C rfl d_C_marginOf_12 ?_
  refine cw_icmp_geN (i) (n) 81 rfl ((congrFun (kF_m hF 0) 5).trans hn) (by omega) d_C_marginOf_15 (by decide) (fun c_15 => ?_) (fun c_15 => ?_)
  · refine cw_lload d_C_marginOf_81 rfl ?_
    refine cw_lload d_C_marginOf_83 rfl ?_
    refine cw_lsub d_C_marginOf_85 ?_
    refine cw_l2i d_C_marginOf_86 ?_
    refine cw_iret rfl d_C_marginOf_87 ?_
    have ei : i = n := by omega
    subst ei
    exact ⟨rfl, hF⟩
  · refine cw_aload_n d_C_marginOf_18 rfl ?_
    refine cw_iload d_C_marginOf_19 rfl ?_
    refine cw_virtP (s_Kn_knows (M := M') (k := k) (h := i) hk) rfl ml_C_223 (so_Kn (h := k) (by omega)) rfl rfl d_C_marginOf_21 ?_
    refine cw_top (y := b2 (bit (mG M (60 + k) 1) i)) (by rw [kF_m hF]) ?_
    refine cw_bif_eq 75 d_C_marginOf_24 (by decide) (fun c_24 => ?_) (fun c_24 => ?_)
    · have hs : marUp (bit (mG M (60 + k) 1)) (fun h => cutJ (wgX (mG M (300 + d)) (mG M (70 + k)) (mG M (20 + h))) (wgY (mG M (300 + d)) (mG M (70 + k)) (mG M (20 + h)))) m (i + 1) = marUp (bit (mG M (60 + k) 1)) (fun h => cutJ (wgX (mG M (300 + d)) (mG M (70 + k)) (mG M (20 + h))) (wgY (mG M (300 + d)) (mG M (70 + k)) (mG M (20 + h)))) m i := if_neg (by rw [c_24]; decide)
      refine cw_iincN (x := i) d_C_marginOf_75 rfl rfl ?_
      refine cw_goto 9 d_C_marginOf_78 (by decide) ?_
      exact cw_cast (by simp only [lset1, lset2, kl, hs]) rfl rfl (ih c_15 _ hF)
    · refine cw_aload_n d_C_marginOf_27 rfl ?_
      refine cw_aload_n d_C_marginOf_28 rfl ?_
      refine cw_aload_n d_C_marginOf_29 rfl ?_
      refine cw_getR fl_C_11 so_C rfl d_C_marginOf_30 ?_
      refine cw_iload d_C_marginOf_33 rfl ?_
      refine cw_aaldN (i := i) sr_1 rfl (by omega) (by decide) d_C_marginOf_35 ?_
      refine cw_aload_n d_C_marginOf_36 rfl ?_
      refine cw_getR fl_C_64 so_C rfl d_C_marginOf_37 ?_
      refine cw_virtV (s_Kn_weigh (M := M') (k := k) (d := d) (h := i) (a := 8) hk hd (by omega) so_fr) rfl ml_C_228 (so_Kn (h := k) (by omega)) rfl rfl d_C_marginOf_40 (fun M_40 q_40 => ?_)
      rw [kF_m hF, kF_m hF, kF_m hF] at q_40
      subst q_40
      have hF2 := hF.tr (kF_j (M := M') (x := (fun h => wgX (mG M (300 + d)) (mG M (70 + k)) (mG M (20 + h))) i) (y := (fun h => wgY (mG M (300 + d)) (mG M (70 + k)) (mG M (20 + h))) i) (Or.inl rfl))
      refine cw_iload d_C_marginOf_43 rfl ?_
      refine cw_iload_n d_C_marginOf_45 rfl ?_
      refine cw_icmp_neN (i) (m) 61 rfl rfl (by omega) d_C_marginOf_46 (by decide) (fun c_46 => ?_) (fun c_46 => ?_)
      · have hs : marUp (bit (mG M (60 + k) 1)) (fun h => cutJ (wgX (mG M (300 + d)) (mG M (70 + k)) (mG M (20 + h))) (wgY (mG M (300 + d)) (mG M (70 + k)) (mG M (20 + h)))) m (i + 1) = _ := (if_pos c_24).trans (if_neg c_46)
        refine cw_lload d_C_marginOf_61 rfl ?_
        refine cw_aload_n d_C_marginOf_63 rfl ?_
        refine cw_getR fl_C_64 so_C rfl d_C_marginOf_64 ?_
        refine cw_virtPJ (s_Fr_cut so_fr) rfl ml_C_354 so_fr rfl rfl d_C_marginOf_67 ?_
        refine cw_topJ (y := (fun h => cutJ (wgX (mG M (300 + d)) (mG M (70 + k)) (mG M (20 + h))) (wgY (mG M (300 + d)) (mG M (70 + k)) (mG M (20 + h)))) i) (by rw [jS2_0, jS2_1]) ?_
        refine cw_staticPJ (s_J_max_JJ) rfl ml_C_358 rfl rfl d_C_marginOf_70 ?_
        refine cw_lstore d_C_marginOf_73 rfl ?_
        refine cw_iincN (x := i) d_C_marginOf_75 rfl rfl ?_
        refine cw_goto 9 d_C_marginOf_78 (by decide) ?_
        exact cw_cast (by simp only [lset1, lset2, kl, hs]) rfl rfl (ih c_15 _ hF2)
      · have hs : marUp (bit (mG M (60 + k) 1)) (fun h => cutJ (wgX (mG M (300 + d)) (mG M (70 + k)) (mG M (20 + h))) (wgY (mG M (300 + d)) (mG M (70 + k)) (mG M (20 + h)))) m (i + 1) = _ := (if_pos c_24).trans (if_pos c_46)
        refine cw_aload_n d_C_marginOf_49 rfl ?_
        refine cw_getR fl_C_64 so_C rfl d_C_marginOf_50 ?_
        refine cw_virtPJ (s_Fr_cut so_fr) rfl ml_C_354 so_fr rfl rfl d_C_marginOf_53 ?_
        refine cw_topJ (y := (fun h => cutJ (wgX (mG M (300 + d)) (mG M (70 + k)) (mG M (20 + h))) (wgY (mG M (300 + d)) (mG M (70 + k)) (mG M (20 + h)))) i) (by rw [jS2_0, jS2_1]) ?_
        refine cw_lstore d_C_marginOf_56 rfl ?_
        refine cw_goto 75 d_C_marginOf_58 (by decide) ?_
        refine cw_iincN (x := i) d_C_marginOf_75 rfl rfl ?_
        refine cw_goto 9 d_C_marginOf_78 (by decide) ?_
        exact cw_cast (by simp only [lset1, lset2, kl, hs]) rfl rfl (ih c_15 _ hF2)
set_option maxRecDepth 100000 in
theorem s_C_marginOf {M : Mem} {k d n m : Nat} (hk : k < 4) (hd : d < 31) (hn : mG M 0 5 = nI n) (hn8 : n ≤ 8) (hm : m < 8)  : CS u_C_marginOf [.ref 0, .ref (60 + k), .ref (100 + d), .int (nI m)] M (retI (fun r M2 => r = marR (bit (mG M (60 + k) 1)) (mG M (70 + k)) (mG M (300 + d)) (fun h => mG M (20 + h)) n m ∧ kF M M2)) := by
  refine cs_introF (L := [some (.ref 0), some (.ref (60 + k)), some (.ref (100 + d)), some (.int (nI m)), none, none, none, none, none]) (by decide +kernel) (fun ad q h => h) (fun ad => Nat.le_of_ble_eq_true rfl) ?_
  refine cw_lconst (v := 0) d_C_marginOf_0 (by decide) ?_
  refine cw_lstore d_C_marginOf_1 rfl ?_
  refine cw_lconst (v := 0) d_C_marginOf_3 (by decide) ?_
  refine cw_lstore d_C_marginOf_4 rfl ?_
  refine cw_iconst (v := 0) d_C_marginOf_6 (by decide) ?_
  refine cw_istore d_C_marginOf_7 rfl ?_
  exact l_C_marginOf hk hd hn hn8 hm 0 (by omega) _ kF.rf
def ans_score (σ : Sg) (k d h w : Int32) : Int64 := if (ixB k σ.1.2.2 && ixB d σ.1.2.1 && ixB h σ.1.1 && ixB w 2) = true then (if bit (σ.2 11 (ix k) 0) (ix h) = true then finJ (wgX (σ.2 9 (ix d)) (σ.2 12 (ix k)) (σ.2 1 (ix h))) (wgY (σ.2 9 (ix d)) (σ.2 12 (ix k)) (σ.2 1 (ix h))) w (gcdJ 100 (absJ (wgX (σ.2 9 (ix d)) (σ.2 12 (ix k)) (σ.2 1 (ix h)))) (wgY (σ.2 9 (ix d)) (σ.2 12 (ix k)) (σ.2 1 (ix h)))) else -9223372036854775805) else -9223372036854775806
theorem wg_RC {M : Mem} {σ : Sg} (hR : RC M σ) (hI : Iv σ) {k d h : Nat} (hk : k < σ.1.2.2) (hd : d < σ.1.2.1) (hh : h < σ.1.1) : wgX (mG M (300 + d)) (mG M (70 + k)) (mG M (20 + h)) = wgX (σ.2 9 d) (σ.2 12 k) (σ.2 1 h) ∧ wgY (mG M (300 + d)) (mG M (70 + k)) (mG M (20 + h)) = wgY (σ.2 9 d) (σ.2 12 k) (σ.2 1 h) := wg_c (fun p hp => hR.li hd hp) (fun p hp => hR.ow hk hp) (fun p hp => hR.pl (by have := hI.1; omega) hp)
theorem ixB_1 {x : Int32} (h0 : ¬ x < 0) (h : x ≤ 1) : ixB x 2 = true := ixB_le (n := 1) h0 h (by decide)
theorem ixB_2 {x : Int32} (h : ¬ x ≤ 1) : ixB x 2 = false := ixB_gt (n := 1) h (by decide)
set_option maxRecDepth 100000 in
theorem c_score {M : Mem} {σ : Sg} (hR : RC M σ) (hI : Iv σ) {x y z w : Int32} : CS u_C_score [.ref 0, .int x, .int y, .int z, .int w] M (rCJ (ans_score σ x y z w) σ M) := by
  obtain ⟨hn1, hn2, hn3⟩ := hI.n
  refine cs_introF (L := [some (.ref 0), some (.int x), some (.int y), some (.int z), some (.int w)]) (by decide +kernel) (fun ad q h => h) (fun ad => Nat.le_of_ble_eq_true rfl) ?_
  refine cw_aload_n d_C_score_0 rfl ?_
  refine cw_iload_n d_C_score_1 rfl ?_
  refine cw_virtP (s_C_isKnower hR hI) rfl ml_C_214 so_C rfl rfl d_C_score_2 ?_
  refine cw_bif_eq 35 d_C_score_5 (by decide) (fun c_5 => ?_) (fun c_5 => ?_)
  · refine cw_ldc2_w kc_C_221 d_C_score_35 ?_
    refine cw_lret rfl d_C_score_38 ?_
    exact ⟨by simp [ans_score, c_5], hR, kC.rf⟩
  · obtain ⟨k, hhk, e_k⟩ := ixB_t c_5 (by omega)
    subst e_k
    refine cw_aload_n d_C_score_8 rfl ?_
    refine cw_iload_n d_C_score_9 rfl ?_
    refine cw_virtP (s_C_isDrawing hR hI) rfl ml_C_176 so_C rfl rfl d_C_score_10 ?_
    refine cw_bif_eq 35 d_C_score_13 (by decide) (fun c_13 => ?_) (fun c_13 => ?_)
    · refine cw_ldc2_w kc_C_221 d_C_score_35 ?_
      refine cw_lret rfl d_C_score_38 ?_
      exact ⟨by simp [ans_score, c_5, c_13], hR, kC.rf⟩
    · obtain ⟨d, hhd, e_d⟩ := ixB_t c_13 (by omega)
      subst e_d
      refine cw_aload_n d_C_score_16 rfl ?_
      refine cw_iload_n d_C_score_17 rfl ?_
      refine cw_virtP (s_C_isHead hR hI) rfl ml_C_78 so_C rfl rfl d_C_score_18 ?_
      refine cw_bif_eq 35 d_C_score_21 (by decide) (fun c_21 => ?_) (fun c_21 => ?_)
      · refine cw_ldc2_w kc_C_221 d_C_score_35 ?_
        refine cw_lret rfl d_C_score_38 ?_
        exact ⟨by simp [ans_score, c_5, c_13, c_21], hR, kC.rf⟩
      · obtain ⟨h, hhh, e_h⟩ := ixB_t c_21 (by omega)
        subst e_h
        refine cw_iload d_C_score_24 rfl ?_
        refine cw_if_lt 35 d_C_score_26 (by decide) (fun c_26 => ?_) (fun c_26 => ?_)
        · have hb : ixB w 2 = false := ixB_lt c_26
          refine cw_ldc2_w kc_C_221 d_C_score_35 ?_
          refine cw_lret rfl d_C_score_38 ?_
          exact ⟨by simp [ans_score, c_5, c_13, c_21, hb], hR, kC.rf⟩
        · refine cw_iload d_C_score_29 rfl ?_
          refine cw_iconst (v := 1) d_C_score_31 (by decide) ?_
          refine cw_icmp_le 39 d_C_score_32 (by decide) (fun c_32 => ?_) (fun c_32 => ?_)
          · have hb : ixB w 2 = true := ixB_le (n := 1) c_26 c_32 (by decide)
            refine cw_aload_n d_C_score_39 rfl ?_
            refine cw_getR fl_C_29 so_C rfl d_C_score_40 ?_
            refine cw_iload_n d_C_score_43 rfl ?_
            refine cw_aaldN (i := k) sr_4 rfl (by omega) (by decide) d_C_score_44 ?_
            refine cw_iload_n d_C_score_45 rfl ?_
            refine cw_virtP (s_Kn_knows (k := k) (h := h) (by omega)) rfl ml_C_223 (so_Kn (h := k) (by omega)) rfl rfl d_C_score_46 ?_
            refine cw_bif_ne 56 d_C_score_49 (by decide) (fun c_49 => ?_) (fun c_49 => ?_)
            · rw [hR.kk (by omega)] at c_49
              refine cw_aload_n d_C_score_56 rfl ?_
              refine cw_getR fl_C_29 so_C rfl d_C_score_57 ?_
              refine cw_iload_n d_C_score_60 rfl ?_
              refine cw_aaldN (i := k) sr_4 rfl (by omega) (by decide) d_C_score_61 ?_
              refine cw_aload_n d_C_score_62 rfl ?_
              refine cw_getR fl_C_23 so_C rfl d_C_score_63 ?_
              refine cw_iload_n d_C_score_66 rfl ?_
              refine cw_aaldN (i := d) sr_3 rfl (by omega) (by decide) d_C_score_67 ?_
              refine cw_aload_n d_C_score_68 rfl ?_
              refine cw_getR fl_C_11 so_C rfl d_C_score_69 ?_
              refine cw_iload_n d_C_score_72 rfl ?_
              refine cw_aaldN (i := h) sr_1 rfl (by omega) (by decide) d_C_score_73 ?_
              refine cw_aload_n d_C_score_74 rfl ?_
              refine cw_getR fl_C_64 so_C rfl d_C_score_75 ?_
              refine cw_virtV (s_Kn_weigh (k := k) (d := d) (h := h) (a := 8) (by omega) (by omega) (by omega) so_fr) rfl ml_C_228 (so_Kn (h := k) (by omega)) rfl rfl d_C_score_78 (fun M_78 q_78 => ?_)
              rw [(wg_RC hR hI (k := k) (d := d) (h := h) (by omega) (by omega) (by omega)).1, (wg_RC hR hI (k := k) (d := d) (h := h) (by omega) (by omega) (by omega)).2] at q_78
              subst q_78
              refine cw_aload_n d_C_score_81 rfl ?_
              refine cw_getR fl_C_64 so_C rfl d_C_score_82 ?_
              refine cw_iload d_C_score_85 rfl ?_
              refine cw_virtPJ (s_Fr_told so_fr) rfl ml_C_232 so_fr rfl rfl d_C_score_87 ?_
              refine cw_lret rfl d_C_score_90 ?_
              exact ⟨by simp [ans_score, c_5, c_13, c_21, hb, ix_nI (show k < 2 ^ 31 by omega), ix_nI (show d < 2 ^ 31 by omega), ix_nI (show h < 2 ^ 31 by omega), c_49, jS2_0, jS2_1], hR.kp hI (kF_kp (kF_j (Or.inl rfl))), (kF_kp (σ := σ) (kF_j (Or.inl rfl))).kC⟩
            · rw [hR.kk (by omega)] at c_49
              refine cw_ldc2_w kc_C_226 d_C_score_52 ?_
              refine cw_lret rfl d_C_score_55 ?_
              exact ⟨by simp [ans_score, c_5, c_13, c_21, hb, ix_nI (show k < 2 ^ 31 by omega), ix_nI (show d < 2 ^ 31 by omega), ix_nI (show h < 2 ^ 31 by omega), c_49], hR, kC.rf⟩
          · have hb : ixB w 2 = false := ixB_gt (n := 1) c_32 (by decide)
            refine cw_ldc2_w kc_C_221 d_C_score_35 ?_
            refine cw_lret rfl d_C_score_38 ?_
            exact ⟨by simp [ans_score, c_5, c_13, c_21, hb], hR, kC.rf⟩
def nameS (σ : Sg) (k : Nat) (ln mn : Nat → Int32) : Int32 := nameR (σ.2 4 0 0) (bit (σ.2 11 k 0)) (σ.2 12 k) ln mn (σ.2 1) σ.1.1
def marS (σ : Sg) (k : Nat) (ln : Nat → Int32) (m : Nat) : Int32 := marR (bit (σ.2 11 k 0)) (σ.2 12 k) ln (σ.2 1) σ.1.1 m
def ans_named (σ : Sg) (k d w : Int32) : Int32 := if (ixB k σ.1.2.2 && ixB d σ.1.2.1 && ixB w 2) = true then (if w = 0 then nameS σ (ix k) (σ.2 9 (ix d)) (σ.2 10 (ix d)) else if nameS σ (ix k) (σ.2 9 (ix d)) (σ.2 10 (ix d)) = -1 then -3 else marS σ (ix k) (σ.2 9 (ix d)) (ix (nameS σ (ix k) (σ.2 9 (ix d)) (σ.2 10 (ix d))))) else -2
theorem s_C_nameS {M : Mem} {σ : Sg} (hR : RC M σ) (hI : Iv σ) {k d : Nat} {ln mn : Nat → Int32} (hk : k < σ.1.2.2) (hd : d < 31) (h1 : ∀ p, p < 8 → mG M (300 + d) p = ln p) (h2 : ∀ p, p < 8 → mG M (200 + d) p = mn p) : CS u_C_nameFor [.ref 0, .ref (60 + k), .ref (100 + d)] M (retI (fun r M2 => r = nameS σ k ln mn ∧ kF M M2)) := by
  obtain ⟨hn1, hn2, hn3⟩ := hI.n
  have h := s_C_nameFor (M := M) (k := k) (d := d) (by omega) hd hR.n1 hn1
  rw [hR.ru, hR.kk hk, nameR_c (ow' := σ.2 12 k) (ln' := ln) (mn' := mn) (pl' := σ.2 1) (fun p hp => hR.ow hk hp) h1 h2 (fun z p hz hp => hR.pl (by omega) hp)] at h
  exact h
theorem s_C_marS {M : Mem} {σ : Sg} (hR : RC M σ) (hI : Iv σ) {k d m : Nat} {ln : Nat → Int32} (hk : k < σ.1.2.2) (hd : d < 31) (hm : m < 8) (h1 : ∀ p, p < 8 → mG M (300 + d) p = ln p) : CS u_C_marginOf [.ref 0, .ref (60 + k), .ref (100 + d), .int (nI m)] M (retI (fun r M2 => r = marS σ k ln m ∧ kF M M2)) := by
  obtain ⟨hn1, hn2, hn3⟩ := hI.n
  have h := s_C_marginOf (M := M) (k := k) (d := d) (m := m) (by omega) hd hR.n1 hn1 hm
  rw [hR.kk hk, marR_c (ow' := σ.2 12 k) (ln' := ln) (pl' := σ.2 1) (fun p hp => hR.ow hk hp) h1 (fun z p hz hp => hR.pl (by omega) hp)] at h
  exact h
set_option maxRecDepth 100000 in
theorem c_named {M : Mem} {σ : Sg} (hR : RC M σ) (hI : Iv σ) {x y w : Int32} : CS u_C_named [.ref 0, .int x, .int y, .int w] M (rC (ans_named σ x y w) σ M) := by
  obtain ⟨hn1, hn2, hn3⟩ := hI.n
  refine cs_introF (L := [some (.ref 0), some (.int x), some (.int y), some (.int w), none]) (by decide +kernel) (fun ad q h => h) (fun ad => Nat.le_of_ble_eq_true rfl) ?_
  refine cw_aload_n d_C_named_0 rfl ?_
  refine cw_iload_n d_C_named_1 rfl ?_
  refine cw_virtP (s_C_isKnower hR hI) rfl ml_C_214 so_C rfl rfl d_C_named_2 ?_
  refine cw_bif_eq 25 d_C_named_5 (by decide) (fun c_5 => ?_) (fun c_5 => ?_)
  · refine cw_bipush (v := (-2)) d_C_named_25 (by decide) ?_
    refine cw_iret rfl d_C_named_27 ?_
    exact ⟨by simp [ans_named, c_5], hR, kC.rf⟩
  · obtain ⟨k, hhk, e_k⟩ := ixB_t c_5 (by omega)
    subst e_k
    refine cw_aload_n d_C_named_8 rfl ?_
    refine cw_iload_n d_C_named_9 rfl ?_
    refine cw_virtP (s_C_isDrawing hR hI) rfl ml_C_176 so_C rfl rfl d_C_named_10 ?_
    refine cw_bif_eq 25 d_C_named_13 (by decide) (fun c_13 => ?_) (fun c_13 => ?_)
    · refine cw_bipush (v := (-2)) d_C_named_25 (by decide) ?_
      refine cw_iret rfl d_C_named_27 ?_
      exact ⟨by simp [ans_named, c_5, c_13], hR, kC.rf⟩
    · obtain ⟨d, hhd, e_d⟩ := ixB_t c_13 (by omega)
      subst e_d
      refine cw_iload_n d_C_named_16 rfl ?_
      refine cw_if_lt 25 d_C_named_17 (by decide) (fun c_17 => ?_) (fun c_17 => ?_)
      · have hb : ixB w 2 = false := ixB_lt c_17
        refine cw_bipush (v := (-2)) d_C_named_25 (by decide) ?_
        refine cw_iret rfl d_C_named_27 ?_
        exact ⟨by simp [ans_named, c_5, c_13, hb], hR, kC.rf⟩
      · refine cw_iload_n d_C_named_20 rfl ?_
        refine cw_iconst (v := 1) d_C_named_21 (by decide) ?_
        refine cw_icmp_le 28 d_C_named_22 (by decide) (fun c_22 => ?_) (fun c_22 => ?_)
        · have hb : ixB w 2 = true := ixB_le (n := 1) c_17 c_22 (by decide)
          refine cw_aload_n d_C_named_28 rfl ?_
          refine cw_aload_n d_C_named_29 rfl ?_
          refine cw_getR fl_C_29 so_C rfl d_C_named_30 ?_
          refine cw_iload_n d_C_named_33 rfl ?_
          refine cw_aaldN (i := k) sr_4 rfl (by omega) (by decide) d_C_named_34 ?_
          refine cw_aload_n d_C_named_35 rfl ?_
          refine cw_getR fl_C_23 so_C rfl d_C_named_36 ?_
          refine cw_iload_n d_C_named_39 rfl ?_
          refine cw_aaldN (i := d) sr_3 rfl (by omega) (by decide) d_C_named_40 ?_
          refine cw_virtI (s_C_nameS hR hI (k := k) (d := d) (ln := σ.2 9 d) (mn := σ.2 10 d) (by omega) (by omega) (fun p hp => hR.li (by omega) hp) (fun p hp => hR.me (by omega) hp)) rfl ml_C_236 so_C rfl rfl d_C_named_41 (fun r_41 M_41 q_41 => ?_)
          obtain ⟨e_41, f_41⟩ := q_41
          subst e_41
          have hR2 := hR.kp hI (kF_kp f_41)
          refine cw_istore d_C_named_44 rfl ?_
          refine cw_iload_n d_C_named_46 rfl ?_
          refine cw_if_ne 53 d_C_named_47 (by decide) (fun c_47 => ?_) (fun c_47 => ?_)
          · refine cw_iload d_C_named_53 rfl ?_
            refine cw_iconst (v := (-1)) d_C_named_55 (by decide) ?_
            refine cw_icmp_ne 64 d_C_named_56 (by decide) (fun c_56 => ?_) (fun c_56 => ?_)
            · obtain ⟨j, hj1, hj2, hj3⟩ := (nameR_in _ _ _ _ _ _ _ : nameS σ k (σ.2 9 d) (σ.2 10 d) = -1 ∨ _).resolve_left c_56
              refine cw_cast (L' := [some (.ref 0), some (.int (nI k)), some (.int (nI d)), some (.int w), some (.int (nI j))]) (by rw [← hj3]; rfl) rfl rfl ?_
              refine cw_aload_n d_C_named_64 rfl ?_
              refine cw_aload_n d_C_named_65 rfl ?_
              refine cw_getR fl_C_29 so_C rfl d_C_named_66 ?_
              refine cw_iload_n d_C_named_69 rfl ?_
              refine cw_aaldN (i := k) sr_4 rfl (by omega) (by decide) d_C_named_70 ?_
              refine cw_aload_n d_C_named_71 rfl ?_
              refine cw_getR fl_C_23 so_C rfl d_C_named_72 ?_
              refine cw_iload_n d_C_named_75 rfl ?_
              refine cw_aaldN (i := d) sr_3 rfl (by omega) (by decide) d_C_named_76 ?_
              refine cw_iload d_C_named_77 rfl ?_
              refine cw_virtI (s_C_marS hR2 hI (k := k) (d := d) (m := j) (ln := σ.2 9 d) (by omega) (by omega) (by omega) (fun p hp => hR2.li (by omega) hp)) rfl ml_C_240 so_C rfl rfl d_C_named_79 (fun r_79 M_79 q_79 => ?_)
              obtain ⟨e_79, f_79⟩ := q_79
              subst e_79
              refine cw_iret rfl d_C_named_82 ?_
              exact ⟨by simp only [ans_named, c_5, c_13, hb, Bool.and_self, if_true, ix_nI (show k < 2 ^ 31 by omega), ix_nI (show d < 2 ^ 31 by omega)]; rw [if_neg c_47, if_neg c_56, show nameS σ k (σ.2 9 d) (σ.2 10 d) = nI j from hj3, ix_nI (show j < 2 ^ 31 by omega)], hR2.kp hI (kF_kp f_79), ((kF_kp (σ := σ) f_41).tr (kF_kp f_79)).kC⟩
            · refine cw_bipush (v := (-3)) d_C_named_59 (by decide) ?_
              refine cw_goto 82 d_C_named_61 (by decide) ?_
              refine cw_iret rfl d_C_named_82 ?_
              exact ⟨by simp only [ans_named, c_5, c_13, hb, Bool.and_self, if_true, ix_nI (show k < 2 ^ 31 by omega), ix_nI (show d < 2 ^ 31 by omega)]; rw [if_neg c_47, if_pos c_56], hR2, (kF_kp (σ := σ) f_41).kC⟩
          · refine cw_iload d_C_named_50 rfl ?_
            refine cw_iret rfl d_C_named_52 ?_
            exact ⟨by simp only [ans_named, c_5, c_13, hb, Bool.and_self, if_true, ix_nI (show k < 2 ^ 31 by omega), ix_nI (show d < 2 ^ 31 by omega)]; exact (if_pos c_47).symm, hR2, (kF_kp (σ := σ) f_41).kC⟩
        · have hb : ixB w 2 = false := ixB_gt (n := 1) c_22 (by decide)
          refine cw_bipush (v := (-2)) d_C_named_25 (by decide) ?_
          refine cw_iret rfl d_C_named_27 ?_
          exact ⟨by simp [ans_named, c_5, c_13, hb], hR, kC.rf⟩
