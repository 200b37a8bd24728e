/-! ===== the constructors of the nested classes ===== -/
theorem bs_He {I : List Nat} {M : Mem} {Z : Nat → Nat → Bool} {a : Nat} (h1 : 10 ≤ a) (h2 : a < 18) (ha : a ∈ I) (hn : a + 10 ∉ I) (hu : bUn M Z (a + 10)) : BS u_He_init 1 8 [.ref a] I M Z (bMk (fun k => k = a ∨ k = a + 10) (fun k => k = a + 10) I M Z) := by
  have sa : uSh a = .inr (.inr (2, [.inl (a + 10)])) := uSh_10 (by omega) (by omega)
  have sb : uSh (a + 10) = .inl 8 := uSh_20 (by omega) (by omega)
  have ha1 : a ∈ I ++ [a + 10] := List.mem_append_left _ ha
  have hb1 : a + 10 ∈ I ++ [a + 10] := List.mem_append_right _ (List.mem_singleton.mpr rfl)
  refine bs_intro (L := [some (.ref a)]) (by decide +kernel) (fun ad q h => h) (fun ad => Nat.le_of_ble_eq_true rfl) ?_
  refine bw_aload_n d_He_init_0 rfl ?_
  refine bw_objInit (gt_at 79 (by decide +kernel) rfl) oi2 oi3 d_He_init_1 (by decide) (by decide) ?_
  refine bw_aload_n d_He_init_4 rfl ?_
  refine bw_bipush (v := 8) d_He_init_5 (by decide) ?_
  refine bw_newa (k := a + 10) (N := 8) sb hn (funext hu.1) hu.2.2 (by decide) (by decide) (by decide) (by omega) (by omega) (inL_r ha inL_n) (inS_r ha inS_n) d_He_init_7 ?_
  refine bw_putR (ci := 2) (C := uR2) (T := uT2) (N := 1) (ty := .array .int) (j := 0) (k := a) (r := a + 10) rfl rfl (by decide) (gt_at 83 (by decide +kernel) rfl) rfl rfl (by decide +kernel) (fun _ => rfl) (fun _ => rfl) sa ha1 rfl hb1 d_He_init_9 ?_
  refine bw_aload_n d_He_init_12 rfl ?_
  refine bw_getR fl_He_9 sa ha1 rfl zS_at d_He_init_13 ?_
  refine bw_bipush (v := 50) d_He_init_16 (by decide) ?_
  refine bw_static (As := [.ref (a + 10), .int 50]) (st := []) ml_He_15 (bs_fill sb hb1 (by decide)) rfl rfl rfl (by omega) (by omega) (inL_r ha1 inL_n) inS_n d_He_init_18 (fun I' M' Z' q => ?_)
  obtain ⟨rfl, rfl, rfl⟩ := q
  refine bw_vret rfl d_He_init_21 (by omega) (by omega) ?_
  refine ⟨fun k => by simp, fun k hk => ?_, fun k hk => (bSm_z (fun e => hk (Or.inl e))).tr (bSm_r (fun e => hk (Or.inr e)))⟩
  rcases hk with e | e
  · rw [e]
    unfold bDn
    rw [sa]
    exact ⟨zS_at, trivial⟩
  · rw [e]
    unfold bDn
    rw [sb]
    exact fun j hj => (mR_at hj).trans (M0_20 (by omega) (by omega)).symm
theorem bs_Ha {I : List Nat} {M : Mem} {Z : Nat → Nat → Bool} {a : Nat} (h1 : 30 ≤ a) (h2 : a < 34) (ha : a ∈ I) (hn : a + 10 ∉ I) (hn2 : a + 20 ∉ I) (hu0 : bUn M Z a) (hu : bUn M Z (a + 10)) (hu2 : bUn M Z (a + 20)) : BS u_Ha_init 2 48 [.ref a] I M Z (bMk (fun k => k = a ∨ k = a + 10 ∨ k = a + 20) (fun k => k = a + 10 ∨ k = a + 20) I M Z) := by
  have sa : uSh a = .inr (.inr (1, [.inl (a + 10), .inl (a + 20), fI, fI])) := uSh_30 (by omega) (by omega)
  have sb : uSh (a + 10) = .inl 40 := uSh_40 (by omega) (by omega)
  have sc : uSh (a + 20) = .inl 8 := uSh_50 (by omega) (by omega)
  have ha1 : a ∈ I ++ [a + 10] := List.mem_append_left _ ha
  have hb1 : a + 10 ∈ I ++ [a + 10] := List.mem_append_right _ (List.mem_singleton.mpr rfl)
  have hn3 : a + 20 ∉ I ++ [a + 10] := by simp [hn2]
  have ha2 : a ∈ I ++ [a + 10] ++ [a + 20] := List.mem_append_left _ ha1
  have hc2 : a + 20 ∈ I ++ [a + 10] ++ [a + 20] := List.mem_append_right _ (List.mem_singleton.mpr rfl)
  refine bs_intro (L := [some (.ref a)]) (by decide +kernel) (fun ad q h => h) (fun ad => Nat.le_of_ble_eq_true rfl) ?_
  refine bw_aload_n d_Ha_init_0 rfl ?_
  refine bw_objInit (gt_at 93 (by decide +kernel) rfl) oi2 oi3 d_Ha_init_1 (by decide) (by decide) ?_
  refine bw_aload_n d_Ha_init_4 rfl ?_
  refine bw_bipush (v := 40) d_Ha_init_5 (by decide) ?_
  refine bw_newa (k := a + 10) (N := 40) sb hn (funext hu.1) hu.2.2 (by decide) (by decide) (by decide) (by omega) (by omega) (inL_r ha inL_n) (inS_r ha inS_n) d_Ha_init_7 ?_
  refine bw_putR (ci := 1) (C := uR1) (T := uT1) (N := 4) (ty := .array .int) (j := 0) (k := a) (r := a + 10) rfl rfl (by decide) (gt_at 95 (by decide +kernel) rfl) rfl rfl (by decide +kernel) (fun _ => rfl) (fun _ => rfl) sa ha1 rfl hb1 d_Ha_init_9 ?_
  refine bw_aload_n d_Ha_init_12 rfl ?_
  refine bw_bipush (v := 8) d_Ha_init_13 (by decide) ?_
  refine bw_newa (k := a + 20) (N := 8) sc hn3 (funext hu2.1) (fun j => (zS_ne (by omega) j).trans (hu2.2.2 j)) (by decide) (by decide) (by decide) (by omega) (by omega) (inL_r ha1 inL_n) (inS_r ha1 inS_n) d_Ha_init_15 ?_
  refine bw_putR (ci := 1) (C := uR1) (T := uT1) (N := 4) (ty := .array .int) (j := 1) (k := a) (r := a + 20) rfl rfl (by decide) (gt_at 96 (by decide +kernel) rfl) rfl rfl (by decide +kernel) (fun _ => rfl) (fun _ => rfl) sa ha2 rfl hc2 d_Ha_init_17 ?_
  refine bw_aload_n d_Ha_init_20 rfl ?_
  refine bw_iconst (v := -1) d_Ha_init_21 (by decide) ?_
  refine bw_putI fp_Ha_18 sa ha2 rfl d_Ha_init_22 ?_
  refine bw_aload_n d_Ha_init_25 rfl ?_
  refine bw_getR fl_Ha_15 sa ha2 rfl zS_at d_Ha_init_26 ?_
  refine bw_bipush (v := 10) d_Ha_init_29 (by decide) ?_
  refine bw_static (As := [.ref (a + 20), .int 10]) (st := []) ml_Ha_22 (bs_fill sc hc2 (by decide)) rfl rfl rfl (by omega) (by omega) (inL_r ha2 inL_n) inS_n d_Ha_init_31 (fun I' M' Z' q => ?_)
  obtain ⟨rfl, rfl, rfl⟩ := q
  refine bw_vret rfl d_Ha_init_34 (by omega) (by omega) ?_
  refine ⟨fun k => by simp [or_assoc], fun k hk => ?_, fun k hk => (((bSm_z (fun e => hk (Or.inl e))).tr (bSm_z (fun e => hk (Or.inl e)))).tr (bSm_m (fun e => hk (Or.inl e)))).tr (bSm_r (fun e => hk (Or.inr (Or.inr e))))⟩
  rcases hk with e | e | e
  · rw [e]
    unfold bDn
    rw [sa]
    refine ⟨(zS_nj (by decide)).trans zS_at, zS_at, ?_, ?_, trivial⟩
    · refine (mR_ne (by omega) _).trans ((mS_nj (by decide)).trans ((hu0.1 2).trans ?_))
      rw [M0_30 (by omega) (by omega)]
      rfl
    · refine (mR_ne (by omega) _).trans (bS_at.trans ?_)
      rw [M0_30 (by omega) (by omega)]
      rfl
  · rw [e]
    unfold bDn
    rw [sb]
    exact fun j hj => (mR_ne (by omega) j).trans ((mS_ne (by omega) j).trans ((hu.1 j).trans (M0_z (by omega) (by omega) (by omega) (by omega) (by omega) (by omega) (by omega) (by omega)).symm))
  · rw [e]
    unfold bDn
    rw [sc]
    exact fun j hj => (mR_at hj).trans (M0_50 (by omega) (by omega)).symm
theorem bs_Kn {I : List Nat} {M : Mem} {Z : Nat → Nat → Bool} {a : Nat} (h1 : 60 ≤ a) (h2 : a < 64) (ha : a ∈ I) (hn : a + 10 ∉ I) (hu0 : bUn M Z a) (hu : bUn M Z (a + 10)) : BS u_Kn_init 1 8 [.ref a] I M Z (bMk (fun k => k = a ∨ k = a + 10) (fun k => k = a + 10) I M Z) := by
  have sa : uSh a = .inr (.inr (3, [.inl (a + 10), fI])) := uSh_60 (by omega) (by omega)
  have sb : uSh (a + 10) = .inl 8 := uSh_70 (by omega) (by omega)
  have ha1 : a ∈ I ++ [a + 10] := List.mem_append_left _ ha
  have hb1 : a + 10 ∈ I ++ [a + 10] := List.mem_append_right _ (List.mem_singleton.mpr rfl)
  refine bs_intro (L := [some (.ref a)]) (by decide +kernel) (fun ad q h => h) (fun ad => Nat.le_of_ble_eq_true rfl) ?_
  refine bw_aload_n d_Kn_init_0 rfl ?_
  refine bw_objInit (gt_at 115 (by decide +kernel) rfl) oi2 oi3 d_Kn_init_1 (by decide) (by decide) ?_
  refine bw_aload_n d_Kn_init_4 rfl ?_
  refine bw_bipush (v := 8) d_Kn_init_5 (by decide) ?_
  refine bw_newa (k := a + 10) (N := 8) sb hn (funext hu.1) hu.2.2 (by decide) (by decide) (by decide) (by omega) (by omega) (inL_r ha inL_n) (inS_r ha inS_n) d_Kn_init_7 ?_
  refine bw_putR (ci := 3) (C := uR3) (T := uT3) (N := 2) (ty := .array .int) (j := 0) (k := a) (r := a + 10) rfl rfl (by decide) (gt_at 116 (by decide +kernel) rfl) rfl rfl (by decide +kernel) (fun _ => rfl) (fun _ => rfl) sa ha1 rfl hb1 d_Kn_init_9 ?_
  refine bw_vret rfl d_Kn_init_12 (by omega) (by omega) ?_
  refine ⟨fun k => by simp, fun k hk => ?_, fun k hk => bSm_z (fun e => hk (Or.inl e))⟩
  rcases hk with e | e
  · rw [e]
    unfold bDn
    rw [sa]
    exact ⟨zS_at, (hu0.1 1).trans (M0_z (by omega) (by omega) (by omega) (by omega) (by omega) (by omega) (by omega) (by omega)).symm, trivial⟩
  · rw [e]
    unfold bDn
    rw [sb]
    exact fun j hj => (hu.1 j).trans (M0_z (by omega) (by omega) (by omega) (by omega) (by omega) (by omega) (by omega) (by omega)).symm
theorem bs_Sh {I : List Nat} {M : Mem} {Z : Nat → Nat → Bool} {a : Nat} (h1 : 80 ≤ a) (h2 : a < 84) (ha : a ∈ I) (hn : a + 10 ∉ I) (hu0 : bUn M Z a) (hu : bUn M Z (a + 10)) : BS u_Sh_init 1 60 [.ref a] I M Z (bMk (fun k => k = a ∨ k = a + 10) (fun k => k = a + 10) I M Z) := by
  have sa : uSh a = .inr (.inr (4, [.inl (a + 10), fI, fI])) := uSh_80 (by omega) (by omega)
  have sb : uSh (a + 10) = .inl 60 := uSh_90 (by omega) (by omega)
  have ha1 : a ∈ I ++ [a + 10] := List.mem_append_left _ ha
  have hb1 : a + 10 ∈ I ++ [a + 10] := List.mem_append_right _ (List.mem_singleton.mpr rfl)
  refine bs_intro (L := [some (.ref a)]) (by decide +kernel) (fun ad q h => h) (fun ad => Nat.le_of_ble_eq_true rfl) ?_
  refine bw_aload_n d_Sh_init_0 rfl ?_
  refine bw_objInit (gt_at 129 (by decide +kernel) rfl) oi2 oi3 d_Sh_init_1 (by decide) (by decide) ?_
  refine bw_aload_n d_Sh_init_4 rfl ?_
  refine bw_bipush (v := 60) d_Sh_init_5 (by decide) ?_
  refine bw_newa (k := a + 10) (N := 60) sb hn (funext hu.1) hu.2.2 (by decide) (by decide) (by decide) (by omega) (by omega) (inL_r ha inL_n) (inS_r ha inS_n) d_Sh_init_7 ?_
  refine bw_putR (ci := 4) (C := uR4) (T := uT4) (N := 3) (ty := .array .int) (j := 0) (k := a) (r := a + 10) rfl rfl (by decide) (gt_at 130 (by decide +kernel) rfl) rfl rfl (by decide +kernel) (fun _ => rfl) (fun _ => rfl) sa ha1 rfl hb1 d_Sh_init_9 ?_
  refine bw_aload_n d_Sh_init_12 rfl ?_
  refine bw_iconst (v := -1) d_Sh_init_13 (by decide) ?_
  refine bw_putI fp_Sh_15 sa ha1 rfl d_Sh_init_14 ?_
  refine bw_vret rfl d_Sh_init_17 (by omega) (by omega) ?_
  refine ⟨fun k => by simp, fun k hk => ?_, fun k hk => (bSm_z (fun e => hk (Or.inl e))).tr (bSm_m (fun e => hk (Or.inl e)))⟩
  rcases hk with e | e
  · rw [e]
    unfold bDn
    rw [sa]
    refine ⟨zS_at, bS_at.trans ?_, (mS_nj (by decide)).trans ((hu0.1 2).trans ?_), trivial⟩
    · rw [M0_80 (by omega) (by omega)]
      rfl
    · rw [M0_80 (by omega) (by omega)]
      rfl
  · rw [e]
    unfold bDn
    rw [sb]
    exact fun j hj => (mS_ne (by omega) j).trans ((hu.1 j).trans (M0_z (by omega) (by omega) (by omega) (by omega) (by omega) (by omega) (by omega) (by omega)).symm)
theorem bs_Sk {I : List Nat} {M : Mem} {Z : Nat → Nat → Bool} {a : Nat} (h1 : 100 ≤ a) (h2 : a < 131) (ha : a ∈ I) (hn : a + 100 ∉ I) (hn2 : a + 200 ∉ I) (hu0 : bUn M Z a) (hu : bUn M Z (a + 100)) (hu2 : bUn M Z (a + 200)) : BS u_Sk_init 2 16 [.ref a] I M Z (bMk (fun k => k = a ∨ k = a + 100 ∨ k = a + 200) (fun k => k = a + 100 ∨ k = a + 200) I M Z) := by
  have sa : uSh a = .inr (.inr (5, [.inl (a + 100), .inl (a + 200), fI, fI, fI, fI])) := uSh_100 (by omega) (by omega)
  have sb : uSh (a + 100) = .inl 8 := uSh_200 (by omega) (by omega)
  have sc : uSh (a + 200) = .inl 8 := uSh_200 (by omega) (by omega)
  have ha1 : a ∈ I ++ [a + 100] := List.mem_append_left _ ha
  have hb1 : a + 100 ∈ I ++ [a + 100] := List.mem_append_right _ (List.mem_singleton.mpr rfl)
  have hn3 : a + 200 ∉ I ++ [a + 100] := by simp [hn2]
  have ha2 : a ∈ I ++ [a + 100] ++ [a + 200] := List.mem_append_left _ ha1
  have hc2 : a + 200 ∈ I ++ [a + 100] ++ [a + 200] := List.mem_append_right _ (List.mem_singleton.mpr rfl)
  refine bs_intro (L := [some (.ref a)]) (by decide +kernel) (fun ad q h => h) (fun ad => Nat.le_of_ble_eq_true rfl) ?_
  refine bw_aload_n d_Sk_init_0 rfl ?_
  refine bw_objInit (gt_at 35 (by decide +kernel) rfl) oi2 oi3 d_Sk_init_1 (by decide) (by decide) ?_
  refine bw_aload_n d_Sk_init_4 rfl ?_
  refine bw_bipush (v := 8) d_Sk_init_5 (by decide) ?_
  refine bw_newa (k := a + 100) (N := 8) sb hn (funext hu.1) hu.2.2 (by decide) (by decide) (by decide) (by omega) (by omega) (inL_r ha inL_n) (inS_r ha inS_n) d_Sk_init_7 ?_
  refine bw_putR (ci := 5) (C := uR5) (T := uT5) (N := 6) (ty := .array .int) (j := 0) (k := a) (r := a + 100) rfl rfl (by decide) (gt_at 36 (by decide +kernel) rfl) rfl rfl (by decide +kernel) (fun _ => rfl) (fun _ => rfl) sa ha1 rfl hb1 d_Sk_init_9 ?_
  refine bw_aload_n d_Sk_init_12 rfl ?_
  refine bw_bipush (v := 8) d_Sk_init_13 (by decide) ?_
  refine bw_newa (k := a + 200) (N := 8) sc hn3 (funext hu2.1) (fun j => (zS_ne (by omega) j).trans (hu2.2.2 j)) (by decide) (by decide) (by decide) (by omega) (by omega) (inL_r ha1 inL_n) (inS_r ha1 inS_n) d_Sk_init_15 ?_
  refine bw_putR (ci := 5) (C := uR5) (T := uT5) (N := 6) (ty := .array .int) (j := 1) (k := a) (r := a + 200) rfl rfl (by decide) (gt_at 38 (by decide +kernel) rfl) rfl rfl (by decide +kernel) (fun _ => rfl) (fun _ => rfl) sa ha2 rfl hc2 d_Sk_init_17 ?_
  refine bw_aload_n d_Sk_init_20 rfl ?_
  refine bw_iconst (v := -1) d_Sk_init_21 (by decide) ?_
  refine bw_putI fp_Sk_18 sa ha2 rfl d_Sk_init_22 ?_
  refine bw_vret rfl d_Sk_init_25 (by omega) (by omega) ?_
  refine ⟨fun k => by simp [or_assoc], fun k hk => ?_, fun k hk => ((bSm_z (fun e => hk (Or.inl e))).tr (bSm_z (fun e => hk (Or.inl e)))).tr (bSm_m (fun e => hk (Or.inl e)))⟩
  rcases hk with e | e | e
  · rw [e]
    unfold bDn
    rw [sa]
    refine ⟨(zS_nj (by decide)).trans zS_at, zS_at, ?_, ?_, ?_, ?_, trivial⟩
    · refine (mS_nj (by decide)).trans ((hu0.1 2).trans ?_)
      rw [M0_100 (by omega) (by omega)]
      rfl
    · refine (mS_nj (by decide)).trans ((hu0.1 3).trans ?_)
      rw [M0_100 (by omega) (by omega)]
      rfl
    · refine (mS_nj (by decide)).trans ((hu0.1 4).trans ?_)
      rw [M0_100 (by omega) (by omega)]
      rfl
    · refine bS_at.trans ?_
      rw [M0_100 (by omega) (by omega)]
      rfl
  · rw [e]
    unfold bDn
    rw [sb]
    exact fun j hj => (mS_ne (by omega) j).trans ((hu.1 j).trans (M0_z (by omega) (by omega) (by omega) (by omega) (by omega) (by omega) (by omega) (by omega)).symm)
  · rw [e]
    unfold bDn
    rw [sc]
    exact fun j hj => (mS_ne (by omega) j).trans ((hu2.1 j).trans (M0_z (by omega) (by omega) (by omega) (by omega) (by omega) (by omega) (by omega) (by omega)).symm)
theorem bs_Fr {I : List Nat} {M : Mem} {Z : Nat → Nat → Bool} {a : Nat} (h1 : a = 8 ∨ a = 9) (ha : a ∈ I) (hu0 : bUn M Z a) : BS u_Fr_init 0 0 [.ref a] I M Z (bMk (fun k => k = a) (fun _ => False) I M Z) := by
  have sa : uSh a = .inr (.inr (0, [fJ, fJ])) := by rcases h1 with rfl | rfl <;> rfl
  refine bs_intro (L := [some (.ref a)]) (by decide +kernel) (fun ad q h => h) (fun ad => Nat.le_of_ble_eq_true rfl) ?_
  refine bw_aload_n d_Fr_init_0 rfl ?_
  refine bw_objInit (gt_at 65 (by decide +kernel) rfl) oi2 oi3 d_Fr_init_1 (by decide) (by decide) ?_
  refine bw_aload_n d_Fr_init_4 rfl ?_
  refine bw_lconst (v := 1) d_Fr_init_5 (by decide) ?_
  refine bw_putJ fp_Fr_7 sa ha rfl d_Fr_init_6 ?_
  refine bw_vret rfl d_Fr_init_9 (by omega) (by omega) ?_
  refine ⟨fun k => by simp, fun k hk => ?_, fun k hk => bSm_j hk⟩
  have e : k = a := hk
  rw [e]
  unfold bDn
  rw [sa]
  refine ⟨(jS_nj (by decide)).trans ((hu0.2.1 0).trans ?_), jS_at.trans ?_, trivial⟩
  · rcases h1 with rfl | rfl <;> rfl
  · rcases h1 with rfl | rfl <;> rfl
