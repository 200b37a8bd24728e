/-! ===== the constructor of the reference ===== -/
def mL : List Nat := [1001, 1002, 1003, 1004, 1007, 1008, 1009, 1011, 1012, 1014, 1015, 1016, 1017, 1018, 1019, 1021, 1022, 1023, 1027]
theorem sh_1000 : uSh 1000 = .inr (.inr (7, (shObj 1).2)) := rfl
def iM (I : List Nat) : List Nat := I ++ [1001] ++ [1002] ++ [1003] ++ [1004] ++ [1007] ++ [1008] ++ [1009] ++ [1011] ++ [1012] ++ [1014] ++ [1015] ++ [1016] ++ [1017] ++ [1018] ++ [1019] ++ [1021] ++ [1022] ++ [1023] ++ [1027]
def zM (Z : Nat → Nat → Bool) : Nat → Nat → Bool := zS (zS (zS (zS (zS (zS (zS (zS (zS (zS (zS (zS (zS (zS (zS (zS (zS (zS (zS Z 1000 0) 1000 1) 1000 2) 1000 3) 1000 6) 1000 7) 1000 8) 1000 10) 1000 11) 1000 13) 1000 14) 1000 15) 1000 16) 1000 17) 1000 18) 1000 20) 1000 21) 1000 22) 1000 26
def mM (M : Mem) : Mem := mS (mS (mS (mRow M 1001 4 (fun _ => -1)) 1012 0 60) 1012 1 10) 1012 2 20
def pM (I : List Nat) (M : Mem) (Z : Nat → Nat → Bool) : List Nat → Mem → (Nat → Nat → Bool) → Prop := bMk (fun k => k = 1000 ∨ k ∈ mL) (fun k => k ∈ mL) I M Z
theorem iM_mem {I : List Nat} {k : Nat} : k ∈ iM I ↔ k ∈ I ∨ k ∈ mL := by
  have e : iM I = I ++ mL := by simp [iM, mL]
  rw [e, List.mem_append]
theorem zM_ne {Z : Nat → Nat → Bool} {k : Nat} (h : k ≠ 1000) (j : Nat) : zM Z k j = Z k j := by
  simp [zM, zS, h]
theorem mM_ne {M : Mem} {k : Nat} (h1 : k ≠ 1001) (h2 : k ≠ 1012) (j : Nat) : (mM M).1 k j = M.1 k j := (((mS_ne h2 j).trans (mS_ne h2 j)).trans (mS_ne h2 j)).trans (mR_ne h1 j)
theorem pM_end {I : List Nat} {M : Mem} {Z : Nat → Nat → Bool} (hu : ∀ k, 1000 ≤ k → bUn M Z k) : pM I M Z (iM I) (mM M) (zM Z) := by
  refine ⟨fun k => iM_mem, fun k hk => ?_, fun k hk => ?_⟩
  · rcases hk with rfl | hk
    · have h : bFl (mM M) (zM Z) 1000 0 (shObj 1).2 := ⟨by simp [zM, zS], by simp [zM, zS], by simp [zM, zS], by simp [zM, zS], (mM_ne (by decide) (by decide) 4).trans ((hu 1000 (Nat.le_refl _)).1 4), (mM_ne (by decide) (by decide) 5).trans ((hu 1000 (Nat.le_refl _)).1 5), by simp [zM, zS], by simp [zM, zS], by simp [zM, zS], (mM_ne (by decide) (by decide) 9).trans ((hu 1000 (Nat.le_refl _)).1 9), by simp [zM, zS], by simp [zM, zS], (mM_ne (by decide) (by decide) 12).trans ((hu 1000 (Nat.le_refl _)).1 12), by simp [zM, zS], by simp [zM, zS], by simp [zM, zS], by simp [zM, zS], by simp [zM, zS], by simp [zM, zS], (mM_ne (by decide) (by decide) 19).trans ((hu 1000 (Nat.le_refl _)).1 19), by simp [zM, zS], by simp [zM, zS], by simp [zM, zS], (mM_ne (by decide) (by decide) 23).trans ((hu 1000 (Nat.le_refl _)).1 23), (hu 1000 (Nat.le_refl _)).2.1 24, (hu 1000 (Nat.le_refl _)).2.1 25, by simp [zM, zS], trivial⟩
      unfold bDn
      rw [sh_1000]
      exact h
    · simp only [mL, List.mem_cons, List.not_mem_nil, or_false] at hk
      rcases hk with rfl | rfl | rfl | rfl | rfl | rfl | rfl | rfl | rfl | rfl | rfl | rfl | rfl | rfl | rfl | rfl | rfl | rfl | rfl
      · exact fun j hj => ((((mS_ne (by decide) j).trans (mS_ne (by decide) j)).trans (mS_ne (by decide) j)).trans (mR_at hj)).trans rfl
      · exact fun j hj => (mM_ne (by decide) (by decide) j).trans ((hu 1002 (by decide)).1 j)
      · exact fun j hj => (mM_ne (by decide) (by decide) j).trans ((hu 1003 (by decide)).1 j)
      · exact fun j hj => (mM_ne (by decide) (by decide) j).trans ((hu 1004 (by decide)).1 j)
      · exact fun j hj => (mM_ne (by decide) (by decide) j).trans ((hu 1007 (by decide)).1 j)
      · exact fun j hj => (mM_ne (by decide) (by decide) j).trans ((hu 1008 (by decide)).1 j)
      · exact fun j hj => (mM_ne (by decide) (by decide) j).trans ((hu 1009 (by decide)).1 j)
      · exact fun j hj => (mM_ne (by decide) (by decide) j).trans ((hu 1011 (by decide)).1 j)
      · intro j hj
        have hj3 : j < 3 := hj
        rcases (show j = 0 ∨ j = 1 ∨ j = 2 by omega) with rfl | rfl | rfl <;> rfl
      · exact fun j hj => (mM_ne (by decide) (by decide) j).trans ((hu 1014 (by decide)).1 j)
      · exact fun j hj => (mM_ne (by decide) (by decide) j).trans ((hu 1015 (by decide)).1 j)
      · exact fun j hj => (mM_ne (by decide) (by decide) j).trans ((hu 1016 (by decide)).1 j)
      · exact fun j hj => (mM_ne (by decide) (by decide) j).trans ((hu 1017 (by decide)).1 j)
      · exact fun j hj => (mM_ne (by decide) (by decide) j).trans ((hu 1018 (by decide)).1 j)
      · exact fun j hj => (mM_ne (by decide) (by decide) j).trans ((hu 1019 (by decide)).1 j)
      · exact fun j hj => (mM_ne (by decide) (by decide) j).trans ((hu 1021 (by decide)).1 j)
      · exact fun j hj => (mM_ne (by decide) (by decide) j).trans ((hu 1022 (by decide)).1 j)
      · exact fun j hj => (mM_ne (by decide) (by decide) j).trans ((hu 1023 (by decide)).1 j)
      · exact fun j hj => (mM_ne (by decide) (by decide) j).trans ((hu 1027 (by decide)).1 j)
  · have h0 : k ≠ 1000 := fun e => hk (Or.inl e)
    have h1 : k ≠ 1001 := fun e => hk (Or.inr (by rw [e]; decide))
    have h2 : k ≠ 1012 := fun e => hk (Or.inr (by rw [e]; decide))
    exact ⟨mM_ne h1 h2, fun _ => rfl, zM_ne h0⟩
theorem bl_M {I : List Nat} {M : Mem} {Z : Nat → Nat → Bool} (h0 : 1000 ∈ I) (hu : ∀ k, 1000 ≤ k → bUn M Z k) : ∀ i, i ≤ 4 → BW u_M_init 19 1199 (pM I M Z) 19 1199 157 [some (.ref 1000), some (.int (nI i))] [] (iM I) (mRow M 1001 i (fun _ => -1)) (zM Z) := by
  have hm : 1000 ∈ iM I := iM_mem.mpr (Or.inl h0)
  have hf : 1001 ∈ iM I := iM_mem.mpr (Or.inr (by decide))
  have hs : 1012 ∈ iM I := iM_mem.mpr (Or.inr (by decide))
  have z0 : zM Z 1000 0 = false := by simp [zM, zS]
  have z11 : zM Z 1000 11 = false := by simp [zM, zS]
  refine up_ind (fun i hi ih => ?_)
  refine bw_iload_n d_M_init_157 rfl ?_
  refine bw_iconst (v := 4) d_M_init_158 (by decide) ?_
  refine bw_icmp_geN i 4 175 rfl rfl (by omega) d_M_init_159 (by decide) (fun c => ?_) (fun c => ?_)
  · have ei : i = 4 := by omega
    subst ei
    refine bw_aload_n d_M_init_175 rfl ?_
    refine bw_getR fl_M_34 sh_1000 hm rfl z11 d_M_init_176 ?_
    refine bw_iconst (v := 0) d_M_init_179 (by decide) ?_
    refine bw_bipush (v := 60) d_M_init_180 (by decide) ?_
    refine bw_iast (i := 0) (n := 3) rfl hs rfl (by decide) (by decide) d_M_init_182 ?_
    refine bw_aload_n d_M_init_183 rfl ?_
    refine bw_getR fl_M_34 sh_1000 hm rfl z11 d_M_init_184 ?_
    refine bw_iconst (v := 1) d_M_init_187 (by decide) ?_
    refine bw_bipush (v := 10) d_M_init_188 (by decide) ?_
    refine bw_iast (i := 1) (n := 3) rfl hs rfl (by decide) (by decide) d_M_init_190 ?_
    refine bw_aload_n d_M_init_191 rfl ?_
    refine bw_getR fl_M_34 sh_1000 hm rfl z11 d_M_init_192 ?_
    refine bw_iconst (v := 2) d_M_init_195 (by decide) ?_
    refine bw_bipush (v := 20) d_M_init_196 (by decide) ?_
    refine bw_iast (i := 2) (n := 3) rfl hs rfl (by decide) (by decide) d_M_init_198 ?_
    exact bw_vret rfl d_M_init_199 (by decide) (by decide) (pM_end hu)
  · refine bw_aload_n d_M_init_162 rfl ?_
    refine bw_getR fl_M_7 sh_1000 hm rfl z0 d_M_init_163 ?_
    refine bw_iload_n d_M_init_166 rfl ?_
    refine bw_iconst (v := -1) d_M_init_167 (by decide) ?_
    refine bw_iast (i := i) (n := 4) rfl hf rfl c (by decide) d_M_init_168 ?_
    refine bw_iincN (x := i) d_M_init_169 rfl rfl ?_
    refine bw_goto 157 d_M_init_172 (by decide) ?_
    exact bw_L (by simp only [lset1, kl]) (bw_M (mRow_s (f := fun _ => -1)) (ih c))
theorem bs_M {I : List Nat} {M : Mem} {Z : Nat → Nat → Bool} (h0 : 1000 ∈ I) (hI : ∀ k, 1000 < k → k ∉ I) (hu : ∀ k, 1000 ≤ k → bUn M Z k) : BS u_M_init 19 1199 [.ref 1000] I M Z (pM I M Z) := by
  refine bs_intro (L := [some (.ref 1000), none]) (by decide +kernel) (fun ad q h => h) (fun ad => Nat.le_of_ble_eq_true rfl) ?_
  refine bw_aload_n d_M_init_0 rfl ?_
  refine bw_objInit (gt_at 604 (by decide +kernel) rfl) oi2 oi3 d_M_init_1 (by decide) (by decide) ?_
  refine bw_aload_n d_M_init_4 rfl ?_
  refine bw_iconst (v := 4) d_M_init_5 (by decide) ?_
  refine bw_newa (k := 1001) (N := 4) rfl (by simp [hI 1001 (by decide)]) (funext (hu 1001 (by decide)).1) (fun j => by simp [zS, (hu 1001 (by decide)).2.2]) (by decide) (by decide) (by decide) (by decide) (by decide) (inL_r (by simp [h0]) (inL_0 inL_n)) (inS_r (by simp [h0]) inS_n) d_M_init_6 ?_
  refine bw_putR (ci := 7) (C := uR7) (T := uT7) (N := 27) (ty := .array .int) (j := 0) (k := 1000) (r := 1001) rfl rfl (by decide) (gt_at 605 (by decide +kernel) rfl) rfl rfl (by decide +kernel) (fun _ => rfl) (fun _ => rfl) sh_1000 (by simp [h0]) rfl (by simp) d_M_init_8 ?_
  refine bw_aload_n d_M_init_11 rfl ?_
  refine bw_iconst (v := 4) d_M_init_12 (by decide) ?_
  refine bw_newa (k := 1002) (N := 4) rfl (by simp [hI 1002 (by decide)]) (funext (hu 1002 (by decide)).1) (fun j => by simp [zS, (hu 1002 (by decide)).2.2]) (by decide) (by decide) (by decide) (by decide) (by decide) (inL_r (by simp [h0]) (inL_0 inL_n)) (inS_r (by simp [h0]) inS_n) d_M_init_13 ?_
  refine bw_putR (ci := 7) (C := uR7) (T := uT7) (N := 27) (ty := .array .int) (j := 1) (k := 1000) (r := 1002) rfl rfl (by decide) (gt_at 606 (by decide +kernel) rfl) rfl rfl (by decide +kernel) (fun _ => rfl) (fun _ => rfl) sh_1000 (by simp [h0]) rfl (by simp) d_M_init_15 ?_
  refine bw_aload_n d_M_init_18 rfl ?_
  refine bw_sipush (v := 240) d_M_init_19 (by decide) ?_
  refine bw_newa (k := 1003) (N := 240) rfl (by simp [hI 1003 (by decide)]) (funext (hu 1003 (by decide)).1) (fun j => by simp [zS, (hu 1003 (by decide)).2.2]) (by decide) (by decide) (by decide) (by decide) (by decide) (inL_r (by simp [h0]) (inL_0 inL_n)) (inS_r (by simp [h0]) inS_n) d_M_init_22 ?_
  refine bw_putR (ci := 7) (C := uR7) (T := uT7) (N := 27) (ty := .array .int) (j := 2) (k := 1000) (r := 1003) rfl rfl (by decide) (gt_at 607 (by decide +kernel) rfl) rfl rfl (by decide +kernel) (fun _ => rfl) (fun _ => rfl) sh_1000 (by simp [h0]) rfl (by simp) d_M_init_24 ?_
  refine bw_aload_n d_M_init_27 rfl ?_
  refine bw_bipush (v := 60) d_M_init_28 (by decide) ?_
  refine bw_newa (k := 1004) (N := 60) rfl (by simp [hI 1004 (by decide)]) (funext (hu 1004 (by decide)).1) (fun j => by simp [zS, (hu 1004 (by decide)).2.2]) (by decide) (by decide) (by decide) (by decide) (by decide) (inL_r (by simp [h0]) (inL_0 inL_n)) (inS_r (by simp [h0]) inS_n) d_M_init_30 ?_
  refine bw_putR (ci := 7) (C := uR7) (T := uT7) (N := 27) (ty := .array .int) (j := 3) (k := 1000) (r := 1004) rfl rfl (by decide) (gt_at 608 (by decide +kernel) rfl) rfl rfl (by decide +kernel) (fun _ => rfl) (fun _ => rfl) sh_1000 (by simp [h0]) rfl (by simp) d_M_init_32 ?_
  refine bw_aload_n d_M_init_35 rfl ?_
  refine bw_bipush (v := 64) d_M_init_36 (by decide) ?_
  refine bw_newa (k := 1007) (N := 64) rfl (by simp [hI 1007 (by decide)]) (funext (hu 1007 (by decide)).1) (fun j => by simp [zS, (hu 1007 (by decide)).2.2]) (by decide) (by decide) (by decide) (by decide) (by decide) (inL_r (by simp [h0]) (inL_0 inL_n)) (inS_r (by simp [h0]) inS_n) d_M_init_38 ?_
  refine bw_putR (ci := 7) (C := uR7) (T := uT7) (N := 27) (ty := .array .int) (j := 6) (k := 1000) (r := 1007) rfl rfl (by decide) (gt_at 611 (by decide +kernel) rfl) rfl rfl (by decide +kernel) (fun _ => rfl) (fun _ => rfl) sh_1000 (by simp [h0]) rfl (by simp) d_M_init_40 ?_
  refine bw_aload_n d_M_init_43 rfl ?_
  refine bw_sipush (v := 160) d_M_init_44 (by decide) ?_
  refine bw_newa (k := 1008) (N := 160) rfl (by simp [hI 1008 (by decide)]) (funext (hu 1008 (by decide)).1) (fun j => by simp [zS, (hu 1008 (by decide)).2.2]) (by decide) (by decide) (by decide) (by decide) (by decide) (inL_r (by simp [h0]) (inL_0 inL_n)) (inS_r (by simp [h0]) inS_n) d_M_init_47 ?_
  refine bw_putR (ci := 7) (C := uR7) (T := uT7) (N := 27) (ty := .array .int) (j := 7) (k := 1000) (r := 1008) rfl rfl (by decide) (gt_at 612 (by decide +kernel) rfl) rfl rfl (by decide +kernel) (fun _ => rfl) (fun _ => rfl) sh_1000 (by simp [h0]) rfl (by simp) d_M_init_49 ?_
  refine bw_aload_n d_M_init_52 rfl ?_
  refine bw_iconst (v := 4) d_M_init_53 (by decide) ?_
  refine bw_newa (k := 1009) (N := 4) rfl (by simp [hI 1009 (by decide)]) (funext (hu 1009 (by decide)).1) (fun j => by simp [zS, (hu 1009 (by decide)).2.2]) (by decide) (by decide) (by decide) (by decide) (by decide) (inL_r (by simp [h0]) (inL_0 inL_n)) (inS_r (by simp [h0]) inS_n) d_M_init_54 ?_
  refine bw_putR (ci := 7) (C := uR7) (T := uT7) (N := 27) (ty := .array .int) (j := 8) (k := 1000) (r := 1009) rfl rfl (by decide) (gt_at 613 (by decide +kernel) rfl) rfl rfl (by decide +kernel) (fun _ => rfl) (fun _ => rfl) sh_1000 (by simp [h0]) rfl (by simp) d_M_init_56 ?_
  refine bw_aload_n d_M_init_59 rfl ?_
  refine bw_bipush (v := 8) d_M_init_60 (by decide) ?_
  refine bw_newa (k := 1011) (N := 8) rfl (by simp [hI 1011 (by decide)]) (funext (hu 1011 (by decide)).1) (fun j => by simp [zS, (hu 1011 (by decide)).2.2]) (by decide) (by decide) (by decide) (by decide) (by decide) (inL_r (by simp [h0]) (inL_0 inL_n)) (inS_r (by simp [h0]) inS_n) d_M_init_62 ?_
  refine bw_putR (ci := 7) (C := uR7) (T := uT7) (N := 27) (ty := .array .int) (j := 10) (k := 1000) (r := 1011) rfl rfl (by decide) (gt_at 615 (by decide +kernel) rfl) rfl rfl (by decide +kernel) (fun _ => rfl) (fun _ => rfl) sh_1000 (by simp [h0]) rfl (by simp) d_M_init_64 ?_
  refine bw_aload_n d_M_init_67 rfl ?_
  refine bw_iconst (v := 3) d_M_init_68 (by decide) ?_
  refine bw_newa (k := 1012) (N := 3) rfl (by simp [hI 1012 (by decide)]) (funext (hu 1012 (by decide)).1) (fun j => by simp [zS, (hu 1012 (by decide)).2.2]) (by decide) (by decide) (by decide) (by decide) (by decide) (inL_r (by simp [h0]) (inL_0 inL_n)) (inS_r (by simp [h0]) inS_n) d_M_init_69 ?_
  refine bw_putR (ci := 7) (C := uR7) (T := uT7) (N := 27) (ty := .array .int) (j := 11) (k := 1000) (r := 1012) rfl rfl (by decide) (gt_at 616 (by decide +kernel) rfl) rfl rfl (by decide +kernel) (fun _ => rfl) (fun _ => rfl) sh_1000 (by simp [h0]) rfl (by simp) d_M_init_71 ?_
  refine bw_aload_n d_M_init_74 rfl ?_
  refine bw_bipush (v := 30) d_M_init_75 (by decide) ?_
  refine bw_newa (k := 1014) (N := 30) rfl (by simp [hI 1014 (by decide)]) (funext (hu 1014 (by decide)).1) (fun j => by simp [zS, (hu 1014 (by decide)).2.2]) (by decide) (by decide) (by decide) (by decide) (by decide) (inL_r (by simp [h0]) (inL_0 inL_n)) (inS_r (by simp [h0]) inS_n) d_M_init_77 ?_
  refine bw_putR (ci := 7) (C := uR7) (T := uT7) (N := 27) (ty := .array .int) (j := 13) (k := 1000) (r := 1014) rfl rfl (by decide) (gt_at 618 (by decide +kernel) rfl) rfl rfl (by decide +kernel) (fun _ => rfl) (fun _ => rfl) sh_1000 (by simp [h0]) rfl (by simp) d_M_init_79 ?_
  refine bw_aload_n d_M_init_82 rfl ?_
  refine bw_bipush (v := 30) d_M_init_83 (by decide) ?_
  refine bw_newa (k := 1015) (N := 30) rfl (by simp [hI 1015 (by decide)]) (funext (hu 1015 (by decide)).1) (fun j => by simp [zS, (hu 1015 (by decide)).2.2]) (by decide) (by decide) (by decide) (by decide) (by decide) (inL_r (by simp [h0]) (inL_0 inL_n)) (inS_r (by simp [h0]) inS_n) d_M_init_85 ?_
  refine bw_putR (ci := 7) (C := uR7) (T := uT7) (N := 27) (ty := .array .int) (j := 14) (k := 1000) (r := 1015) rfl rfl (by decide) (gt_at 619 (by decide +kernel) rfl) rfl rfl (by decide +kernel) (fun _ => rfl) (fun _ => rfl) sh_1000 (by simp [h0]) rfl (by simp) d_M_init_87 ?_
  refine bw_aload_n d_M_init_90 rfl ?_
  refine bw_bipush (v := 30) d_M_init_91 (by decide) ?_
  refine bw_newa (k := 1016) (N := 30) rfl (by simp [hI 1016 (by decide)]) (funext (hu 1016 (by decide)).1) (fun j => by simp [zS, (hu 1016 (by decide)).2.2]) (by decide) (by decide) (by decide) (by decide) (by decide) (inL_r (by simp [h0]) (inL_0 inL_n)) (inS_r (by simp [h0]) inS_n) d_M_init_93 ?_
  refine bw_putR (ci := 7) (C := uR7) (T := uT7) (N := 27) (ty := .array .int) (j := 15) (k := 1000) (r := 1016) rfl rfl (by decide) (gt_at 620 (by decide +kernel) rfl) rfl rfl (by decide +kernel) (fun _ => rfl) (fun _ => rfl) sh_1000 (by simp [h0]) rfl (by simp) d_M_init_95 ?_
  refine bw_aload_n d_M_init_98 rfl ?_
  refine bw_bipush (v := 30) d_M_init_99 (by decide) ?_
  refine bw_newa (k := 1017) (N := 30) rfl (by simp [hI 1017 (by decide)]) (funext (hu 1017 (by decide)).1) (fun j => by simp [zS, (hu 1017 (by decide)).2.2]) (by decide) (by decide) (by decide) (by decide) (by decide) (inL_r (by simp [h0]) (inL_0 inL_n)) (inS_r (by simp [h0]) inS_n) d_M_init_101 ?_
  refine bw_putR (ci := 7) (C := uR7) (T := uT7) (N := 27) (ty := .array .int) (j := 16) (k := 1000) (r := 1017) rfl rfl (by decide) (gt_at 621 (by decide +kernel) rfl) rfl rfl (by decide +kernel) (fun _ => rfl) (fun _ => rfl) sh_1000 (by simp [h0]) rfl (by simp) d_M_init_103 ?_
  refine bw_aload_n d_M_init_106 rfl ?_
  refine bw_sipush (v := 240) d_M_init_107 (by decide) ?_
  refine bw_newa (k := 1018) (N := 240) rfl (by simp [hI 1018 (by decide)]) (funext (hu 1018 (by decide)).1) (fun j => by simp [zS, (hu 1018 (by decide)).2.2]) (by decide) (by decide) (by decide) (by decide) (by decide) (inL_r (by simp [h0]) (inL_0 inL_n)) (inS_r (by simp [h0]) inS_n) d_M_init_110 ?_
  refine bw_putR (ci := 7) (C := uR7) (T := uT7) (N := 27) (ty := .array .int) (j := 17) (k := 1000) (r := 1018) rfl rfl (by decide) (gt_at 622 (by decide +kernel) rfl) rfl rfl (by decide +kernel) (fun _ => rfl) (fun _ => rfl) sh_1000 (by simp [h0]) rfl (by simp) d_M_init_112 ?_
  refine bw_aload_n d_M_init_115 rfl ?_
  refine bw_sipush (v := 240) d_M_init_116 (by decide) ?_
  refine bw_newa (k := 1019) (N := 240) rfl (by simp [hI 1019 (by decide)]) (funext (hu 1019 (by decide)).1) (fun j => by simp [zS, (hu 1019 (by decide)).2.2]) (by decide) (by decide) (by decide) (by decide) (by decide) (inL_r (by simp [h0]) (inL_0 inL_n)) (inS_r (by simp [h0]) inS_n) d_M_init_119 ?_
  refine bw_putR (ci := 7) (C := uR7) (T := uT7) (N := 27) (ty := .array .int) (j := 18) (k := 1000) (r := 1019) rfl rfl (by decide) (gt_at 623 (by decide +kernel) rfl) rfl rfl (by decide +kernel) (fun _ => rfl) (fun _ => rfl) sh_1000 (by simp [h0]) rfl (by simp) d_M_init_121 ?_
  refine bw_aload_n d_M_init_124 rfl ?_
  refine bw_iconst (v := 4) d_M_init_125 (by decide) ?_
  refine bw_newa (k := 1021) (N := 4) rfl (by simp [hI 1021 (by decide)]) (funext (hu 1021 (by decide)).1) (fun j => by simp [zS, (hu 1021 (by decide)).2.2]) (by decide) (by decide) (by decide) (by decide) (by decide) (inL_r (by simp [h0]) (inL_0 inL_n)) (inS_r (by simp [h0]) inS_n) d_M_init_126 ?_
  refine bw_putR (ci := 7) (C := uR7) (T := uT7) (N := 27) (ty := .array .int) (j := 20) (k := 1000) (r := 1021) rfl rfl (by decide) (gt_at 625 (by decide +kernel) rfl) rfl rfl (by decide +kernel) (fun _ => rfl) (fun _ => rfl) sh_1000 (by simp [h0]) rfl (by simp) d_M_init_128 ?_
  refine bw_aload_n d_M_init_131 rfl ?_
  refine bw_bipush (v := 32) d_M_init_132 (by decide) ?_
  refine bw_newa (k := 1022) (N := 32) rfl (by simp [hI 1022 (by decide)]) (funext (hu 1022 (by decide)).1) (fun j => by simp [zS, (hu 1022 (by decide)).2.2]) (by decide) (by decide) (by decide) (by decide) (by decide) (inL_r (by simp [h0]) (inL_0 inL_n)) (inS_r (by simp [h0]) inS_n) d_M_init_134 ?_
  refine bw_putR (ci := 7) (C := uR7) (T := uT7) (N := 27) (ty := .array .int) (j := 21) (k := 1000) (r := 1022) rfl rfl (by decide) (gt_at 626 (by decide +kernel) rfl) rfl rfl (by decide +kernel) (fun _ => rfl) (fun _ => rfl) sh_1000 (by simp [h0]) rfl (by simp) d_M_init_136 ?_
  refine bw_aload_n d_M_init_139 rfl ?_
  refine bw_bipush (v := 8) d_M_init_140 (by decide) ?_
  refine bw_newa (k := 1023) (N := 8) rfl (by simp [hI 1023 (by decide)]) (funext (hu 1023 (by decide)).1) (fun j => by simp [zS, (hu 1023 (by decide)).2.2]) (by decide) (by decide) (by decide) (by decide) (by decide) (inL_r (by simp [h0]) (inL_0 inL_n)) (inS_r (by simp [h0]) inS_n) d_M_init_142 ?_
  refine bw_putR (ci := 7) (C := uR7) (T := uT7) (N := 27) (ty := .array .int) (j := 22) (k := 1000) (r := 1023) rfl rfl (by decide) (gt_at 627 (by decide +kernel) rfl) rfl rfl (by decide +kernel) (fun _ => rfl) (fun _ => rfl) sh_1000 (by simp [h0]) rfl (by simp) d_M_init_144 ?_
  refine bw_aload_n d_M_init_147 rfl ?_
  refine bw_bipush (v := 8) d_M_init_148 (by decide) ?_
  refine bw_newa (k := 1027) (N := 8) rfl (by simp [hI 1027 (by decide)]) (funext (hu 1027 (by decide)).1) (fun j => by simp [zS, (hu 1027 (by decide)).2.2]) (by decide) (by decide) (by decide) (by decide) (by decide) (inL_r (by simp [h0]) (inL_0 inL_n)) (inS_r (by simp [h0]) inS_n) d_M_init_150 ?_
  refine bw_putR (ci := 7) (C := uR7) (T := uT7) (N := 27) (ty := .array .int) (j := 26) (k := 1000) (r := 1027) rfl rfl (by decide) (gt_at 631 (by decide +kernel) rfl) rfl rfl (by decide +kernel) (fun _ => rfl) (fun _ => rfl) sh_1000 (by simp [h0]) rfl (by simp) d_M_init_152 ?_
  refine bw_iconst (v := 0) d_M_init_155 (by decide) ?_
  refine bw_istore_n d_M_init_156 rfl ?_
  exact bw_w _ _ (by decide) (by decide) (bw_L (by simp only [lset1, kl]; rfl) (bw_M mRow_0.symm (bl_M h0 hu 0 (by omega))))
