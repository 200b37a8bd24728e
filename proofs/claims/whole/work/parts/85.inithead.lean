/-! ===== the constructor of the class: its head ===== -/
def Mz : Mem := (fun _ _ => 0, fun _ _ => 0)
def Zt : Nat → Nat → Bool := fun _ _ => true
theorem bUn_0 (k : Nat) : bUn Mz Zt k := ⟨fun _ => rfl, fun _ => rfl, fun _ => rfl⟩
theorem bs_C : BS u_C_init 146 1324 [.ref 0] [0] Mz Zt pC := by
  refine bs_intro (L := [some (.ref 0), none]) (by decide +kernel) (fun ad q h => h) (fun ad => Nat.le_of_ble_eq_true rfl) ?_
  refine bw_aload_n d_C_init_0 rfl ?_
  refine bw_objInit (gt_at 18 (by decide +kernel) rfl) oi2 oi3 d_C_init_1 (by decide) (by decide) ?_
  refine bw_aload_n d_C_init_4 rfl ?_
  refine bw_bipush (v := 8) d_C_init_5 (by decide) ?_
  refine bw_newq (k := 1) (t := 1) (N := 8) (by decide) (by decide) (gt_at 21 (by decide +kernel) rfl) rfl (by decide) (fun j => rfl) (by decide) (by decide) (by decide) (by decide) (by decide) (inL_r (by decide) (inL_0 inL_n)) (inS_r (by decide) inS_n) d_C_init_7 ?_
  refine bw_putR (ci := 6) (C := uR6) (T := uT6) (N := 17) (ty := .array (.object "UnlikeDrawn$Head")) (j := 0) (k := 0) (r := 1) rfl rfl (by decide) (gt_at 143 (by decide +kernel) rfl) rfl rfl (by decide +kernel) (fun _ => rfl) (fun _ => rfl) sh_0 (by decide) rfl (by decide) d_C_init_10 ?_
  refine bw_aload_n d_C_init_13 rfl ?_
  refine bw_iconst (v := 4) d_C_init_14 (by decide) ?_
  refine bw_newq (k := 2) (t := 2) (N := 4) (by decide) (by decide) (gt_at 23 (by decide +kernel) rfl) rfl (by decide) (fun j => (zS_ne (by decide) j).trans (rfl)) (by decide) (by decide) (by decide) (by decide) (by decide) (inL_r (by decide) (inL_0 inL_n)) (inS_r (by decide) inS_n) d_C_init_15 ?_
  refine bw_putR (ci := 6) (C := uR6) (T := uT6) (N := 17) (ty := .array (.object "UnlikeDrawn$Hand")) (j := 1) (k := 0) (r := 2) rfl rfl (by decide) (gt_at 144 (by decide +kernel) rfl) rfl rfl (by decide +kernel) (fun _ => rfl) (fun _ => rfl) sh_0 (by decide) rfl (by decide) d_C_init_18 ?_
  refine bw_aload_n d_C_init_21 rfl ?_
  refine bw_bipush (v := 30) d_C_init_22 (by decide) ?_
  refine bw_newq (k := 3) (t := 3) (N := 30) (by decide) (by decide) (gt_at 25 (by decide +kernel) rfl) rfl (by decide) (fun j => (zS_ne (by decide) j).trans ((zS_ne (by decide) j).trans (rfl))) (by decide) (by decide) (by decide) (by decide) (by decide) (inL_r (by decide) (inL_0 inL_n)) (inS_r (by decide) inS_n) d_C_init_24 ?_
  refine bw_putR (ci := 6) (C := uR6) (T := uT6) (N := 17) (ty := .array (.object "UnlikeDrawn$Sketch")) (j := 2) (k := 0) (r := 3) rfl rfl (by decide) (gt_at 145 (by decide +kernel) rfl) rfl rfl (by decide +kernel) (fun _ => rfl) (fun _ => rfl) sh_0 (by decide) rfl (by decide) d_C_init_27 ?_
  refine bw_aload_n d_C_init_30 rfl ?_
  refine bw_iconst (v := 4) d_C_init_31 (by decide) ?_
  refine bw_newq (k := 4) (t := 4) (N := 4) (by decide) (by decide) (gt_at 27 (by decide +kernel) rfl) rfl (by decide) (fun j => (zS_ne (by decide) j).trans ((zS_ne (by decide) j).trans ((zS_ne (by decide) j).trans (rfl)))) (by decide) (by decide) (by decide) (by decide) (by decide) (inL_r (by decide) (inL_0 inL_n)) (inS_r (by decide) inS_n) d_C_init_32 ?_
  refine bw_putR (ci := 6) (C := uR6) (T := uT6) (N := 17) (ty := .array (.object "UnlikeDrawn$Knower")) (j := 3) (k := 0) (r := 4) rfl rfl (by decide) (gt_at 146 (by decide +kernel) rfl) rfl rfl (by decide +kernel) (fun _ => rfl) (fun _ => rfl) sh_0 (by decide) rfl (by decide) d_C_init_35 ?_
  refine bw_aload_n d_C_init_38 rfl ?_
  refine bw_iconst (v := 4) d_C_init_39 (by decide) ?_
  refine bw_newq (k := 5) (t := 5) (N := 4) (by decide) (by decide) (gt_at 29 (by decide +kernel) rfl) rfl (by decide) (fun j => (zS_ne (by decide) j).trans ((zS_ne (by decide) j).trans ((zS_ne (by decide) j).trans ((zS_ne (by decide) j).trans (rfl))))) (by decide) (by decide) (by decide) (by decide) (by decide) (inL_r (by decide) (inL_0 inL_n)) (inS_r (by decide) inS_n) d_C_init_40 ?_
  refine bw_putR (ci := 6) (C := uR6) (T := uT6) (N := 17) (ty := .array (.object "UnlikeDrawn$Sheet")) (j := 4) (k := 0) (r := 5) rfl rfl (by decide) (gt_at 147 (by decide +kernel) rfl) rfl rfl (by decide +kernel) (fun _ => rfl) (fun _ => rfl) sh_0 (by decide) rfl (by decide) d_C_init_43 ?_
  refine bw_aload_n d_C_init_46 rfl ?_
  refine bw_bipush (v := 60) d_C_init_47 (by decide) ?_
  refine bw_putI fp_C_39 sh_0 (by decide) rfl d_C_init_49 ?_
  refine bw_aload_n d_C_init_52 rfl ?_
  refine bw_bipush (v := 10) d_C_init_53 (by decide) ?_
  refine bw_putI fp_C_43 sh_0 (by decide) rfl d_C_init_55 ?_
  refine bw_aload_n d_C_init_58 rfl ?_
  refine bw_bipush (v := 20) d_C_init_59 (by decide) ?_
  refine bw_putI fp_C_46 sh_0 (by decide) rfl d_C_init_61 ?_
  have hM3 : ∀ k, k ≠ 0 → bUn (mS (mS (mS Mz 0 8 60) 0 9 10) 0 10 20) (zS (zS (zS (zS (zS Zt 0 0) 0 1) 0 2) 0 3) 0 4) k := fun k h => ((((((((bUn_0 k).sm (bSm_z h)).sm (bSm_z h)).sm (bSm_z h)).sm (bSm_z h)).sm (bSm_z h)).sm (bSm_m h)).sm (bSm_m h)).sm (bSm_m h)
  refine bw_aload_n d_C_init_64 rfl ?_
  refine bw_new (k := 130) (ci := 5) (C := uR5) (T := uT5) (N := 6) uY5 uTyOk5 df5 rfl (gt_at 25 (by decide +kernel) rfl) (gt_at 31 (by decide +kernel) rfl) (gt_at 2 (by decide +kernel) rfl) (uSh_100 (by decide) (by decide)) (by decide) (hM3 130 (by decide)).1 (hM3 130 (by decide)).2.1 (hM3 130 (by decide)).2.2 (by decide) (by decide) (inL_r (by decide) (inL_0 inL_n)) (inS_r (by decide) inS_n) d_C_init_65 ?_
  refine bw_dup_ref d_C_init_68 ?_
  refine bw_initN (u' := u_Sk_init) (i := 49) (fun s h => h.1.1) iw_Sk (bs_Sk (a := 130) (by decide) (by decide) (by decide) (by decide) (by decide) (hM3 130 (by decide)) (hM3 230 (by decide)) (hM3 330 (by decide))) rfl rfl (by decide) (by decide) (inL_r (by decide) (inL_0 inL_n)) (inS_r (by decide) (inS_r (by decide) inS_n)) d_C_init_69 (fun I1 M1 Z1 q1 => ?_)
  have m1 : ∀ k, k ∈ I1 ↔ (k ≤ 5 ∨ k = 130 ∨ k = 230 ∨ k = 330) := fun k => by
    rw [q1.1 k]
    simp only [List.mem_append, List.mem_singleton]
    omega
  have u1 : ∀ k, k ≠ 0 → ¬ (k = 130 ∨ k = 230 ∨ k = 330) → bUn M1 Z1 k := fun k h0 h => (hM3 k h0).sm (q1.2.2 k h)
  refine bw_putR (ci := 6) (C := uR6) (T := uT6) (N := 17) (ty := .object "UnlikeDrawn$Sketch") (j := 12) (k := 0) (r := 130) rfl rfl (by decide) (gt_at 155 (by decide +kernel) rfl) rfl rfl (by decide +kernel) (fun _ => rfl) (fun _ => rfl) sh_0 ((m1 0).mpr (by decide)) rfl ((m1 130).mpr (by decide)) d_C_init_72 ?_
  refine bw_aload_n d_C_init_75 rfl ?_
  refine bw_bipush (v := 8) d_C_init_76 (by decide) ?_
  refine bw_newa (k := 6) (N := 8) rfl (fun z => absurd ((m1 6).mp z) (by decide)) (funext (u1 6 (by decide) (by decide)).1) ((u1 6 (by decide) (by decide)).sm (bSm_z (by decide))).2.2 (by decide) (by decide) (by decide) (by decide) (by decide) (inL_r ((m1 0).mpr (by decide)) (inL_0 inL_n)) (inS_r ((m1 0).mpr (by decide)) inS_n) d_C_init_78 ?_
  have m2 : ∀ k, k ∈ I1 ++ [6] ↔ (k ≤ 6 ∨ k = 130 ∨ k = 230 ∨ k = 330) := fun k => by
    rw [List.mem_append, List.mem_singleton, m1 k]
    omega
  refine bw_putR (ci := 6) (C := uR6) (T := uT6) (N := 17) (ty := .array .int) (j := 13) (k := 0) (r := 6) rfl rfl (by decide) (gt_at 156 (by decide +kernel) rfl) rfl rfl (by decide +kernel) (fun _ => rfl) (fun _ => rfl) sh_0 ((m2 0).mpr (by decide)) rfl ((m2 6).mpr (by decide)) d_C_init_80 ?_
  refine bw_aload_n d_C_init_83 rfl ?_
  refine bw_bipush (v := 8) d_C_init_84 (by decide) ?_
  refine bw_newa (k := 7) (N := 8) rfl (fun z => absurd ((m2 7).mp z) (by decide)) (funext (u1 7 (by decide) (by decide)).1) (((u1 7 (by decide) (by decide)).sm (bSm_z (by decide))).sm (bSm_z (by decide))).2.2 (by decide) (by decide) (by decide) (by decide) (by decide) (inL_r ((m2 0).mpr (by decide)) (inL_0 inL_n)) (inS_r ((m2 0).mpr (by decide)) inS_n) d_C_init_86 ?_
  have m3 : ∀ k, k ∈ I1 ++ [6] ++ [7] ↔ (k ≤ 7 ∨ k = 130 ∨ k = 230 ∨ k = 330) := fun k => by
    rw [List.mem_append, List.mem_singleton, m2 k]
    omega
  refine bw_putR (ci := 6) (C := uR6) (T := uT6) (N := 17) (ty := .array .int) (j := 14) (k := 0) (r := 7) rfl rfl (by decide) (gt_at 157 (by decide +kernel) rfl) rfl rfl (by decide +kernel) (fun _ => rfl) (fun _ => rfl) sh_0 ((m3 0).mpr (by decide)) rfl ((m3 7).mpr (by decide)) d_C_init_88 ?_
  have s3 : ∀ k, k ≠ 0 → bSm M1 M1 Z1 (zS (zS (zS Z1 0 12) 0 13) 0 14) k := fun k h => ((bSm_z h).tr (bSm_z h)).tr (bSm_z h)
  have u3 : ∀ k, k ≠ 0 → ¬ (k = 130 ∨ k = 230 ∨ k = 330) → bUn M1 (zS (zS (zS Z1 0 12) 0 13) 0 14) k := fun k h0 h => (u1 k h0 h).sm (s3 k h0)
  refine bw_aload_n d_C_init_91 rfl ?_
  refine bw_new (k := 8) (ci := 0) (C := uR0) (T := uT0) (N := 2) uY0 uTyOk0 df0 rfl (gt_at 60 (by decide +kernel) rfl) (gt_at 61 (by decide +kernel) rfl) (gt_at 3 (by decide +kernel) rfl) rfl (fun z => absurd ((m3 8).mp z) (by decide)) (u3 8 (by decide) (by decide)).1 (u3 8 (by decide) (by decide)).2.1 (u3 8 (by decide) (by decide)).2.2 (by decide) (by decide) (inL_r ((m3 0).mpr (by decide)) (inL_0 inL_n)) (inS_r ((m3 0).mpr (by decide)) inS_n) d_C_init_92 ?_
  have m4 : ∀ k, k ∈ I1 ++ [6] ++ [7] ++ [8] ↔ (k ≤ 8 ∨ k = 130 ∨ k = 230 ∨ k = 330) := fun k => by
    rw [List.mem_append, List.mem_singleton, m3 k]
    omega
  refine bw_dup_ref d_C_init_95 ?_
  refine bw_initN (u' := u_Fr_init) (i := 63) (fun s h => h.1.2.1) iw_Fr (bs_Fr (a := 8) (by decide) ((m4 8).mpr (by decide)) (u3 8 (by decide) (by decide))) rfl rfl (by decide) (by decide) (inL_r ((m4 0).mpr (by decide)) (inL_0 inL_n)) (inS_r ((m4 8).mpr (by decide)) (inS_r ((m4 0).mpr (by decide)) inS_n)) d_C_init_96 (fun I2 M2 Z2 q2 => ?_)
  have m5 : ∀ k, k ∈ I2 ↔ (k ≤ 8 ∨ k = 130 ∨ k = 230 ∨ k = 330) := fun k => by
    rw [q2.1 k, m4 k]
    simp
  refine bw_putR (ci := 6) (C := uR6) (T := uT6) (N := 17) (ty := .object "UnlikeDrawn$Fraction") (j := 15) (k := 0) (r := 8) rfl rfl (by decide) (gt_at 158 (by decide +kernel) rfl) rfl rfl (by decide +kernel) (fun _ => rfl) (fun _ => rfl) sh_0 ((m5 0).mpr (by decide)) rfl ((m5 8).mpr (by decide)) d_C_init_99 ?_
  have s5 : ∀ k, k ≠ 0 → k ≠ 8 → bSm M1 M2 Z1 (zS Z2 0 15) k := fun k h h8 => ((s3 k h).tr (q2.2.2 k h8)).tr (bSm_z h)
  have u5 : ∀ k, k ≠ 0 → k ≠ 8 → ¬ (k = 130 ∨ k = 230 ∨ k = 330) → bUn M2 (zS Z2 0 15) k := fun k h0 h8 h => (u1 k h0 h).sm (s5 k h0 h8)
  refine bw_aload_n d_C_init_102 rfl ?_
  refine bw_new (k := 9) (ci := 0) (C := uR0) (T := uT0) (N := 2) uY0 uTyOk0 df0 rfl (gt_at 60 (by decide +kernel) rfl) (gt_at 61 (by decide +kernel) rfl) (gt_at 3 (by decide +kernel) rfl) rfl (fun z => absurd ((m5 9).mp z) (by decide)) (u5 9 (by decide) (by decide) (by decide)).1 (u5 9 (by decide) (by decide) (by decide)).2.1 (u5 9 (by decide) (by decide) (by decide)).2.2 (by decide) (by decide) (inL_r ((m5 0).mpr (by decide)) (inL_0 inL_n)) (inS_r ((m5 0).mpr (by decide)) inS_n) d_C_init_103 ?_
  have m6 : ∀ k, k ∈ I2 ++ [9] ↔ (k ≤ 9 ∨ k = 130 ∨ k = 230 ∨ k = 330) := fun k => by
    rw [List.mem_append, List.mem_singleton, m5 k]
    omega
  refine bw_dup_ref d_C_init_106 ?_
  refine bw_initN (u' := u_Fr_init) (i := 63) (fun s h => h.1.2.1) iw_Fr (bs_Fr (a := 9) (by decide) ((m6 9).mpr (by decide)) (u5 9 (by decide) (by decide) (by decide))) rfl rfl (by decide) (by decide) (inL_r ((m6 0).mpr (by decide)) (inL_0 inL_n)) (inS_r ((m6 9).mpr (by decide)) (inS_r ((m6 0).mpr (by decide)) inS_n)) d_C_init_107 (fun I3 M3 Z3 q3 => ?_)
  have m7 : ∀ k, k ∈ I3 ↔ (k ≤ 9 ∨ k = 130 ∨ k = 230 ∨ k = 330) := fun k => by
    rw [q3.1 k, m6 k]
    simp
  refine bw_putR (ci := 6) (C := uR6) (T := uT6) (N := 17) (ty := .object "UnlikeDrawn$Fraction") (j := 16) (k := 0) (r := 9) rfl rfl (by decide) (gt_at 159 (by decide +kernel) rfl) rfl rfl (by decide +kernel) (fun _ => rfl) (fun _ => rfl) sh_0 ((m7 0).mpr (by decide)) rfl ((m7 9).mpr (by decide)) d_C_init_110 ?_
  have s7 : ∀ k, k ≠ 0 → k ≠ 8 → k ≠ 9 → bSm M1 M3 Z1 (zS Z3 0 16) k := fun k h h8 h9 => ((s5 k h h8).tr (q3.2.2 k h9)).tr (bSm_z h)
  refine bw_iconst (v := 0) d_C_init_113 (by decide) ?_
  refine bw_istore_n d_C_init_114 rfl ?_
  refine bw_w (12 + 2 * 0) (92 + 9 * 0) (by decide) (by decide) (bw_L (by simp only [lset1, kl]; rfl) (bl_C1 0 (by omega) _ _ _ ?_))
  have z1 : ∀ j, Z1 0 j = zS (zS (zS (zS (zS Zt 0 0) 0 1) 0 2) 0 3) 0 4 0 j := (q1.2.2 0 (by decide)).2.2
  have z2 : ∀ j, Z2 0 j = zS (zS (zS Z1 0 12) 0 13) 0 14 0 j := (q2.2.2 0 (by decide)).2.2
  have z3 : ∀ j, Z3 0 j = zS Z2 0 15 0 j := (q3.2.2 0 (by decide)).2.2
  have y3 : ∀ j, M3.1 0 j = (mS (mS (mS Mz 0 8 60) 0 9 10) 0 10 20).1 0 j := fun j => (((q3.2.2 0 (by decide)).1 j).trans ((q2.2.2 0 (by decide)).1 j)).trans ((q1.2.2 0 (by decide)).1 j)
  refine ⟨fun k => ?_, fun k hk hk5 => ?_, fun t i f => ?_, fun k hk => ?_⟩
  · rw [m7 k]
    unfold bC
    omega
  · have hc : k = 0 ∨ k = 6 ∨ k = 7 ∨ k = 8 ∨ k = 9 ∨ (k = 130 ∨ k = 230 ∨ k = 330) := by
      unfold bC at hk
      omega
    rcases hc with rfl | rfl | rfl | rfl | rfl | hc
    · refine ⟨?_, ?_, ?_, ?_, ?_, (y3 5).trans rfl, (y3 6).trans rfl, (y3 7).trans rfl, (y3 8).trans rfl, (y3 9).trans rfl, (y3 10).trans rfl, (y3 11).trans rfl, ?_, ?_, ?_, ?_, ?_, trivial⟩ <;> simp [zS, z1, z2, z3]
    · exact fun j _ => (((u1 6 (by decide) (by decide)).sm (s7 6 (by decide) (by decide) (by decide))).1 j).trans (M0_z (by decide) (by decide) (by decide) (by decide) (by decide) (by decide) (by decide) (by decide)).symm
    · exact fun j _ => (((u1 7 (by decide) (by decide)).sm (s7 7 (by decide) (by decide) (by decide))).1 j).trans (M0_z (by decide) (by decide) (by decide) (by decide) (by decide) (by decide) (by decide) (by decide)).symm
    · exact (((q2.2.1 8 rfl).sm (bSm_z (by decide))).sm (q3.2.2 8 (by decide))).sm (bSm_z (by decide))
    · exact (q3.2.1 9 rfl).sm (bSm_z (by decide))
    · exact (q1.2.1 k hc).sm (s7 k (by omega) (by omega) (by omega))
  · unfold bF at f
    omega
  · have hc : k ≠ 0 ∧ k ≠ 8 ∧ k ≠ 9 ∧ ¬ (k = 130 ∨ k = 230 ∨ k = 330) := by
      unfold bC at hk
      omega
    exact (u1 k hc.1 hc.2.2.2).sm (s7 k hc.1 hc.2.1 hc.2.2.1)
