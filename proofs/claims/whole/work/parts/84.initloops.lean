/-! ===== the constructor of the class ===== -/
theorem iw_He : IW u_He_init := ⟨⟨gt_at 77 (by decide +kernel) rfl, gt_at 4 (by decide +kernel) rfl, gc_He_init⟩, ⟨by decide +kernel, by decide +kernel, by decide +kernel⟩, rfl, rfl⟩
theorem iw_Ha : IW u_Ha_init := ⟨⟨gt_at 91 (by decide +kernel) rfl, gt_at 6 (by decide +kernel) rfl, gc_Ha_init⟩, ⟨by decide +kernel, by decide +kernel, by decide +kernel⟩, rfl, rfl⟩
theorem iw_Kn : IW u_Kn_init := ⟨⟨gt_at 113 (by decide +kernel) rfl, gt_at 7 (by decide +kernel) rfl, gc_Kn_init⟩, ⟨by decide +kernel, by decide +kernel, by decide +kernel⟩, rfl, rfl⟩
theorem iw_Sh : IW u_Sh_init := ⟨⟨gt_at 127 (by decide +kernel) rfl, gt_at 8 (by decide +kernel) rfl, gc_Sh_init⟩, ⟨by decide +kernel, by decide +kernel, by decide +kernel⟩, rfl, rfl⟩
theorem iw_Sk : IW u_Sk_init := ⟨⟨gt_at 33 (by decide +kernel) rfl, gt_at 2 (by decide +kernel) rfl, gc_Sk_init⟩, ⟨by decide +kernel, by decide +kernel, by decide +kernel⟩, rfl, rfl⟩
theorem iw_Fr : IW u_Fr_init := ⟨⟨gt_at 63 (by decide +kernel) rfl, gt_at 3 (by decide +kernel) rfl, gc_Fr_init⟩, ⟨by decide +kernel, by decide +kernel, by decide +kernel⟩, rfl, rfl⟩
theorem iw_C : IW u_C_init := ⟨⟨gt_at 16 (by decide +kernel) rfl, gt_at 1 (by decide +kernel) rfl, gc_C_init⟩, ⟨by decide +kernel, by decide +kernel, by decide +kernel⟩, rfl, rfl⟩
theorem iw_M : IW u_M_init := ⟨⟨gt_at 602 (by decide +kernel) rfl, gt_at 9 (by decide +kernel) rfl, gc_M_init⟩, ⟨by decide +kernel, by decide +kernel, by decide +kernel⟩, rfl, rfl⟩
theorem df0 : ∀ j, j < 2 → defaultValue (uY0 j) = vp_V (bDef [fJ, fJ]) j := fun j hj => by
  rcases (show j = 0 ∨ j = 1 by omega) with rfl | rfl <;> rfl
theorem df1 {a b : Nat} : ∀ j, j < 4 → defaultValue (uY1 j) = vp_V (bDef [.inl a, .inl b, fI, fI]) j := fun j hj => by
  rcases (show j = 0 ∨ j = 1 ∨ j = 2 ∨ j = 3 by omega) with rfl | rfl | rfl | rfl <;> rfl
theorem df2 {a : Nat} : ∀ j, j < 1 → defaultValue (uY2 j) = vp_V (bDef [.inl a]) j := fun j hj => by
  rcases (show j = 0 by omega) with rfl <;> rfl
theorem df3 {a : Nat} : ∀ j, j < 2 → defaultValue (uY3 j) = vp_V (bDef [.inl a, fI]) j := fun j hj => by
  rcases (show j = 0 ∨ j = 1 by omega) with rfl | rfl <;> rfl
theorem df4 {a : Nat} : ∀ j, j < 3 → defaultValue (uY4 j) = vp_V (bDef [.inl a, fI, fI]) j := fun j hj => by
  rcases (show j = 0 ∨ j = 1 ∨ j = 2 by omega) with rfl | rfl | rfl <;> rfl
theorem df5 {a b : Nat} : ∀ j, j < 6 → defaultValue (uY5 j) = vp_V (bDef [.inl a, .inl b, fI, fI, fI, fI]) j := fun j hj => by
  rcases (show j = 0 ∨ j = 1 ∨ j = 2 ∨ j = 3 ∨ j = 4 ∨ j = 5 by omega) with rfl | rfl | rfl | rfl | rfl | rfl <;> rfl
theorem df6 : ∀ j, j < 17 → defaultValue (uY6 j) = vp_V (bDef (shObj 0).2) j := fun j hj => by
  rcases (show j = 0 ∨ j = 1 ∨ j = 2 ∨ j = 3 ∨ j = 4 ∨ j = 5 ∨ j = 6 ∨ j = 7 ∨ j = 8 ∨ j = 9 ∨ j = 10 ∨ j = 11 ∨ j = 12 ∨ j = 13 ∨ j = 14 ∨ j = 15 ∨ j = 16 by omega) with rfl | rfl | rfl | rfl | rfl | rfl | rfl | rfl | rfl | rfl | rfl | rfl | rfl | rfl | rfl | rfl | rfl <;> rfl
theorem df7 : ∀ j, j < 27 → defaultValue (uY7 j) = vp_V (bDef (shObj 1).2) j := fun j hj => by
  rcases (show j = 0 ∨ j = 1 ∨ j = 2 ∨ j = 3 ∨ j = 4 ∨ j = 5 ∨ j = 6 ∨ j = 7 ∨ j = 8 ∨ j = 9 ∨ j = 10 ∨ j = 11 ∨ j = 12 ∨ j = 13 ∨ j = 14 ∨ j = 15 ∨ j = 16 ∨ j = 17 ∨ j = 18 ∨ j = 19 ∨ j = 20 ∨ j = 21 ∨ j = 22 ∨ j = 23 ∨ j = 24 ∨ j = 25 ∨ j = 26 by omega) with rfl | rfl | rfl | rfl | rfl | rfl | rfl | rfl | rfl | rfl | rfl | rfl | rfl | rfl | rfl | rfl | rfl | rfl | rfl | rfl | rfl | rfl | rfl | rfl | rfl | rfl | rfl <;> rfl
def bC (nh na nd nk nz : Nat) (k : Nat) : Prop := k < 10 ∨ k = 130 ∨ k = 230 ∨ k = 330 ∨ (10 ≤ k ∧ k < 10 + nh) ∨ (20 ≤ k ∧ k < 20 + nh) ∨ (30 ≤ k ∧ k < 30 + na) ∨ (40 ≤ k ∧ k < 40 + na) ∨ (50 ≤ k ∧ k < 50 + na) ∨ (100 ≤ k ∧ k < 100 + nd) ∨ (200 ≤ k ∧ k < 200 + nd) ∨ (300 ≤ k ∧ k < 300 + nd) ∨ (60 ≤ k ∧ k < 60 + nk) ∨ (70 ≤ k ∧ k < 70 + nk) ∨ (80 ≤ k ∧ k < 80 + nz) ∨ (90 ≤ k ∧ k < 90 + nz)
def bF (nh na nd nk nz : Nat) (t i : Nat) : Prop := (t = 1 ∧ i < nh) ∨ (t = 2 ∧ i < na) ∨ (t = 3 ∧ i < nd) ∨ (t = 4 ∧ i < nk) ∨ (t = 5 ∧ i < nz)
/-- B are born, all of them done but the rows 1 to 5, of which F is filled; nothing else is born -/
def bSt (B : Nat → Prop) (F : Nat → Nat → Prop) (I : List Nat) (M : Mem) (Z : Nat → Nat → Bool) : Prop := (∀ k, k ∈ I ↔ B k) ∧ (∀ k, B k → ¬ (1 ≤ k ∧ k ≤ 5) → bDn M Z k) ∧ (∀ t i, F t i → Z t i = false) ∧ ∀ k, ¬ B k → bUn M Z k
theorem bSt.step {B B' : Nat → Prop} {F F' : Nat → Nat → Prop} {I I2 : List Nat} {M M2 : Mem} {Z Z2 : Nat → Nat → Bool} {o t i : Nat} {N : Nat → Prop} (h : bSt B F I M Z) (ho : ¬ B o) (hN : ∀ k, N k → ¬ B k) (ht1 : 1 ≤ t) (ht2 : t ≤ 5) (hBt : B t) (hF : ∀ a b, F a b → B a) (q : bMk (fun k => k = o ∨ N k) N (I ++ [o]) M Z I2 M2 Z2) (hB' : ∀ k, B' k ↔ B k ∨ k = o ∨ N k) (hF' : ∀ a b, F' a b → F a b ∨ (a = t ∧ b = i)) : bSt B' F' I2 M2 (zS Z2 t i) := by
  obtain ⟨h1, h2, h3, h4⟩ := h
  obtain ⟨q1, q2, q3⟩ := q
  refine ⟨fun k => ?_, fun k hk hk5 => ?_, fun a b hab => ?_, fun k hk => ?_⟩
  · rw [q1 k, hB' k, List.mem_append, List.mem_singleton, h1 k]
    exact or_assoc
  · have hkt : k ≠ t := fun e => hk5 (e ▸ ⟨ht1, ht2⟩)
    by_cases hp : k = o ∨ N k
    · exact (q2 k hp).sm (bSm_z hkt)
    · have hBk : B k := ((hB' k).mp hk).resolve_right hp
      exact ((h2 k hBk hk5).sm (q3 k hp)).sm (bSm_z hkt)
  · rcases hF' a b hab with f | ⟨e1, e2⟩
    · by_cases e : a = t ∧ b = i
      · exact if_pos e
      · refine (if_neg e).trans ?_
        have hBa := hF a b f
        have hp : ¬ (a = o ∨ N a) := fun z => z.elim (fun e => ho (e ▸ hBa)) (fun n => hN a n hBa)
        exact ((q3 a hp).2.2 b).trans (h3 a b f)
    · exact if_pos ⟨e1, e2⟩
  · have hnB : ¬ B k := fun z => hk ((hB' k).mpr (Or.inl z))
    have hp : ¬ (k = o ∨ N k) := fun z => hk ((hB' k).mpr (Or.inr z))
    have hkt : k ≠ t := fun e => hnB (e ▸ hBt)
    exact ((h4 k hnB).sm (q3 k hp)).sm (bSm_z hkt)
theorem sh_0 : uSh 0 = .inr (.inr (6, (shObj 0).2)) := rfl
theorem bDn_0 {M : Mem} {Z : Nat → Nat → Bool} (h : bDn M Z 0) : Z 0 0 = false ∧ Z 0 1 = false ∧ Z 0 2 = false ∧ Z 0 3 = false ∧ Z 0 4 = false := ⟨h.1, h.2.1, h.2.2.1, h.2.2.2.1, h.2.2.2.2.1⟩
def pC : List Nat → Mem → (Nat → Nat → Bool) → Prop := bSt (bC 8 4 30 4 4) (bF 8 4 30 4 4)
theorem bl_C5 : ∀ i, i ≤ 4 → ∀ (I : List Nat) (M : Mem) (Z : Nat → Nat → Bool), bSt (bC 8 4 30 4 i) (bF 8 4 30 4 i) I M Z → BW u_C_init 146 1324 pC (138 + 2 * i) (1072 + 63 * i) 221 [some (.ref 0), some (.int (nI i))] [] I M Z := by
  refine up_ind (fun i hi ih => ?_)
  intro I M Z h
  refine bw_iload_n d_C_init_221 rfl ?_
  refine bw_iconst (v := 4) d_C_init_222 (by decide) ?_
  refine bw_icmp_geN i 4 245 rfl rfl (by omega) d_C_init_223 (by decide) (fun c => ?_) (fun c => ?_)
  · have ei : i = 4 := by omega
    subst ei
    exact bw_vret rfl d_C_init_245 (by decide) (by decide) h
  · have h0 : 0 ∈ I := (h.1 0).mpr (Or.inl (by omega))
    have ht : 5 ∈ I := (h.1 5).mpr (Or.inl (by omega))
    have hz := bDn_0 (h.2.1 0 (Or.inl (by omega)) (by omega))
    have nb : ∀ k, (k = 80 + i ∨ k = 80 + i + 10) → ¬ bC 8 4 30 4 i k := fun k e => by unfold bC; omega
    have hk : 80 + i ∉ I := fun q => nb _ (Or.inl rfl) ((h.1 _).mp q)
    have hu : bUn M Z (80 + i) := h.2.2.2 _ (nb _ (Or.inl rfl))
    have hn0 : 80 + i + 10 ∉ I ++ [80 + i] := fun q => (List.mem_append.mp q).elim (fun q => nb _ (Or.inr rfl) ((h.1 _).mp q)) (fun q => by have := List.mem_singleton.mp q; omega)
    have hu0 : bUn M Z (80 + i + 10) := h.2.2.2 _ (nb _ (Or.inr rfl))
    have hm : 80 + i ∈ I ++ [80 + i] := List.mem_append_right _ (List.mem_singleton.mpr rfl)
    refine bw_aload_n d_C_init_226 rfl ?_
    refine bw_getR fl_C_35 sh_0 h0 rfl hz.2.2.2.2 d_C_init_227 ?_
    refine bw_iload_n d_C_init_230 rfl ?_
    refine bw_new (k := 80 + i) (ci := 4) (C := uR4) (T := uT4) (N := 3) uY4 uTyOk4 df4 rfl (gt_at 29 (by decide +kernel) rfl) (gt_at 125 (by decide +kernel) rfl) (gt_at 8 (by decide +kernel) rfl) (uSh_80 (by omega) (by omega)) hk hu.1 hu.2.1 hu.2.2 (by omega) (by omega) (inL_r h0 (inL_i inL_n)) (inS_i (inS_r ht inS_n)) d_C_init_231 ?_
    refine bw_dup_ref d_C_init_234 ?_
    refine bw_initN (u' := u_Sh_init) (i := 74) (fun s h => h.1.2.2.2) iw_Sh (bs_Sh (by omega) (by omega) hm hn0 hu hu0) rfl rfl (by omega) (by omega) (inL_r (List.mem_append_left _ h0) (inL_i inL_n)) (inS_r hm (inS_i (inS_r (List.mem_append_left _ ht) inS_n))) d_C_init_235 (fun I2 M2 Z2 q => ?_)
    have st := h.step (t := 5) (i := i) (B' := bC 8 4 30 4 (i + 1)) (F' := bF 8 4 30 4 (i + 1)) (nb _ (Or.inl rfl)) (fun k e => nb k (Or.inr e)) (by decide) (by decide) (Or.inl (by omega)) (fun a b f => by unfold bF at f; unfold bC; omega) q (fun k => by simp only [bC]; omega) (fun a b f => by unfold bF at *; omega)
    refine bw_aast (a := 5) (t := 5) (n := 4) (g := fun i => 80 + i) (i := i) (r := 80 + i) (ci := 4) (T := uT4) (N := 3) (by decide) (by decide) rfl ((q.1 _).mpr (Or.inl (List.mem_append_left _ ht))) rfl ((q.1 _).mpr (Or.inl hm)) (uSh_80 (by omega) (by omega)) rfl rfl c (by decide) d_C_init_238 ?_
    refine bw_iincN (x := i) d_C_init_239 rfl rfl ?_
    refine bw_goto 221 d_C_init_242 (by decide) ?_
    exact bw_w _ _ (by omega) (by omega) (bw_L (by simp only [lset1, kl]) (ih c I2 M2 _ st))
theorem bl_C4 : ∀ i, i ≤ 4 → ∀ (I : List Nat) (M : Mem) (Z : Nat → Nat → Bool), bSt (bC 8 4 30 i 0) (bF 8 4 30 i 0) I M Z → BW u_C_init 146 1324 pC (130 + 2 * i) (1032 + 10 * i) 195 [some (.ref 0), some (.int (nI i))] [] I M Z := by
  refine up_ind (fun i hi ih => ?_)
  intro I M Z h
  refine bw_iload_n d_C_init_195 rfl ?_
  refine bw_iconst (v := 4) d_C_init_196 (by decide) ?_
  refine bw_icmp_geN i 4 219 rfl rfl (by omega) d_C_init_197 (by decide) (fun c => ?_) (fun c => ?_)
  · have ei : i = 4 := by omega
    subst ei
    refine bw_iconst (v := 0) d_C_init_219 (by decide) ?_
    refine bw_istore_n d_C_init_220 rfl ?_
    exact bw_w (138 + 2 * 0) (1072 + 63 * 0) (by decide) (by decide) (bw_L (by simp only [lset1, kl]; rfl) (bl_C5 0 (by omega) I M Z h))
  · have h0 : 0 ∈ I := (h.1 0).mpr (Or.inl (by omega))
    have ht : 4 ∈ I := (h.1 4).mpr (Or.inl (by omega))
    have hz := bDn_0 (h.2.1 0 (Or.inl (by omega)) (by omega))
    have nb : ∀ k, (k = 60 + i ∨ k = 60 + i + 10) → ¬ bC 8 4 30 i 0 k := fun k e => by unfold bC; omega
    have hk : 60 + i ∉ I := fun q => nb _ (Or.inl rfl) ((h.1 _).mp q)
    have hu : bUn M Z (60 + i) := h.2.2.2 _ (nb _ (Or.inl rfl))
    have hn0 : 60 + i + 10 ∉ I ++ [60 + i] := fun q => (List.mem_append.mp q).elim (fun q => nb _ (Or.inr rfl) ((h.1 _).mp q)) (fun q => by have := List.mem_singleton.mp q; omega)
    have hu0 : bUn M Z (60 + i + 10) := h.2.2.2 _ (nb _ (Or.inr rfl))
    have hm : 60 + i ∈ I ++ [60 + i] := List.mem_append_right _ (List.mem_singleton.mpr rfl)
    refine bw_aload_n d_C_init_200 rfl ?_
    refine bw_getR fl_C_29 sh_0 h0 rfl hz.2.2.2.1 d_C_init_201 ?_
    refine bw_iload_n d_C_init_204 rfl ?_
    refine bw_new (k := 60 + i) (ci := 3) (C := uR3) (T := uT3) (N := 2) uY3 uTyOk3 df3 rfl (gt_at 27 (by decide +kernel) rfl) (gt_at 111 (by decide +kernel) rfl) (gt_at 7 (by decide +kernel) rfl) (uSh_60 (by omega) (by omega)) hk hu.1 hu.2.1 hu.2.2 (by omega) (by omega) (inL_r h0 (inL_i inL_n)) (inS_i (inS_r ht inS_n)) d_C_init_205 ?_
    refine bw_dup_ref d_C_init_208 ?_
    refine bw_initN (u' := u_Kn_init) (i := 73) (fun s h => h.1.2.2.1) iw_Kn (bs_Kn (by omega) (by omega) hm hn0 hu hu0) rfl rfl (by omega) (by omega) (inL_r (List.mem_append_left _ h0) (inL_i inL_n)) (inS_r hm (inS_i (inS_r (List.mem_append_left _ ht) inS_n))) d_C_init_209 (fun I2 M2 Z2 q => ?_)
    have st := h.step (t := 4) (i := i) (B' := bC 8 4 30 (i + 1) 0) (F' := bF 8 4 30 (i + 1) 0) (nb _ (Or.inl rfl)) (fun k e => nb k (Or.inr e)) (by decide) (by decide) (Or.inl (by omega)) (fun a b f => by unfold bF at f; unfold bC; omega) q (fun k => by simp only [bC]; omega) (fun a b f => by unfold bF at *; omega)
    refine bw_aast (a := 4) (t := 4) (n := 4) (g := fun i => 60 + i) (i := i) (r := 60 + i) (ci := 3) (T := uT3) (N := 2) (by decide) (by decide) rfl ((q.1 _).mpr (Or.inl (List.mem_append_left _ ht))) rfl ((q.1 _).mpr (Or.inl hm)) (uSh_60 (by omega) (by omega)) rfl rfl c (by decide) d_C_init_212 ?_
    refine bw_iincN (x := i) d_C_init_213 rfl rfl ?_
    refine bw_goto 195 d_C_init_216 (by decide) ?_
    exact bw_w _ _ (by omega) (by omega) (bw_L (by simp only [lset1, kl]) (ih c I2 M2 _ st))
theorem bl_C3 : ∀ i, i ≤ 30 → ∀ (I : List Nat) (M : Mem) (Z : Nat → Nat → Bool), bSt (bC 8 4 i 0 0) (bF 8 4 i 0 0) I M Z → BW u_C_init 146 1324 pC (40 + 3 * i) (372 + 22 * i) 168 [some (.ref 0), some (.int (nI i))] [] I M Z := by
  refine up_ind (fun i hi ih => ?_)
  intro I M Z h
  refine bw_iload_n d_C_init_168 rfl ?_
  refine bw_bipush (v := 30) d_C_init_169 (by decide) ?_
  refine bw_icmp_geN i 30 193 rfl rfl (by omega) d_C_init_171 (by decide) (fun c => ?_) (fun c => ?_)
  · have ei : i = 30 := by omega
    subst ei
    refine bw_iconst (v := 0) d_C_init_193 (by decide) ?_
    refine bw_istore_n d_C_init_194 rfl ?_
    exact bw_w (130 + 2 * 0) (1032 + 10 * 0) (by decide) (by decide) (bw_L (by simp only [lset1, kl]; rfl) (bl_C4 0 (by omega) I M Z h))
  · have h0 : 0 ∈ I := (h.1 0).mpr (Or.inl (by omega))
    have ht : 3 ∈ I := (h.1 3).mpr (Or.inl (by omega))
    have hz := bDn_0 (h.2.1 0 (Or.inl (by omega)) (by omega))
    have nb : ∀ k, (k = 100 + i ∨ k = 100 + i + 100 ∨ k = 100 + i + 200) → ¬ bC 8 4 i 0 0 k := fun k e => by unfold bC; omega
    have hk : 100 + i ∉ I := fun q => nb _ (Or.inl rfl) ((h.1 _).mp q)
    have hu : bUn M Z (100 + i) := h.2.2.2 _ (nb _ (Or.inl rfl))
    have hn0 : 100 + i + 100 ∉ I ++ [100 + i] := fun q => (List.mem_append.mp q).elim (fun q => nb _ (Or.inr (Or.inl rfl)) ((h.1 _).mp q)) (fun q => by have := List.mem_singleton.mp q; omega)
    have hu0 : bUn M Z (100 + i + 100) := h.2.2.2 _ (nb _ (Or.inr (Or.inl rfl)))
    have hn1 : 100 + i + 200 ∉ I ++ [100 + i] := fun q => (List.mem_append.mp q).elim (fun q => nb _ (Or.inr (Or.inr rfl)) ((h.1 _).mp q)) (fun q => by have := List.mem_singleton.mp q; omega)
    have hu1 : bUn M Z (100 + i + 200) := h.2.2.2 _ (nb _ (Or.inr (Or.inr rfl)))
    have hm : 100 + i ∈ I ++ [100 + i] := List.mem_append_right _ (List.mem_singleton.mpr rfl)
    refine bw_aload_n d_C_init_174 rfl ?_
    refine bw_getR fl_C_23 sh_0 h0 rfl hz.2.2.1 d_C_init_175 ?_
    refine bw_iload_n d_C_init_178 rfl ?_
    refine bw_new (k := 100 + i) (ci := 5) (C := uR5) (T := uT5) (N := 6) uY5 uTyOk5 df5 rfl (gt_at 25 (by decide +kernel) rfl) (gt_at 31 (by decide +kernel) rfl) (gt_at 2 (by decide +kernel) rfl) (uSh_100 (by omega) (by omega)) hk hu.1 hu.2.1 hu.2.2 (by omega) (by omega) (inL_r h0 (inL_i inL_n)) (inS_i (inS_r ht inS_n)) d_C_init_179 ?_
    refine bw_dup_ref d_C_init_182 ?_
    refine bw_initN (u' := u_Sk_init) (i := 49) (fun s h => h.1.1) iw_Sk (bs_Sk (by omega) (by omega) hm hn0 hn1 hu hu0 hu1) rfl rfl (by omega) (by omega) (inL_r (List.mem_append_left _ h0) (inL_i inL_n)) (inS_r hm (inS_i (inS_r (List.mem_append_left _ ht) inS_n))) d_C_init_183 (fun I2 M2 Z2 q => ?_)
    have st := h.step (t := 3) (i := i) (B' := bC 8 4 (i + 1) 0 0) (F' := bF 8 4 (i + 1) 0 0) (nb _ (Or.inl rfl)) (fun k e => nb k (Or.inr e)) (by decide) (by decide) (Or.inl (by omega)) (fun a b f => by unfold bF at f; unfold bC; omega) q (fun k => by simp only [bC]; omega) (fun a b f => by unfold bF at *; omega)
    refine bw_aast (a := 3) (t := 3) (n := 30) (g := fun i => 100 + i) (i := i) (r := 100 + i) (ci := 5) (T := uT5) (N := 6) (by decide) (by decide) rfl ((q.1 _).mpr (Or.inl (List.mem_append_left _ ht))) rfl ((q.1 _).mpr (Or.inl hm)) (uSh_100 (by omega) (by omega)) rfl rfl c (by decide) d_C_init_186 ?_
    refine bw_iincN (x := i) d_C_init_187 rfl rfl ?_
    refine bw_goto 168 d_C_init_190 (by decide) ?_
    exact bw_w _ _ (by omega) (by omega) (bw_L (by simp only [lset1, kl]) (ih c I2 M2 _ st))
theorem bl_C2 : ∀ i, i ≤ 4 → ∀ (I : List Nat) (M : Mem) (Z : Nat → Nat → Bool), bSt (bC 8 i 0 0 0) (bF 8 i 0 0 0) I M Z → BW u_C_init 146 1324 pC (28 + 3 * i) (164 + 52 * i) 142 [some (.ref 0), some (.int (nI i))] [] I M Z := by
  refine up_ind (fun i hi ih => ?_)
  intro I M Z h
  refine bw_iload_n d_C_init_142 rfl ?_
  refine bw_iconst (v := 4) d_C_init_143 (by decide) ?_
  refine bw_icmp_geN i 4 166 rfl rfl (by omega) d_C_init_144 (by decide) (fun c => ?_) (fun c => ?_)
  · have ei : i = 4 := by omega
    subst ei
    refine bw_iconst (v := 0) d_C_init_166 (by decide) ?_
    refine bw_istore_n d_C_init_167 rfl ?_
    exact bw_w (40 + 3 * 0) (372 + 22 * 0) (by decide) (by decide) (bw_L (by simp only [lset1, kl]; rfl) (bl_C3 0 (by omega) I M Z h))
  · have h0 : 0 ∈ I := (h.1 0).mpr (Or.inl (by omega))
    have ht : 2 ∈ I := (h.1 2).mpr (Or.inl (by omega))
    have hz := bDn_0 (h.2.1 0 (Or.inl (by omega)) (by omega))
    have nb : ∀ k, (k = 30 + i ∨ k = 30 + i + 10 ∨ k = 30 + i + 20) → ¬ bC 8 i 0 0 0 k := fun k e => by unfold bC; omega
    have hk : 30 + i ∉ I := fun q => nb _ (Or.inl rfl) ((h.1 _).mp q)
    have hu : bUn M Z (30 + i) := h.2.2.2 _ (nb _ (Or.inl rfl))
    have hn0 : 30 + i + 10 ∉ I ++ [30 + i] := fun q => (List.mem_append.mp q).elim (fun q => nb _ (Or.inr (Or.inl rfl)) ((h.1 _).mp q)) (fun q => by have := List.mem_singleton.mp q; omega)
    have hu0 : bUn M Z (30 + i + 10) := h.2.2.2 _ (nb _ (Or.inr (Or.inl rfl)))
    have hn1 : 30 + i + 20 ∉ I ++ [30 + i] := fun q => (List.mem_append.mp q).elim (fun q => nb _ (Or.inr (Or.inr rfl)) ((h.1 _).mp q)) (fun q => by have := List.mem_singleton.mp q; omega)
    have hu1 : bUn M Z (30 + i + 20) := h.2.2.2 _ (nb _ (Or.inr (Or.inr rfl)))
    have hm : 30 + i ∈ I ++ [30 + i] := List.mem_append_right _ (List.mem_singleton.mpr rfl)
    refine bw_aload_n d_C_init_147 rfl ?_
    refine bw_getR fl_C_17 sh_0 h0 rfl hz.2.1 d_C_init_148 ?_
    refine bw_iload_n d_C_init_151 rfl ?_
    refine bw_new (k := 30 + i) (ci := 1) (C := uR1) (T := uT1) (N := 4) uY1 uTyOk1 df1 rfl (gt_at 23 (by decide +kernel) rfl) (gt_at 89 (by decide +kernel) rfl) (gt_at 6 (by decide +kernel) rfl) (uSh_30 (by omega) (by omega)) hk hu.1 hu.2.1 hu.2.2 (by omega) (by omega) (inL_r h0 (inL_i inL_n)) (inS_i (inS_r ht inS_n)) d_C_init_152 ?_
    refine bw_dup_ref d_C_init_155 ?_
    refine bw_init (gt_at 90 (by decide +kernel) rfl) iw_Ha (bs_Ha (by omega) (by omega) hm hn0 hn1 hu hu0 hu1) rfl rfl (by omega) (by omega) (inL_r (List.mem_append_left _ h0) (inL_i inL_n)) (inS_r hm (inS_i (inS_r (List.mem_append_left _ ht) inS_n))) d_C_init_156 (fun I2 M2 Z2 q => ?_)
    have st := h.step (t := 2) (i := i) (B' := bC 8 (i + 1) 0 0 0) (F' := bF 8 (i + 1) 0 0 0) (nb _ (Or.inl rfl)) (fun k e => nb k (Or.inr e)) (by decide) (by decide) (Or.inl (by omega)) (fun a b f => by unfold bF at f; unfold bC; omega) q (fun k => by simp only [bC]; omega) (fun a b f => by unfold bF at *; omega)
    refine bw_aast (a := 2) (t := 2) (n := 4) (g := fun i => 30 + i) (i := i) (r := 30 + i) (ci := 1) (T := uT1) (N := 4) (by decide) (by decide) rfl ((q.1 _).mpr (Or.inl (List.mem_append_left _ ht))) rfl ((q.1 _).mpr (Or.inl hm)) (uSh_30 (by omega) (by omega)) rfl rfl c (by decide) d_C_init_159 ?_
    refine bw_iincN (x := i) d_C_init_160 rfl rfl ?_
    refine bw_goto 142 d_C_init_163 (by decide) ?_
    exact bw_w _ _ (by omega) (by omega) (bw_L (by simp only [lset1, kl]) (ih c I2 M2 _ st))
theorem bl_C1 : ∀ i, i ≤ 8 → ∀ (I : List Nat) (M : Mem) (Z : Nat → Nat → Bool), bSt (bC i 0 0 0 0) (bF i 0 0 0 0) I M Z → BW u_C_init 146 1324 pC (12 + 2 * i) (92 + 9 * i) 115 [some (.ref 0), some (.int (nI i))] [] I M Z := by
  refine up_ind (fun i hi ih => ?_)
  intro I M Z h
  refine bw_iload_n d_C_init_115 rfl ?_
  refine bw_bipush (v := 8) d_C_init_116 (by decide) ?_
  refine bw_icmp_geN i 8 140 rfl rfl (by omega) d_C_init_118 (by decide) (fun c => ?_) (fun c => ?_)
  · have ei : i = 8 := by omega
    subst ei
    refine bw_iconst (v := 0) d_C_init_140 (by decide) ?_
    refine bw_istore_n d_C_init_141 rfl ?_
    exact bw_w (28 + 3 * 0) (164 + 52 * 0) (by decide) (by decide) (bw_L (by simp only [lset1, kl]; rfl) (bl_C2 0 (by omega) I M Z h))
  · have h0 : 0 ∈ I := (h.1 0).mpr (Or.inl (by omega))
    have ht : 1 ∈ I := (h.1 1).mpr (Or.inl (by omega))
    have hz := bDn_0 (h.2.1 0 (Or.inl (by omega)) (by omega))
    have nb : ∀ k, (k = 10 + i ∨ k = 10 + i + 10) → ¬ bC i 0 0 0 0 k := fun k e => by unfold bC; omega
    have hk : 10 + i ∉ I := fun q => nb _ (Or.inl rfl) ((h.1 _).mp q)
    have hu : bUn M Z (10 + i) := h.2.2.2 _ (nb _ (Or.inl rfl))
    have hn0 : 10 + i + 10 ∉ I ++ [10 + i] := fun q => (List.mem_append.mp q).elim (fun q => nb _ (Or.inr rfl) ((h.1 _).mp q)) (fun q => by have := List.mem_singleton.mp q; omega)
    have hu0 : bUn M Z (10 + i + 10) := h.2.2.2 _ (nb _ (Or.inr rfl))
    have hm : 10 + i ∈ I ++ [10 + i] := List.mem_append_right _ (List.mem_singleton.mpr rfl)
    refine bw_aload_n d_C_init_121 rfl ?_
    refine bw_getR fl_C_11 sh_0 h0 rfl hz.1 d_C_init_122 ?_
    refine bw_iload_n d_C_init_125 rfl ?_
    refine bw_new (k := 10 + i) (ci := 2) (C := uR2) (T := uT2) (N := 1) uY2 uTyOk2 df2 rfl (gt_at 21 (by decide +kernel) rfl) (gt_at 75 (by decide +kernel) rfl) (gt_at 4 (by decide +kernel) rfl) (uSh_10 (by omega) (by omega)) hk hu.1 hu.2.1 hu.2.2 (by omega) (by omega) (inL_r h0 (inL_i inL_n)) (inS_i (inS_r ht inS_n)) d_C_init_126 ?_
    refine bw_dup_ref d_C_init_129 ?_
    refine bw_init (gt_at 76 (by decide +kernel) rfl) iw_He (bs_He (by omega) (by omega) hm hn0 hu0) rfl rfl (by omega) (by omega) (inL_r (List.mem_append_left _ h0) (inL_i inL_n)) (inS_r hm (inS_i (inS_r (List.mem_append_left _ ht) inS_n))) d_C_init_130 (fun I2 M2 Z2 q => ?_)
    have st := h.step (t := 1) (i := i) (B' := bC (i + 1) 0 0 0 0) (F' := bF (i + 1) 0 0 0 0) (nb _ (Or.inl rfl)) (fun k e => nb k (Or.inr e)) (by decide) (by decide) (Or.inl (by omega)) (fun a b f => by unfold bF at f; unfold bC; omega) q (fun k => by simp only [bC]; omega) (fun a b f => by unfold bF at *; omega)
    refine bw_aast (a := 1) (t := 1) (n := 8) (g := fun i => 10 + i) (i := i) (r := 10 + i) (ci := 2) (T := uT2) (N := 1) (by decide) (by decide) rfl ((q.1 _).mpr (Or.inl (List.mem_append_left _ ht))) rfl ((q.1 _).mpr (Or.inl hm)) (uSh_10 (by omega) (by omega)) rfl rfl c (by decide) d_C_init_133 ?_
    refine bw_iincN (x := i) d_C_init_134 rfl rfl ?_
    refine bw_goto 115 d_C_init_137 (by decide) ?_
    exact bw_w _ _ (by omega) (by omega) (bw_L (by simp only [lset1, kl]) (ih c I2 M2 _ st))
