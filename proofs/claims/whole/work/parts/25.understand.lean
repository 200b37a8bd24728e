/-! ===== the class: a hand reads its text ===== -/
theorem nI_m1 {k : Nat} (h : k < 1000) : ¬ nI k = -1 := fun q => by
  have h1 := congrArg Int32.toInt q
  rw [nI_toInt (by omega), show (-1 : Int32).toInt = -1 from rfl] at h1
  omega
theorem txS_in {tx : Nat → Int32} {len i : Nat} {f : Nat → Int32} : (∃ k, txS tx len i f = .inl k ∧ i ≤ k ∧ k ≤ i + 2) ∨ (∃ q g, txS tx len i f = .inr (q, g) ∧ i + 2 ≤ q ∧ q ≤ i + 4) := by
  unfold txS
  split
  · exact Or.inl ⟨_, rfl, by omega, by omega⟩
  · split
    · exact Or.inr ⟨_, _, rfl, by omega, by omega⟩
    · split
      · exact Or.inl ⟨_, rfl, by omega, by omega⟩
      · split
        · exact Or.inl ⟨_, rfl, by omega, by omega⟩
        · split
          · split
            · exact Or.inl ⟨_, rfl, by omega, by omega⟩
            · exact Or.inr ⟨_, _, rfl, by omega, by omega⟩
          · split
            · exact Or.inl ⟨_, rfl, by omega, by omega⟩
            · exact Or.inr ⟨_, _, rfl, by omega, by omega⟩
theorem txS_m (tx : Nat → Int32) (len i : Nat) : ∃ s : Nat ⊕ (Nat × Int32), ∀ f, txS tx len i f = (match s with
    | .inl k => .inl k
    | .inr (q, v) => .inr (q, txM f (txB tx len i) v)) := by
  unfold txS
  by_cases h1 : ¬ txB tx len i = 42 ∧ ¬ (48 ≤ (txB tx len i).toInt ∧ (txB tx len i).toInt ≤ 55)
  · exact ⟨.inl i, fun f => if_pos h1⟩
  by_cases h2 : txB tx len (i + 1) = 120
  · exact ⟨.inr (i + 2, LO), fun f => by rw [if_neg h1, if_pos h2]⟩
  by_cases h3 : ¬ txB tx len (i + 1) = 43 ∧ ¬ txB tx len (i + 1) = 45
  · exact ⟨.inl (i + 1), fun f => by rw [if_neg h1, if_neg h2, if_pos h3]⟩
  by_cases h4 : txF (txB tx len (i + 2)) = false
  · exact ⟨.inl (i + 2), fun f => by rw [if_neg h1, if_neg h2, if_neg h3, if_pos h4]⟩
  by_cases h5 : txF (txB tx len (i + 3)) = false
  · by_cases h6 : 60 < (txB tx len (i + 2) - 48)
    · exact ⟨.inl (i + 2), fun f => by rw [if_neg h1, if_neg h2, if_neg h3, if_neg h4, if_pos h5, if_pos h6]⟩
    · exact ⟨.inr (i + 3, _), fun f => by rw [if_neg h1, if_neg h2, if_neg h3, if_neg h4, if_pos h5, if_neg h6]⟩
  · by_cases h6 : 60 < 10 * (txB tx len (i + 2) - 48) + txB tx len (i + 3) - 48
    · exact ⟨.inl (i + 2), fun f => by rw [if_neg h1, if_neg h2, if_neg h3, if_neg h4, if_neg h5, if_pos h6]⟩
    · exact ⟨.inr (i + 4, _), fun f => by rw [if_neg h1, if_neg h2, if_neg h3, if_neg h4, if_neg h5, if_neg h6]⟩
theorem txS_c {tx : Nat → Int32} {len i : Nat} {f g : Nat → Int32} (h : ∀ j, j < 8 → f j = g j) : (∀ k, txS tx len i f = .inl k → txS tx len i g = .inl k) ∧ (∀ q f1, txS tx len i f = .inr (q, f1) → ∃ g1, txS tx len i g = .inr (q, g1) ∧ ∀ j, j < 8 → f1 j = g1 j) := by
  obtain ⟨s, hs⟩ := txS_m tx len i
  rw [hs f, hs g]
  cases s with
  | inl k => exact ⟨fun k h => h, fun q f1 h => (by cases h)⟩
  | inr x =>
    obtain ⟨q, v⟩ := x
    refine ⟨fun k h => (by cases h), fun q' f1 h' => ?_⟩
    cases h'
    refine ⟨_, rfl, fun j hj => ?_⟩
    unfold txM
    split
    · rfl
    · exact h j hj
theorem finH_c {M : Mem} {a : Nat} {x : Int32} {f g : Nat → Int32} (h : ∀ j, j < 8 → f j = g j) : finH M a (x, f) = finH M a (x, g) := by
  unfold finH
  rw [mRow_congr h]
set_option maxRecDepth 100000 in
theorem l_Ha_end {M : Mem} {a len : Nat} (ha : a < 4) (hl : mG M (30 + a) 2 = nI len) (h40 : len ≤ 40)  : ∀ (e : Int32) (f : Nat → Int32) (x1 x3 : Int32), CW u_Ha_understand (retV (fun M2 => M2 = finH M a (e, if e = -1 then f else tx10))) 31 [some (.ref (30 + a)), some (.int x1), some (.int 0), some (.int x3)] [] (finH M a (e, f)) := by
  intro e f x1 x3
  refine cw_iload_n d_Ha_understand_31 rfl ?_
  refine cw_if_eq 109 d_Ha_understand_32 (by decide) (fun c_32 => ?_) (fun c_32 => ?_)
  · refine cw_aload_n d_Ha_understand_109 rfl ?_
    refine cw_getI fl_Ha_18 (so_Ha (h := a) (by omega)) rfl d_Ha_understand_110 ?_
    refine cw_top finH_f ?_
    refine cw_iconst (v := (-1)) d_Ha_understand_113 (by decide) ?_
    refine cw_icmp_eq 126 d_Ha_understand_114 (by decide) (fun c_114 => ?_) (fun c_114 => ?_)
    · refine cw_vret rfl d_Ha_understand_126 ?_
      first
        | rw [if_pos c_114]
        | (rw [if_neg c_114]; exact finH_r)
    · refine cw_aload_n d_Ha_understand_117 rfl ?_
      refine cw_getR fl_Ha_15 (so_Ha (h := a) (by omega)) rfl d_Ha_understand_118 ?_
      refine cw_bipush (v := 10) d_Ha_understand_121 (by decide) ?_
      refine cw_staticV (s_J_fill (a := 50 + a) (sa_tn ha) (by decide)) rfl ml_Ha_22 rfl rfl d_Ha_understand_123 (fun M_123 q_123 => ?_)
      subst q_123
      refine cw_vret rfl d_Ha_understand_126 ?_
      first
        | rw [if_pos c_114]
        | (rw [if_neg c_114]; exact finH_r)
  · exact absurd rfl c_32
set_option maxHeartbeats 4000000 in
set_option maxRecDepth 100000 in
theorem l_Ha_understand {M : Mem} {a len : Nat} (ha : a < 4) (hl : mG M (30 + a) 2 = nI len) (h40 : len ≤ 40)  : ∀ (n k i : Nat) (f : Nat → Int32), 3 * k ≤ i → i ≤ len → 41 ≤ i + n → CW u_Ha_understand (retV (fun M2 => M2 = finH M a (txR (mG M (40 + a)) len n i f))) 31 [some (.ref (30 + a)), some (.int (nI i)), some (.int 1), some (.int (nI k))] [] (finH M a (-1, f)) := by
  intro n
  induction n with
  | zero => intro k i f h1 h2 h3; omega
  | succ n ih =>
  intro k i f h1 h2 h3
  have hl2 : mG (finH M a (-1, f)) (30 + a) 2 = nI len := finH_n.trans hl
  have hpc := s_Ha_behindPiece (M := finH M a (-1, f)) ha hl2 h40 (i := i) (by omega)
  rw [finH_x] at hpc
  have hfe : ∀ j, j < 8 → f j = mG (finH M a (-1, f)) (50 + a) j := fun j hj => (finH_t (r := (-1, f)) hj).symm
  refine cw_iload_n d_Ha_understand_31 rfl ?_
  refine cw_if_eq 109 d_Ha_understand_32 (by decide) (fun c_32 => ?_) (fun c_32 => ?_)
  · exact absurd c_32 (by decide)
  · refine cw_iload_n d_Ha_understand_35 rfl ?_
    refine cw_bipush (v := 40) d_Ha_understand_36 (by decide) ?_
    refine cw_icmp_geN (k) (40) 109 rfl rfl (by omega) d_Ha_understand_38 (by decide) (fun c_38 => ?_) (fun c_38 => ?_)
    · exact absurd c_38 (by omega)
    · refine cw_aload_n d_Ha_understand_41 rfl ?_
      refine cw_iload_n d_Ha_understand_42 rfl ?_
      refine cw_virtI (hpc) rfl ml_Ha_34 (so_Ha (h := a) (by omega)) rfl rfl d_Ha_understand_43 (fun r_43 M_43 q_43 => ?_)
      rcases txS_in (tx := mG M (40 + a)) (len := len) (i := i) (f := f) with ⟨kf, hs, hk1, hk2⟩ | ⟨q, g, hs, hk1, hk2⟩
      · rw [(txS_c hfe).1 kf hs] at q_43
        obtain ⟨e1, e2⟩ := q_43
        rw [finH_s] at e2
        subst e1; subst e2
        have hres : txR (mG M (40 + a)) len (n + 1) i f = (nI kf, tx10) := by simp only [txR, hs]
        rw [hres]
        refine cw_istore_n d_Ha_understand_46 rfl ?_
        refine cw_aload_n d_Ha_understand_47 rfl ?_
        refine cw_getI fl_Ha_18 (so_Ha (h := a) (by omega)) rfl d_Ha_understand_48 ?_
        refine cw_top finH_f ?_
        refine cw_iconst (v := (-1)) d_Ha_understand_51 (by decide) ?_
        refine cw_icmp_ne 78 d_Ha_understand_52 (by decide) (fun c_52 => ?_) (fun c_52 => ?_)
        · refine cw_aload_n d_Ha_understand_78 rfl ?_
          refine cw_getI fl_Ha_18 (so_Ha (h := a) (by omega)) rfl d_Ha_understand_79 ?_
          refine cw_top finH_f ?_
          refine cw_iconst (v := (-1)) d_Ha_understand_82 (by decide) ?_
          refine cw_icmp_ne 98 d_Ha_understand_83 (by decide) (fun c_83 => ?_) (fun c_83 => ?_)
          · refine cw_iconst (v := 0) d_Ha_understand_98 (by decide) ?_
            refine cw_istore_n d_Ha_understand_99 rfl ?_
            refine cw_iincN (x := kf) d_Ha_understand_100 rfl rfl ?_
            refine cw_iincN (x := k) d_Ha_understand_103 rfl rfl ?_
            refine cw_goto 31 d_Ha_understand_106 (by decide) ?_
            have hn1 : ¬ nI kf = -1 := nI_m1 (by omega)
            have he := l_Ha_end (M := M) ha hl h40 (nI kf) f (nI (kf + 1)) (nI (k + 1))
            rw [if_neg hn1] at he
            exact he
          · exact absurd c_83 (nI_m1 (by omega))
        · exact absurd c_52 (nI_m1 (by omega))
      · obtain ⟨g1, hg1, hg2⟩ := (txS_c hfe).2 q g hs
        rw [hg1] at q_43
        obtain ⟨e1, e2⟩ := q_43
        rw [finH_r, ← finH_c hg2] at e2
        subst e1; subst e2
        have hl3 : mG (finH M a (-1, g)) (30 + a) 2 = nI len := finH_n.trans hl
        refine cw_istore_n d_Ha_understand_46 rfl ?_
        refine cw_aload_n d_Ha_understand_47 rfl ?_
        refine cw_getI fl_Ha_18 (so_Ha (h := a) (by omega)) rfl d_Ha_understand_48 ?_
        refine cw_top finH_f ?_
        refine cw_iconst (v := (-1)) d_Ha_understand_51 (by decide) ?_
        refine cw_icmp_ne 78 d_Ha_understand_52 (by decide) (fun c_52 => ?_) (fun c_52 => ?_)
        · exact absurd rfl c_52
        · refine cw_iload_n d_Ha_understand_55 rfl ?_
          refine cw_aload_n d_Ha_understand_56 rfl ?_
          refine cw_getI fl_Ha_28 (so_Ha (h := a) (by omega)) rfl d_Ha_understand_57 ?_
          refine cw_icmp_geN (q) (len) 78 rfl hl3 (by omega) d_Ha_understand_60 (by decide) (fun c_60 => ?_) (fun c_60 => ?_)
          · have hres : txR (mG M (40 + a)) len (n + 1) i f = (-1, g) := by simp only [txR, hs, if_neg (show ¬ q < len by omega)]
            rw [hres]
            refine cw_aload_n d_Ha_understand_78 rfl ?_
            refine cw_getI fl_Ha_18 (so_Ha (h := a) (by omega)) rfl d_Ha_understand_79 ?_
            refine cw_top finH_f ?_
            refine cw_iconst (v := (-1)) d_Ha_understand_82 (by decide) ?_
            refine cw_icmp_ne 98 d_Ha_understand_83 (by decide) (fun c_83 => ?_) (fun c_83 => ?_)
            · exact absurd rfl c_83
            · refine cw_iload_n d_Ha_understand_86 rfl ?_
              refine cw_aload_n d_Ha_understand_87 rfl ?_
              refine cw_getI fl_Ha_28 (so_Ha (h := a) (by omega)) rfl d_Ha_understand_88 ?_
              refine cw_icmp_geN (q) (len) 98 rfl hl3 (by omega) d_Ha_understand_91 (by decide) (fun c_91 => ?_) (fun c_91 => ?_)
              · refine cw_iconst (v := 0) d_Ha_understand_98 (by decide) ?_
                refine cw_istore_n d_Ha_understand_99 rfl ?_
                refine cw_iincN (x := q) d_Ha_understand_100 rfl rfl ?_
                refine cw_iincN (x := k) d_Ha_understand_103 rfl rfl ?_
                refine cw_goto 31 d_Ha_understand_106 (by decide) ?_
                have he := l_Ha_end (M := M) ha hl h40 (-1) g (nI (q + 1)) (nI (k + 1))
                rw [if_pos rfl] at he
                exact he
              · exact absurd c_91 (by omega)
          · refine cw_aload_n d_Ha_understand_63 rfl ?_
            refine cw_iload_n d_Ha_understand_64 rfl ?_
            refine cw_virtP (s_Ha_byteAt ha hl3 h40 (i := q) (by omega)) rfl ml_Ha_38 (so_Ha (h := a) (by omega)) rfl rfl d_Ha_understand_65 ?_
            refine cw_bipush (v := 59) d_Ha_understand_68 (by decide) ?_
            refine cw_icmp_eq 78 d_Ha_understand_70 (by decide) (fun c_70 => ?_) (fun c_70 => ?_)
            · have hb : txB (mG M (40 + a)) len q = 59 := by rw [finH_x] at c_70; exact c_70
              have hres : txR (mG M (40 + a)) len (n + 1) i f = txR (mG M (40 + a)) len n (q + 1) g := by simp only [txR, hs, if_pos (show q < len by omega), if_pos hb]
              rw [hres]
              refine cw_aload_n d_Ha_understand_78 rfl ?_
              refine cw_getI fl_Ha_18 (so_Ha (h := a) (by omega)) rfl d_Ha_understand_79 ?_
              refine cw_top finH_f ?_
              refine cw_iconst (v := (-1)) d_Ha_understand_82 (by decide) ?_
              refine cw_icmp_ne 98 d_Ha_understand_83 (by decide) (fun c_83 => ?_) (fun c_83 => ?_)
              · exact absurd rfl c_83
              · refine cw_iload_n d_Ha_understand_86 rfl ?_
                refine cw_aload_n d_Ha_understand_87 rfl ?_
                refine cw_getI fl_Ha_28 (so_Ha (h := a) (by omega)) rfl d_Ha_understand_88 ?_
                refine cw_icmp_geN (q) (len) 98 rfl hl3 (by omega) d_Ha_understand_91 (by decide) (fun c_91 => ?_) (fun c_91 => ?_)
                · exact absurd c_91 (by omega)
                · refine cw_iconst (v := 1) d_Ha_understand_94 (by decide) ?_
                  refine cw_goto 99 d_Ha_understand_95 (by decide) ?_
                  refine cw_istore_n d_Ha_understand_99 rfl ?_
                  refine cw_iincN (x := q) d_Ha_understand_100 rfl rfl ?_
                  refine cw_iincN (x := k) d_Ha_understand_103 rfl rfl ?_
                  refine cw_goto 31 d_Ha_understand_106 (by decide) ?_
                  exact ih (k + 1) (q + 1) g (by omega) (by omega) (by omega)
            · refine cw_aload_n d_Ha_understand_73 rfl ?_
              refine cw_iload_n d_Ha_understand_74 rfl ?_
              refine cw_putI fp_Ha_18 (so_Ha (h := a) (by omega)) rfl d_Ha_understand_75 ?_
              have hb : ¬ txB (mG M (40 + a)) len q = 59 := by rw [finH_x] at c_70; exact c_70
              have hres : txR (mG M (40 + a)) len (n + 1) i f = (nI q, tx10) := by simp only [txR, hs, if_pos (show q < len by omega), if_neg hb]
              rw [hres]
              refine cw_mem finH_s ?_
              refine cw_aload_n d_Ha_understand_78 rfl ?_
              refine cw_getI fl_Ha_18 (so_Ha (h := a) (by omega)) rfl d_Ha_understand_79 ?_
              refine cw_top finH_f ?_
              refine cw_iconst (v := (-1)) d_Ha_understand_82 (by decide) ?_
              refine cw_icmp_ne 98 d_Ha_understand_83 (by decide) (fun c_83 => ?_) (fun c_83 => ?_)
              · refine cw_iconst (v := 0) d_Ha_understand_98 (by decide) ?_
                refine cw_istore_n d_Ha_understand_99 rfl ?_
                refine cw_iincN (x := q) d_Ha_understand_100 rfl rfl ?_
                refine cw_iincN (x := k) d_Ha_understand_103 rfl rfl ?_
                refine cw_goto 31 d_Ha_understand_106 (by decide) ?_
                have hn1 : ¬ nI q = -1 := nI_m1 (by omega)
                have he := l_Ha_end (M := M) ha hl h40 (nI q) g (nI (q + 1)) (nI (k + 1))
                rw [if_neg hn1] at he
                exact he
              · exact absurd c_83 (nI_m1 (by omega))
set_option maxRecDepth 100000 in
theorem s_Ha_understand {M : Mem} {a len : Nat} (ha : a < 4) (hl : mG M (30 + a) 2 = nI len) (h40 : len ≤ 40)  : CS u_Ha_understand [.ref (30 + a)] M (retV (fun M2 => M2 = finH M a (txP (mG M (40 + a)) len))) := by
  refine cs_introF (L := [some (.ref (30 + a)), none, none, none]) (by decide +kernel) (fun ad q h => h) (fun ad => Nat.le_of_ble_eq_true rfl) ?_
  refine cw_aload_n d_Ha_understand_0 rfl ?_
  refine cw_getR fl_Ha_15 (so_Ha (h := a) (by omega)) rfl d_Ha_understand_1 ?_
  refine cw_bipush (v := 10) d_Ha_understand_4 (by decide) ?_
  refine cw_staticV (s_J_fill (a := 50 + a) (sa_tn ha) (by decide)) rfl ml_Ha_22 rfl rfl d_Ha_understand_6 (fun M_6 q_6 => ?_)
  subst q_6
  refine cw_aload_n d_Ha_understand_9 rfl ?_
  refine cw_iconst (v := (-1)) d_Ha_understand_10 (by decide) ?_
  refine cw_putI fp_Ha_18 (so_Ha (h := a) (by omega)) rfl d_Ha_understand_11 ?_
  refine cw_mem (M' := finH M a (-1, tx10)) rfl ?_
  refine cw_iconst (v := 0) d_Ha_understand_14 (by decide) ?_
  refine cw_istore_n d_Ha_understand_15 rfl ?_
  refine cw_aload_n d_Ha_understand_16 rfl ?_
  refine cw_getI fl_Ha_28 (so_Ha (h := a) (by omega)) rfl d_Ha_understand_17 ?_
  refine cw_top (finH_n.trans hl) ?_
  refine cw_if_le 27 d_Ha_understand_20 (by decide) (fun c_20 => ?_) (fun c_20 => ?_)
  · have h0 : len = 0 := Nat.eq_zero_of_not_pos (fun q => nI_nle q (by omega) c_20)
    have hp : txP (mG M (40 + a)) len = (-1, tx10) := if_pos h0
    rw [hp]
    refine cw_iconst (v := 0) d_Ha_understand_27 (by decide) ?_
    refine cw_istore_n d_Ha_understand_28 rfl ?_
    refine cw_iconst (v := 0) d_Ha_understand_29 (by decide) ?_
    refine cw_istore_n d_Ha_understand_30 rfl ?_
    first
      | exact l_Ha_understand ha hl h40 41 0 0 tx10 (by omega) (by omega) (by omega)
      | (have he := l_Ha_end (M := M) ha hl h40 (-1) tx10 0 0
         rw [if_pos rfl] at he
         exact he)
  · have h0 : ¬ len = 0 := fun q => c_20 (by rw [q]; exact Int32.le_refl 0)
    have hp : txP (mG M (40 + a)) len = txR (mG M (40 + a)) len 41 0 tx10 := if_neg h0
    rw [hp]
    refine cw_iconst (v := 1) d_Ha_understand_23 (by decide) ?_
    refine cw_goto 28 d_Ha_understand_24 (by decide) ?_
    refine cw_istore_n d_Ha_understand_28 rfl ?_
    refine cw_iconst (v := 0) d_Ha_understand_29 (by decide) ?_
    refine cw_istore_n d_Ha_understand_30 rfl ?_
    first
      | exact l_Ha_understand ha hl h40 41 0 0 tx10 (by omega) (by omega) (by omega)
      | (have he := l_Ha_end (M := M) ha hl h40 (-1) tx10 0 0
         rw [if_pos rfl] at he
         exact he)
set_option maxRecDepth 100000 in
theorem s_Ha_clear {M : Mem} {a : Nat} (ha : a < 4) : CS u_Ha_clear [.ref (30 + a)] M (retV (fun M2 => M2 = finH (mS M (30 + a) 2 0) a (-1, tx10))) := by
  refine cs_introF (L := [some (.ref (30 + a))]) (by decide +kernel) (fun ad q h => h) (fun ad => Nat.le_of_ble_eq_true rfl) ?_
  refine cw_aload_n d_Ha_clear_0 rfl ?_
  refine cw_iconst (v := 0) d_Ha_clear_1 (by decide) ?_
  refine cw_putI fp_Ha_28 (so_Ha (h := a) (by omega)) rfl d_Ha_clear_2 ?_
  refine cw_aload_n d_Ha_clear_5 rfl ?_
  refine cw_virtV (s_Ha_understand (len := 0) ha mS_at (by omega)) rfl ml_Ha_31 (so_Ha (h := a) (by omega)) rfl rfl d_Ha_clear_6 (fun M_6 q_6 => ?_)
  subst q_6
  refine cw_vret rfl d_Ha_clear_9 ?_
  rfl
set_option maxRecDepth 100000 in
theorem s_Ha_append {M : Mem} {a len : Nat} {x : Int32} (ha : a < 4) (hl : mG M (30 + a) 2 = nI len) (h40 : len < 40) : CS u_Ha_append [.ref (30 + a), .int x] M (retV (fun M2 => M2 = finH (mS (mS M (40 + a) len x) (30 + a) 2 (nI (len + 1))) a (txP (mG (mS (mS M (40 + a) len x) (30 + a) 2 (nI (len + 1))) (40 + a)) (len + 1)))) := by
  refine cs_introF (L := [some (.ref (30 + a)), some (.int x)]) (by decide +kernel) (fun ad q h => h) (fun ad => Nat.le_of_ble_eq_true rfl) ?_
  refine cw_aload_n d_Ha_append_0 rfl ?_
  refine cw_getI fl_Ha_28 (so_Ha (h := a) (by omega)) rfl d_Ha_append_1 ?_
  refine cw_bipush (v := 40) d_Ha_append_4 (by decide) ?_
  refine cw_icmp_geN (len) (40) 33 hl rfl (by omega) d_Ha_append_6 (by decide) (fun c_6 => ?_) (fun c_6 => ?_)
  · exact absurd c_6 (by omega)
  · refine cw_aload_n d_Ha_append_9 rfl ?_
    refine cw_getR fl_Ha_9 (so_Ha (h := a) (by omega)) rfl d_Ha_append_10 ?_
    refine cw_aload_n d_Ha_append_13 rfl ?_
    refine cw_getI fl_Ha_28 (so_Ha (h := a) (by omega)) rfl d_Ha_append_14 ?_
    refine cw_iload_n d_Ha_append_17 rfl ?_
    refine cw_iastN (i := len) (sa_tx (h := a) (by omega)) hl (by omega) (by decide) d_Ha_append_18 ?_
    refine cw_aload_n d_Ha_append_19 rfl ?_
    refine cw_dup_ref d_Ha_append_20 ?_
    refine cw_getI fl_Ha_28 (so_Ha (h := a) (by omega)) rfl d_Ha_append_21 ?_
    refine cw_top ((mS_k (by omega)).trans hl) ?_
    refine cw_iconst (v := 1) d_Ha_append_24 (by decide) ?_
    refine cw_iadd d_Ha_append_25 ?_
    refine cw_top (nI_1 len) ?_
    refine cw_putI fp_Ha_28 (so_Ha (h := a) (by omega)) rfl d_Ha_append_26 ?_
    refine cw_aload_n d_Ha_append_29 rfl ?_
    refine cw_virtV (s_Ha_understand (len := len + 1) ha mS_at (by omega)) rfl ml_Ha_31 (so_Ha (h := a) (by omega)) rfl rfl d_Ha_append_30 (fun M_30 q_30 => ?_)
    subst q_30
    refine cw_vret rfl d_Ha_append_33 ?_
    rfl
