/-! ===== the class: hands ===== -/
theorem mS_at {M : Mem} {k j : Nat} {v : Int32} : mG (mS M k j v) k j = v := by simp [mS, mG]
theorem mS_k {M : Mem} {k j k' j' : Nat} {v : Int32} (h : k' ≠ k) : mG (mS M k j v) k' j' = mG M k' j' := by simp [mS, mG, h]
theorem mS_j {M : Mem} {k j k' j' : Nat} {v : Int32} (h : j' ≠ j) : mG (mS M k j v) k' j' = mG M k' j' := by simp [mS, mG, h]
theorem mS_kf {M : Mem} {k j k' : Nat} {v : Int32} (h : k' ≠ k) : mG (mS M k j v) k' = mG M k' := funext fun _ => mS_k h
theorem mRow_kf {M : Mem} {r n k : Nat} {f : Nat → Int32} (h : k ≠ r) : mG (mRow M r n f) k = mG M k := funext fun _ => mRow_out h
theorem mRow_congr {M : Mem} {r n : Nat} {f g : Nat → Int32} (h : ∀ j, j < n → f j = g j) : mRow M r n f = mRow M r n g := by
  unfold mRow
  apply Prod.ext
  · funext k j
    by_cases q : k = r ∧ j < n
    · simp only [if_pos q]; exact h j q.2
    · simp only [if_neg q]
  · rfl
theorem mS_row {M : Mem} {r n p : Nat} {v : Int32} {f : Nat → Int32} (hp : p < n) (h1 : f p = v) (h2 : ∀ j, j < n → j ≠ p → f j = mG M r j) : mS M r p v = mRow M r n f := by
  unfold mRow mS
  apply Prod.ext
  · funext k j
    by_cases q : k = r
    · subst q
      by_cases z : j = p
      · subst z; simp [hp, h1]
      · by_cases y : j < n
        · simp [z, y, h2 j y z, mG]
        · simp [z, y]
    · simp [q]
  · rfl
def finH (M : Mem) (a : Nat) (r : Int32 × (Nat → Int32)) : Mem := mS (mRow M (50 + a) 8 r.2) (30 + a) 3 r.1
theorem finH_s {M : Mem} {a : Nat} {x y : Int32} {f : Nat → Int32} : mS (finH M a (x, f)) (30 + a) 3 y = finH M a (y, f) := by
  unfold finH mS
  apply Prod.ext
  · funext k j
    by_cases q : k = 30 + a ∧ j = 3
    · simp only [if_pos q]
    · simp only [if_neg q]
  · rfl
theorem finH_r {M : Mem} {a : Nat} {x : Int32} {f g : Nat → Int32} : mRow (finH M a (x, f)) (50 + a) 8 g = finH M a (x, g) := by
  unfold finH mS mRow
  apply Prod.ext
  · funext k j
    by_cases q : k = 50 + a ∧ j < 8
    · have : ¬ (k = 30 + a ∧ j = 3) := by omega
      simp only [if_pos q, if_neg this]
    · simp only [if_neg q]
  · rfl
theorem finH_f {M : Mem} {a : Nat} {r : Int32 × (Nat → Int32)} : mG (finH M a r) (30 + a) 3 = r.1 := mS_at
theorem finH_n {M : Mem} {a : Nat} {r : Int32 × (Nat → Int32)} : mG (finH M a r) (30 + a) 2 = mG M (30 + a) 2 := (mS_j (by omega)).trans (mRow_out (by omega))
theorem finH_x {M : Mem} {a : Nat} {r : Int32 × (Nat → Int32)} : mG (finH M a r) (40 + a) = mG M (40 + a) := (mS_kf (by omega)).trans (mRow_kf (by omega))
theorem finH_t {M : Mem} {a j : Nat} {r : Int32 × (Nat → Int32)} (h : j < 8) : mG (finH M a r) (50 + a) j = r.2 j := (mS_k (by omega)).trans (mRow_in h)
set_option maxRecDepth 100000 in
theorem s_Ha_byteAt {M : Mem} {a len : Nat} (ha : a < 4) (hl : mG M (30 + a) 2 = nI len) (h40 : len ≤ 40) {i : Nat} (hi : i < 1000) : CS u_Ha_byteAt [.ref (30 + a), .int (nI i)] M (pI (txB (mG M (40 + a)) len i) M) := by
  refine cs_introF (L := [some (.ref (30 + a)), some (.int (nI i))]) (by decide +kernel) (fun ad q h => h) (fun ad => Nat.le_of_ble_eq_true rfl) ?_
  refine cw_iload_n d_Ha_byteAt_0 rfl ?_
  refine cw_if_lt 21 d_Ha_byteAt_1 (by decide) (fun c_1 => ?_) (fun c_1 => ?_)
  · exact absurd c_1 (nI_pos (by omega))
  · refine cw_iload_n d_Ha_byteAt_4 rfl ?_
    refine cw_aload_n d_Ha_byteAt_5 rfl ?_
    refine cw_getI fl_Ha_28 (so_Ha (h := a) (by omega)) rfl d_Ha_byteAt_6 ?_
    refine cw_icmp_geN (i) (len) 21 rfl hl (by omega) d_Ha_byteAt_9 (by decide) (fun c_9 => ?_) (fun c_9 => ?_)
    · refine cw_iconst (v := (-1)) d_Ha_byteAt_21 (by decide) ?_
      refine cw_iret rfl d_Ha_byteAt_22 ?_
      exact ⟨by first | exact (if_pos c_9).symm | exact (if_neg (by omega)).symm, rfl⟩
    · refine cw_aload_n d_Ha_byteAt_12 rfl ?_
      refine cw_getR fl_Ha_9 (so_Ha (h := a) (by omega)) rfl d_Ha_byteAt_13 ?_
      refine cw_iload_n d_Ha_byteAt_16 rfl ?_
      refine cw_ialdN (i := i) (sa_tx (h := a) (by omega)) rfl (by omega) (by decide) d_Ha_byteAt_17 ?_
      refine cw_goto 22 d_Ha_byteAt_18 (by decide) ?_
      refine cw_iret rfl d_Ha_byteAt_22 ?_
      exact ⟨by first | exact (if_pos c_9).symm | exact (if_neg (by omega)).symm, rfl⟩
set_option maxRecDepth 100000 in
theorem s_Ha_isFigure {M : Mem} {x : Int32} : CS u_Ha_isFigure [.int x] M (pI (b2 (txF x)) M) := by
  refine cs_introF (L := [some (.int x)]) (by decide +kernel) (fun ad q h => h) (fun ad => Nat.le_of_ble_eq_true rfl) ?_
  refine cw_iload_n d_Ha_isFigure_0 rfl ?_
  refine cw_bipush (v := 48) d_Ha_isFigure_1 (by decide) ?_
  refine cw_icmp_lt 16 d_Ha_isFigure_3 (by decide) (fun c_3 => ?_) (fun c_3 => ?_)
  · refine cw_iconst (v := 0) d_Ha_isFigure_16 (by decide) ?_
    refine cw_zret rfl d_Ha_isFigure_17 (by first | exact Or.inl rfl | exact Or.inr rfl | exact b2_01 _) ?_
    exact ⟨by first
      | exact b2_0 (decide_eq_false (fun q => by have := i32_lt.mp c_3; have : (48 : Int32).toInt = 48 := rfl; omega))
      | exact b2_0 (decide_eq_false (fun q => by have := i32_lt.mp c_9; have : (57 : Int32).toInt = 57 := rfl; omega))
      | exact b2_1 (decide_eq_true ⟨by have := i32_le.mp (i32_nlt.mp c_3); have : (48 : Int32).toInt = 48 := rfl; omega, by have := i32_le.mp (i32_nlt.mp c_9); have : (57 : Int32).toInt = 57 := rfl; omega⟩), rfl⟩
  · refine cw_iload_n d_Ha_isFigure_6 rfl ?_
    refine cw_bipush (v := 57) d_Ha_isFigure_7 (by decide) ?_
    refine cw_icmp_gt 16 d_Ha_isFigure_9 (by decide) (fun c_9 => ?_) (fun c_9 => ?_)
    · refine cw_iconst (v := 0) d_Ha_isFigure_16 (by decide) ?_
      refine cw_zret rfl d_Ha_isFigure_17 (by first | exact Or.inl rfl | exact Or.inr rfl | exact b2_01 _) ?_
      exact ⟨by first
        | exact b2_0 (decide_eq_false (fun q => by have := i32_lt.mp c_3; have : (48 : Int32).toInt = 48 := rfl; omega))
        | exact b2_0 (decide_eq_false (fun q => by have := i32_lt.mp c_9; have : (57 : Int32).toInt = 57 := rfl; omega))
        | exact b2_1 (decide_eq_true ⟨by have := i32_le.mp (i32_nlt.mp c_3); have : (48 : Int32).toInt = 48 := rfl; omega, by have := i32_le.mp (i32_nlt.mp c_9); have : (57 : Int32).toInt = 57 := rfl; omega⟩), rfl⟩
    · refine cw_iconst (v := 1) d_Ha_isFigure_12 (by decide) ?_
      refine cw_goto 17 d_Ha_isFigure_13 (by decide) ?_
      refine cw_zret rfl d_Ha_isFigure_17 (by first | exact Or.inl rfl | exact Or.inr rfl | exact b2_01 _) ?_
      exact ⟨by first
        | exact b2_0 (decide_eq_false (fun q => by have := i32_lt.mp c_3; have : (48 : Int32).toInt = 48 := rfl; omega))
        | exact b2_0 (decide_eq_false (fun q => by have := i32_lt.mp c_9; have : (57 : Int32).toInt = 57 := rfl; omega))
        | exact b2_1 (decide_eq_true ⟨by have := i32_le.mp (i32_nlt.mp c_3); have : (48 : Int32).toInt = 48 := rfl; omega, by have := i32_le.mp (i32_nlt.mp c_9); have : (57 : Int32).toInt = 57 := rfl; omega⟩), rfl⟩
set_option maxRecDepth 100000 in
theorem s_Ha_stopAt {M : Mem} {a : Nat} {x : Int32} (ha : a < 4) : CS u_Ha_stopAt [.ref (30 + a), .int x] M (retI (fun r M2 => r = x ∧ M2 = mS M (30 + a) 3 x)) := by
  refine cs_introF (L := [some (.ref (30 + a)), some (.int x)]) (by decide +kernel) (fun ad q h => h) (fun ad => Nat.le_of_ble_eq_true rfl) ?_
  refine cw_aload_n d_Ha_stopAt_0 rfl ?_
  refine cw_iload_n d_Ha_stopAt_1 rfl ?_
  refine cw_putI fp_Ha_18 (so_Ha (h := a) (by omega)) rfl d_Ha_stopAt_2 ?_
  refine cw_iload_n d_Ha_stopAt_5 rfl ?_
  refine cw_iret rfl d_Ha_stopAt_6 ?_
  exact ⟨rfl, rfl⟩
set_option maxRecDepth 100000 in
theorem s_Ha_mark1 {M : Mem} {a : Nat} {w v : Int32} (ha : a < 4) (hw : w = 42) : CS u_Ha_mark [.ref (30 + a), .int w, .int v] M (retV (fun M2 => M2 = mRow M (50 + a) 8 (txM (mG M (50 + a)) w v))) := by
  refine cs_introF (L := [some (.ref (30 + a)), some (.int w), some (.int v)]) (by decide +kernel) (fun ad q h => h) (fun ad => Nat.le_of_ble_eq_true rfl) ?_
  refine cw_iload_n d_Ha_mark_0 rfl ?_
  refine cw_bipush (v := 42) d_Ha_mark_1 (by decide) ?_
  refine cw_icmp_ne 17 d_Ha_mark_3 (by decide) (fun c_3 => ?_) (fun c_3 => ?_)
  · exact absurd hw c_3
  · refine cw_aload_n d_Ha_mark_6 rfl ?_
    refine cw_getR fl_Ha_15 (so_Ha (h := a) (by omega)) rfl d_Ha_mark_7 ?_
    refine cw_iload_n d_Ha_mark_10 rfl ?_
    refine cw_staticV (s_J_fill (a := 50 + a) (sa_tn ha) (by decide)) rfl ml_Ha_22 rfl rfl d_Ha_mark_11 (fun M_11 q_11 => ?_)
    subst q_11
    refine cw_goto 37 d_Ha_mark_14 (by decide) ?_
    refine cw_vret rfl d_Ha_mark_37 ?_
    exact mRow_congr (fun j hj => (if_pos (Or.inl hw)).symm)
theorem n48 (p : Nat) : nI p + 48 - 48 = nI p := by
  rw [Int32.add_sub_cancel]
theorem n48_inj {p q : Nat} (hp : p < 8) (hq : q < 8) (h : nI p + 48 = nI q + 48) : p = q := by
  have := congrArg (· - 48) h
  simp only [n48] at this
  exact (nI_eq (by omega) (by omega)).mp this
theorem n48_42 : ∀ p, p < 8 → ¬ nI p + 48 = 42 := by decide +kernel
set_option maxRecDepth 100000 in
theorem s_Ha_mark2 {M : Mem} {a p : Nat} {v : Int32} (ha : a < 4) (hp : p < 8) : CS u_Ha_mark [.ref (30 + a), .int (nI p + 48), .int v] M (retV (fun M2 => M2 = mRow M (50 + a) 8 (txM (mG M (50 + a)) (nI p + 48) v))) := by
  refine cs_introF (L := [some (.ref (30 + a)), some (.int (nI p + 48)), some (.int v)]) (by decide +kernel) (fun ad q h => h) (fun ad => Nat.le_of_ble_eq_true rfl) ?_
  refine cw_iload_n d_Ha_mark_0 rfl ?_
  refine cw_bipush (v := 42) d_Ha_mark_1 (by decide) ?_
  refine cw_icmp_ne 17 d_Ha_mark_3 (by decide) (fun c_3 => ?_) (fun c_3 => ?_)
  · refine cw_iload_n d_Ha_mark_17 rfl ?_
    refine cw_bipush (v := 48) d_Ha_mark_18 (by decide) ?_
    refine cw_isub d_Ha_mark_20 ?_
    refine cw_nestP (s_C_isPart) rfl ml_nest rfl rfl rfl d_Ha_mark_21 ?_
    refine cw_bif_eq 37 d_Ha_mark_24 (by decide) (fun c_24 => ?_) (fun c_24 => ?_)
    · exact absurd c_24 (by rw [n48, ixB_nI hp (by decide)]; decide)
    · refine cw_aload_n d_Ha_mark_27 rfl ?_
      refine cw_getR fl_Ha_15 (so_Ha (h := a) (by omega)) rfl d_Ha_mark_28 ?_
      refine cw_iload_n d_Ha_mark_31 rfl ?_
      refine cw_bipush (v := 48) d_Ha_mark_32 (by decide) ?_
      refine cw_isub d_Ha_mark_34 ?_
      refine cw_iload_n d_Ha_mark_35 rfl ?_
      refine cw_iastN (i := p) (sa_tn (h := a) (by omega)) (n48 p) (by omega) (by decide) d_Ha_mark_36 ?_
      refine cw_vret rfl d_Ha_mark_37 ?_
      exact mS_row hp (if_pos (Or.inr rfl)) (fun j hj hne => if_neg (fun q => q.elim (n48_42 p hp) (fun z => hne (n48_inj hp hj z).symm)))
  · exact absurd c_3 (n48_42 p hp)
theorem s_Ha_mark {M : Mem} {a : Nat} {w v : Int32} (ha : a < 4) (hw : w = 42 ∨ (48 ≤ w.toInt ∧ w.toInt ≤ 55)) : CS u_Ha_mark [.ref (30 + a), .int w, .int v] M (retV (fun M2 => M2 = mRow M (50 + a) 8 (txM (mG M (50 + a)) w v))) := by
  rcases hw with h | h
  · exact s_Ha_mark1 ha h
  · obtain ⟨p, hp, e⟩ : ∃ p : Nat, p < 8 ∧ w = nI p + 48 := by
      refine ⟨(w.toInt - 48).toNat, by omega, ?_⟩
      apply Int32.toInt_inj.mp
      rw [Int32.toInt_add, nI_toInt (by omega), show (48 : Int32).toInt = 48 from rfl, Int.bmod_eq_of_le (by omega) (by omega)]
      omega
    subst e
    exact s_Ha_mark2 ha hp
def bpQ (M : Mem) (a : Nat) (s : Nat ⊕ (Nat × (Nat → Int32))) (r : Int32) (M2 : Mem) : Prop := match s with
  | .inl k => r = nI k ∧ M2 = mS M (30 + a) 3 (nI k)
  | .inr (q, g) => r = nI q ∧ M2 = mRow M (50 + a) 8 g
theorem i32_42 : (42 : Int32).toInt = 42 := rfl
theorem i32_48 : (48 : Int32).toInt = 48 := rfl
theorem i32_55 : (55 : Int32).toInt = 55 := rfl
theorem i32_60 : (60 : Int32).toInt = 60 := rfl
set_option maxRecDepth 100000 in
theorem s_Ha_behindPiece {M : Mem} {a len : Nat} (ha : a < 4) (hl : mG M (30 + a) 2 = nI len) (h40 : len ≤ 40) {i : Nat} (hi : i < 100) : CS u_Ha_behindPiece [.ref (30 + a), .int (nI i)] M (retI (bpQ M a (txS (mG M (40 + a)) len i (mG M (50 + a))))) := by
  refine cs_introF (L := [some (.ref (30 + a)), some (.int (nI i)), none, none, none, none, none]) (by decide +kernel) (fun ad q h => h) (fun ad => Nat.le_of_ble_eq_true rfl) ?_
  refine cw_aload_n d_Ha_behindPiece_0 rfl ?_
  refine cw_iload_n d_Ha_behindPiece_1 rfl ?_
  refine cw_virtP (s_Ha_byteAt ha hl h40 (i := i) (by omega)) rfl ml_Ha_38 (so_Ha (h := a) (by omega)) rfl rfl d_Ha_behindPiece_2 ?_
  refine cw_istore_n d_Ha_behindPiece_5 rfl ?_
  refine cw_iload_n d_Ha_behindPiece_6 rfl ?_
  refine cw_bipush (v := 42) d_Ha_behindPiece_7 (by decide) ?_
  refine cw_icmp_eq 30 d_Ha_behindPiece_9 (by decide) (fun c_9 => ?_) (fun c_9 => ?_)
  · have hw : txB (mG M (40 + a)) len i = 42 ∨ (48 ≤ (txB (mG M (40 + a)) len i).toInt ∧ (txB (mG M (40 + a)) len i).toInt ≤ 55) := Or.inl c_9
    refine cw_aload_n d_Ha_behindPiece_30 rfl ?_
    refine cw_iload_n d_Ha_behindPiece_31 rfl ?_
    refine cw_iconst (v := 1) d_Ha_behindPiece_32 (by decide) ?_
    refine cw_iadd d_Ha_behindPiece_33 ?_
    refine cw_top (nAdd (a := i) (b := 1) rfl rfl) ?_
    refine cw_virtP (s_Ha_byteAt ha hl h40 (i := i + 1) (by omega)) rfl ml_Ha_38 (so_Ha (h := a) (by omega)) rfl rfl d_Ha_behindPiece_34 ?_
    refine cw_istore_n d_Ha_behindPiece_37 rfl ?_
    refine cw_iload_n d_Ha_behindPiece_38 rfl ?_
    refine cw_bipush (v := 120) d_Ha_behindPiece_39 (by decide) ?_
    refine cw_icmp_ne 56 d_Ha_behindPiece_41 (by decide) (fun c_41 => ?_) (fun c_41 => ?_)
    · refine cw_iload_n d_Ha_behindPiece_56 rfl ?_
      refine cw_bipush (v := 43) d_Ha_behindPiece_57 (by decide) ?_
      refine cw_icmp_eq 76 d_Ha_behindPiece_59 (by decide) (fun c_59 => ?_) (fun c_59 => ?_)
      · have hsg : ¬ (¬ txB (mG M (40 + a)) len (i + 1) = 43 ∧ ¬ txB (mG M (40 + a)) len (i + 1) = 45) := fun q => q.1 c_59
        refine cw_iload_n d_Ha_behindPiece_76 rfl ?_
        refine cw_iconst (v := 2) d_Ha_behindPiece_77 (by decide) ?_
        refine cw_iadd d_Ha_behindPiece_78 ?_
        refine cw_top (nAdd (a := i) (b := 2) rfl rfl) ?_
        refine cw_istore d_Ha_behindPiece_79 rfl ?_
        refine cw_aload_n d_Ha_behindPiece_81 rfl ?_
        refine cw_iload d_Ha_behindPiece_82 rfl ?_
        refine cw_virtP (s_Ha_byteAt ha hl h40 (i := i + 2) (by omega)) rfl ml_Ha_38 (so_Ha (h := a) (by omega)) rfl rfl d_Ha_behindPiece_84 ?_
        refine cw_staticP (s_Ha_isFigure) rfl ml_Ha_48 rfl rfl d_Ha_behindPiece_87 ?_
        refine cw_bif_ne 100 d_Ha_behindPiece_90 (by decide) (fun c_90 => ?_) (fun c_90 => ?_)
        · refine cw_aload_n d_Ha_behindPiece_100 rfl ?_
          refine cw_iload d_Ha_behindPiece_101 rfl ?_
          refine cw_virtP (s_Ha_byteAt ha hl h40 (i := i + 2) (by omega)) rfl ml_Ha_38 (so_Ha (h := a) (by omega)) rfl rfl d_Ha_behindPiece_103 ?_
          refine cw_bipush (v := 48) d_Ha_behindPiece_106 (by decide) ?_
          refine cw_isub d_Ha_behindPiece_108 ?_
          refine cw_istore d_Ha_behindPiece_109 rfl ?_
          refine cw_iload d_Ha_behindPiece_111 rfl ?_
          refine cw_iconst (v := 1) d_Ha_behindPiece_113 (by decide) ?_
          refine cw_iadd d_Ha_behindPiece_114 ?_
          refine cw_top (nAdd (a := i + 2) (b := 1) rfl rfl) ?_
          refine cw_istore d_Ha_behindPiece_115 rfl ?_
          refine cw_aload_n d_Ha_behindPiece_117 rfl ?_
          refine cw_iload d_Ha_behindPiece_118 rfl ?_
          refine cw_virtP (s_Ha_byteAt ha hl h40 (i := i + 2 + 1) (by omega)) rfl ml_Ha_38 (so_Ha (h := a) (by omega)) rfl rfl d_Ha_behindPiece_120 ?_
          refine cw_staticP (s_Ha_isFigure) rfl ml_Ha_48 rfl rfl d_Ha_behindPiece_123 ?_
          refine cw_bif_eq 149 d_Ha_behindPiece_126 (by decide) (fun c_126 => ?_) (fun c_126 => ?_)
          · have hnum : txS (mG M (40 + a)) len i (mG M (50 + a)) = if 60 < (txB (mG M (40 + a)) len (i + 2) - 48) then .inl (i + 2) else .inr (i + 3, txM (mG M (50 + a)) (txB (mG M (40 + a)) len i) (if txB (mG M (40 + a)) len (i + 1) = 45 then -(txB (mG M (40 + a)) len (i + 2) - 48) else (txB (mG M (40 + a)) len (i + 2) - 48))) := by unfold txS; rw [if_neg (fun q => hw.elim q.1 q.2), if_neg c_41, if_neg hsg, if_neg (by rw [c_90]; decide), if_pos c_126]
            refine cw_iload d_Ha_behindPiece_149 rfl ?_
            refine cw_bipush (v := 60) d_Ha_behindPiece_151 (by decide) ?_
            refine cw_icmp_le 163 d_Ha_behindPiece_153 (by decide) (fun c_153 => ?_) (fun c_153 => ?_)
            · rw [if_neg (i32_nlt.mpr c_153)] at hnum
              refine cw_aload_n d_Ha_behindPiece_163 rfl ?_
              refine cw_iload_n d_Ha_behindPiece_164 rfl ?_
              refine cw_iload_n d_Ha_behindPiece_165 rfl ?_
              refine cw_bipush (v := 45) d_Ha_behindPiece_166 (by decide) ?_
              refine cw_icmp_ne 177 d_Ha_behindPiece_168 (by decide) (fun c_168 => ?_) (fun c_168 => ?_)
              · rw [if_neg c_168] at hnum
                refine cw_iload d_Ha_behindPiece_177 rfl ?_
                refine cw_virtV (s_Ha_mark ha hw) rfl ml_Ha_44 (so_Ha (h := a) (by omega)) rfl rfl d_Ha_behindPiece_179 (fun M_179 q_179 => ?_)
                subst q_179
                refine cw_iload d_Ha_behindPiece_182 rfl ?_
                refine cw_iret rfl d_Ha_behindPiece_184 ?_
                rw [hnum]
                exact ⟨rfl, rfl⟩
              · rw [if_pos c_168] at hnum
                refine cw_iload d_Ha_behindPiece_171 rfl ?_
                refine cw_ineg d_Ha_behindPiece_173 ?_
                refine cw_goto 179 d_Ha_behindPiece_174 (by decide) ?_
                refine cw_virtV (s_Ha_mark ha hw) rfl ml_Ha_44 (so_Ha (h := a) (by omega)) rfl rfl d_Ha_behindPiece_179 (fun M_179 q_179 => ?_)
                subst q_179
                refine cw_iload d_Ha_behindPiece_182 rfl ?_
                refine cw_iret rfl d_Ha_behindPiece_184 ?_
                rw [hnum]
                exact ⟨rfl, rfl⟩
            · have hs : txS (mG M (40 + a)) len i (mG M (50 + a)) = .inl (i + 2) := by rw [hnum, if_pos (i32_nle.mp c_153)]
              refine cw_aload_n d_Ha_behindPiece_156 rfl ?_
              refine cw_iload d_Ha_behindPiece_157 rfl ?_
              refine cw_virtI (s_Ha_stopAt ha) rfl ml_Ha_41 (so_Ha (h := a) (by omega)) rfl rfl d_Ha_behindPiece_159 (fun r_159 M_159 q_159 => ?_)
              obtain ⟨e_159, f_159⟩ := q_159
              subst e_159; subst f_159
              refine cw_iret rfl d_Ha_behindPiece_162 ?_
              rw [hs]
              exact ⟨rfl, rfl⟩
          · have hnum : txS (mG M (40 + a)) len i (mG M (50 + a)) = if 60 < (10 * (txB (mG M (40 + a)) len (i + 2) - 48) + txB (mG M (40 + a)) len (i + 3) - 48) then .inl (i + 2) else .inr (i + 4, txM (mG M (50 + a)) (txB (mG M (40 + a)) len i) (if txB (mG M (40 + a)) len (i + 1) = 45 then -(10 * (txB (mG M (40 + a)) len (i + 2) - 48) + txB (mG M (40 + a)) len (i + 3) - 48) else (10 * (txB (mG M (40 + a)) len (i + 2) - 48) + txB (mG M (40 + a)) len (i + 3) - 48))) := by unfold txS; rw [if_neg (fun q => hw.elim q.1 q.2), if_neg c_41, if_neg hsg, if_neg (by rw [c_90]; decide), if_neg (by rw [c_126]; decide)]
            refine cw_bipush (v := 10) d_Ha_behindPiece_129 (by decide) ?_
            refine cw_iload d_Ha_behindPiece_131 rfl ?_
            refine cw_imul d_Ha_behindPiece_133 ?_
            refine cw_aload_n d_Ha_behindPiece_134 rfl ?_
            refine cw_iload d_Ha_behindPiece_135 rfl ?_
            refine cw_virtP (s_Ha_byteAt ha hl h40 (i := i + 2 + 1) (by omega)) rfl ml_Ha_38 (so_Ha (h := a) (by omega)) rfl rfl d_Ha_behindPiece_137 ?_
            refine cw_iadd d_Ha_behindPiece_140 ?_
            refine cw_bipush (v := 48) d_Ha_behindPiece_141 (by decide) ?_
            refine cw_isub d_Ha_behindPiece_143 ?_
            refine cw_istore d_Ha_behindPiece_144 rfl ?_
            refine cw_iincN (x := i + 2 + 1) d_Ha_behindPiece_146 rfl rfl ?_
            refine cw_iload d_Ha_behindPiece_149 rfl ?_
            refine cw_bipush (v := 60) d_Ha_behindPiece_151 (by decide) ?_
            refine cw_icmp_le 163 d_Ha_behindPiece_153 (by decide) (fun c_153 => ?_) (fun c_153 => ?_)
            · rw [if_neg (i32_nlt.mpr c_153)] at hnum
              refine cw_aload_n d_Ha_behindPiece_163 rfl ?_
              refine cw_iload_n d_Ha_behindPiece_164 rfl ?_
              refine cw_iload_n d_Ha_behindPiece_165 rfl ?_
              refine cw_bipush (v := 45) d_Ha_behindPiece_166 (by decide) ?_
              refine cw_icmp_ne 177 d_Ha_behindPiece_168 (by decide) (fun c_168 => ?_) (fun c_168 => ?_)
              · rw [if_neg c_168] at hnum
                refine cw_iload d_Ha_behindPiece_177 rfl ?_
                refine cw_virtV (s_Ha_mark ha hw) rfl ml_Ha_44 (so_Ha (h := a) (by omega)) rfl rfl d_Ha_behindPiece_179 (fun M_179 q_179 => ?_)
                subst q_179
                refine cw_iload d_Ha_behindPiece_182 rfl ?_
                refine cw_iret rfl d_Ha_behindPiece_184 ?_
                rw [hnum]
                exact ⟨rfl, rfl⟩
              · rw [if_pos c_168] at hnum
                refine cw_iload d_Ha_behindPiece_171 rfl ?_
                refine cw_ineg d_Ha_behindPiece_173 ?_
                refine cw_goto 179 d_Ha_behindPiece_174 (by decide) ?_
                refine cw_virtV (s_Ha_mark ha hw) rfl ml_Ha_44 (so_Ha (h := a) (by omega)) rfl rfl d_Ha_behindPiece_179 (fun M_179 q_179 => ?_)
                subst q_179
                refine cw_iload d_Ha_behindPiece_182 rfl ?_
                refine cw_iret rfl d_Ha_behindPiece_184 ?_
                rw [hnum]
                exact ⟨rfl, rfl⟩
            · have hs : txS (mG M (40 + a)) len i (mG M (50 + a)) = .inl (i + 2) := by rw [hnum, if_pos (i32_nle.mp c_153)]
              refine cw_aload_n d_Ha_behindPiece_156 rfl ?_
              refine cw_iload d_Ha_behindPiece_157 rfl ?_
              refine cw_virtI (s_Ha_stopAt ha) rfl ml_Ha_41 (so_Ha (h := a) (by omega)) rfl rfl d_Ha_behindPiece_159 (fun r_159 M_159 q_159 => ?_)
              obtain ⟨e_159, f_159⟩ := q_159
              subst e_159; subst f_159
              refine cw_iret rfl d_Ha_behindPiece_162 ?_
              rw [hs]
              exact ⟨rfl, rfl⟩
        · have hs : txS (mG M (40 + a)) len i (mG M (50 + a)) = .inl (i + 2) := by unfold txS; rw [if_neg (fun q => hw.elim q.1 q.2), if_neg c_41, if_neg hsg, if_pos c_90]
          refine cw_aload_n d_Ha_behindPiece_93 rfl ?_
          refine cw_iload d_Ha_behindPiece_94 rfl ?_
          refine cw_virtI (s_Ha_stopAt ha) rfl ml_Ha_41 (so_Ha (h := a) (by omega)) rfl rfl d_Ha_behindPiece_96 (fun r_96 M_96 q_96 => ?_)
          obtain ⟨e_96, f_96⟩ := q_96
          subst e_96; subst f_96
          refine cw_iret rfl d_Ha_behindPiece_99 ?_
          rw [hs]
          exact ⟨rfl, rfl⟩
      · refine cw_iload_n d_Ha_behindPiece_62 rfl ?_
        refine cw_bipush (v := 45) d_Ha_behindPiece_63 (by decide) ?_
        refine cw_icmp_eq 76 d_Ha_behindPiece_65 (by decide) (fun c_65 => ?_) (fun c_65 => ?_)
        · have hsg : ¬ (¬ txB (mG M (40 + a)) len (i + 1) = 43 ∧ ¬ txB (mG M (40 + a)) len (i + 1) = 45) := fun q => q.2 c_65
          refine cw_iload_n d_Ha_behindPiece_76 rfl ?_
          refine cw_iconst (v := 2) d_Ha_behindPiece_77 (by decide) ?_
          refine cw_iadd d_Ha_behindPiece_78 ?_
          refine cw_top (nAdd (a := i) (b := 2) rfl rfl) ?_
          refine cw_istore d_Ha_behindPiece_79 rfl ?_
          refine cw_aload_n d_Ha_behindPiece_81 rfl ?_
          refine cw_iload d_Ha_behindPiece_82 rfl ?_
          refine cw_virtP (s_Ha_byteAt ha hl h40 (i := i + 2) (by omega)) rfl ml_Ha_38 (so_Ha (h := a) (by omega)) rfl rfl d_Ha_behindPiece_84 ?_
          refine cw_staticP (s_Ha_isFigure) rfl ml_Ha_48 rfl rfl d_Ha_behindPiece_87 ?_
          refine cw_bif_ne 100 d_Ha_behindPiece_90 (by decide) (fun c_90 => ?_) (fun c_90 => ?_)
          · refine cw_aload_n d_Ha_behindPiece_100 rfl ?_
            refine cw_iload d_Ha_behindPiece_101 rfl ?_
            refine cw_virtP (s_Ha_byteAt ha hl h40 (i := i + 2) (by omega)) rfl ml_Ha_38 (so_Ha (h := a) (by omega)) rfl rfl d_Ha_behindPiece_103 ?_
            refine cw_bipush (v := 48) d_Ha_behindPiece_106 (by decide) ?_
            refine cw_isub d_Ha_behindPiece_108 ?_
            refine cw_istore d_Ha_behindPiece_109 rfl ?_
            refine cw_iload d_Ha_behindPiece_111 rfl ?_
            refine cw_iconst (v := 1) d_Ha_behindPiece_113 (by decide) ?_
            refine cw_iadd d_Ha_behindPiece_114 ?_
            refine cw_top (nAdd (a := i + 2) (b := 1) rfl rfl) ?_
            refine cw_istore d_Ha_behindPiece_115 rfl ?_
            refine cw_aload_n d_Ha_behindPiece_117 rfl ?_
            refine cw_iload d_Ha_behindPiece_118 rfl ?_
            refine cw_virtP (s_Ha_byteAt ha hl h40 (i := i + 2 + 1) (by omega)) rfl ml_Ha_38 (so_Ha (h := a) (by omega)) rfl rfl d_Ha_behindPiece_120 ?_
            refine cw_staticP (s_Ha_isFigure) rfl ml_Ha_48 rfl rfl d_Ha_behindPiece_123 ?_
            refine cw_bif_eq 149 d_Ha_behindPiece_126 (by decide) (fun c_126 => ?_) (fun c_126 => ?_)
            · have hnum : txS (mG M (40 + a)) len i (mG M (50 + a)) = if 60 < (txB (mG M (40 + a)) len (i + 2) - 48) then .inl (i + 2) else .inr (i + 3, txM (mG M (50 + a)) (txB (mG M (40 + a)) len i) (if txB (mG M (40 + a)) len (i + 1) = 45 then -(txB (mG M (40 + a)) len (i + 2) - 48) else (txB (mG M (40 + a)) len (i + 2) - 48))) := by unfold txS; rw [if_neg (fun q => hw.elim q.1 q.2), if_neg c_41, if_neg hsg, if_neg (by rw [c_90]; decide), if_pos c_126]
              refine cw_iload d_Ha_behindPiece_149 rfl ?_
              refine cw_bipush (v := 60) d_Ha_behindPiece_151 (by decide) ?_
              refine cw_icmp_le 163 d_Ha_behindPiece_153 (by decide) (fun c_153 => ?_) (fun c_153 => ?_)
              · rw [if_neg (i32_nlt.mpr c_153)] at hnum
                refine cw_aload_n d_Ha_behindPiece_163 rfl ?_
                refine cw_iload_n d_Ha_behindPiece_164 rfl ?_
                refine cw_iload_n d_Ha_behindPiece_165 rfl ?_
                refine cw_bipush (v := 45) d_Ha_behindPiece_166 (by decide) ?_
                refine cw_icmp_ne 177 d_Ha_behindPiece_168 (by decide) (fun c_168 => ?_) (fun c_168 => ?_)
                · rw [if_neg c_168] at hnum
                  refine cw_iload d_Ha_behindPiece_177 rfl ?_
                  refine cw_virtV (s_Ha_mark ha hw) rfl ml_Ha_44 (so_Ha (h := a) (by omega)) rfl rfl d_Ha_behindPiece_179 (fun M_179 q_179 => ?_)
                  subst q_179
                  refine cw_iload d_Ha_behindPiece_182 rfl ?_
                  refine cw_iret rfl d_Ha_behindPiece_184 ?_
                  rw [hnum]
                  exact ⟨rfl, rfl⟩
                · rw [if_pos c_168] at hnum
                  refine cw_iload d_Ha_behindPiece_171 rfl ?_
                  refine cw_ineg d_Ha_behindPiece_173 ?_
                  refine cw_goto 179 d_Ha_behindPiece_174 (by decide) ?_
                  refine cw_virtV (s_Ha_mark ha hw) rfl ml_Ha_44 (so_Ha (h := a) (by omega)) rfl rfl d_Ha_behindPiece_179 (fun M_179 q_179 => ?_)
                  subst q_179
                  refine cw_iload d_Ha_behindPiece_182 rfl ?_
                  refine cw_iret rfl d_Ha_behindPiece_184 ?_
                  rw [hnum]
                  exact ⟨rfl, rfl⟩
              · have hs : txS (mG M (40 + a)) len i (mG M (50 + a)) = .inl (i + 2) := by rw [hnum, if_pos (i32_nle.mp c_153)]
                refine cw_aload_n d_Ha_behindPiece_156 rfl ?_
                refine cw_iload d_Ha_behindPiece_157 rfl ?_
                refine cw_virtI (s_Ha_stopAt ha) rfl ml_Ha_41 (so_Ha (h := a) (by omega)) rfl rfl d_Ha_behindPiece_159 (fun r_159 M_159 q_159 => ?_)
                obtain ⟨e_159, f_159⟩ := q_159
                subst e_159; subst f_159
                refine cw_iret rfl d_Ha_behindPiece_162 ?_
                rw [hs]
                exact ⟨rfl, rfl⟩
            · have hnum : txS (mG M (40 + a)) len i (mG M (50 + a)) = if 60 < (10 * (txB (mG M (40 + a)) len (i + 2) - 48) + txB (mG M (40 + a)) len (i + 3) - 48) then .inl (i + 2) else .inr (i + 4, txM (mG M (50 + a)) (txB (mG M (40 + a)) len i) (if txB (mG M (40 + a)) len (i + 1) = 45 then -(10 * (txB (mG M (40 + a)) len (i + 2) - 48) + txB (mG M (40 + a)) len (i + 3) - 48) else (10 * (txB (mG M (40 + a)) len (i + 2) - 48) + txB (mG M (40 + a)) len (i + 3) - 48))) := by unfold txS; rw [if_neg (fun q => hw.elim q.1 q.2), if_neg c_41, if_neg hsg, if_neg (by rw [c_90]; decide), if_neg (by rw [c_126]; decide)]
              refine cw_bipush (v := 10) d_Ha_behindPiece_129 (by decide) ?_
              refine cw_iload d_Ha_behindPiece_131 rfl ?_
              refine cw_imul d_Ha_behindPiece_133 ?_
              refine cw_aload_n d_Ha_behindPiece_134 rfl ?_
              refine cw_iload d_Ha_behindPiece_135 rfl ?_
              refine cw_virtP (s_Ha_byteAt ha hl h40 (i := i + 2 + 1) (by omega)) rfl ml_Ha_38 (so_Ha (h := a) (by omega)) rfl rfl d_Ha_behindPiece_137 ?_
              refine cw_iadd d_Ha_behindPiece_140 ?_
              refine cw_bipush (v := 48) d_Ha_behindPiece_141 (by decide) ?_
              refine cw_isub d_Ha_behindPiece_143 ?_
              refine cw_istore d_Ha_behindPiece_144 rfl ?_
              refine cw_iincN (x := i + 2 + 1) d_Ha_behindPiece_146 rfl rfl ?_
              refine cw_iload d_Ha_behindPiece_149 rfl ?_
              refine cw_bipush (v := 60) d_Ha_behindPiece_151 (by decide) ?_
              refine cw_icmp_le 163 d_Ha_behindPiece_153 (by decide) (fun c_153 => ?_) (fun c_153 => ?_)
              · rw [if_neg (i32_nlt.mpr c_153)] at hnum
                refine cw_aload_n d_Ha_behindPiece_163 rfl ?_
                refine cw_iload_n d_Ha_behindPiece_164 rfl ?_
                refine cw_iload_n d_Ha_behindPiece_165 rfl ?_
                refine cw_bipush (v := 45) d_Ha_behindPiece_166 (by decide) ?_
                refine cw_icmp_ne 177 d_Ha_behindPiece_168 (by decide) (fun c_168 => ?_) (fun c_168 => ?_)
                · rw [if_neg c_168] at hnum
                  refine cw_iload d_Ha_behindPiece_177 rfl ?_
                  refine cw_virtV (s_Ha_mark ha hw) rfl ml_Ha_44 (so_Ha (h := a) (by omega)) rfl rfl d_Ha_behindPiece_179 (fun M_179 q_179 => ?_)
                  subst q_179
                  refine cw_iload d_Ha_behindPiece_182 rfl ?_
                  refine cw_iret rfl d_Ha_behindPiece_184 ?_
                  rw [hnum]
                  exact ⟨rfl, rfl⟩
                · rw [if_pos c_168] at hnum
                  refine cw_iload d_Ha_behindPiece_171 rfl ?_
                  refine cw_ineg d_Ha_behindPiece_173 ?_
                  refine cw_goto 179 d_Ha_behindPiece_174 (by decide) ?_
                  refine cw_virtV (s_Ha_mark ha hw) rfl ml_Ha_44 (so_Ha (h := a) (by omega)) rfl rfl d_Ha_behindPiece_179 (fun M_179 q_179 => ?_)
                  subst q_179
                  refine cw_iload d_Ha_behindPiece_182 rfl ?_
                  refine cw_iret rfl d_Ha_behindPiece_184 ?_
                  rw [hnum]
                  exact ⟨rfl, rfl⟩
              · have hs : txS (mG M (40 + a)) len i (mG M (50 + a)) = .inl (i + 2) := by rw [hnum, if_pos (i32_nle.mp c_153)]
                refine cw_aload_n d_Ha_behindPiece_156 rfl ?_
                refine cw_iload d_Ha_behindPiece_157 rfl ?_
                refine cw_virtI (s_Ha_stopAt ha) rfl ml_Ha_41 (so_Ha (h := a) (by omega)) rfl rfl d_Ha_behindPiece_159 (fun r_159 M_159 q_159 => ?_)
                obtain ⟨e_159, f_159⟩ := q_159
                subst e_159; subst f_159
                refine cw_iret rfl d_Ha_behindPiece_162 ?_
                rw [hs]
                exact ⟨rfl, rfl⟩
          · have hs : txS (mG M (40 + a)) len i (mG M (50 + a)) = .inl (i + 2) := by unfold txS; rw [if_neg (fun q => hw.elim q.1 q.2), if_neg c_41, if_neg hsg, if_pos c_90]
            refine cw_aload_n d_Ha_behindPiece_93 rfl ?_
            refine cw_iload d_Ha_behindPiece_94 rfl ?_
            refine cw_virtI (s_Ha_stopAt ha) rfl ml_Ha_41 (so_Ha (h := a) (by omega)) rfl rfl d_Ha_behindPiece_96 (fun r_96 M_96 q_96 => ?_)
            obtain ⟨e_96, f_96⟩ := q_96
            subst e_96; subst f_96
            refine cw_iret rfl d_Ha_behindPiece_99 ?_
            rw [hs]
            exact ⟨rfl, rfl⟩
        · have hs : txS (mG M (40 + a)) len i (mG M (50 + a)) = .inl (i + 1) := by unfold txS; rw [if_neg (fun q => hw.elim q.1 q.2), if_neg c_41, if_pos ⟨c_59, c_65⟩]
          refine cw_aload_n d_Ha_behindPiece_68 rfl ?_
          refine cw_iload_n d_Ha_behindPiece_69 rfl ?_
          refine cw_iconst (v := 1) d_Ha_behindPiece_70 (by decide) ?_
          refine cw_iadd d_Ha_behindPiece_71 ?_
          refine cw_virtI (s_Ha_stopAt ha) rfl ml_Ha_41 (so_Ha (h := a) (by omega)) rfl rfl d_Ha_behindPiece_72 (fun r_72 M_72 q_72 => ?_)
          obtain ⟨e_72, f_72⟩ := q_72
          subst e_72; subst f_72
          refine cw_iret rfl d_Ha_behindPiece_75 ?_
          rw [hs]
          exact ⟨nAdd rfl rfl, by rw [nI_1]⟩
    · have hs : txS (mG M (40 + a)) len i (mG M (50 + a)) = .inr (i + 2, txM (mG M (50 + a)) (txB (mG M (40 + a)) len i) LO) := by unfold txS; rw [if_neg (fun q => hw.elim q.1 q.2), if_pos c_41]
      refine cw_aload_n d_Ha_behindPiece_44 rfl ?_
      refine cw_iload_n d_Ha_behindPiece_45 rfl ?_
      refine cw_sipush (v := (-9999)) d_Ha_behindPiece_46 (by decide) ?_
      refine cw_virtV (s_Ha_mark ha hw) rfl ml_Ha_44 (so_Ha (h := a) (by omega)) rfl rfl d_Ha_behindPiece_49 (fun M_49 q_49 => ?_)
      subst q_49
      refine cw_iload_n d_Ha_behindPiece_52 rfl ?_
      refine cw_iconst (v := 2) d_Ha_behindPiece_53 (by decide) ?_
      refine cw_iadd d_Ha_behindPiece_54 ?_
      refine cw_iret rfl d_Ha_behindPiece_55 ?_
      rw [hs]
      exact ⟨nAdd rfl rfl, rfl⟩
  · refine cw_iload_n d_Ha_behindPiece_12 rfl ?_
    refine cw_bipush (v := 48) d_Ha_behindPiece_13 (by decide) ?_
    refine cw_icmp_lt 24 d_Ha_behindPiece_15 (by decide) (fun c_15 => ?_) (fun c_15 => ?_)
    · have hs : txS (mG M (40 + a)) len i (mG M (50 + a)) = .inl i := if_pos ⟨c_9, fun q => by have := i32_lt.mp c_15; have := i32_48; omega⟩
      refine cw_aload_n d_Ha_behindPiece_24 rfl ?_
      refine cw_iload_n d_Ha_behindPiece_25 rfl ?_
      refine cw_virtI (s_Ha_stopAt ha) rfl ml_Ha_41 (so_Ha (h := a) (by omega)) rfl rfl d_Ha_behindPiece_26 (fun r_26 M_26 q_26 => ?_)
      obtain ⟨e_26, f_26⟩ := q_26
      subst e_26; subst f_26
      refine cw_iret rfl d_Ha_behindPiece_29 ?_
      rw [hs]
      exact ⟨rfl, rfl⟩
    · refine cw_iload_n d_Ha_behindPiece_18 rfl ?_
      refine cw_bipush (v := 55) d_Ha_behindPiece_19 (by decide) ?_
      refine cw_icmp_le 30 d_Ha_behindPiece_21 (by decide) (fun c_21 => ?_) (fun c_21 => ?_)
      · have hw : txB (mG M (40 + a)) len i = 42 ∨ (48 ≤ (txB (mG M (40 + a)) len i).toInt ∧ (txB (mG M (40 + a)) len i).toInt ≤ 55) := Or.inr ⟨by have := i32_le.mp (i32_nlt.mp c_15); have := i32_48; omega, by have := i32_le.mp c_21; have := i32_55; omega⟩
        refine cw_aload_n d_Ha_behindPiece_30 rfl ?_
        refine cw_iload_n d_Ha_behindPiece_31 rfl ?_
        refine cw_iconst (v := 1) d_Ha_behindPiece_32 (by decide) ?_
        refine cw_iadd d_Ha_behindPiece_33 ?_
        refine cw_top (nAdd (a := i) (b := 1) rfl rfl) ?_
        refine cw_virtP (s_Ha_byteAt ha hl h40 (i := i + 1) (by omega)) rfl ml_Ha_38 (so_Ha (h := a) (by omega)) rfl rfl d_Ha_behindPiece_34 ?_
        refine cw_istore_n d_Ha_behindPiece_37 rfl ?_
        refine cw_iload_n d_Ha_behindPiece_38 rfl ?_
        refine cw_bipush (v := 120) d_Ha_behindPiece_39 (by decide) ?_
        refine cw_icmp_ne 56 d_Ha_behindPiece_41 (by decide) (fun c_41 => ?_) (fun c_41 => ?_)
        · refine cw_iload_n d_Ha_behindPiece_56 rfl ?_
          refine cw_bipush (v := 43) d_Ha_behindPiece_57 (by decide) ?_
          refine cw_icmp_eq 76 d_Ha_behindPiece_59 (by decide) (fun c_59 => ?_) (fun c_59 => ?_)
          · have hsg : ¬ (¬ txB (mG M (40 + a)) len (i + 1) = 43 ∧ ¬ txB (mG M (40 + a)) len (i + 1) = 45) := fun q => q.1 c_59
            refine cw_iload_n d_Ha_behindPiece_76 rfl ?_
            refine cw_iconst (v := 2) d_Ha_behindPiece_77 (by decide) ?_
            refine cw_iadd d_Ha_behindPiece_78 ?_
            refine cw_top (nAdd (a := i) (b := 2) rfl rfl) ?_
            refine cw_istore d_Ha_behindPiece_79 rfl ?_
            refine cw_aload_n d_Ha_behindPiece_81 rfl ?_
            refine cw_iload d_Ha_behindPiece_82 rfl ?_
            refine cw_virtP (s_Ha_byteAt ha hl h40 (i := i + 2) (by omega)) rfl ml_Ha_38 (so_Ha (h := a) (by omega)) rfl rfl d_Ha_behindPiece_84 ?_
            refine cw_staticP (s_Ha_isFigure) rfl ml_Ha_48 rfl rfl d_Ha_behindPiece_87 ?_
            refine cw_bif_ne 100 d_Ha_behindPiece_90 (by decide) (fun c_90 => ?_) (fun c_90 => ?_)
            · refine cw_aload_n d_Ha_behindPiece_100 rfl ?_
              refine cw_iload d_Ha_behindPiece_101 rfl ?_
              refine cw_virtP (s_Ha_byteAt ha hl h40 (i := i + 2) (by omega)) rfl ml_Ha_38 (so_Ha (h := a) (by omega)) rfl rfl d_Ha_behindPiece_103 ?_
              refine cw_bipush (v := 48) d_Ha_behindPiece_106 (by decide) ?_
              refine cw_isub d_Ha_behindPiece_108 ?_
              refine cw_istore d_Ha_behindPiece_109 rfl ?_
              refine cw_iload d_Ha_behindPiece_111 rfl ?_
              refine cw_iconst (v := 1) d_Ha_behindPiece_113 (by decide) ?_
              refine cw_iadd d_Ha_behindPiece_114 ?_
              refine cw_top (nAdd (a := i + 2) (b := 1) rfl rfl) ?_
              refine cw_istore d_Ha_behindPiece_115 rfl ?_
              refine cw_aload_n d_Ha_behindPiece_117 rfl ?_
              refine cw_iload d_Ha_behindPiece_118 rfl ?_
              refine cw_virtP (s_Ha_byteAt ha hl h40 (i := i + 2 + 1) (by omega)) rfl ml_Ha_38 (so_Ha (h := a) (by omega)) rfl rfl d_Ha_behindPiece_120 ?_
              refine cw_staticP (s_Ha_isFigure) rfl ml_Ha_48 rfl rfl d_Ha_behindPiece_123 ?_
              refine cw_bif_eq 149 d_Ha_behindPiece_126 (by decide) (fun c_126 => ?_) (fun c_126 => ?_)
              · have hnum : txS (mG M (40 + a)) len i (mG M (50 + a)) = if 60 < (txB (mG M (40 + a)) len (i + 2) - 48) then .inl (i + 2) else .inr (i + 3, txM (mG M (50 + a)) (txB (mG M (40 + a)) len i) (if txB (mG M (40 + a)) len (i + 1) = 45 then -(txB (mG M (40 + a)) len (i + 2) - 48) else (txB (mG M (40 + a)) len (i + 2) - 48))) := by unfold txS; rw [if_neg (fun q => hw.elim q.1 q.2), if_neg c_41, if_neg hsg, if_neg (by rw [c_90]; decide), if_pos c_126]
                refine cw_iload d_Ha_behindPiece_149 rfl ?_
                refine cw_bipush (v := 60) d_Ha_behindPiece_151 (by decide) ?_
                refine cw_icmp_le 163 d_Ha_behindPiece_153 (by decide) (fun c_153 => ?_) (fun c_153 => ?_)
                · rw [if_neg (i32_nlt.mpr c_153)] at hnum
                  refine cw_aload_n d_Ha_behindPiece_163 rfl ?_
                  refine cw_iload_n d_Ha_behindPiece_164 rfl ?_
                  refine cw_iload_n d_Ha_behindPiece_165 rfl ?_
                  refine cw_bipush (v := 45) d_Ha_behindPiece_166 (by decide) ?_
                  refine cw_icmp_ne 177 d_Ha_behindPiece_168 (by decide) (fun c_168 => ?_) (fun c_168 => ?_)
                  · rw [if_neg c_168] at hnum
                    refine cw_iload d_Ha_behindPiece_177 rfl ?_
                    refine cw_virtV (s_Ha_mark ha hw) rfl ml_Ha_44 (so_Ha (h := a) (by omega)) rfl rfl d_Ha_behindPiece_179 (fun M_179 q_179 => ?_)
                    subst q_179
                    refine cw_iload d_Ha_behindPiece_182 rfl ?_
                    refine cw_iret rfl d_Ha_behindPiece_184 ?_
                    rw [hnum]
                    exact ⟨rfl, rfl⟩
                  · rw [if_pos c_168] at hnum
                    refine cw_iload d_Ha_behindPiece_171 rfl ?_
                    refine cw_ineg d_Ha_behindPiece_173 ?_
                    refine cw_goto 179 d_Ha_behindPiece_174 (by decide) ?_
                    refine cw_virtV (s_Ha_mark ha hw) rfl ml_Ha_44 (so_Ha (h := a) (by omega)) rfl rfl d_Ha_behindPiece_179 (fun M_179 q_179 => ?_)
                    subst q_179
                    refine cw_iload d_Ha_behindPiece_182 rfl ?_
                    refine cw_iret rfl d_Ha_behindPiece_184 ?_
                    rw [hnum]
                    exact ⟨rfl, rfl⟩
                · have hs : txS (mG M (40 + a)) len i (mG M (50 + a)) = .inl (i + 2) := by rw [hnum, if_pos (i32_nle.mp c_153)]
                  refine cw_aload_n d_Ha_behindPiece_156 rfl ?_
                  refine cw_iload d_Ha_behindPiece_157 rfl ?_
                  refine cw_virtI (s_Ha_stopAt ha) rfl ml_Ha_41 (so_Ha (h := a) (by omega)) rfl rfl d_Ha_behindPiece_159 (fun r_159 M_159 q_159 => ?_)
                  obtain ⟨e_159, f_159⟩ := q_159
                  subst e_159; subst f_159
                  refine cw_iret rfl d_Ha_behindPiece_162 ?_
                  rw [hs]
                  exact ⟨rfl, rfl⟩
              · have hnum : txS (mG M (40 + a)) len i (mG M (50 + a)) = if 60 < (10 * (txB (mG M (40 + a)) len (i + 2) - 48) + txB (mG M (40 + a)) len (i + 3) - 48) then .inl (i + 2) else .inr (i + 4, txM (mG M (50 + a)) (txB (mG M (40 + a)) len i) (if txB (mG M (40 + a)) len (i + 1) = 45 then -(10 * (txB (mG M (40 + a)) len (i + 2) - 48) + txB (mG M (40 + a)) len (i + 3) - 48) else (10 * (txB (mG M (40 + a)) len (i + 2) - 48) + txB (mG M (40 + a)) len (i + 3) - 48))) := by unfold txS; rw [if_neg (fun q => hw.elim q.1 q.2), if_neg c_41, if_neg hsg, if_neg (by rw [c_90]; decide), if_neg (by rw [c_126]; decide)]
                refine cw_bipush (v := 10) d_Ha_behindPiece_129 (by decide) ?_
                refine cw_iload d_Ha_behindPiece_131 rfl ?_
                refine cw_imul d_Ha_behindPiece_133 ?_
                refine cw_aload_n d_Ha_behindPiece_134 rfl ?_
                refine cw_iload d_Ha_behindPiece_135 rfl ?_
                refine cw_virtP (s_Ha_byteAt ha hl h40 (i := i + 2 + 1) (by omega)) rfl ml_Ha_38 (so_Ha (h := a) (by omega)) rfl rfl d_Ha_behindPiece_137 ?_
                refine cw_iadd d_Ha_behindPiece_140 ?_
                refine cw_bipush (v := 48) d_Ha_behindPiece_141 (by decide) ?_
                refine cw_isub d_Ha_behindPiece_143 ?_
                refine cw_istore d_Ha_behindPiece_144 rfl ?_
                refine cw_iincN (x := i + 2 + 1) d_Ha_behindPiece_146 rfl rfl ?_
                refine cw_iload d_Ha_behindPiece_149 rfl ?_
                refine cw_bipush (v := 60) d_Ha_behindPiece_151 (by decide) ?_
                refine cw_icmp_le 163 d_Ha_behindPiece_153 (by decide) (fun c_153 => ?_) (fun c_153 => ?_)
                · rw [if_neg (i32_nlt.mpr c_153)] at hnum
                  refine cw_aload_n d_Ha_behindPiece_163 rfl ?_
                  refine cw_iload_n d_Ha_behindPiece_164 rfl ?_
                  refine cw_iload_n d_Ha_behindPiece_165 rfl ?_
                  refine cw_bipush (v := 45) d_Ha_behindPiece_166 (by decide) ?_
                  refine cw_icmp_ne 177 d_Ha_behindPiece_168 (by decide) (fun c_168 => ?_) (fun c_168 => ?_)
                  · rw [if_neg c_168] at hnum
                    refine cw_iload d_Ha_behindPiece_177 rfl ?_
                    refine cw_virtV (s_Ha_mark ha hw) rfl ml_Ha_44 (so_Ha (h := a) (by omega)) rfl rfl d_Ha_behindPiece_179 (fun M_179 q_179 => ?_)
                    subst q_179
                    refine cw_iload d_Ha_behindPiece_182 rfl ?_
                    refine cw_iret rfl d_Ha_behindPiece_184 ?_
                    rw [hnum]
                    exact ⟨rfl, rfl⟩
                  · rw [if_pos c_168] at hnum
                    refine cw_iload d_Ha_behindPiece_171 rfl ?_
                    refine cw_ineg d_Ha_behindPiece_173 ?_
                    refine cw_goto 179 d_Ha_behindPiece_174 (by decide) ?_
                    refine cw_virtV (s_Ha_mark ha hw) rfl ml_Ha_44 (so_Ha (h := a) (by omega)) rfl rfl d_Ha_behindPiece_179 (fun M_179 q_179 => ?_)
                    subst q_179
                    refine cw_iload d_Ha_behindPiece_182 rfl ?_
                    refine cw_iret rfl d_Ha_behindPiece_184 ?_
                    rw [hnum]
                    exact ⟨rfl, rfl⟩
                · have hs : txS (mG M (40 + a)) len i (mG M (50 + a)) = .inl (i + 2) := by rw [hnum, if_pos (i32_nle.mp c_153)]
                  refine cw_aload_n d_Ha_behindPiece_156 rfl ?_
                  refine cw_iload d_Ha_behindPiece_157 rfl ?_
                  refine cw_virtI (s_Ha_stopAt ha) rfl ml_Ha_41 (so_Ha (h := a) (by omega)) rfl rfl d_Ha_behindPiece_159 (fun r_159 M_159 q_159 => ?_)
                  obtain ⟨e_159, f_159⟩ := q_159
                  subst e_159; subst f_159
                  refine cw_iret rfl d_Ha_behindPiece_162 ?_
                  rw [hs]
                  exact ⟨rfl, rfl⟩
            · have hs : txS (mG M (40 + a)) len i (mG M (50 + a)) = .inl (i + 2) := by unfold txS; rw [if_neg (fun q => hw.elim q.1 q.2), if_neg c_41, if_neg hsg, if_pos c_90]
              refine cw_aload_n d_Ha_behindPiece_93 rfl ?_
              refine cw_iload d_Ha_behindPiece_94 rfl ?_
              refine cw_virtI (s_Ha_stopAt ha) rfl ml_Ha_41 (so_Ha (h := a) (by omega)) rfl rfl d_Ha_behindPiece_96 (fun r_96 M_96 q_96 => ?_)
              obtain ⟨e_96, f_96⟩ := q_96
              subst e_96; subst f_96
              refine cw_iret rfl d_Ha_behindPiece_99 ?_
              rw [hs]
              exact ⟨rfl, rfl⟩
          · refine cw_iload_n d_Ha_behindPiece_62 rfl ?_
            refine cw_bipush (v := 45) d_Ha_behindPiece_63 (by decide) ?_
            refine cw_icmp_eq 76 d_Ha_behindPiece_65 (by decide) (fun c_65 => ?_) (fun c_65 => ?_)
            · have hsg : ¬ (¬ txB (mG M (40 + a)) len (i + 1) = 43 ∧ ¬ txB (mG M (40 + a)) len (i + 1) = 45) := fun q => q.2 c_65
              refine cw_iload_n d_Ha_behindPiece_76 rfl ?_
              refine cw_iconst (v := 2) d_Ha_behindPiece_77 (by decide) ?_
              refine cw_iadd d_Ha_behindPiece_78 ?_
              refine cw_top (nAdd (a := i) (b := 2) rfl rfl) ?_
              refine cw_istore d_Ha_behindPiece_79 rfl ?_
              refine cw_aload_n d_Ha_behindPiece_81 rfl ?_
              refine cw_iload d_Ha_behindPiece_82 rfl ?_
              refine cw_virtP (s_Ha_byteAt ha hl h40 (i := i + 2) (by omega)) rfl ml_Ha_38 (so_Ha (h := a) (by omega)) rfl rfl d_Ha_behindPiece_84 ?_
              refine cw_staticP (s_Ha_isFigure) rfl ml_Ha_48 rfl rfl d_Ha_behindPiece_87 ?_
              refine cw_bif_ne 100 d_Ha_behindPiece_90 (by decide) (fun c_90 => ?_) (fun c_90 => ?_)
              · refine cw_aload_n d_Ha_behindPiece_100 rfl ?_
                refine cw_iload d_Ha_behindPiece_101 rfl ?_
                refine cw_virtP (s_Ha_byteAt ha hl h40 (i := i + 2) (by omega)) rfl ml_Ha_38 (so_Ha (h := a) (by omega)) rfl rfl d_Ha_behindPiece_103 ?_
                refine cw_bipush (v := 48) d_Ha_behindPiece_106 (by decide) ?_
                refine cw_isub d_Ha_behindPiece_108 ?_
                refine cw_istore d_Ha_behindPiece_109 rfl ?_
                refine cw_iload d_Ha_behindPiece_111 rfl ?_
                refine cw_iconst (v := 1) d_Ha_behindPiece_113 (by decide) ?_
                refine cw_iadd d_Ha_behindPiece_114 ?_
                refine cw_top (nAdd (a := i + 2) (b := 1) rfl rfl) ?_
                refine cw_istore d_Ha_behindPiece_115 rfl ?_
                refine cw_aload_n d_Ha_behindPiece_117 rfl ?_
                refine cw_iload d_Ha_behindPiece_118 rfl ?_
                refine cw_virtP (s_Ha_byteAt ha hl h40 (i := i + 2 + 1) (by omega)) rfl ml_Ha_38 (so_Ha (h := a) (by omega)) rfl rfl d_Ha_behindPiece_120 ?_
                refine cw_staticP (s_Ha_isFigure) rfl ml_Ha_48 rfl rfl d_Ha_behindPiece_123 ?_
                refine cw_bif_eq 149 d_Ha_behindPiece_126 (by decide) (fun c_126 => ?_) (fun c_126 => ?_)
                · have hnum : txS (mG M (40 + a)) len i (mG M (50 + a)) = if 60 < (txB (mG M (40 + a)) len (i + 2) - 48) then .inl (i + 2) else .inr (i + 3, txM (mG M (50 + a)) (txB (mG M (40 + a)) len i) (if txB (mG M (40 + a)) len (i + 1) = 45 then -(txB (mG M (40 + a)) len (i + 2) - 48) else (txB (mG M (40 + a)) len (i + 2) - 48))) := by unfold txS; rw [if_neg (fun q => hw.elim q.1 q.2), if_neg c_41, if_neg hsg, if_neg (by rw [c_90]; decide), if_pos c_126]
                  refine cw_iload d_Ha_behindPiece_149 rfl ?_
                  refine cw_bipush (v := 60) d_Ha_behindPiece_151 (by decide) ?_
                  refine cw_icmp_le 163 d_Ha_behindPiece_153 (by decide) (fun c_153 => ?_) (fun c_153 => ?_)
                  · rw [if_neg (i32_nlt.mpr c_153)] at hnum
                    refine cw_aload_n d_Ha_behindPiece_163 rfl ?_
                    refine cw_iload_n d_Ha_behindPiece_164 rfl ?_
                    refine cw_iload_n d_Ha_behindPiece_165 rfl ?_
                    refine cw_bipush (v := 45) d_Ha_behindPiece_166 (by decide) ?_
                    refine cw_icmp_ne 177 d_Ha_behindPiece_168 (by decide) (fun c_168 => ?_) (fun c_168 => ?_)
                    · rw [if_neg c_168] at hnum
                      refine cw_iload d_Ha_behindPiece_177 rfl ?_
                      refine cw_virtV (s_Ha_mark ha hw) rfl ml_Ha_44 (so_Ha (h := a) (by omega)) rfl rfl d_Ha_behindPiece_179 (fun M_179 q_179 => ?_)
                      subst q_179
                      refine cw_iload d_Ha_behindPiece_182 rfl ?_
                      refine cw_iret rfl d_Ha_behindPiece_184 ?_
                      rw [hnum]
                      exact ⟨rfl, rfl⟩
                    · rw [if_pos c_168] at hnum
                      refine cw_iload d_Ha_behindPiece_171 rfl ?_
                      refine cw_ineg d_Ha_behindPiece_173 ?_
                      refine cw_goto 179 d_Ha_behindPiece_174 (by decide) ?_
                      refine cw_virtV (s_Ha_mark ha hw) rfl ml_Ha_44 (so_Ha (h := a) (by omega)) rfl rfl d_Ha_behindPiece_179 (fun M_179 q_179 => ?_)
                      subst q_179
                      refine cw_iload d_Ha_behindPiece_182 rfl ?_
                      refine cw_iret rfl d_Ha_behindPiece_184 ?_
                      rw [hnum]
                      exact ⟨rfl, rfl⟩
                  · have hs : txS (mG M (40 + a)) len i (mG M (50 + a)) = .inl (i + 2) := by rw [hnum, if_pos (i32_nle.mp c_153)]
                    refine cw_aload_n d_Ha_behindPiece_156 rfl ?_
                    refine cw_iload d_Ha_behindPiece_157 rfl ?_
                    refine cw_virtI (s_Ha_stopAt ha) rfl ml_Ha_41 (so_Ha (h := a) (by omega)) rfl rfl d_Ha_behindPiece_159 (fun r_159 M_159 q_159 => ?_)
                    obtain ⟨e_159, f_159⟩ := q_159
                    subst e_159; subst f_159
                    refine cw_iret rfl d_Ha_behindPiece_162 ?_
                    rw [hs]
                    exact ⟨rfl, rfl⟩
                · have hnum : txS (mG M (40 + a)) len i (mG M (50 + a)) = if 60 < (10 * (txB (mG M (40 + a)) len (i + 2) - 48) + txB (mG M (40 + a)) len (i + 3) - 48) then .inl (i + 2) else .inr (i + 4, txM (mG M (50 + a)) (txB (mG M (40 + a)) len i) (if txB (mG M (40 + a)) len (i + 1) = 45 then -(10 * (txB (mG M (40 + a)) len (i + 2) - 48) + txB (mG M (40 + a)) len (i + 3) - 48) else (10 * (txB (mG M (40 + a)) len (i + 2) - 48) + txB (mG M (40 + a)) len (i + 3) - 48))) := by unfold txS; rw [if_neg (fun q => hw.elim q.1 q.2), if_neg c_41, if_neg hsg, if_neg (by rw [c_90]; decide), if_neg (by rw [c_126]; decide)]
                  refine cw_bipush (v := 10) d_Ha_behindPiece_129 (by decide) ?_
                  refine cw_iload d_Ha_behindPiece_131 rfl ?_
                  refine cw_imul d_Ha_behindPiece_133 ?_
                  refine cw_aload_n d_Ha_behindPiece_134 rfl ?_
                  refine cw_iload d_Ha_behindPiece_135 rfl ?_
                  refine cw_virtP (s_Ha_byteAt ha hl h40 (i := i + 2 + 1) (by omega)) rfl ml_Ha_38 (so_Ha (h := a) (by omega)) rfl rfl d_Ha_behindPiece_137 ?_
                  refine cw_iadd d_Ha_behindPiece_140 ?_
                  refine cw_bipush (v := 48) d_Ha_behindPiece_141 (by decide) ?_
                  refine cw_isub d_Ha_behindPiece_143 ?_
                  refine cw_istore d_Ha_behindPiece_144 rfl ?_
                  refine cw_iincN (x := i + 2 + 1) d_Ha_behindPiece_146 rfl rfl ?_
                  refine cw_iload d_Ha_behindPiece_149 rfl ?_
                  refine cw_bipush (v := 60) d_Ha_behindPiece_151 (by decide) ?_
                  refine cw_icmp_le 163 d_Ha_behindPiece_153 (by decide) (fun c_153 => ?_) (fun c_153 => ?_)
                  · rw [if_neg (i32_nlt.mpr c_153)] at hnum
                    refine cw_aload_n d_Ha_behindPiece_163 rfl ?_
                    refine cw_iload_n d_Ha_behindPiece_164 rfl ?_
                    refine cw_iload_n d_Ha_behindPiece_165 rfl ?_
                    refine cw_bipush (v := 45) d_Ha_behindPiece_166 (by decide) ?_
                    refine cw_icmp_ne 177 d_Ha_behindPiece_168 (by decide) (fun c_168 => ?_) (fun c_168 => ?_)
                    · rw [if_neg c_168] at hnum
                      refine cw_iload d_Ha_behindPiece_177 rfl ?_
                      refine cw_virtV (s_Ha_mark ha hw) rfl ml_Ha_44 (so_Ha (h := a) (by omega)) rfl rfl d_Ha_behindPiece_179 (fun M_179 q_179 => ?_)
                      subst q_179
                      refine cw_iload d_Ha_behindPiece_182 rfl ?_
                      refine cw_iret rfl d_Ha_behindPiece_184 ?_
                      rw [hnum]
                      exact ⟨rfl, rfl⟩
                    · rw [if_pos c_168] at hnum
                      refine cw_iload d_Ha_behindPiece_171 rfl ?_
                      refine cw_ineg d_Ha_behindPiece_173 ?_
                      refine cw_goto 179 d_Ha_behindPiece_174 (by decide) ?_
                      refine cw_virtV (s_Ha_mark ha hw) rfl ml_Ha_44 (so_Ha (h := a) (by omega)) rfl rfl d_Ha_behindPiece_179 (fun M_179 q_179 => ?_)
                      subst q_179
                      refine cw_iload d_Ha_behindPiece_182 rfl ?_
                      refine cw_iret rfl d_Ha_behindPiece_184 ?_
                      rw [hnum]
                      exact ⟨rfl, rfl⟩
                  · have hs : txS (mG M (40 + a)) len i (mG M (50 + a)) = .inl (i + 2) := by rw [hnum, if_pos (i32_nle.mp c_153)]
                    refine cw_aload_n d_Ha_behindPiece_156 rfl ?_
                    refine cw_iload d_Ha_behindPiece_157 rfl ?_
                    refine cw_virtI (s_Ha_stopAt ha) rfl ml_Ha_41 (so_Ha (h := a) (by omega)) rfl rfl d_Ha_behindPiece_159 (fun r_159 M_159 q_159 => ?_)
                    obtain ⟨e_159, f_159⟩ := q_159
                    subst e_159; subst f_159
                    refine cw_iret rfl d_Ha_behindPiece_162 ?_
                    rw [hs]
                    exact ⟨rfl, rfl⟩
              · have hs : txS (mG M (40 + a)) len i (mG M (50 + a)) = .inl (i + 2) := by unfold txS; rw [if_neg (fun q => hw.elim q.1 q.2), if_neg c_41, if_neg hsg, if_pos c_90]
                refine cw_aload_n d_Ha_behindPiece_93 rfl ?_
                refine cw_iload d_Ha_behindPiece_94 rfl ?_
                refine cw_virtI (s_Ha_stopAt ha) rfl ml_Ha_41 (so_Ha (h := a) (by omega)) rfl rfl d_Ha_behindPiece_96 (fun r_96 M_96 q_96 => ?_)
                obtain ⟨e_96, f_96⟩ := q_96
                subst e_96; subst f_96
                refine cw_iret rfl d_Ha_behindPiece_99 ?_
                rw [hs]
                exact ⟨rfl, rfl⟩
            · have hs : txS (mG M (40 + a)) len i (mG M (50 + a)) = .inl (i + 1) := by unfold txS; rw [if_neg (fun q => hw.elim q.1 q.2), if_neg c_41, if_pos ⟨c_59, c_65⟩]
              refine cw_aload_n d_Ha_behindPiece_68 rfl ?_
              refine cw_iload_n d_Ha_behindPiece_69 rfl ?_
              refine cw_iconst (v := 1) d_Ha_behindPiece_70 (by decide) ?_
              refine cw_iadd d_Ha_behindPiece_71 ?_
              refine cw_virtI (s_Ha_stopAt ha) rfl ml_Ha_41 (so_Ha (h := a) (by omega)) rfl rfl d_Ha_behindPiece_72 (fun r_72 M_72 q_72 => ?_)
              obtain ⟨e_72, f_72⟩ := q_72
              subst e_72; subst f_72
              refine cw_iret rfl d_Ha_behindPiece_75 ?_
              rw [hs]
              exact ⟨nAdd rfl rfl, by rw [nI_1]⟩
        · have hs : txS (mG M (40 + a)) len i (mG M (50 + a)) = .inr (i + 2, txM (mG M (50 + a)) (txB (mG M (40 + a)) len i) LO) := by unfold txS; rw [if_neg (fun q => hw.elim q.1 q.2), if_pos c_41]
          refine cw_aload_n d_Ha_behindPiece_44 rfl ?_
          refine cw_iload_n d_Ha_behindPiece_45 rfl ?_
          refine cw_sipush (v := (-9999)) d_Ha_behindPiece_46 (by decide) ?_
          refine cw_virtV (s_Ha_mark ha hw) rfl ml_Ha_44 (so_Ha (h := a) (by omega)) rfl rfl d_Ha_behindPiece_49 (fun M_49 q_49 => ?_)
          subst q_49
          refine cw_iload_n d_Ha_behindPiece_52 rfl ?_
          refine cw_iconst (v := 2) d_Ha_behindPiece_53 (by decide) ?_
          refine cw_iadd d_Ha_behindPiece_54 ?_
          refine cw_iret rfl d_Ha_behindPiece_55 ?_
          rw [hs]
          exact ⟨nAdd rfl rfl, rfl⟩
      · have hs : txS (mG M (40 + a)) len i (mG M (50 + a)) = .inl i := if_pos ⟨c_9, fun q => absurd (i32_le.mpr (by have := i32_55; omega)) c_21⟩
        refine cw_aload_n d_Ha_behindPiece_24 rfl ?_
        refine cw_iload_n d_Ha_behindPiece_25 rfl ?_
        refine cw_virtI (s_Ha_stopAt ha) rfl ml_Ha_41 (so_Ha (h := a) (by omega)) rfl rfl d_Ha_behindPiece_26 (fun r_26 M_26 q_26 => ?_)
        obtain ⟨e_26, f_26⟩ := q_26
        subst e_26; subst f_26
        refine cw_iret rfl d_Ha_behindPiece_29 ?_
        rw [hs]
        exact ⟨rfl, rfl⟩
