/-! ===== the bounds stay ===== -/
def gd (σ : Sg) (t i : Nat) (v : Int32) : Prop := match t with
  | 1 => i < σ.1.1 ∧ rD v 0 99
  | 3 => rD v 0 40
  | 4 => (i = 0 → rD v 1 99) ∧ (i = 1 → rD v 1 60) ∧ (i = 2 → rD v 0 99)
  | 5 => rD v 0 (σ.1.1 - 1)
  | 6 => rD v 0 99
  | 9 => v = LO ∨ rD v (-7000) 7000
  | 10 => rD v 0 99
  | 12 => rD v (-7000) 7000
  | 13 => rD v (-1) 2
  | 14 => rD v 0 60
  | _ => True
theorem Iv_c {σ σ' : Sg} (hI : Iv σ) (e : σ'.1 = σ.1) (h : ∀ t i j, σ'.2 t i j = σ.2 t i j ∨ gd σ t i (σ'.2 t i j)) : Iv σ' := by
  obtain ⟨h1, h2, h3, h4, h5, h6, h7, h8, h9, h10⟩ := hI
  refine ⟨by rw [e]; exact h1, by rw [e]; exact h2, by rw [e]; exact h3, fun g p => ?_, fun g p hg => ?_, fun b => ?_, ⟨?_, ?_, ?_⟩, fun d hd => ⟨?_, ?_, fun p => ⟨?_, ?_⟩⟩, fun k p hk => ?_, fun s => ⟨?_, ?_⟩⟩
  · rcases h 1 g p with q | q
    · rw [q]; exact h4 g p
    · exact q.2
  · rw [e] at hg
    rcases h 1 g p with q | q
    · rw [q]; exact h5 g p hg
    · have := q.1; omega
  · rcases h 3 b 0 with q | q
    · rw [q]; exact h6 b
    · exact q
  · rcases h 4 0 0 with q | q
    · rw [q]; exact h7.1
    · exact q.1 rfl
  · rcases h 4 1 0 with q | q
    · rw [q]; exact h7.2.1
    · exact q.2.1 rfl
  · rcases h 4 2 0 with q | q
    · rw [q]; exact h7.2.2
    · exact q.2.2 rfl
  · rw [e] at hd ⊢
    rcases h 5 d 0 with q | q
    · rw [q]; exact (h8 d hd).1
    · exact q
  · rw [e] at hd
    rcases h 6 d 0 with q | q
    · rw [q]; exact (h8 d hd).2.1
    · exact q
  · rw [e] at hd
    rcases h 9 d p with q | q
    · rw [q]; exact ((h8 d hd).2.2 p).1
    · exact q
  · rw [e] at hd
    rcases h 10 d p with q | q
    · rw [q]; exact ((h8 d hd).2.2 p).2
    · exact q
  · rw [e] at hk
    rcases h 12 k p with q | q
    · rw [q]; exact h9 k p hk
    · exact q
  · rcases h 13 s 0 with q | q
    · rw [q]; exact (h10 s).1
    · exact q
  · rcases h 14 s 0 with q | q
    · rw [q]; exact (h10 s).2
    · exact q
theorem Iv_su {σ : Sg} (hI : Iv σ) {t i j : Nat} {v : Int32} (h : gd σ t i v) : Iv (su σ t i j v) := Iv_c hI rfl (fun a b c => by
  by_cases q : a = t ∧ b = i ∧ c = j
  · obtain ⟨rfl, rfl, rfl⟩ := q
    rw [su_at]; exact Or.inr h
  · exact Or.inl (su_ne q))
theorem Iv_R {σ : Sg} (hI : Iv σ) {t i n : Nat} {f : Nat → Int32} (h : ∀ j, j < n → gd σ t i (f j)) : Iv (aftR σ t i n f) := Iv_c hI rfl (fun a b c => by
  by_cases q : a = t ∧ b = i ∧ c < n
  · obtain ⟨rfl, rfl, q⟩ := q
    rw [show (aftR σ a b n f).2 a b c = f c from if_pos ⟨rfl, rfl, q⟩]; exact Or.inr (h c q)
  · exact Or.inl (if_neg q))
theorem Iv_D {σ : Sg} (hI : Iv σ) {hd yr kd src : Int32} {ln mn : Nat → Int32} (hn : ¬ σ.1.2.1 = 30) (g1 : rD hd 0 (σ.1.1 - 1)) (g2 : rD yr 0 99) (g3 : ∀ p, ln p = LO ∨ rD (ln p) (-7000) 7000) (g4 : ∀ p, rD (mn p) 0 99) : Iv (aftD σ hd yr kd src ln mn) := by
  obtain ⟨h1, h2, h3, h4, h5, h6, h7, h8, h9, h10⟩ := hI
  have e : ∀ t i j, (t < 5 ∨ 10 < t) → (aftD σ hd yr kd src ln mn).2 t i j = σ.2 t i j := fun t i j h => if_neg (by omega)
  have n : ∀ t i j, i ≠ σ.1.2.1 → (aftD σ hd yr kd src ln mn).2 t i j = σ.2 t i j := fun t i j h => if_neg (fun q => h q.1)
  have a5 : (aftD σ hd yr kd src ln mn).2 5 σ.1.2.1 0 = hd := if_pos ⟨rfl, by decide, by decide⟩
  have a6 : (aftD σ hd yr kd src ln mn).2 6 σ.1.2.1 0 = yr := if_pos ⟨rfl, by decide, by decide⟩
  have a9 : ∀ p, (aftD σ hd yr kd src ln mn).2 9 σ.1.2.1 p = ln p := fun p => if_pos ⟨rfl, by decide, by decide⟩
  have a10 : ∀ p, (aftD σ hd yr kd src ln mn).2 10 σ.1.2.1 p = mn p := fun p => if_pos ⟨rfl, by decide, by decide⟩
  refine ⟨h1, by show σ.1.2.1 + 1 ≤ 30; omega, h3, fun g p => ?_, fun g p hg => ?_, fun b => ?_, ?_, fun d hd' => ?_, fun k p hk => ?_, fun s => ?_⟩
  · rw [e _ _ _ (by omega)]; exact h4 g p
  · rw [e _ _ _ (by omega)]; exact h5 g p hg
  · rw [e _ _ _ (by omega)]; exact h6 b
  · rw [e _ _ _ (by omega), e _ _ _ (by omega), e _ _ _ (by omega)]; exact h7
  · have hd2 : d < σ.1.2.1 + 1 := hd'
    by_cases q : d = σ.1.2.1
    · subst q
      rw [a5, a6]
      refine ⟨g1, g2, fun p => ?_⟩
      rw [a9, a10]
      exact ⟨g3 p, g4 p⟩
    · rw [n _ _ _ q, n _ _ _ q]
      refine ⟨(h8 d (by omega)).1, (h8 d (by omega)).2.1, fun p => ?_⟩
      rw [n _ _ _ q, n _ _ _ q]
      exact (h8 d (by omega)).2.2 p
  · rw [e _ _ _ (by omega)]; exact h9 k p hk
  · rw [e _ _ _ (by omega), e _ _ _ (by omega)]; exact h10 s
theorem Iv_K {σ : Sg} (hI : Iv σ) {kn : Int32} {mn : Nat → Int32} (hn : ¬ σ.1.2.2 = 4) (g4 : ∀ p, rD (mn p) 0 99) : Iv (aftK σ kn mn) := by
  obtain ⟨h1, h2, h3, h4, h5, h6, h7, h8, h9, h10⟩ := hI
  have e : ∀ t i j, (t < 11 ∨ 12 < t) → (aftK σ kn mn).2 t i j = σ.2 t i j := fun t i j h => if_neg (by omega)
  have n : ∀ t i j, i ≠ σ.1.2.2 → (aftK σ kn mn).2 t i j = σ.2 t i j := fun t i j h => if_neg (fun q => h q.1)
  have a12 : ∀ p, (aftK σ kn mn).2 12 σ.1.2.2 p = mn p := fun p => if_pos ⟨rfl, by decide, by decide⟩
  refine ⟨h1, h2, by show σ.1.2.2 + 1 ≤ 4; omega, fun g p => ?_, fun g p hg => ?_, fun b => ?_, ?_, fun d hd' => ?_, fun k p hk => ?_, fun s => ?_⟩
  · rw [e _ _ _ (by omega)]; exact h4 g p
  · rw [e _ _ _ (by omega)]; exact h5 g p hg
  · rw [e _ _ _ (by omega)]; exact h6 b
  · rw [e _ _ _ (by omega), e _ _ _ (by omega), e _ _ _ (by omega)]; exact h7
  · rw [e _ _ _ (by omega), e _ _ _ (by omega)]
    refine ⟨(h8 d hd').1, (h8 d hd').2.1, fun p => ?_⟩
    rw [e _ _ _ (by omega), e _ _ _ (by omega)]
    exact (h8 d hd').2.2 p
  · have hk2 : k < σ.1.2.2 + 1 := hk
    by_cases q : k = σ.1.2.2
    · subst q
      rw [a12]
      exact ⟨by have := (g4 p).1; omega, by have := (g4 p).2; omega⟩
    · rw [n _ _ _ q]; exact h9 k p (by omega)
  · rw [e _ _ _ (by omega), e _ _ _ (by omega)]; exact h10 s
theorem td_b {D a s : Int} (ha : 0 ≤ a) (hs : a < s) : (0 ≤ D → 0 ≤ (D * a).tdiv s ∧ (D * a).tdiv s ≤ D) ∧ (D ≤ 0 → D ≤ (D * a).tdiv s ∧ (D * a).tdiv s ≤ 0) := by
  have key : ∀ d : Nat, 0 ≤ ((d : Int) * a).tdiv s ∧ ((d : Int) * a).tdiv s ≤ d := by
    intro d
    obtain ⟨k, rfl⟩ := Int.eq_ofNat_of_zero_le ha
    obtain ⟨n, rfl⟩ := Int.eq_ofNat_of_zero_le (show 0 ≤ s by omega)
    have e : ((d : Int) * (k : Int)) = ((d * k : Nat) : Int) := (Int.natCast_mul d k).symm
    have h1 : d * k / n ≤ d := Nat.div_le_of_le_mul (by rw [Nat.mul_comm n]; exact Nat.mul_le_mul_left d (by omega))
    rw [e, ← Int.ofNat_tdiv]
    generalize d * k / n = z at h1
    omega
  refine ⟨fun h => ?_, fun h => ?_⟩
  · obtain ⟨d, rfl⟩ := Int.eq_ofNat_of_zero_le h
    exact key d
  · obtain ⟨d, hd⟩ := Int.eq_ofNat_of_zero_le (show 0 ≤ -D by omega)
    have e : D = -(d : Int) := by omega
    subst e
    rw [Int.neg_mul, Int.neg_tdiv]
    have := key d
    omega
theorem gaze_rd {v m mi la : Int32} (hv : v = LO ∨ rD v (-7000) 7000) (hm : rD m (-7000) 7000) (h1 : rD mi 0 60) (h2 : rD la 1 60) : rD (gazeP v m mi la) (-7000) 7000 := by
  unfold gazeP
  split
  · exact hm
  · rename_i q
    have hv := hv.resolve_left q
    unfold rD at *
    have e1 : (v - m).toInt = v.toInt - m.toInt := by rw [Int32.toInt_sub, Int.bmod_eq_of_le (by omega) (by omega)]
    have b1 : ((v.toInt - m.toInt) * mi.toInt).natAbs ≤ 14000 * 60 := mulB (by omega) (by omega)
    have e2 : ((v - m) * mi).toInt = (v.toInt - m.toInt) * mi.toInt := by rw [Int32.toInt_mul, e1, Int.bmod_eq_of_le (by omega) (by omega)]
    have e3 : (mi + la).toInt = mi.toInt + la.toInt := by rw [Int32.toInt_add, Int.bmod_eq_of_le (by omega) (by omega)]
    have hb := td_b (D := v.toInt - m.toInt) (a := mi.toInt) (s := mi.toInt + la.toInt) (by omega) (by omega)
    generalize hz : ((v.toInt - m.toInt) * mi.toInt).tdiv (mi.toInt + la.toInt) = z at hb
    have e4 : ((v - m) * mi / (mi + la)).toInt = z := by
      rw [Int32.toInt_div, e2, e3, hz, Int.bmod_eq_of_le (by omega) (by omega)]
    have e5 : (m + (v - m) * mi / (mi + la)).toInt = m.toInt + z := by
      rw [Int32.toInt_add, e4, Int.bmod_eq_of_le (by omega) (by omega)]
    rw [e5]
    omega
theorem ixB_rd {x : Int32} {n : Nat} (h : ixB x n = true) : rD x 0 (n - 1) ∧ ix x < n := by
  have := of_decide_eq_true h
  exact ⟨⟨this.1, by have := this.2; omega⟩, by unfold ix; omega⟩
theorem iv_head {σ : Sg} (hI : Iv σ) : Iv (aft_head σ) := by
  unfold aft_head
  split
  · exact hI
  · obtain ⟨h1, h2, h3, h4, h5, h6, h7, h8, h9, h10⟩ := hI
    refine ⟨by show σ.1.1 + 1 ≤ 8; omega, h2, h3, h4, fun g p hg => h5 g p (by have : σ.1.1 + 1 ≤ g := hg; omega), h6, h7, fun d hd => ⟨⟨(h8 d hd).1.1, ?_⟩, (h8 d hd).2⟩, h9, h10⟩
    have := (h8 d hd).1.2
    show (σ.2 5 d 0).toInt ≤ ((σ.1.1 + 1 : Nat) : Int) - 1
    omega
theorem iv_place {σ : Sg} (hI : Iv σ) {x y v : Int32} : Iv (aft_place σ x y v) := by
  unfold aft_place
  split
  · rename_i q
    simp only [Bool.and_eq_true] at q
    exact Iv_su hI (t := 1) ⟨(ixB_rd q.1.1).2, (ixB_rd q.2).1⟩
  · exact hI
theorem iv_16 {σ : Sg} (hI : Iv σ) {v : Int32} : Iv (su σ 16 0 0 v) := Iv_su hI (t := 16) trivial
theorem rd_ok (f : Nat → Int32) : ∀ n i j, i ≤ j → j < rdN f n i → rD (f j) 0 99 := by
  intro n
  induction n with
  | zero => exact fun i j h1 h2 => by have : j < i := h2; omega
  | succ n ih =>
    intro i j h1 h2
    simp only [rdN] at h2
    split at h2
    · rename_i q
      by_cases e : j = i
      · subst e; exact (ixB_rd q).1
      · exact ih (i + 1) j (by omega) h2
    · omega
theorem iv_read {σ : Sg} (hI : Iv σ) {x y : Int32} : Iv (aft_read σ x y) := by
  unfold aft_read
  split
  · rename_i q
    unfold okRead at q
    simp only [Bool.and_eq_true] at q
    split
    · exact iv_16 hI
    · exact Iv_R hI (t := 1) (fun j hj => ⟨(ixB_rd q.2).2, rd_ok _ _ 0 j (by omega) hj⟩)
  · exact hI
theorem iv_type {σ : Sg} (hI : Iv σ) {x b : Int32} : Iv (aft_type σ x b) := by
  unfold aft_type
  split
  · split
    · exact hI
    · rename_i q
      have h2 := (hLen_ok hI (ix x)).2
      refine Iv_su (Iv_su hI (t := 2) trivial) (t := 3) ?_
      show rD _ 0 40
      unfold rD
      rw [nI_toInt (by omega)]
      omega
  · exact hI
theorem iv_wipe {σ : Sg} (hI : Iv σ) {x : Int32} : Iv (aft_wipe σ x) := by
  unfold aft_wipe
  split
  · exact Iv_su hI (t := 3) ⟨by decide, by decide⟩
  · exact hI
theorem iv_set {σ : Sg} (hI : Iv σ) {w v : Int32} : Iv (aft_set σ w v) := by
  unfold aft_set
  split
  · rename_i q
    refine Iv_su hI (t := 4) ?_
    rcases of_decide_eq_true q with ⟨e, h⟩ | ⟨e, h⟩ | ⟨e, h⟩ <;> subst e
    · exact ⟨fun _ => h, fun z => absurd z (by decide), fun z => absurd z (by decide)⟩
    · exact ⟨fun z => absurd z (by decide), fun _ => h, fun z => absurd z (by decide)⟩
    · exact ⟨fun z => absurd z (by decide), fun z => absurd z (by decide), fun _ => h⟩
  · exact hI
theorem late_rd {σ : Sg} (hI : Iv σ) {y : Int32} (h : lateB σ y = true) : rD y 0 99 := by
  unfold lateB at h
  have h1 := of_decide_eq_true h
  have h0 : 0 ≤ (lastY σ).toInt := by
    unfold lastY
    split
    · decide
    · exact (hI.2.2.2.2.2.2.2.1 (σ.1.2.1 - 1) (by omega)).2.1.1
  exact ⟨by omega, by omega⟩
theorem iv_draw {σ : Sg} (hI : Iv σ) {a h s y : Int32} : Iv (aft_draw σ a h s y) := by
  unfold aft_draw
  split
  · rename_i q
    unfold okDraw at q
    simp only [Bool.and_eq_true] at q
    split
    · exact hI
    · rename_i q2
      exact Iv_D hI q2 (ixB_rd q.1.1.2).1 (late_rd hI q.2) (fun p => drS_r _ _ _) (fun p => meanS_rd hI q.1.2 p)
  · exact hI
theorem iv_copied {σ : Sg} (hI : Iv σ) {a d y : Int32} : Iv (aft_copied σ a d y) := by
  unfold aft_copied
  split
  · rename_i q
    unfold okCopied at q
    simp only [Bool.and_eq_true] at q
    have hd := (ixB_rd q.1.2).2
    have h8 := hI.2.2.2.2.2.2.2.1 (ix d) hd
    split
    · exact hI
    · rename_i q2
      exact Iv_D hI q2 h8.1 (late_rd hI q.2) (fun p => drS_r _ _ _) (fun p => (h8.2.2 p).2)
  · exact hI
theorem iv_knower {σ : Sg} (hI : Iv σ) {s kn : Int32} : Iv (aft_knower σ s kn) := by
  unfold aft_knower
  split
  · rename_i q
    unfold okKnower at q
    simp only [Bool.and_eq_true] at q
    split
    · exact hI
    · rename_i q2
      exact Iv_K hI q2 (fun p => meanS_rd hI q.1 p)
  · exact hI
theorem iv_look {σ : Sg} (hI : Iv σ) {k d m : Int32} : Iv (aft_look σ k d m) := by
  unfold aft_look
  split
  · rename_i q
    unfold okLook at q
    simp only [Bool.and_eq_true] at q
    have hd := (ixB_rd q.1.2).2
    have hk := (ixB_rd q.1.1).2
    refine Iv_R hI (t := 12) (fun j _ => ?_)
    exact gaze_rd ((hI.2.2.2.2.2.2.2.1 (ix d) hd).2.2 j).1 (hI.2.2.2.2.2.2.2.2.1 (ix k) j hk) (ixB_rd q.2).1 hI.2.2.2.2.2.2.1.2.1
  · exact hI
theorem iv_sh {σ : Sg} (hI : Iv σ) {s : Nat} {f n : Int32} (hf : rD f (-1) 2) (hn : rD n 0 60) : Iv (aftSh σ s f n) := Iv_R (Iv_su (Iv_su hI (t := 13) hf) (t := 14) hn) (t := 15) (fun _ _ => trivial)
theorem iv_sheet {σ : Sg} (hI : Iv σ) {x f n : Int32} : Iv (aft_sheet σ x f n) := by
  unfold aft_sheet
  split
  · rename_i q
    unfold okSheet at q
    simp only [Bool.and_eq_true] at q
    have h60 : (60 : Int32).toInt = 60 := rfl
    have hn := i32_le.mp (of_decide_eq_true q.2)
    split
    · exact iv_16 hI
    · rename_i q2
      rw [i32_lt, i0] at q2
      have h := (ixB_rd q.1.2).1
      exact iv_sh hI ⟨by have := h.1; omega, by have := h.2; omega⟩ ⟨by omega, by omega⟩
  · exact hI
theorem iv_lose {σ : Sg} (hI : Iv σ) {x : Int32} : Iv (aft_lose σ x) := by
  unfold aft_lose
  split
  · split
    · exact iv_16 hI
    · exact iv_sh hI ⟨by decide, by decide⟩ ⟨by decide, by decide⟩
  · exact hI
theorem iv_lay {σ : Sg} (hI : Iv σ) {x f i v : Int32} : Iv (aft_lay σ x f i v) := by
  unfold aft_lay
  split
  · split
    · exact Iv_su hI (t := 15) trivial
    · exact iv_16 hI
  · exact hI
theorem iv_get {σ : Sg} (hI : Iv σ) {x f i : Int32} : Iv (aft_get σ x f i) := by
  unfold aft_get
  split
  · split
    · exact hI
    · exact iv_16 hI
  · exact hI
theorem iv_copy {σ : Sg} (hI : Iv σ) {x i y j n : Int32} : Iv (aft_copy σ x i y j n) := by
  unfold aft_copy
  split
  · split
    · exact Iv_R hI (t := 15) (fun _ _ => trivial)
    · exact iv_16 hI
  · exact hI
theorem iv_write {σ : Sg} (hI : Iv σ) {d x : Int32} : Iv (aft_write σ d x) := by
  unfold aft_write
  split
  · split
    · exact iv_16 hI
    · exact Iv_R hI (t := 15) (fun _ _ => trivial)
  · exact hI
