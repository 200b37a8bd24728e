/-! ===== what is not yet born, what is done, what stays ===== -/
def bUn (M : Mem) (Z : Nat → Nat → Bool) (k : Nat) : Prop := (∀ j, M.1 k j = 0) ∧ (∀ j, M.2 k j = 0) ∧ ∀ j, Z k j = true
def bSm (M M' : Mem) (Z Z' : Nat → Nat → Bool) (k : Nat) : Prop := (∀ j, M'.1 k j = M.1 k j) ∧ (∀ j, M'.2 k j = M.2 k j) ∧ ∀ j, Z' k j = Z k j
def bFl (M : Mem) (Z : Nat → Nat → Bool) (k : Nat) : Nat → List Fk → Prop
  | _, [] => True
  | j, .inl _ :: fs => Z k j = false ∧ bFl M Z k (j + 1) fs
  | j, .inr false :: fs => M.1 k j = M0.1 k j ∧ bFl M Z k (j + 1) fs
  | j, .inr true :: fs => M.2 k j = M0.2 k j ∧ bFl M Z k (j + 1) fs
def bDn (M : Mem) (Z : Nat → Nat → Bool) (k : Nat) : Prop := match uSh k with
  | .inl n => ∀ j, j < n → M.1 k j = M0.1 k j
  | .inr (.inl (_, n, _)) => ∀ j, j < n → Z k j = false
  | .inr (.inr (_, fs)) => bFl M Z k 0 fs
theorem bUn.sm {M M' : Mem} {Z Z' : Nat → Nat → Bool} {k : Nat} (h : bUn M Z k) (s : bSm M M' Z Z' k) : bUn M' Z' k := ⟨fun j => (s.1 j).trans (h.1 j), fun j => (s.2.1 j).trans (h.2.1 j), fun j => (s.2.2 j).trans (h.2.2 j)⟩
theorem bFl.sm {M M' : Mem} {Z Z' : Nat → Nat → Bool} {k : Nat} (s : bSm M M' Z Z' k) : ∀ (fs : List Fk) (j : Nat), bFl M Z k j fs → bFl M' Z' k j fs
  | [], _, _ => trivial
  | .inl _ :: fs, j, h => ⟨(s.2.2 j).trans h.1, bFl.sm s fs (j + 1) h.2⟩
  | .inr false :: fs, j, h => ⟨(s.1 j).trans h.1, bFl.sm s fs (j + 1) h.2⟩
  | .inr true :: fs, j, h => ⟨(s.2.1 j).trans h.1, bFl.sm s fs (j + 1) h.2⟩
theorem bDn.sm {M M' : Mem} {Z Z' : Nat → Nat → Bool} {k : Nat} (h : bDn M Z k) (s : bSm M M' Z Z' k) : bDn M' Z' k := by
  unfold bDn at *
  split
  · rename_i n e
    rw [e] at h
    exact fun j hj => (s.1 j).trans (h j hj)
  · rename_i t n g e
    rw [e] at h
    exact fun j hj => (s.2.2 j).trans (h j hj)
  · rename_i ci fs e
    rw [e] at h
    exact bFl.sm s fs 0 h
theorem bSm.tr {M M' M2 : Mem} {Z Z' Z2 : Nat → Nat → Bool} {k : Nat} (h : bSm M M' Z Z' k) (s : bSm M' M2 Z' Z2 k) : bSm M M2 Z Z2 k := ⟨fun j => (s.1 j).trans (h.1 j), fun j => (s.2.1 j).trans (h.2.1 j), fun j => (s.2.2 j).trans (h.2.2 j)⟩
theorem bSm.rf {M : Mem} {Z : Nat → Nat → Bool} {k : Nat} : bSm M M Z Z k := ⟨fun _ => rfl, fun _ => rfl, fun _ => rfl⟩
theorem zS_ne {Z : Nat → Nat → Bool} {a i k : Nat} (h : k ≠ a) (j : Nat) : zS Z a i k j = Z k j := if_neg (fun z => h z.1)
theorem zS_at {Z : Nat → Nat → Bool} {a i : Nat} : zS Z a i a i = false := if_pos ⟨rfl, rfl⟩
theorem zS_nj {Z : Nat → Nat → Bool} {a i k j : Nat} (h : j ≠ i) : zS Z a i k j = Z k j := if_neg (fun z => h z.2)
theorem mS_ne {M : Mem} {a i k : Nat} {x : Int32} (h : k ≠ a) (j : Nat) : (mS M a i x).1 k j = M.1 k j := if_neg (fun z => h z.1)
theorem bS_at {M : Mem} {a i : Nat} {x : Int32} : (mS M a i x).1 a i = x := if_pos ⟨rfl, rfl⟩
theorem mS_nj {M : Mem} {a i k j : Nat} {x : Int32} (h : j ≠ i) : (mS M a i x).1 k j = M.1 k j := if_neg (fun z => h z.2)
theorem jS_ne {M : Mem} {a i k : Nat} {x : Int64} (h : k ≠ a) (j : Nat) : (jS M a i x).2 k j = M.2 k j := if_neg (fun z => h z.1)
theorem jS_at {M : Mem} {a i : Nat} {x : Int64} : (jS M a i x).2 a i = x := if_pos ⟨rfl, rfl⟩
theorem jS_nj {M : Mem} {a i k j : Nat} {x : Int64} (h : j ≠ i) : (jS M a i x).2 k j = M.2 k j := if_neg (fun z => h z.2)
theorem mR_ne {M : Mem} {r n k : Nat} {f : Nat → Int32} (h : k ≠ r) (j : Nat) : (mRow M r n f).1 k j = M.1 k j := if_neg (fun z => h z.1)
theorem mR_at {M : Mem} {r n j : Nat} {f : Nat → Int32} (h : j < n) : (mRow M r n f).1 r j = f j := if_pos ⟨rfl, h⟩
theorem bSm_z {M : Mem} {Z : Nat → Nat → Bool} {a i k : Nat} (h : k ≠ a) : bSm M M Z (zS Z a i) k := ⟨fun _ => rfl, fun _ => rfl, zS_ne h⟩
theorem bSm_m {M : Mem} {Z : Nat → Nat → Bool} {a i k : Nat} {x : Int32} (h : k ≠ a) : bSm M (mS M a i x) Z Z k := ⟨mS_ne h, fun _ => rfl, fun _ => rfl⟩
theorem bSm_j {M : Mem} {Z : Nat → Nat → Bool} {a i k : Nat} {x : Int64} (h : k ≠ a) : bSm M (jS M a i x) Z Z k := ⟨fun _ => rfl, jS_ne h, fun _ => rfl⟩
theorem bSm_r {M : Mem} {Z : Nat → Nat → Bool} {r n k : Nat} {f : Nat → Int32} (h : k ≠ r) : bSm M (mRow M r n f) Z Z k := ⟨mR_ne h, fun _ => rfl, fun _ => rfl⟩
/-- behind a constructor: N are born, those of Pd are done, all else is as it was -/
def bMk (Pd N : Nat → Prop) (I : List Nat) (M : Mem) (Z : Nat → Nat → Bool) : List Nat → Mem → (Nat → Nat → Bool) → Prop := fun I' M' Z' => (∀ k, k ∈ I' ↔ k ∈ I ∨ N k) ∧ (∀ k, Pd k → bDn M' Z' k) ∧ ∀ k, ¬ Pd k → bSm M M' Z Z' k
theorem oi2 : Cond.instanceMethod Lib.objectInit ∈ gt := gt_at 19 (by decide +kernel) rfl
theorem oi3 : Cond.code Lib.objectInit ⟨#[0xb1]⟩ 1 none ∈ gt := gt_at 20 (by decide +kernel) rfl
/-! M0, kind by kind -/
theorem M0_z {k j : Nat} (h : k ≠ 0) (h1 : ¬ (20 ≤ k ∧ k < 28)) (h2 : ¬ (30 ≤ k ∧ k < 34)) (h3 : ¬ (50 ≤ k ∧ k < 54)) (h4 : ¬ (80 ≤ k ∧ k < 84)) (h5 : ¬ (100 ≤ k ∧ k < 131)) (h6 : k ≠ 1001) (h7 : k ≠ 1012) : M0.1 k j = 0 := by
  simp only [M0]
  rw [if_neg h, if_neg h1, if_neg h2, if_neg h3, if_neg h4, if_neg h5, if_neg h6, if_neg h7]
theorem M0_20 {k j : Nat} (h : 20 ≤ k) (h2 : k < 28) : M0.1 k j = 50 := by
  simp only [M0]
  rw [if_neg (by omega), if_pos (by omega)]
theorem M0_30 {k j : Nat} (h : 30 ≤ k) (h2 : k < 34) : M0.1 k j = if j = 3 then -1 else 0 := by
  simp only [M0]
  rw [if_neg (by omega), if_neg (by omega), if_pos (by omega)]
theorem M0_50 {k j : Nat} (h : 50 ≤ k) (h2 : k < 54) : M0.1 k j = 10 := by
  simp only [M0]
  rw [if_neg (by omega), if_neg (by omega), if_neg (by omega), if_pos (by omega)]
theorem M0_80 {k j : Nat} (h : 80 ≤ k) (h2 : k < 84) : M0.1 k j = if j = 1 then -1 else 0 := by
  simp only [M0]
  rw [if_neg (by omega), if_neg (by omega), if_neg (by omega), if_neg (by omega), if_pos (by omega)]
theorem M0_100 {k j : Nat} (h : 100 ≤ k) (h2 : k < 131) : M0.1 k j = if j = 5 then -1 else 0 := by
  simp only [M0]
  rw [if_neg (by omega), if_neg (by omega), if_neg (by omega), if_neg (by omega), if_neg (by omega), if_pos (by omega)]
/-! shapes -/
theorem uSh_10 {k : Nat} (h : 10 ≤ k) (h2 : k < 20) : uSh k = .inr (.inr (2, [.inl (k + 10)])) := by
  unfold uSh
  rw [if_neg (by omega), if_pos (by omega)]
theorem uSh_20 {k : Nat} (h : 20 ≤ k) (h2 : k < 30) : uSh k = .inl 8 := by
  unfold uSh
  rw [if_neg (by omega), if_neg (by omega), if_pos (by omega)]
theorem uSh_30 {k : Nat} (h : 30 ≤ k) (h2 : k < 40) : uSh k = .inr (.inr (1, [.inl (k + 10), .inl (k + 20), fI, fI])) := by
  unfold uSh
  rw [if_neg (by omega), if_neg (by omega), if_neg (by omega), if_pos (by omega)]
theorem uSh_40 {k : Nat} (h : 40 ≤ k) (h2 : k < 50) : uSh k = .inl 40 := by
  unfold uSh
  rw [if_neg (by omega), if_neg (by omega), if_neg (by omega), if_neg (by omega), if_pos (by omega)]
theorem uSh_50 {k : Nat} (h : 50 ≤ k) (h2 : k < 60) : uSh k = .inl 8 := by
  unfold uSh
  rw [if_neg (by omega), if_neg (by omega), if_neg (by omega), if_neg (by omega), if_neg (by omega), if_pos (by omega)]
theorem uSh_60 {k : Nat} (h : 60 ≤ k) (h2 : k < 70) : uSh k = .inr (.inr (3, [.inl (k + 10), fI])) := by
  unfold uSh
  rw [if_neg (by omega), if_neg (by omega), if_neg (by omega), if_neg (by omega), if_neg (by omega), if_neg (by omega), if_pos (by omega)]
theorem uSh_70 {k : Nat} (h : 70 ≤ k) (h2 : k < 80) : uSh k = .inl 8 := by
  unfold uSh
  rw [if_neg (by omega), if_neg (by omega), if_neg (by omega), if_neg (by omega), if_neg (by omega), if_neg (by omega), if_neg (by omega), if_pos (by omega)]
theorem uSh_80 {k : Nat} (h : 80 ≤ k) (h2 : k < 90) : uSh k = .inr (.inr (4, [.inl (k + 10), fI, fI])) := by
  unfold uSh
  rw [if_neg (by omega), if_neg (by omega), if_neg (by omega), if_neg (by omega), if_neg (by omega), if_neg (by omega), if_neg (by omega), if_neg (by omega), if_pos (by omega)]
theorem uSh_90 {k : Nat} (h : 90 ≤ k) (h2 : k < 100) : uSh k = .inl 60 := by
  unfold uSh
  rw [if_neg (by omega), if_neg (by omega), if_neg (by omega), if_neg (by omega), if_neg (by omega), if_neg (by omega), if_neg (by omega), if_neg (by omega), if_neg (by omega), if_pos (by omega)]
theorem uSh_100 {k : Nat} (h : 100 ≤ k) (h2 : k < 200) : uSh k = .inr (.inr (5, [.inl (k + 100), .inl (k + 200), fI, fI, fI, fI])) := by
  unfold uSh
  rw [if_neg (by omega), if_neg (by omega), if_neg (by omega), if_neg (by omega), if_neg (by omega), if_neg (by omega), if_neg (by omega), if_neg (by omega), if_neg (by omega), if_neg (by omega), if_pos (by omega)]
theorem uSh_200 {k : Nat} (h : 200 ≤ k) (h2 : k < 400) : uSh k = .inl 8 := by
  unfold uSh
  rw [if_neg (by omega), if_neg (by omega), if_neg (by omega), if_neg (by omega), if_neg (by omega), if_neg (by omega), if_neg (by omega), if_neg (by omega), if_neg (by omega), if_neg (by omega), if_neg (by omega), if_pos (by omega)]
/-! Arrays.fill over a world that is being built -/
theorem bw_M {u : MI} {mc ms nc ns : Nat} {post : List Nat → Mem → (Nat → Nat → Bool) → Prop} {I : List Nat} {Z : Nat → Nat → Bool} {pc : Nat} {L : List (Option Value)} {st : List Value} {M M' : Mem} (h : M = M') (kk : BW u mc ms post nc ns pc L st I M' Z) : BW u mc ms post nc ns pc L st I M Z := by
  subst h
  exact kk
theorem bl_fill {I : List Nat} {M : Mem} {Z : Nat → Nat → Bool} {a n : Nat} {v : Int32} (hs : uSh a = .inl n) (ha : a ∈ I) (hn : n < 1000) : ∀ i, i ≤ n → BW u_J_fill 0 0 (fun I' M' Z' => I' = I ∧ M' = mRow M a n (fun _ => v) ∧ Z' = Z) 0 0 5 [some (.ref a), some (.int v), some (.int (nI i)), some (.int (nI n))] [] I (mRow M a i (fun _ => v)) Z := by
  refine up_ind (fun i hi ih => ?_)
  refine bw_iload_n d_J_fill_5 rfl ?_
  refine bw_iload_n d_J_fill_6 rfl ?_
  refine bw_icmp_geN (i) (n) 20 rfl rfl (by omega) d_J_fill_7 (by decide) (fun c_7 => ?_) (fun c_7 => ?_)
  · refine bw_vret rfl d_J_fill_20 (Nat.le_refl _) (Nat.le_refl _) ?_
    have ei : i = n := by omega
    subst ei
    exact ⟨rfl, rfl, rfl⟩
  · refine bw_aload_n d_J_fill_10 rfl ?_
    refine bw_iload_n d_J_fill_11 rfl ?_
    refine bw_iload_n d_J_fill_12 rfl ?_
    refine bw_iast (i := i) hs ha rfl (by omega) hn d_J_fill_13 ?_
    refine bw_iincN (x := i) d_J_fill_14 rfl rfl ?_
    refine bw_goto 5 d_J_fill_17 (by decide) ?_
    exact bw_L (by simp only [lset1, kl]) (bw_M (mRow_s (f := fun _ => v)) (ih c_7))
theorem bs_fill {I : List Nat} {M : Mem} {Z : Nat → Nat → Bool} {a n : Nat} {v : Int32} (hs : uSh a = .inl n) (ha : a ∈ I) (hn : n < 1000) : BS u_J_fill 0 0 [.ref a, .int v] I M Z (fun I' M' Z' => I' = I ∧ M' = mRow M a n (fun _ => v) ∧ Z' = Z) := by
  refine bs_intro (L := [some (.ref a), some (.int v), none, none]) (by decide +kernel) (fun ad q h => h) (fun ad => Nat.le_of_ble_eq_true rfl) ?_
  refine bw_iconst (v := 0) d_J_fill_0 (by decide) ?_
  refine bw_istore_n d_J_fill_1 rfl ?_
  refine bw_aload_n d_J_fill_2 rfl ?_
  refine bw_alen hs ha d_J_fill_3 ?_
  refine bw_istore_n d_J_fill_4 rfl ?_
  exact bw_M mRow_0.symm (bl_fill hs ha hn 0 (by omega))
