/-! ===== what both objects hold: three counts, and a table by kind and two places ===== -/
abbrev Sg : Type := (Nat × Nat × Nat) × (Nat → Nat → Nat → Int32)
abbrev LO : Int32 := -9999
def LC (t i j : Nat) : Nat × Nat := match t with
  | 1 => (20 + i, j)
  | 2 => (40 + i, j)
  | 3 => (30 + i, 2)
  | 4 => (0, 8 + i)
  | 5 => (100 + i, 2)
  | 6 => (100 + i, 3)
  | 7 => (100 + i, 4)
  | 8 => (100 + i, 5)
  | 9 => (300 + i, j)
  | 10 => (200 + i, j)
  | 11 => (60 + i, 1)
  | 12 => (70 + i, j)
  | 13 => (80 + i, 1)
  | 14 => (80 + i, 2)
  | 15 => (90 + i, j)
  | _ => (0, 11)
def LM (t i j : Nat) : Nat × Nat := match t with
  | 1 => (1007, 8 * i + j)
  | 2 => (1008, 40 * i + j)
  | 3 => (1009, i)
  | 4 => (1012, i)
  | 5 => (1014, i)
  | 6 => (1015, i)
  | 7 => (1016, i)
  | 8 => (1017, i)
  | 9 => (1018, 8 * i + j)
  | 10 => (1019, 8 * i + j)
  | 11 => (1021, i)
  | 12 => (1022, 8 * i + j)
  | 13 => (1001, i)
  | 14 => (1002, i)
  | 15 => (1003, 60 * i + j)
  | _ => (1000, 4)
def dC (σ : Sg) (t i j : Nat) : Prop := match t with
  | 1 => i < 8 ∧ j < 8
  | 2 => i < 4 ∧ j < 40
  | 3 => i < 4 ∧ j = 0
  | 4 => i < 3 ∧ j = 0
  | 5 => i < σ.1.2.1 ∧ j = 0
  | 6 => i < σ.1.2.1 ∧ j = 0
  | 7 => i < σ.1.2.1 ∧ j = 0
  | 8 => i < σ.1.2.1 ∧ j = 0
  | 9 => i < σ.1.2.1 ∧ j < 8
  | 10 => i < σ.1.2.1 ∧ j < 8
  | 11 => i < σ.1.2.2 ∧ j = 0
  | 12 => i < σ.1.2.2 ∧ j < 8
  | 13 => i < 4 ∧ j = 0
  | 14 => i < 4 ∧ j = 0
  | 15 => i < 4 ∧ j < 60
  | 16 => i = 0 ∧ j = 0
  | _ => False
def dM (σ : Sg) (t i j : Nat) : Prop := match t with
  | 1 => i < σ.1.1 ∧ j < 8
  | 2 => i < 4 ∧ j < 40
  | 3 => i < 4 ∧ j = 0
  | 4 => i < 3 ∧ j = 0
  | 5 => i < σ.1.2.1 ∧ j = 0
  | 6 => i < σ.1.2.1 ∧ j = 0
  | 7 => i < σ.1.2.1 ∧ j = 0
  | 8 => i < σ.1.2.1 ∧ j = 0
  | 9 => i < σ.1.2.1 ∧ j < 8
  | 10 => i < σ.1.2.1 ∧ j < 8
  | 11 => i < σ.1.2.2 ∧ j = 0
  | 12 => i < σ.1.2.2 ∧ j < 8
  | 13 => i < 4 ∧ j = 0
  | 14 => i < 4 ∧ j = 0 ∧ ¬ σ.2 13 i 0 < 0
  | 15 => i < 4 ∧ (j : Int) < (σ.2 14 i 0).toInt ∧ ¬ σ.2 13 i 0 < 0
  | 16 => i = 0 ∧ j = 0
  | _ => False
/-! the text of a hand -/
def txB (tx : Nat → Int32) (len i : Nat) : Int32 := if i < len then tx i else -1
def txF (b : Int32) : Bool := decide (48 ≤ b.toInt ∧ b.toInt ≤ 57)
def txM (f : Nat → Int32) (w v : Int32) : Nat → Int32 := fun p => if w = 42 ∨ w = nI p + 48 then v else f p
def txS (tx : Nat → Int32) (len i : Nat) (f : Nat → Int32) : Nat ⊕ (Nat × (Nat → Int32)) :=
  if ¬ txB tx len i = 42 ∧ ¬ (48 ≤ (txB tx len i).toInt ∧ (txB tx len i).toInt ≤ 55) then .inl i
  else if txB tx len (i + 1) = 120 then .inr (i + 2, txM f (txB tx len i) LO)
  else if ¬ txB tx len (i + 1) = 43 ∧ ¬ txB tx len (i + 1) = 45 then .inl (i + 1)
  else if txF (txB tx len (i + 2)) = false then .inl (i + 2)
  else if txF (txB tx len (i + 3)) = false then
    (if 60 < (txB tx len (i + 2) - 48) then .inl (i + 2) else .inr (i + 3, txM f (txB tx len i) (if txB tx len (i + 1) = 45 then -(txB tx len (i + 2) - 48) else txB tx len (i + 2) - 48)))
  else
    (if 60 < 10 * (txB tx len (i + 2) - 48) + txB tx len (i + 3) - 48 then .inl (i + 2) else .inr (i + 4, txM f (txB tx len i) (if txB tx len (i + 1) = 45 then -(10 * (txB tx len (i + 2) - 48) + txB tx len (i + 3) - 48) else 10 * (txB tx len (i + 2) - 48) + txB tx len (i + 3) - 48)))
def tx10 : Nat → Int32 := fun _ => 10
def txR (tx : Nat → Int32) (len : Nat) : Nat → Nat → (Nat → Int32) → Int32 × (Nat → Int32)
  | 0, _, f => (-1, f)
  | n + 1, i, f => match txS tx len i f with
    | .inl k => (nI k, tx10)
    | .inr (q, g) => if q < len then (if txB tx len q = 59 then txR tx len n (q + 1) g else (nI q, tx10)) else (-1, g)
def txP (tx : Nat → Int32) (len : Nat) : Int32 × (Nat → Int32) := if len = 0 then (-1, tx10) else txR tx len 41 0 tx10
def hLen (σ : Sg) (a : Nat) : Nat := (σ.2 3 a 0).toInt.toNat
def hPar (σ : Sg) (a : Nat) : Int32 × (Nat → Int32) := txP (σ.2 2 a) (hLen σ a)
def rD (x : Int32) (lo hi : Int) : Prop := lo ≤ x.toInt ∧ x.toInt ≤ hi
/-- what every state keeps to -/
def Iv (σ : Sg) : Prop := σ.1.1 ≤ 8 ∧ σ.1.2.1 ≤ 30 ∧ σ.1.2.2 ≤ 4 ∧
  (∀ h p, rD (σ.2 1 h p) 0 99) ∧ (∀ h p, σ.1.1 ≤ h → σ.2 1 h p = 50) ∧
  (∀ a, rD (σ.2 3 a 0) 0 40) ∧
  (rD (σ.2 4 0 0) 1 99 ∧ rD (σ.2 4 1 0) 1 60 ∧ rD (σ.2 4 2 0) 0 99) ∧
  (∀ d, d < σ.1.2.1 → rD (σ.2 5 d 0) 0 (σ.1.1 - 1) ∧ rD (σ.2 6 d 0) 0 99 ∧ (∀ p, (σ.2 9 d p = LO ∨ rD (σ.2 9 d p) (-7000) 7000) ∧ rD (σ.2 10 d p) 0 99)) ∧
  (∀ k p, k < σ.1.2.2 → rD (σ.2 12 k p) (-7000) 7000) ∧
  (∀ s, rD (σ.2 13 s 0) (-1) 2 ∧ rD (σ.2 14 s 0) 0 60)
def RC (M : Mem) (σ : Sg) : Prop := mG M 0 5 = nI σ.1.1 ∧ mG M 0 6 = nI σ.1.2.1 ∧ mG M 0 7 = nI σ.1.2.2 ∧ (∀ t i j, dC σ t i j → mG M (LC t i j).1 (LC t i j).2 = σ.2 t i j) ∧ (∀ a, a < 4 → (∀ p, p < 8 → mG M (50 + a) p = (hPar σ a).2 p) ∧ mG M (30 + a) 3 = (hPar σ a).1)
def RM (M : Mem) (σ : Sg) : Prop := mG M 1000 5 = nI σ.1.1 ∧ mG M 1000 12 = nI σ.1.2.1 ∧ mG M 1000 19 = nI σ.1.2.2 ∧ (∀ t i j, dM σ t i j → mG M (LM t i j).1 (LM t i j).2 = σ.2 t i j)
/-- the other object's cells stay -/
def kC (M M' : Mem) : Prop := ∀ k, 1000 ≤ k → M'.1 k = M.1 k ∧ M'.2 k = M.2 k
def kM (M M' : Mem) : Prop := ∀ k, k < 1000 → M'.1 k = M.1 k ∧ M'.2 k = M.2 k
theorem kC.rf {M : Mem} : kC M M := fun _ _ => ⟨rfl, rfl⟩
theorem kM.rf {M : Mem} : kM M M := fun _ _ => ⟨rfl, rfl⟩
theorem kC.tr {M1 M2 M3 : Mem} (h1 : kC M1 M2) (h2 : kC M2 M3) : kC M1 M3 := fun k h => ⟨(h2 k h).1.trans (h1 k h).1, (h2 k h).2.trans (h1 k h).2⟩
theorem kM.tr {M1 M2 M3 : Mem} (h1 : kM M1 M2) (h2 : kM M2 M3) : kM M1 M3 := fun k h => ⟨(h2 k h).1.trans (h1 k h).1, (h2 k h).2.trans (h1 k h).2⟩
theorem LM_big (t i j : Nat) : 1000 ≤ (LM t i j).1 := by
  unfold LM
  split <;> simp
theorem RM.kept {M M' : Mem} {σ : Sg} (h : RM M σ) (hk : kC M M') : RM M' σ := by
  obtain ⟨h1, h2, h3, h4⟩ := h
  unfold mG at *
  refine ⟨?_, ?_, ?_, fun t i j hd => ?_⟩
  · rw [mG, (hk 1000 (by omega)).1]; exact h1
  · rw [mG, (hk 1000 (by omega)).1]; exact h2
  · rw [mG, (hk 1000 (by omega)).1]; exact h3
  · rw [mG, (hk _ (LM_big t i j)).1]; exact h4 t i j hd
theorem LC_small {σ : Sg} (h2 : σ.1.2.1 ≤ 30) (h3 : σ.1.2.2 ≤ 4) {t i j : Nat} (h : dC σ t i j) : (LC t i j).1 < 1000 := by
  unfold dC at h
  unfold LC
  split <;> simp_all <;> omega
theorem RC.kept {M M' : Mem} {σ : Sg} (h2 : σ.1.2.1 ≤ 30) (h3 : σ.1.2.2 ≤ 4) (h : RC M σ) (hk : kM M M') : RC M' σ := by
  obtain ⟨g1, g2, g3, g4, g5⟩ := h
  refine ⟨?_, ?_, ?_, fun t i j hd => ?_, fun a ha => ⟨fun p hp => ?_, ?_⟩⟩
  · rw [mG, (hk 0 (by omega)).1]; exact g1
  · rw [mG, (hk 0 (by omega)).1]; exact g2
  · rw [mG, (hk 0 (by omega)).1]; exact g3
  · rw [mG, (hk _ (LC_small h2 h3 hd)).1]; exact g4 t i j hd
  · rw [mG, (hk _ (by omega)).1]; exact (g5 a ha).1 p hp
  · rw [mG, (hk _ (by omega)).1]; exact (g5 a ha).2
theorem Iv.n {σ : Sg} (h : Iv σ) : σ.1.1 ≤ 8 ∧ σ.1.2.1 ≤ 30 ∧ σ.1.2.2 ≤ 4 := ⟨h.1, h.2.1, h.2.2.1⟩
