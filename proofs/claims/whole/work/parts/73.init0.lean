/-! ===== what stands when both constructors are done ===== -/
def M0 : Mem := (fun k j => if k = 0 then (if j = 8 then 60 else if j = 9 then 10 else if j = 10 then 20 else 0) else if 20 ≤ k ∧ k < 28 then 50 else if 30 ≤ k ∧ k < 34 then (if j = 3 then -1 else 0) else if 50 ≤ k ∧ k < 54 then 10 else if 80 ≤ k ∧ k < 84 then (if j = 1 then -1 else 0) else if 100 ≤ k ∧ k < 131 then (if j = 5 then -1 else 0) else if k = 1001 then -1 else if k = 1012 then (if j = 0 then 60 else if j = 1 then 10 else 20) else 0, fun k j => if (k = 8 ∨ k = 9) ∧ j = 1 then 1 else 0)
def σ0 : Sg := ((0, 0, 0), fun t i _ => if t = 1 then 50 else if t = 4 then (if i = 0 then 60 else if i = 1 then 10 else 20) else if t = 13 then -1 else 0)
theorem uIv0 : Iv σ0 := by
  refine ⟨by decide, by decide, by decide, fun h p => show rD 50 0 99 from ⟨by decide, by decide⟩, fun h p _ => rfl, fun a => show rD 0 0 40 from ⟨by decide, by decide⟩, ⟨⟨by decide, by decide⟩, ⟨by decide, by decide⟩, ⟨by decide, by decide⟩⟩, fun d hd => absurd hd (Nat.not_lt_zero d), fun k p hk => absurd hk (Nat.not_lt_zero k), fun s => ⟨show rD (-1) (-1) 2 from ⟨by decide, by decide⟩, show rD 0 0 60 from ⟨by decide, by decide⟩⟩⟩
theorem uRM0 : RM M0 σ0 := by
  refine ⟨rfl, rfl, rfl, fun t i j hd => ?_⟩
  unfold dM at hd
  split at hd
  all_goals first | exact hd.elim | exact absurd hd.1 (Nat.not_lt_zero _) | skip
  · rfl
  · rfl
  · have hi := hd.1
    rcases (show i = 0 ∨ i = 1 ∨ i = 2 by omega) with rfl | rfl | rfl <;> rfl
  · rfl
  · exact absurd (show (-1 : Int32) < 0 by decide) hd.2.2
  · exact absurd (show (-1 : Int32) < 0 by decide) hd.2.2
  · rfl
theorem uRC0 : RC M0 σ0 := by
  have hp : ∀ a, hPar σ0 a = (-1, tx10) := fun a => by
    unfold hPar txP
    exact if_pos rfl
  refine ⟨rfl, rfl, rfl, fun t i j hd => ?_, fun a ha => ⟨fun p hp1 => ?_, ?_⟩⟩
  · unfold dC at hd
    split at hd
    all_goals first | exact hd.elim | exact absurd hd.1 (Nat.not_lt_zero _) | skip
    · show M0.1 (20 + i) j = 50
      have := hd.1
      simp only [M0]
      rw [if_neg (by omega), if_pos (by omega)]
    · show M0.1 (40 + i) j = 0
      have := hd.1
      simp only [M0]
      rw [if_neg (by omega), if_neg (by omega), if_neg (by omega), if_neg (by omega), if_neg (by omega), if_neg (by omega), if_neg (by omega), if_neg (by omega)]
    · show M0.1 (30 + i) 2 = 0
      have := hd.1
      simp only [M0]
      rw [if_neg (by omega), if_neg (by omega), if_pos (by omega), if_neg (by decide)]
    · have hi := hd.1
      rcases (show i = 0 ∨ i = 1 ∨ i = 2 by omega) with rfl | rfl | rfl <;> rfl
    · show M0.1 (80 + i) 1 = -1
      have := hd.1
      simp only [M0]
      rw [if_neg (by omega), if_neg (by omega), if_neg (by omega), if_neg (by omega), if_pos (by omega), if_pos trivial]
    · show M0.1 (80 + i) 2 = 0
      have := hd.1
      simp only [M0]
      rw [if_neg (by omega), if_neg (by omega), if_neg (by omega), if_neg (by omega), if_pos (by omega), if_neg (by decide)]
    · show M0.1 (90 + i) j = 0
      have := hd.1
      simp only [M0]
      rw [if_neg (by omega), if_neg (by omega), if_neg (by omega), if_neg (by omega), if_neg (by omega), if_neg (by omega), if_neg (by omega), if_neg (by omega)]
    · rfl
  · rw [hp]
    show M0.1 (50 + a) p = 10
    simp only [M0]
    rw [if_neg (by omega), if_neg (by omega), if_neg (by omega), if_pos (by omega)]
  · rw [hp]
    show M0.1 (30 + a) 3 = -1
    simp only [M0]
    rw [if_neg (by omega), if_neg (by omega), if_pos (by omega), if_pos trivial]
