/-! ===== rows of a constructor: cells written ===== -/
def zS (Z : Nat → Nat → Bool) (k j : Nat) : Nat → Nat → Bool := fun a b => if a = k ∧ b = j then false else Z a b
theorem bcfs_z {ad : Nat → Nat} {M M' : Mem} {Z Z' : Nat → Nat → Bool} {k : Nat} : ∀ (fs : List Fk) (j : Nat), (∀ i, j ≤ i → Z' k i = Z k i ∧ M'.1 k i = M.1 k i ∧ M'.2 k i = M.2 k i) → bcfs ad M' Z' k j fs = bcfs ad M Z k j fs
  | [], _, _ => rfl
  | f :: fs, j, h => by
    simp only [bcfs]
    rw [bcfs_z fs (j + 1) (fun i hi => h i (by omega))]
    obtain ⟨h1, h2, h3⟩ := h j (Nat.le_refl j)
    congr 1
    cases f with
    | inl r => simp only [bcfv, h1]
    | inr b => cases b <;> simp only [bcfv, h2, h3]
theorem bcfs_set {ad : Nat → Nat} {M : Mem} {Z : Nat → Nat → Bool} {k r : Nat} : ∀ (fs : List Fk) (j0 j : Nat), fs[j]? = some (.inl r) → (bcfs ad M Z k j0 fs).set j (.ref (ad r)) = bcfs ad M (zS Z k (j0 + j)) k j0 fs
  | [], _, _, h => by simp at h
  | f :: fs, j0, 0, h => by
    simp at h
    subst h
    simp only [bcfs, List.set_cons_zero, Nat.add_zero]
    rw [bcfs_z (M' := M) (Z' := zS Z k j0) fs (j0 + 1) (fun i hi => ⟨if_neg (by omega), rfl, rfl⟩)]
    congr 1
    simp [bcfv, zS]
  | f :: fs, j0, j + 1, h => by
    have h' : fs[j]? = some (.inl r) := by simpa using h
    simp only [bcfs, List.set_cons_succ]
    rw [bcfs_set fs (j0 + 1) j h', show j0 + 1 + j = j0 + (j + 1) by omega]
    congr 1
    cases f with
    | inl r2 =>
      have : zS Z k (j0 + (j + 1)) k j0 = Z k j0 := if_neg (by omega)
      simp only [bcfv, this]
    | inr b => cases b <;> rfl
theorem bCells_at {dA : Nat → ClassId} {ad : Nat → Nat} {M : Mem} {Z : Nat → Nat → Bool} {I : List Nat} {k : Nat} (hk : k ∈ I) : ∃ q : Nat, (bCells dA ad M Z I)[q]? = some (ad k, bCell dA ad M Z k) ∧ I[q]? = some k := by
  obtain ⟨q, hq⟩ := List.getElem?_of_mem hk
  exact ⟨q, by unfold bCells; rw [List.getElem?_map, hq]; rfl, hq⟩
theorem bCells_set {dA : Nat → ClassId} {ad : Nat → Nat} {M M' : Mem} {Z Z' : Nat → Nat → Bool} {I : List Nat} {k q : Nat} (hn : I.Nodup) (hq : I[q]? = some k) (h : ∀ j, j ≠ k → bCell dA ad M' Z' j = bCell dA ad M Z j) : (bCells dA ad M Z I).set q (ad k, bCell dA ad M' Z' k) = bCells dA ad M' Z' I := by
  apply List.ext_getElem?
  intro i
  rw [List.getElem?_set]
  by_cases hi : q = i
  · subst hi
    have hlt : q < (bCells dA ad M Z I).length := by
      have := (List.getElem?_eq_some_iff.mp hq).1
      simpa [bCells] using this
    rw [if_pos rfl, if_pos hlt]
    unfold bCells
    rw [List.getElem?_map, hq]
    rfl
  · rw [if_neg hi]
    unfold bCells
    rw [List.getElem?_map, List.getElem?_map]
    cases hk : I[i]? with
    | none => rfl
    | some k' =>
      have hne : k' ≠ k := by
        intro e
        subst e
        obtain ⟨l1, e1⟩ := List.getElem?_eq_some_iff.mp hq
        obtain ⟨l2, e2⟩ := List.getElem?_eq_some_iff.mp hk
        exact hi ((List.getElem_inj hn).mp (e1.trans e2.symm))
      show some (ad k', bCell dA ad M Z k') = some (ad k', bCell dA ad M' Z' k')
      rw [h k' hne]
theorem bOk_put {Z : Nat → Nat → Bool} {I : List Nat} {k j r ci : Nat} {fs : List Fk} (h : bOk Z I) (hs : uSh k = .inr (.inr (ci, fs))) (hj : fs[j]? = some (.inl r)) (hr : r ∈ I) : bOk (zS Z k j) I := by
  intro i hi
  have hz := h i hi
  by_cases e : i = k
  · subst e
    rw [hs] at hz ⊢
    intro a b h1 h2
    by_cases ea : a = j
    · subst ea
      rw [hj] at h1
      cases h1
      exact hr
    · exact hz a b h1 (by rw [← h2]; exact (if_neg (fun z => ea z.2)).symm)
  · have hne : ∀ a, zS Z k j i a = Z i a := fun a => if_neg (fun z => e z.1)
    split at hz
    · trivial
    · exact fun a ha => hz a (by rw [← hne]; exact ha)
    · exact fun a b h1 h2 => hz a b h1 (by rw [← hne]; exact h2)
