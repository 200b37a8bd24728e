/-! ===== a world that is being built: ids so far, fields that are still null ===== -/
def bcfv (ad : Nat → Nat) (M : Mem) (Z : Nat → Nat → Bool) (k j : Nat) : Fk → Value
  | .inl r => if Z k j then .null else .ref (ad r)
  | .inr false => .int (M.1 k j)
  | .inr true => .long (M.2 k j)
def bcfs (ad : Nat → Nat) (M : Mem) (Z : Nat → Nat → Bool) (k : Nat) (j : Nat) : List Fk → List Value
  | [] => []
  | f :: fs => bcfv ad M Z k j f :: bcfs ad M Z k (j + 1) fs
def bCell (dA : Nat → ClassId) (ad : Nat → Nat) (M : Mem) (Z : Nat → Nat → Bool) (k : Nat) : va_E := match uSh k with
  | .inl n => .inl (dA 0, n, .inl (M.1 k))
  | .inr (.inl (t, n, g)) => .inl (dA t, n, .inr (.inr (.inr (.inr (fun i => if Z k i then none else some (ad (g i)))))))
  | .inr (.inr (ci, fs)) => .inr (ci, bcfs ad M Z k 0 fs)
def bCells (dA : Nat → ClassId) (ad : Nat → Nat) (M : Mem) (Z : Nat → Nat → Bool) (I : List Nat) : va_W := I.map (fun k => (ad k, bCell dA ad M Z k))
/-- what is written there points at what stands there -/
def bOk (Z : Nat → Nat → Bool) (I : List Nat) : Prop := ∀ k ∈ I, match uSh k with
  | .inl _ => True
  | .inr (.inl (_, _, g)) => ∀ i, Z k i = false → g i ∈ I
  | .inr (.inr (_, fs)) => ∀ j r, fs[j]? = some (.inl r) → Z k j = false → r ∈ I
theorem bcfs_c {ad ad' : Nat → Nat} {M : Mem} {Z : Nat → Nat → Bool} {k : Nat} : ∀ (fs : List Fk) (j : Nat), (∀ i r, fs[i]? = some (.inl r) → Z k (j + i) = false → ad' r = ad r) → bcfs ad' M Z k j fs = bcfs ad M Z k j fs
  | [], _, _ => rfl
  | f :: fs, j, h => by
    simp only [bcfs]
    rw [bcfs_c fs (j + 1) (fun i r h1 h2 => h (i + 1) r (by simpa using h1) (by rw [show j + (i + 1) = j + 1 + i by omega]; exact h2))]
    congr 1
    cases f with
    | inl r =>
      simp only [bcfv]
      cases hz : Z k j with
      | true => rfl
      | false => simp only [Bool.false_eq_true, if_false]; rw [h 0 r rfl (by simpa using hz)]
    | inr b => cases b <;> rfl
theorem bCell_c {dA : Nat → ClassId} {ad ad' : Nat → Nat} {M : Mem} {Z : Nat → Nat → Bool} {I : List Nat} (hO : bOk Z I) (h : ∀ k ∈ I, ad' k = ad k) {k : Nat} (hk : k ∈ I) : bCell dA ad' M Z k = bCell dA ad M Z k := by
  have hz := hO k hk
  unfold bCell
  split at hz
  · rfl
  · rename_i t n g e
    have e2 : (fun i => if Z k i = true then none else some (ad' (g i))) = (fun i => if Z k i = true then none else some (ad (g i))) := by
      funext i
      cases hq : Z k i with
      | true => rfl
      | false => simp only [Bool.false_eq_true, if_false]; rw [h _ (hz i hq)]
    rw [e2]
  · rename_i ci fs e
    rw [bcfs_c fs 0 (fun i r h1 h2 => h r (hz i r h1 (by simpa using h2)))]
theorem bCells_c {dA : Nat → ClassId} {ad ad' : Nat → Nat} {M : Mem} {Z : Nat → Nat → Bool} {I : List Nat} (hO : bOk Z I) (h : ∀ k ∈ I, ad' k = ad k) : bCells dA ad' M Z I = bCells dA ad M Z I := by
  unfold bCells
  refine List.map_congr_left (fun k hk => ?_)
  rw [h k hk, bCell_c hO h hk]
theorem bCells_new {dA : Nat → ClassId} {ad : Nat → Nat} {M : Mem} {Z : Nat → Nat → Bool} {I : List Nat} {k q : Nat} {x : va_E} (hO : bOk Z I) (hk : k ∉ I) (hx : x = bCell dA (fun i => if i = k then q else ad i) M Z k) : bCells dA ad M Z I ++ [(q, x)] = bCells dA (fun i => if i = k then q else ad i) M Z (I ++ [k]) := by
  have h1 : ∀ i ∈ I, (fun i => if i = k then q else ad i) i = ad i := fun i hi => if_neg (fun (e : i = k) => hk (by rw [← e]; exact hi))
  have h2 : bCells dA (fun i => if i = k then q else ad i) M Z (I ++ [k]) = bCells dA (fun i => if i = k then q else ad i) M Z I ++ [(q, bCell dA (fun i => if i = k then q else ad i) M Z k)] := by
    simp [bCells]
  rw [h2, bCells_c hO h1, hx]
/-- all is built: the world of the calls -/
theorem bcfs_u {ad : Nat → Nat} {M : Mem} {Z : Nat → Nat → Bool} {k : Nat} : ∀ (fs : List Fk) (j : Nat), (∀ i r, fs[i]? = some (.inl r) → Z k (j + i) = false) → bcfs ad M Z k j fs = ucfs ad M k j fs
  | [], _, _ => rfl
  | f :: fs, j, h => by
    simp only [bcfs, ucfs]
    rw [bcfs_u fs (j + 1) (fun i r h1 => by rw [show j + 1 + i = j + (i + 1) by omega]; exact h (i + 1) r (by simpa using h1))]
    congr 1
    cases f with
    | inl r =>
      have := h 0 r rfl
      simp only [Nat.add_zero] at this
      simp [bcfv, ucfv, this]
    | inr b => cases b <;> rfl
