/-! ===== rows of a constructor: fields of numbers ===== -/
theorem bCell_m {dA : Nat → ClassId} {ad : Nat → Nat} {M M' : Mem} {Z : Nat → Nat → Bool} {a : Nat} (h1 : M'.1 a = M.1 a) (h2 : M'.2 a = M.2 a) : bCell dA ad M' Z a = bCell dA ad M Z a := by
  unfold bCell
  split
  · rw [h1]
  · rfl
  · rw [bcfs_z (M := M) (M' := M') (Z' := Z) _ 0 (fun i _ => ⟨rfl, by rw [h1], by rw [h2]⟩)]
theorem bcfs_setI {ad : Nat → Nat} {M : Mem} {Z : Nat → Nat → Bool} {k : Nat} {x : Int32} : ∀ (fs : List Fk) (j0 j : Nat), fs[j]? = some (.inr false) → (bcfs ad M Z k j0 fs).set j (.int x) = bcfs ad (mS M k (j0 + j) x) Z k j0 fs
  | [], _, _, h => by simp at h
  | f :: fs, j0, 0, h => by
    simp at h
    subst h
    simp only [bcfs, List.set_cons_zero, Nat.add_zero]
    rw [bcfs_z (M := M) (M' := mS M k j0 x) (Z := Z) (Z' := Z) fs (j0 + 1) (fun i hi => ⟨rfl, if_neg (by omega), rfl⟩)]
    congr 1
    simp [bcfv, mS]
  | f :: fs, j0, j + 1, h => by
    have h' : fs[j]? = some (.inr false) := by simpa using h
    simp only [bcfs, List.set_cons_succ]
    rw [bcfs_setI fs (j0 + 1) j h', show j0 + 1 + j = j0 + (j + 1) by omega]
    congr 1
    cases f with
    | inl r2 => rfl
    | inr b => cases b <;> simp [bcfv, mS]
theorem bw_putI {u : MI} {mc ms nc ns : Nat} {post : List Nat → Mem → (Nat → Nat → Bool) → Prop} {I : List Nat} {Z : Nat → Nat → Bool} {pc : Nat} {L : List (Option Value)} {st : List Value} {M : Mem} {i k ci j : Nat} {fs : List Fk} {x : Int32} (hf : FP u.1.cls i ci j .int) (hs : uSh k = .inr (.inr (ci, fs))) (hk : k ∈ I) (hfj : fs[j]? = some (.inr false)) (hd : decode u.2.1 pc = .ok (.putfield i, 3)) (kk : BW u mc ms post nc ns (pc + 3) L st I (mS M k j x) Z) : BW u mc ms post nc ns pc L (.int x :: .ref k :: st) I M Z := by
  intro p l e s m args below meth c D dA ad0 I0 ad H locs ls cx hP hS hL
  obtain ⟨C, T, N, h1, h2, h3, h4, h5⟩ := hf
  obtain ⟨hin, ty0, ht0, hnm⟩ := uCls_ok h1
  obtain ⟨q, hq, hqi⟩ := bCells_at (dA := dA) (ad := ad) (M := M) (Z := Z) hk
  have hce : ∀ M', bCell dA ad M' Z k = .inr (ci, bcfs ad M' Z k 0 fs) := fun M' => by unfold bCell; rw [hs]
  rw [hce] at hq
  have hset : (bCells dA ad M Z I).set q (ad k, .inr (ci, (bcfs ad M Z k 0 fs).set j (.int x))) = bCells dA ad (mS M k j x) Z I := by
    rw [bcfs_setI fs 0 j hfj, Nat.zero_add, ← hce]
    exact bCells_set hP.2.1.1 hqi (fun a ha => bCell_m (by funext b; simp [mS, ha]) (by funext b; simp [mS, ha]))
  refine va_put (ref := (T j).1) (ci := ci) (v := .int x) (ty := .int) cx.1 cx.2.1 cx.2.2.2.2.1 hin ty0 ht0 hnm cx.2.2.2.1 cx.2.2.2.2.2.2.2.1.1 hP.1 (bD hP.2.1 hP.2.2.1 hP.2.2.2.1) hS q hq h1 j h2 (cx.2.2.2.2.1 _ h3) (fun _ h => h) h4 h5 rfl rfl (by rw [bcfs_len]; exact (List.getElem?_eq_some_iff.mp hfj).1) hd (fun H1 locs1 hP1 hD1 hS1 => ?_)
  rw [hset] at hP1
  exact kk p l e s m args below meth c D dA ad0 I0 ad H1 locs1 ls cx ⟨hP1, hP.2.1, hP.2.2.1, hP.2.2.2.1, hP.2.2.2.2⟩ hS1 hL
theorem bcfs_setJ {ad : Nat → Nat} {M : Mem} {Z : Nat → Nat → Bool} {k : Nat} {x : Int64} : ∀ (fs : List Fk) (j0 j : Nat), fs[j]? = some (.inr true) → (bcfs ad M Z k j0 fs).set j (.long x) = bcfs ad (jS M k (j0 + j) x) Z k j0 fs
  | [], _, _, h => by simp at h
  | f :: fs, j0, 0, h => by
    simp at h
    subst h
    simp only [bcfs, List.set_cons_zero, Nat.add_zero]
    rw [bcfs_z (M := M) (M' := jS M k j0 x) (Z := Z) (Z' := Z) fs (j0 + 1) (fun i hi => ⟨rfl, rfl, if_neg (by omega)⟩)]
    congr 1
    simp [bcfv, jS]
  | f :: fs, j0, j + 1, h => by
    have h' : fs[j]? = some (.inr true) := by simpa using h
    simp only [bcfs, List.set_cons_succ]
    rw [bcfs_setJ fs (j0 + 1) j h', show j0 + 1 + j = j0 + (j + 1) by omega]
    congr 1
    cases f with
    | inl r2 => rfl
    | inr b => cases b <;> simp [bcfv, jS]
theorem bw_putJ {u : MI} {mc ms nc ns : Nat} {post : List Nat → Mem → (Nat → Nat → Bool) → Prop} {I : List Nat} {Z : Nat → Nat → Bool} {pc : Nat} {L : List (Option Value)} {st : List Value} {M : Mem} {i k ci j : Nat} {fs : List Fk} {x : Int64} (hf : FP u.1.cls i ci j .long) (hs : uSh k = .inr (.inr (ci, fs))) (hk : k ∈ I) (hfj : fs[j]? = some (.inr true)) (hd : decode u.2.1 pc = .ok (.putfield i, 3)) (kk : BW u mc ms post nc ns (pc + 3) L st I (jS M k j x) Z) : BW u mc ms post nc ns pc L (.long x :: .ref k :: st) I M Z := by
  intro p l e s m args below meth c D dA ad0 I0 ad H locs ls cx hP hS hL
  obtain ⟨C, T, N, h1, h2, h3, h4, h5⟩ := hf
  obtain ⟨hin, ty0, ht0, hnm⟩ := uCls_ok h1
  obtain ⟨q, hq, hqi⟩ := bCells_at (dA := dA) (ad := ad) (M := M) (Z := Z) hk
  have hce : ∀ M', bCell dA ad M' Z k = .inr (ci, bcfs ad M' Z k 0 fs) := fun M' => by unfold bCell; rw [hs]
  rw [hce] at hq
  have hset : (bCells dA ad M Z I).set q (ad k, .inr (ci, (bcfs ad M Z k 0 fs).set j (.long x))) = bCells dA ad (jS M k j x) Z I := by
    rw [bcfs_setJ fs 0 j hfj, Nat.zero_add, ← hce]
    exact bCells_set hP.2.1.1 hqi (fun a ha => bCell_m (by funext b; simp [jS, ha]) (by funext b; simp [jS, ha]))
  refine va_put (ref := (T j).1) (ci := ci) (v := .long x) (ty := .long) cx.1 cx.2.1 cx.2.2.2.2.1 hin ty0 ht0 hnm cx.2.2.2.1 cx.2.2.2.2.2.2.2.1.1 hP.1 (bD hP.2.1 hP.2.2.1 hP.2.2.2.1) hS q hq h1 j h2 (cx.2.2.2.2.1 _ h3) (fun _ h => h) h4 h5 rfl rfl (by rw [bcfs_len]; exact (List.getElem?_eq_some_iff.mp hfj).1) hd (fun H1 locs1 hP1 hD1 hS1 => ?_)
  rw [hset] at hP1
  exact kk p l e s m args below meth c D dA ad0 I0 ad H1 locs1 ls cx ⟨hP1, hP.2.1, hP.2.2.1, hP.2.2.2.1, hP.2.2.2.2⟩ hS1 hL
