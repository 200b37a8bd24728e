/-! ===== rows of a constructor: a final reference field ===== -/
theorem bcfs_len {ad : Nat → Nat} {M : Mem} {Z : Nat → Nat → Bool} {k : Nat} : ∀ {fs : List Fk} {j : Nat}, (bcfs ad M Z k j fs).length = fs.length
  | [], _ => rfl
  | _ :: fs, j => by simp [bcfs, bcfs_len (fs := fs)]
theorem bCell_z {dA : Nat → ClassId} {ad : Nat → Nat} {M : Mem} {Z Z' : Nat → Nat → Bool} {a : Nat} (h : ∀ b, Z' a b = Z a b) : bCell dA ad M Z' a = bCell dA ad M Z a := by
  unfold bCell
  split
  · rfl
  · simp only [h]
  · rw [bcfs_z (M' := M) (Z' := Z') _ 0 (fun i _ => ⟨h i, rfl, rfl⟩)]
theorem bw_putR {u : MI} {mc ms nc ns : Nat} {post : List Nat → Mem → (Nat → Nat → Bool) → Prop} {I : List Nat} {Z : Nat → Nat → Bool} {pc : Nat} {L : List (Option Value)} {st : List Value} {M : Mem} {i k ci j r : Nat} {fs : List Fk} {C : String} {T : u_T} {N : Nat} {ty : FieldType} (hnm0 : u.1.name = "<init>") (hc : uCls[ci]? = some (C, T, N)) (hj : j < N) (hlk : Cond.fieldLink u.1.cls i (T j).1 (T j).2.1 (T j).2.2.1 ∈ gt) (hfin : (T j).2.2.2 = true) (hdc : (T j).1 = u.1.cls) (hty : parseFieldDescriptor (T j).2.2.1 = some ty) (hnr : ∀ a, narrow ty (.ref a) = .ref a) (hft : ∀ a, fits ty (.ref a) = true) (hs : uSh k = .inr (.inr (ci, fs))) (hk : k ∈ I) (hfj : fs[j]? = some (.inl r)) (hr : r ∈ I) (hd : decode u.2.1 pc = .ok (.putfield i, 3)) (kk : BW u mc ms post nc ns (pc + 3) L st I M (zS Z k j)) : BW u mc ms post nc ns pc L (.ref r :: .ref k :: st) I M Z := by
  intro p l e s m args below meth c D dA ad0 I0 ad H locs ls cx hP hS hL
  obtain ⟨hin, ty0, ht0, hnm⟩ := uCls_ok hc
  obtain ⟨q, hq, hqi⟩ := bCells_at (dA := dA) (ad := ad) (M := M) (Z := Z) hk
  have hce : ∀ Z', bCell dA ad M Z' k = .inr (ci, bcfs ad M Z' k 0 fs) := fun Z' => by unfold bCell; rw [hs]
  rw [hce] at hq
  have hset : (bCells dA ad M Z I).set q (ad k, .inr (ci, (bcfs ad M Z k 0 fs).set j (.ref (ad r)))) = bCells dA ad M (zS Z k j) I := by
    rw [bcfs_set fs 0 j hfj, Nat.zero_add, ← hce]
    exact bCells_set hP.2.1.1 hqi (fun a ha => bCell_z (fun b => if_neg (fun z => ha z.1)))
  refine va_putF (ref := (T j).1) (ci := ci) (v := .ref (ad r)) (ty := ty) cx.1 cx.2.1 cx.2.2.2.2.1 hin ty0 ht0 hnm cx.2.2.2.1 cx.2.2.2.2.2.2.2.1.1 hP.1 (bD hP.2.1 hP.2.2.1 hP.2.2.2.1) hS q hq hc j hj (cx.2.2.2.2.1 _ hlk) (fun _ h => h) hfin (cx.2.2.2.2.2.2.2.2.1 hnm0) hdc hty (hnr _) (hft _) (by rw [bcfs_len]; exact (List.getElem?_eq_some_iff.mp hfj).1) hd (fun H1 locs1 hP1 hD1 hS1 => ?_)
  rw [hset] at hP1
  exact kk p l e s m args below meth c D dA ad0 I0 ad H1 locs1 ls cx ⟨hP1, hP.2.1, hP.2.2.1, hP.2.2.2.1, bOk_put hP.2.2.2.2 hs hfj hr⟩ hS1 hL
