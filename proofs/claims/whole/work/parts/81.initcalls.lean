/-! ===== rows of a constructor: objects, rows of references, calls ===== -/
theorem bw_alen {u : MI} {mc ms nc ns : Nat} {post : List Nat → Mem → (Nat → Nat → Bool) → Prop} {I : List Nat} {Z : Nat → Nat → Bool} {pc : Nat} {L : List (Option Value)} {st : List Value} {M : Mem} {k n : Nat} (hs : uSh k = .inl n) (hk : k ∈ I) (hd : decode u.2.1 pc = .ok (.arraylength, 1)) (kk : BW u mc ms post nc ns (pc + 1) L (.int (nI n) :: st) I M Z) : BW u mc ms post nc ns pc L (.ref k :: st) I M Z := by
  intro p l e s m args below meth c D dA ad0 I0 ad H locs ls cx hP hS hL
  obtain ⟨q, hq, hqi⟩ := bCells_at (dA := dA) (ad := ad) (M := M) (Z := Z) hk
  have hce : bCell dA ad M Z k = .inl (dA 0, n, .inl (M.1 k)) := by unfold bCell; rw [hs]
  rw [hce] at hq
  exact va_alen cx.1 cx.2.1 cx.2.2.2.2.2.2.2.1.1 hP.1 q 0 hq rfl rfl hd (kk p l e s m args below meth c D dA ad0 I0 ad H locs ls cx hP hS hL)
theorem bw_iast {u : MI} {mc ms nc ns : Nat} {post : List Nat → Mem → (Nat → Nat → Bool) → Prop} {I : List Nat} {Z : Nat → Nat → Bool} {pc : Nat} {L : List (Option Value)} {st : List Value} {M : Mem} {k n i : Nat} {x y : Int32} (hs : uSh k = .inl n) (hk : k ∈ I) (hx : x = nI i) (hi : i < n) (hn : n < 1000) (hd : decode u.2.1 pc = .ok (.iastore, 1)) (kk : BW u mc ms post nc ns (pc + 1) L st I (mS M k i y) Z) : BW u mc ms post nc ns pc L (.int y :: .int x :: .ref k :: st) I M Z := by
  intro p l e s m args below meth c D dA ad0 I0 ad H locs ls cx hP hS hL
  subst hx
  obtain ⟨q, hq, hqi⟩ := bCells_at (dA := dA) (ad := ad) (M := M) (Z := Z) hk
  have hce : ∀ M', bCell dA ad M' Z k = .inl (dA 0, n, .inl (M'.1 k)) := fun M' => by unfold bCell; rw [hs]
  rw [hce] at hq
  have hset : (bCells dA ad M Z I).set q (ad k, .inl (dA 0, n, .inl (upd (M.1 k) i y))) = bCells dA ad (mS M k i y) Z I := by
    have e : upd (M.1 k) i y = (mS M k i y).1 k := by funext z; simp [mS, upd]
    rw [e, ← hce]
    exact bCells_set hP.2.1.1 hqi (fun a ha => bCell_m (by funext b; simp [mS, ha]) rfl)
  refine va_iast cx.1 cx.2.1 cx.2.2.2.2.2.2.2.1.1 hP.1 (bD hP.2.1 hP.2.2.1 hP.2.2.2.1) hS q 0 hq rfl (vp_in_nI hi (by omega)) hd (fun H1 locs1 hP1 hD1 hS1 => ?_)
  rw [nI_clamp (by omega), hset] at hP1
  exact kk p l e s m args below meth c D dA ad0 I0 ad H1 locs1 ls cx ⟨hP1, hP.2.1, hP.2.2.1, hP.2.2.2.1, hP.2.2.2.2⟩ hS1 hL
theorem bcfs_get {ad : Nat → Nat} {M : Mem} {Z : Nat → Nat → Bool} {k : Nat} : ∀ {fs : List Fk} {j i : Nat} {f : Fk}, fs[i]? = some f → (bcfs ad M Z k j fs)[i]? = some (bcfv ad M Z k (j + i) f)
  | [], j, i, f, h => by simp at h
  | g :: fs, j, 0, f, h => by
    simp at h
    subst h
    simp [bcfs]
  | g :: fs, j, i + 1, f, h => by
    have h' : fs[i]? = some f := by simpa using h
    have := bcfs_get (ad := ad) (M := M) (Z := Z) (k := k) (j := j + 1) h'
    simp only [bcfs, List.getElem?_cons_succ, this]
    congr 2
    omega
theorem bw_getR {u : MI} {mc ms nc ns : Nat} {post : List Nat → Mem → (Nat → Nat → Bool) → Prop} {I : List Nat} {Z : Nat → Nat → Bool} {pc : Nat} {L : List (Option Value)} {st : List Value} {M : Mem} {a ci j i r : Nat} {fs : List Fk} (hf : FL u.1.cls i ci j) (hs : uSh a = .inr (.inr (ci, fs))) (ha : a ∈ I) (hk : fs[j]? = some (.inl r)) (hz : Z a j = false) (hd : decode u.2.1 pc = .ok (.getfield i, 3)) (kk : BW u mc ms post nc ns (pc + 3) L (.ref r :: st) I M Z) : BW u mc ms post nc ns pc L (.ref a :: st) I M Z := by
  intro p l e s m args below meth c D dA ad0 I0 ad H locs ls cx hP hS hL
  obtain ⟨C, T, N, h1, h2, h3⟩ := hf
  obtain ⟨q, hq, hqi⟩ := bCells_at (dA := dA) (ad := ad) (M := M) (Z := Z) ha
  have hce : bCell dA ad M Z a = .inr (ci, bcfs ad M Z a 0 fs) := by unfold bCell; rw [hs]
  rw [hce] at hq
  have hv : (bcfs ad M Z a 0 fs)[j]? = some (.ref (ad r)) := by
    have := bcfs_get (ad := ad) (M := M) (Z := Z) (k := a) (j := 0) hk
    rw [Nat.zero_add] at this
    rw [this]
    simp [bcfv, hz]
  exact va_get (ref := (T j).1) cx.1 cx.2.1 cx.2.2.2.2.1 (uCls_ok h1).1 cx.2.2.2.1 cx.2.2.2.2.2.2.2.1.1 hP.1 q hq h1 j h2 (cx.2.2.2.2.1 _ h3) (fun _ h => h) hv hd (kk p l e s m args below meth c D dA ad0 I0 ad H locs ls cx hP hS hL)
def bDef : List Fk → List Value
  | [] => []
  | .inl _ :: fs => .null :: bDef fs
  | .inr false :: fs => .int 0 :: bDef fs
  | .inr true :: fs => .long 0 :: bDef fs
theorem bcfs_def {ad : Nat → Nat} {M : Mem} {Z : Nat → Nat → Bool} {k : Nat} (h1 : ∀ j, M.1 k j = 0) (h2 : ∀ j, M.2 k j = 0) (h3 : ∀ j, Z k j = true) : ∀ (fs : List Fk) (j : Nat), bcfs ad M Z k j fs = bDef fs
  | [], _ => rfl
  | f :: fs, j => by
    have ih := bcfs_def (ad := ad) h1 h2 h3 fs (j + 1)
    cases f with
    | inl r => simp [bcfs, bDef, bcfv, h3, ih]
    | inr b => cases b <;> simp [bcfs, bDef, bcfv, h1, h2, ih]
theorem bw_new {u : MI} {mc ms nc ns : Nat} {post : List Nat → Mem → (Nat → Nat → Bool) → Prop} {I : List Nat} {Z : Nat → Nat → Bool} {pc : Nat} {L : List (Option Value)} {st : List Value} {M : Mem} {i k ci : Nat} {fs : List Fk} {C : String} {T : u_T} {N : Nat} (ty : Nat → FieldType) (hty : ∀ j, j < N → parseFieldDescriptor (T j).2.2.1 = some (ty j)) (hdf : ∀ j, j < N → defaultValue (ty j) = vp_V (bDef fs) j) (hc : uCls[ci]? = some (C, T, N)) (hcl : Cond.classLink u.1.cls i C ∈ gt) (hinst : Cond.instantiable C N ∈ gt) (hini : Cond.initialized C ∈ gt) (hs : uSh k = .inr (.inr (ci, fs))) (hk : k ∉ I) (h1 : ∀ j, M.1 k j = 0) (h2 : ∀ j, M.2 k j = 0) (hz : ∀ j, Z k j = true) (hcc : nc + 1 ≤ mc) (hsl : ns + N ≤ ms) (hiL : inL I L) (hiS : inS I st) (hd : decode u.2.1 pc = .ok (.new i, 3)) (kk : BW u mc ms post (nc + 1) (ns + N) (pc + 3) L (.ref k :: st) (I ++ [k]) M Z) : BW u mc ms post nc ns pc L st I M Z := by
  intro p l e s m args below meth c D dA ad0 I0 ad H locs ls cx hP hS hL
  have hts := cx.2.2.2.2.1
  have hKn := cx.2.2.2.2.2.2.2.1.1
  refine va_new (ci := ci) (fs := bDef fs) cx.1 cx.2.1 hts (uCls_ok hc).1 ty hty cx.2.2.2.1 (hts _ hcl) (hts _ hinst) (hts _ hini) hKn hP.1 (bD hP.2.1 hP.2.2.1 hP.2.2.2.1) hS (fun q hq => Or.inr hq) hc hdf hcc hsl hd (fun q H1 hP1 hD1 hS1 => ?_)
  have hcc : ∀ i ∈ I, (fun i => if i = k then q else ad i) i = ad i := fun i hi => if_neg (fun (e : i = k) => hk (by rw [← e]; exact hi))
  have hx : (.inr (ci, bDef fs) : va_E) = bCell dA (fun i => if i = k then q else ad i) M Z k := by
    unfold bCell
    rw [hs]
    simp only [bcfs_def h1 h2 hz]
  have h := kk p l e s m args below meth c D dA ad0 I0 (fun i => if i = k then q else ad i) H1 locs ls cx (BP_new hP hk hz hx hP1 hD1) hS1 (al_c hcc hiL hL)
  have e1 : (Value.ref k :: st).map (cv (fun i => if i = k then q else ad i)) = .ref q :: st.map (cv ad) := by
    rw [List.map_cons, st_c hcc hiS]
    show Value.ref (if k = k then q else ad k) :: _ = _
    rw [if_pos rfl]
  rw [e1] at h
  exact h
theorem uTys_at {dA : Nat → ClassId} {t : Nat} (h1 : 1 ≤ t) (h2 : t ≤ 5) : (uTys dA)[t]? = some (dA t, .object (uTyN t)) := by
  rcases (show t = 1 ∨ t = 2 ∨ t = 3 ∨ t = 4 ∨ t = 5 by omega) with rfl | rfl | rfl | rfl | rfl <;> rfl
theorem bw_newq {u : MI} {mc ms nc ns : Nat} {post : List Nat → Mem → (Nat → Nat → Bool) → Prop} {I : List Nat} {Z : Nat → Nat → Bool} {pc : Nat} {L : List (Option Value)} {st : List Value} {M : Mem} {i k t N : Nat} {n : Int32} {g : Nat → Nat} (ht1 : 1 ≤ t) (ht2 : t ≤ 5) (hcl : Cond.classLink u.1.cls i (uTyN t) ∈ gt) (hs : uSh k = .inr (.inl (t, N, g))) (hk : k ∉ I) (hz : ∀ j, Z k j = true) (hn : ¬ n < 0) (hN : n.toNatClampNeg = N) (hN9 : N ≤ 1000) (hc : nc + 1 ≤ mc) (hsl : ns + N ≤ ms) (hiL : inL I L) (hiS : inS I st) (hd : decode u.2.1 pc = .ok (.anewarray i, 3)) (kk : BW u mc ms post (nc + 1) (ns + N) (pc + 3) L (.ref k :: st) (I ++ [k]) M Z) : BW u mc ms post nc ns pc L (.int n :: st) I M Z := by
  intro p l e s m args below meth c D dA ad0 I0 ad H locs ls cx hP hS hL
  have hts := cx.2.2.2.2.1
  have hKn := cx.2.2.2.2.2.2.2.1.1
  have hX := cx.2.2.2.2.2.2.2.2.2
  refine va_newq (C := uTyN t) cx.1 cx.2.1 cx.2.2.2.1 (hts _ hcl) (hX.ao ht1 ht2) hKn hP.1 (bD hP.2.1 hP.2.2.1 hP.2.2.2.1) hS (fun q hq => Or.inr hq) hn hN (by omega) hc hsl hd (fun q cA H1 hK1 hP1 hD1 hS1 => ?_)
  have ec : cA = dA t := by
    have a1 := va_nmO (hK1.2 6 (cA, .object (uTyN t)) rfl).2 rfl
    have a2 := va_nmO (hKn.2 t (dA t, .object (uTyN t)) (uTys_at ht1 ht2)).2 rfl
    exact Option.some.inj (a1.symm.trans a2)
  subst ec
  have hcc : ∀ i ∈ I, (fun i => if i = k then q else ad i) i = ad i := fun i hi => if_neg (fun (e : i = k) => hk (by rw [← e]; exact hi))
  have hx : (.inl (dA t, N, .inr (.inr (.inr (.inr (fun _ => none))))) : va_E) = bCell dA (fun i => if i = k then q else ad i) M Z k := by
    unfold bCell
    rw [hs]
    simp only [hz, if_true]
  have h := kk p l e s m args below meth c D dA ad0 I0 (fun i => if i = k then q else ad i) H1 locs ls cx (BP_new hP hk hz hx hP1 hD1) hS1 (al_c hcc hiL hL)
  have e1 : (Value.ref k :: st).map (cv (fun i => if i = k then q else ad i)) = .ref q :: st.map (cv ad) := by
    rw [List.map_cons, st_c hcc hiS]
    show Value.ref (if k = k then q else ad k) :: _ = _
    rw [if_pos rfl]
  rw [e1] at h
  exact h
theorem bOk_el {Z : Nat → Nat → Bool} {I : List Nat} {a t n i : Nat} {g : Nat → Nat} (h : bOk Z I) (hs : uSh a = .inr (.inl (t, n, g))) (hr : g i ∈ I) : bOk (zS Z a i) I := by
  intro k hk
  have hz := h k hk
  by_cases e : k = a
  · subst e
    rw [hs] at hz ⊢
    intro j h2
    by_cases ea : j = i
    · subst ea
      exact hr
    · exact hz j (by rw [← h2]; exact (if_neg (fun z => ea z.2)).symm)
  · have hne : ∀ b, zS Z a i k b = Z k b := fun b => if_neg (fun z => e z.1)
    split at hz
    · trivial
    · exact fun b hb => hz b (by rw [← hne]; exact hb)
    · exact fun b c h1 h2 => hz b c h1 (by rw [← hne]; exact h2)
theorem bw_aast {u : MI} {mc ms nc ns : Nat} {post : List Nat → Mem → (Nat → Nat → Bool) → Prop} {I : List Nat} {Z : Nat → Nat → Bool} {pc : Nat} {L : List (Option Value)} {st : List Value} {M : Mem} {a t n i r ci : Nat} {x : Int32} {g : Nat → Nat} {fs : List Fk} {T : u_T} {N : Nat} (ht1 : 1 ≤ t) (ht2 : t ≤ 5) (hs : uSh a = .inr (.inl (t, n, g))) (ha : a ∈ I) (hr : g i = r) (hrI : r ∈ I) (hsr : uSh r = .inr (.inr (ci, fs))) (hci : uCls[ci]? = some (uTyN t, T, N)) (hx : x = nI i) (hi : i < n) (hn : n < 1000) (hd : decode u.2.1 pc = .ok (.aastore, 1)) (kk : BW u mc ms post nc ns (pc + 1) L st I M (zS Z a i)) : BW u mc ms post nc ns pc L (.ref r :: .int x :: .ref a :: st) I M Z := by
  intro p l e s m args below meth c D dA ad0 I0 ad H locs ls cx hP hS hL
  subst hx
  subst hr
  obtain ⟨q, hq, hqi⟩ := bCells_at (dA := dA) (ad := ad) (M := M) (Z := Z) ha
  obtain ⟨q2, hq2, -⟩ := bCells_at (dA := dA) (ad := ad) (M := M) (Z := Z) hrI
  have hce : ∀ Z', bCell dA ad M Z' a = .inl (dA t, n, .inr (.inr (.inr (.inr (fun i => if Z' a i then none else some (ad (g i))))))) := fun Z' => by unfold bCell; rw [hs]
  have hce2 : bCell dA ad M Z (g i) = .inr (ci, bcfs ad M Z (g i) 0 fs) := by unfold bCell; rw [hsr]
  rw [hce] at hq
  rw [hce2] at hq2
  have hset : (bCells dA ad M Z I).set q (ad a, .inl (dA t, n, .inr (.inr (.inr (.inr (va_up (fun i => if Z a i then none else some (ad (g i))) i (some (ad (g i))))))))) = bCells dA ad M (zS Z a i) I := by
    have e : va_up (fun i => if Z a i then none else some (ad (g i))) i (some (ad (g i))) = fun j => if zS Z a i a j then none else some (ad (g j)) := by
      funext j
      by_cases ej : j = i
      · subst ej
        simp [va_up, zS]
      · simp [va_up, zS, ej]
    rw [e, ← hce]
    exact bCells_set hP.2.1.1 hqi (fun b hb => bCell_z (fun _ => if_neg (fun z => hb z.1)))
  refine va_astq (v := ad (g i)) (r := (uTyN t, T, N)) cx.1 cx.2.1 cx.2.2.2.2.2.2.2.1.1 hP.1 (bD hP.2.1 hP.2.2.1 hP.2.2.2.1) hS q t q2 ci hq (uTys_at ht1 ht2) hq2 hci (vp_in_nI hi (by omega)) hd (fun H1 locs1 hP1 hD1 hS1 => ?_)
  rw [nI_clamp (by omega), hset] at hP1
  exact kk p l e s m args below meth c D dA ad0 I0 ad H1 locs1 ls cx ⟨hP1, hP.2.1, hP.2.2.1, hP.2.2.2.1, bOk_el hP.2.2.2.2 hs hrI⟩ hS1 hL
theorem bw_w {u : MI} {mc ms nc ns : Nat} {post : List Nat → Mem → (Nat → Nat → Bool) → Prop} {I : List Nat} {Z : Nat → Nat → Bool} {pc : Nat} {L : List (Option Value)} {st : List Value} {M : Mem} (nc' ns' : Nat) (h1 : nc ≤ nc') (h2 : ns ≤ ns') (kk : BW u mc ms post nc' ns' pc L st I M Z) : BW u mc ms post nc ns pc L st I M Z := by
  intro p l e s m args below meth c D dA ad0 I0 ad H locs ls cx hP hS hL
  exact W.widen h1 h2 (kk p l e s m args below meth c D dA ad0 I0 ad H locs ls cx hP hS hL)
theorem bw_L {u : MI} {mc ms nc ns : Nat} {post : List Nat → Mem → (Nat → Nat → Bool) → Prop} {I : List Nat} {Z : Nat → Nat → Bool} {pc : Nat} {L : List (Option Value)} {st : List Value} {M : Mem} {L' : List (Option Value)} (h : L = L') (kk : BW u mc ms post nc ns pc L' st I M Z) : BW u mc ms post nc ns pc L st I M Z := by
  subst h
  exact kk
theorem bw_icmp_geN {u : MI} {mc ms nc ns : Nat} {post : List Nat → Mem → (Nat → Nat → Bool) → Prop} {I : List Nat} {Z : Nat → Nat → Bool} {pc : Nat} {L : List (Option Value)} {st : List Value} {M : Mem} {x y : Int32} {off : Int} (i n : Nat) (tgt : Nat) (hx : x = nI i) (hy : y = nI n) (hb : i < 2 ^ 31 ∧ n < 2 ^ 31) (hd : decode u.2.1 pc = .ok (.if_icmp .ge off, 3)) (ht : (pc : Int) + off = (tgt : Int)) (kt : n ≤ i → BW u mc ms post nc ns tgt L st I M Z) (kf : i < n → BW u mc ms post nc ns (pc + 3) L st I M Z) : BW u mc ms post nc ns pc L (.int y :: .int x :: st) I M Z := by
  subst hx; subst hy
  exact bw_icmp_ge tgt hd ht (fun h => kt ((nI_leI hb.2 hb.1).mp h)) (fun h => kf (Nat.lt_of_not_le fun q => h ((nI_leI hb.2 hb.1).mpr q)))
theorem bw_iincN {u : MI} {mc ms nc ns : Nat} {post : List Nat → Mem → (Nat → Nat → Bool) → Prop} {I : List Nat} {Z : Nat → Nat → Bool} {pc : Nat} {L : List (Option Value)} {st : List Value} {M : Mem} {i x : Nat} (hd : decode u.2.1 pc = .ok (.iinc i 1, 3)) (hl : lget L i = some (.int (nI x))) (hn : Nat.ble (i + 1) u.2.2.1 = true) (k : BW u mc ms post nc ns (pc + 3) (lset1 L i (.int (nI (x + 1)))) st I M Z) : BW u mc ms post nc ns pc L st I M Z := by
  refine bw_iinc hd hl hn ?_
  have e : nI x + Int32.ofInt 1 = nI (x + 1) := nI_1 x
  rw [e]
  exact k
theorem inL_n {I : List Nat} : inL I [] := fun i v h => by simp [lget] at h
theorem inL_r {I : List Nat} {r : Nat} {L : List (Option Value)} (h : r ∈ I) (k : inL I L) : inL I (some (.ref r) :: L) := fun i v q => by
  cases i with
  | zero => simp [lget] at q; exact q ▸ h
  | succ i => exact k i v q
theorem inL_i {I : List Nat} {x : Int32} {L : List (Option Value)} (k : inL I L) : inL I (some (.int x) :: L) := fun i v q => by
  cases i with
  | zero => simp [lget] at q
  | succ i => exact k i v q
theorem inL_0 {I : List Nat} {L : List (Option Value)} (k : inL I L) : inL I (none :: L) := fun i v q => by
  cases i with
  | zero => simp [lget] at q
  | succ i => exact k i v q
theorem inS_n {I : List Nat} : inS I [] := fun v h => by simp at h
theorem inS_r {I : List Nat} {r : Nat} {st : List Value} (h : r ∈ I) (k : inS I st) : inS I (.ref r :: st) := fun v q => by
  rcases List.mem_cons.mp q with e | e
  · cases e; exact h
  · exact k v e
theorem inS_i {I : List Nat} {x : Int32} {st : List Value} (k : inS I st) : inS I (.int x :: st) := fun v q => by
  rcases List.mem_cons.mp q with e | e
  · cases e
  · exact k v e
theorem bBlind {D : va_G} {dA : Nat → ClassId} {ad : Nat → Nat} {sz : Nat} {As : List Value} {I : List Nat} {M : Mem} {Z : Nat → Nat → Bool} : FrameBlind (bPc D dA ad sz As I M Z) := by
  intro a U g mk q
  obtain ⟨q0, qz, qP, qK, qI, qO, qX⟩ := q
  exact ⟨q0, qz, qP, ⟨va_K.moved (u := U) (U := U.calling g mk a) (Vm.Alike.refl U.vm) qK.1, va_Nw.same rfl (u := U) (U := U.calling g mk a) rfl qK.2⟩, qI, qO, bXn.same (u := U) (U := U.calling g mk a) rfl qX⟩
section BWCALL
variable {p : Program} {l : Launch} {e : Env} {R : Room} {s : State} {m : MethodId} {args : Array Value} {below : List Frame} {meth : Method} {c : Code} {H : Heap} {locs : List Loc} {Q : State → Prop}
theorem bw_run {D : va_G} {dA : Nat → ClassId} {ad0 ad : Nat → Nat} {I0 I : List Nat} {M : Mem} {Z : Nat → Nat → Bool} {post' : List Nat → Mem → (Nat → Nat → Bool) → Prop} {pc nc ns mc ms : Nat} {ls : Array Slot} {st0 rest : List Value} {a : Array Value} (hr : va_Run p l e R s m args below meth c H locs nc ns mc ms (F0 m pc ls st0) rest (bQc D dA ad I H.size post' a) (bA ad I H.size)) (hP : BP D dA ad0 I0 s.heap.size ad I M Z H) (hS : va_S (bA ad0 I0 s.heap.size) s.heap H locs)
    (kk : ∀ (ad' : Nat → Nat) (I' : List Nat) (M' : Mem) (Z' : Nat → Nat → Bool) (H1 : Heap) (locs1 : List Loc), post' I' M' Z' → BP D dA ad0 I0 s.heap.size ad' I' M' Z' H1 → (∀ k ∈ I, k ∈ I' ∧ ad' k = ad k) → va_S (bA ad0 I0 s.heap.size) s.heap H1 locs1 → W p l e R s m args below meth c H1 locs1 (nc + mc) (ns + ms) Q (F0 m (pc + 3) ls rest)) : W p l e R s m args below meth c H locs nc ns Q (F0 m pc ls st0) := by
  intro T hT X
  obtain ⟨v, st₀, t, T', L, h0, X', hL, e1, e2, ⟨⟨ad', I', M', Z', hv, hp, hb⟩, hz, hk⟩, st⟩ := hr T hT X
  cases hv
  rw [h0] at hz hk
  obtain ⟨b1, b2, b3, b4, b5⟩ := hb
  obtain ⟨_, c2, c3, c4, c5⟩ := hP
  have hsub : ∀ q, bA ad I H.size q → bA ad0 I0 s.heap.size q := by
    rintro q (⟨k, hk1, rfl⟩ | hq)
    · rcases c4 k hk1 with h | h
      · exact Or.inl ⟨k, h, (c3 k h).2⟩
      · exact Or.inr h
    · exact Or.inr (Nat.le_trans hS.1 hq)
  have b4' : ∀ k ∈ I', k ∈ I0 ∨ s.heap.size ≤ ad' k := by
    intro k hk1
    rcases b4 k hk1 with h | h
    · rcases c4 k h with h2 | h2
      · exact Or.inl h2
      · exact Or.inr (by rw [(b3 k h).2]; exact h2)
    · exact Or.inr (Nat.le_trans hS.1 h)
  obtain ⟨t2, a1, a2⟩ := kk ad' I' M' Z' T'.heap (locs ++ L) hp ⟨by rw [e1]; exact b1, b2, fun k hk0 => ⟨(b3 k (c3 k hk0).1).1, (b3 k (c3 k hk0).1).2.trans (c3 k hk0).2⟩, b4', b5⟩ (fun k hk1 => b3 k hk1)
    ⟨Nat.le_trans hS.1 (by rw [e1]; exact hz), fun q h1 h2 => by rw [e1, hk q (Nat.lt_of_lt_of_le h1 hS.1) (fun z => h2 (hsub q z))]; exact hS.2.1 q h1 h2, fun q hq => by
      rcases List.mem_append.mp hq with h | h
      · exact hS.2.2 q h
      · exact hsub _ (hL q h)⟩ T' rfl X'
  exact ⟨t2, st t2 a1, a2⟩
end BWCALL
/-- the entry idx of own's pool names the constructor u' -/
def IL (own : String) (idx : Nat) (u' : MI) : Prop := Cond.methodLink own idx u'.1 ∈ gt
def IW (u' : MI) : Prop := (Cond.instanceMethod u'.1 ∈ gt ∧ Cond.initialized u'.1.cls ∈ gt ∧ Cond.code u'.1 u'.2.1 u'.2.2.1 u'.2.2.2.1 ∈ gt) ∧ (u'.1.cls ≠ "java/lang/invoke/MethodHandle" ∧ u'.1.cls ≠ "java/lang/invoke/VarHandle" ∧ (parseMethodDescriptor u'.1.desc).map (fun d => d.parameters.length) = some 0) ∧ u'.1.name = "<init>" ∧ u'.2.2.2.1 = none
theorem uLn_none {u' : MI} (h : u'.2.2.2.1 = none) : uLn u' = Cond.code u'.1 u'.2.1 u'.2.2.1 none :: gt := by
  unfold uLn
  rw [h]
theorem bw_init {u : MI} {mc ms nc ns : Nat} {post : List Nat → Mem → (Nat → Nat → Bool) → Prop} {I : List Nat} {Z : Nat → Nat → Bool} {pc : Nat} {L : List (Option Value)} {st : List Value} {M : Mem} {u' : MI} {i a mc' ms' : Nat} {post' : List Nat → Mem → (Nat → Nat → Bool) → Prop} (w1 : IL u.1.cls i u') (hw : IW u') (hcs : BS u' mc' ms' [.ref a] I M Z post') (hf : uFit u u' = true) (hsum : Nat.ble ((st.map fun v => v.category).sum) 8 = true) (hc : nc + mc' ≤ mc) (hs : ns + ms' ≤ ms) (hiL : inL I L) (hiS : inS I st) (hd : decode u.2.1 pc = .ok (.invokespecial i, 3)) (kk : ∀ I' M' Z', post' I' M' Z' → BW u mc ms post (nc + mc') (ns + ms') (pc + 3) L st I' M' Z') : BW u mc ms post nc ns pc L (.ref a :: st) I M Z := by
  intro p l e s m args below meth c D dA ad0 I0 ad H locs ls cx hP hS hL
  obtain ⟨⟨w2, w3, w4⟩, w5, w6, w7⟩ := hw
  have hts := cx.2.2.2.2.1
  refine bw_run (va_runI (bytes := u'.2.1) (maxL := u'.2.2.1) (n := 0) (As := []) (rest := st.map (cv ad)) (b := ad a) (Ts := gt) (own := u.1.cls) ⟨cx.1, cx.2.1, cx.2.2.1, cx.2.2.2.1, hts⟩ (hcs l D dA ad H.size) ⟨callB_of 0 hts (uGood (u := u) w4) (uLn_none w7) rfl rfl (hts _ w3) (hts _ w1) w5 (uFit_1 hf), w6, hts _ w2⟩ ⟨bBlind, fun U hU hW => ⟨rfl, by rw [hU], by rw [hU]; exact hP.1, cx.2.2.2.2.2.2.2.1.moved hW, hP.2.1, hP.2.2.2.2, cx.2.2.2.2.2.2.2.2.2.moved hW⟩⟩ rfl rfl hL.1 rfl (uSum hsum) hd ⟨hc, hs⟩) hP hS (fun ad' I' M' Z' H1 locs1 hp hP1 hk1 hS1 => ?_)
  have h := kk I' M' Z' hp p l e s m args below meth c D dA ad0 I0 ad' H1 locs1 ls cx hP1 hS1 (al_c (fun k hk => (hk1 k hk).2) hiL hL)
  rw [st_c (fun k hk => (hk1 k hk).2) hiS] at h
  exact h
theorem bw_initN {u : MI} {mc ms nc ns : Nat} {post : List Nat → Mem → (Nat → Nat → Bool) → Prop} {I : List Nat} {Z : Nat → Nat → Bool} {pc : Nat} {L : List (Option Value)} {st : List Value} {M : Mem} {u' : MI} {i a mc' ms' : Nat} {post' : List Nat → Mem → (Nat → Nat → Bool) → Prop} (w1 : ∀ s, bXn s → va_Nw (.methodLinkNest u.1.cls i u'.1 "UnlikeDrawn") s) (hw : IW u') (hcs : BS u' mc' ms' [.ref a] I M Z post') (hf : uFit u u' = true) (hsum : Nat.ble ((st.map fun v => v.category).sum) 8 = true) (hc : nc + mc' ≤ mc) (hs : ns + ms' ≤ ms) (hiL : inL I L) (hiS : inS I st) (hd : decode u.2.1 pc = .ok (.invokespecial i, 3)) (kk : ∀ I' M' Z', post' I' M' Z' → BW u mc ms post (nc + mc') (ns + ms') (pc + 3) L st I' M' Z') : BW u mc ms post nc ns pc L (.ref a :: st) I M Z := by
  intro p l e s m args below meth c D dA ad0 I0 ad H locs ls cx hP hS hL
  obtain ⟨⟨w2, w3, w4⟩, w5, w6, w7⟩ := hw
  have hts := cx.2.2.2.2.1
  have hnest := w1 s cx.2.2.2.2.2.2.2.2.2
  refine bw_run (va_runIN (bytes := u'.2.1) (maxL := u'.2.2.1) (n := 0) (As := []) (rest := st.map (cv ad)) (b := ad a) (Ts := gt) (own := u.1.cls) (host := "UnlikeDrawn") ⟨cx.1, cx.2.1, cx.2.2.1, cx.2.2.2.1, hts⟩ (hcs l D dA ad H.size) ⟨va_cnB 0 hts (uGood (u := u) w4) (uLn_none w7) rfl rfl hnest (hts _ w3) w5 (uFit_1 hf), w6, hts _ w2⟩ ⟨bBlind, fun U hU hW => ⟨rfl, by rw [hU], by rw [hU]; exact hP.1, cx.2.2.2.2.2.2.2.1.moved hW, hP.2.1, hP.2.2.2.2, cx.2.2.2.2.2.2.2.2.2.moved hW⟩⟩ rfl rfl hL.1 rfl (uSum hsum) hd ⟨hc, hs⟩) hP hS (fun ad' I' M' Z' H1 locs1 hp hP1 hk1 hS1 => ?_)
  have h := kk I' M' Z' hp p l e s m args below meth c D dA ad0 I0 ad' H1 locs1 ls cx hP1 hS1 (al_c (fun k hk => (hk1 k hk).2) hiL hL)
  rw [st_c (fun k hk => (hk1 k hk).2) hiS] at h
  exact h
theorem bw_static {u : MI} {mc ms nc ns : Nat} {post : List Nat → Mem → (Nat → Nat → Bool) → Prop} {I : List Nat} {Z : Nat → Nat → Bool} {pc : Nat} {L : List (Option Value)} {st : List Value} {M : Mem} {u' : MI} {i mc' ms' : Nat} {As st0 : List Value} {post' : List Nat → Mem → (Nat → Nat → Bool) → Prop} (hw : SL u.1.cls i u' As.length) (hcs : BS u' mc' ms' As I M Z post') (hst : st0 = As.reverse ++ st) (hf : uFit u u' = true) (hsum : Nat.ble ((st.map fun v => v.category).sum) 8 = true) (hc : nc + mc' ≤ mc) (hs : ns + ms' ≤ ms) (hiL : inL I L) (hiS : inS I st) (hd : decode u.2.1 pc = .ok (.invokestatic i, 3)) (kk : ∀ I' M' Z', post' I' M' Z' → BW u mc ms post (nc + mc') (ns + ms') (pc + 3) L st I' M' Z') : BW u mc ms post nc ns pc L st0 I M Z := by
  intro p l e s m args below meth c D dA ad0 I0 ad H locs ls cx hP hS hL
  obtain ⟨⟨w1, w2, w3, w4⟩, w5⟩ := hw
  have hts := cx.2.2.2.2.1
  refine bw_run (va_runS (As := As.map (cv ad)) (rest := st.map (cv ad)) (Ts := gt) (own := u.1.cls) ⟨cx.1, cx.2.1, cx.2.2.1, cx.2.2.2.1, hts⟩ (hcs l D dA ad H.size) ⟨callB_of As.length hts (uGood (u := u) w4) rfl rfl rfl (hts _ w3) (hts _ w1) w5 (uFit_1 hf), hts _ w2⟩ ⟨bBlind, fun U hU hW => ⟨rfl, by rw [hU], by rw [hU]; exact hP.1, cx.2.2.2.2.2.2.2.1.moved hW, hP.2.1, hP.2.2.2.2, cx.2.2.2.2.2.2.2.2.2.moved hW⟩⟩ rfl (by simp) hL.1 (uStk hst) (uSum hsum) hd ⟨hc, hs⟩) hP hS (fun ad' I' M' Z' H1 locs1 hp hP1 hk1 hS1 => ?_)
  have h := kk I' M' Z' hp p l e s m args below meth c D dA ad0 I0 ad' H1 locs1 ls cx hP1 hS1 (al_c (fun k hk => (hk1 k hk).2) hiL hL)
  rw [st_c (fun k hk => (hk1 k hk).2) hiS] at h
  exact h
theorem bs_intro {u : MI} {mc ms : Nat} {As : List Value} {I : List Nat} {M : Mem} {Z : Nat → Nat → Bool} {post : List Nat → Mem → (Nat → Nat → Bool) → Prop} {L : List (Option Value)} (hy : plainFor u.1 = true) (hE : ∀ ad, ∀ q ∈ al ad 0 L, q ∈ lv_args 0 (As.map (cv ad))) (hn : ∀ ad, (lg_sl (As.map (cv ad))).length ≤ u.2.2.1) (h : BW u mc ms post 0 0 0 L [] I M Z) : BS u mc ms As I M Z post := by
  intro l D dA ad sz
  refine va_MetF (cc := u.2.1) (maxL := u.2.2.1) (ret := u.2.2.2.1) hy rfl ?_
  intro p e s m args below meth c s₁ B hml hv
  obtain ⟨rfl, rfl, hP, hK, hI, hO, hX⟩ := hv
  have hts := atoms_spec (ws := uLn u) B.pre
  have hl := lv_entry (As.map (cv ad)) (n := u.2.2.1) (hn ad)
  rw [lg_entry_eq]
  exact h p l e s m _ below meth c D dA ad I ad s.heap [] _ ⟨B.exec, B.bytes, hml, findClass_of_methodNamed B.named, fun w hw => hts w (List.mem_cons_of_mem _ hw), B.returns, B.notSynchronized, hK, fun hi => ((name_of_methodNamed B.named B.method).1).trans hi, hX⟩ ⟨hP, hI, fun k hk => ⟨hk, rfl⟩, fun k hk => Or.inl hk, hO⟩ va_S.rf (hl.mono (hE ad))
