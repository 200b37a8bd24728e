/-! ===== rows of a constructor ===== -/
theorem bw_vret {u : MI} {mc ms nc ns : Nat} {post : List Nat → Mem → (Nat → Nat → Bool) → Prop} {I : List Nat} {Z : Nat → Nat → Bool} {pc : Nat} {L : List (Option Value)} {M : Mem} (hr : u.2.2.2.1 = none) (hd : decode u.2.1 pc = .ok (.return_, 1)) (h1 : nc ≤ mc) (h2 : ns ≤ ms) (h : post I M Z) : BW u mc ms post nc ns pc L [] I M Z := by
  intro p l e s m args below meth c D dA ad0 I0 ad H locs ls cx hP hS hL
  refine W.widen (k := mc) (n := ms) h1 h2 ?_
  exact W.vret cx.1 cx.2.1 (cx.2.2.2.2.2.1.trans hr) (fun t ht hW => ⟨⟨ad, I, M, Z, rfl, h, by rw [ht]; exact hP⟩, hS.F ht⟩) hS.2.2 hd cx.2.2.2.2.2.2.1
theorem bw_objInit {u : MI} {mc ms nc ns : Nat} {post : List Nat → Mem → (Nat → Nat → Bool) → Prop} {I : List Nat} {Z : Nat → Nat → Bool} {pc : Nat} {L : List (Option Value)} {M : Mem} {i a : Nat} (w1 : Cond.methodLink u.1.cls i Lib.objectInit ∈ gt) (w2 : Cond.instanceMethod Lib.objectInit ∈ gt) (w3 : Cond.code Lib.objectInit ⟨#[0xb1]⟩ 1 none ∈ gt) (hd : decode u.2.1 pc = .ok (.invokespecial i, 3)) (hf : 1 ≤ u.2.2.2.2.1) (hl : 12 ≤ u.2.2.2.2.2) (k : BW u mc ms post nc ns (pc + 3) L [] I M Z) : BW u mc ms post nc ns pc L [.ref a] I M Z := by
  intro p l e s m args below meth c D dA ad0 I0 ad H locs ls cx hP hS hL
  exact W.objInit cx.1 cx.2.1 cx.2.2.2.1 (cx.2.2.2.2.1 _ w1) (cx.2.2.2.2.1 _ w2) (cx.2.2.2.2.1 _ w3) rfl (by rw [cx.2.2.1]; exact hL.1) rfl hd hf hl (k p l e s m args below meth c D dA ad0 I0 ad H locs ls cx hP hS hL)
def inL (I : List Nat) (L : List (Option Value)) : Prop := ∀ i v, lget L i = some (.ref v) → v ∈ I
def inS (I : List Nat) (st : List Value) : Prop := ∀ v, Value.ref v ∈ st → v ∈ I
theorem cv_c {ad ad' : Nat → Nat} {v : Value} (h : ∀ k, v = .ref k → ad' k = ad k) : cv ad' v = cv ad v := by
  cases v <;> first | rfl | exact congrArg Value.ref (h _ rfl)
theorem al_c {ad ad' : Nat → Nat} {I : List Nat} {L : List (Option Value)} {ls : Array Slot} {n : Nat} (h : ∀ k ∈ I, ad' k = ad k) (hi : inL I L) (hL : lv_has ls n (al ad 0 L)) : lv_has ls n (al ad' 0 L) := hL.mono (fun q hq => by
  obtain ⟨j, w⟩ := q
  obtain ⟨i, v, h1, h2, h3⟩ := al_mem.mp hq
  refine al_mem.mpr ⟨i, v, h1, h2, h3.trans (cv_c (fun k hk => h k (hi i k (by rw [h1, hk]))))⟩)
theorem st_c {ad ad' : Nat → Nat} {I : List Nat} {st : List Value} (h : ∀ k ∈ I, ad' k = ad k) (hi : inS I st) : st.map (cv ad') = st.map (cv ad) := List.map_congr_left (fun v hv => cv_c (fun k hk => h k (hi k (by rw [← hk]; exact hv))))
theorem bInj_of {A : Nat → Prop} {dA : Nat → ClassId} {ad : Nat → Nat} {M : Mem} {Z : Nat → Nat → Bool} {I : List Nat} (hn : I.Nodup) (hD : va_D A (bCells dA ad M Z I)) : bInj ad I := by
  refine ⟨hn, fun i hi j hj e => ?_⟩
  obtain ⟨p, hp⟩ := List.getElem?_of_mem hi
  obtain ⟨q, hq⟩ := List.getElem?_of_mem hj
  have hpq := hD.1 p q (ad i, bCell dA ad M Z i) (ad j, bCell dA ad M Z j) (by simp [bCells, List.getElem?_map, hp]) (by simp [bCells, List.getElem?_map, hq]) e
  subst hpq
  rw [hp] at hq
  exact Option.some.inj hq
theorem BP_new {D : va_G} {dA : Nat → ClassId} {ad0 : Nat → Nat} {I0 : List Nat} {sz : Nat} {ad : Nat → Nat} {I : List Nat} {M : Mem} {Z : Nat → Nat → Bool} {H H1 : Heap} {k q : Nat} {x : va_E} (h : BP D dA ad0 I0 sz ad I M Z H) (hk : k ∉ I) (hz : ∀ j, Z k j = true) (hx : x = bCell dA (fun i => if i = k then q else ad i) M Z k) (hP : va_P D uCls (bCells dA ad M Z I ++ [(q, x)]) H1) (hD : va_D (bA ad0 I0 sz) (bCells dA ad M Z I ++ [(q, x)])) : BP D dA ad0 I0 sz (fun i => if i = k then q else ad i) (I ++ [k]) M Z H1 := by
  obtain ⟨_, hi, h0, h1, hO⟩ := h
  rw [bCells_new hO hk hx] at hP hD
  have hn : (I ++ [k]).Nodup := List.nodup_append.mpr ⟨hi.1, by simp, fun a ha b hb => by
    rw [List.mem_singleton.mp hb]
    exact fun e => hk (e ▸ ha)⟩
  have hi' := bInj_of hn hD
  have hc : ∀ i ∈ I, (if i = k then q else ad i) = ad i := fun i hi => if_neg (fun (e : i = k) => hk (by rw [← e]; exact hi))
  refine ⟨hP, hi', fun i hi0 => ⟨List.mem_append_left _ (h0 i hi0).1, (hc i (h0 i hi0).1).trans (h0 i hi0).2⟩, fun i hi2 => ?_, fun i hi2 => ?_⟩
  · rcases List.mem_append.mp hi2 with a | a
    · rcases h1 i a with b | b
      · exact Or.inl b
      · exact Or.inr (by show sz ≤ (if i = k then q else ad i); rw [hc i a]; exact b)
    · have e := List.mem_singleton.mp a
      subst e
      obtain ⟨z, hz2⟩ := List.getElem?_of_mem hi2
      have hA := hD.2 z ((fun j => if j = i then q else ad j) i, bCell dA (fun j => if j = i then q else ad j) M Z i) (by unfold bCells; rw [List.getElem?_map, hz2]; rfl)
      rcases hA with ⟨k0, hk0, e0⟩ | hA
      · have e1 : (fun j => if j = i then q else ad j) i = (fun j => if j = i then q else ad j) k0 := e0.trans ((h0 k0 hk0).2.symm.trans (hc k0 (h0 k0 hk0).1).symm)
        have := hi'.2 i hi2 k0 (List.mem_append_left _ (h0 k0 hk0).1) e1
        exact Or.inl (this ▸ hk0)
      · exact Or.inr hA
  · rcases List.mem_append.mp hi2 with a | a
    · have := hO i a
      split at this
      · trivial
      · exact fun j hj => List.mem_append_left _ (this j hj)
      · exact fun j r h3 h4 => List.mem_append_left _ (this j r h3 h4)
    · have e := List.mem_singleton.mp a
      subst e
      split
      · trivial
      · exact fun j hj => absurd ((hz j).symm.trans hj) (by decide)
      · exact fun j r h3 h4 => absurd ((hz j).symm.trans h4) (by decide)
theorem bw_newa {u : MI} {mc ms nc ns : Nat} {post : List Nat → Mem → (Nat → Nat → Bool) → Prop} {I : List Nat} {Z : Nat → Nat → Bool} {pc : Nat} {L : List (Option Value)} {st : List Value} {M : Mem} {k N : Nat} {n : Int32} (hs : uSh k = .inl N) (hk : k ∉ I) (hM : M.1 k = fun _ => 0) (hz : ∀ j, Z k j = true) (hn : ¬ n < 0) (hN : n.toNatClampNeg = N) (hN9 : N ≤ 1000) (hc : nc + 1 ≤ mc) (hsl : ns + N ≤ ms) (hiL : inL I L) (hiS : inS I st) (hd : decode u.2.1 pc = .ok (.newarray .int, 2)) (kk : BW u mc ms post (nc + 1) (ns + N) (pc + 2) L (.ref k :: st) (I ++ [k]) M Z) : BW u mc ms post nc ns pc L (.int n :: st) I M Z := by
  intro p l e s m args below meth c D dA ad0 I0 ad H locs ls cx hP hS hL
  have hKn := cx.2.2.2.2.2.2.2.1.1
  refine va_newa (ty := .int) (a0 := (N, .inl (fun _ => 0))) cx.1 cx.2.1 (cx.2.2.2.2.1 _ (gt_at 59 (by decide +kernel) rfl)) rfl hKn hP.1 (bD hP.2.1 hP.2.2.1 hP.2.2.2.1) hS (fun q hq => Or.inr hq) (fun cA => rfl) hn hN (by show N * 4 ≤ _; omega) hc hsl hd (fun q cA H1 hK1 hP1 hD1 hS1 => ?_)
  have ec : cA = dA 0 := by
    have a1 := va_nm_int (hK1.2 6 (cA, .int) rfl).2
    have a2 := va_nm_int (hKn.2 0 (dA 0, .int) rfl).2
    exact Option.some.inj (a1.symm.trans a2)
  subst ec
  have hcc : ∀ i ∈ I, (fun i => if i = k then q else ad i) i = ad i := fun i hi => if_neg (fun (e : i = k) => hk (by rw [← e]; exact hi))
  have hx : (.inl (dA 0, N, .inl (fun _ => 0)) : va_E) = bCell dA (fun i => if i = k then q else ad i) M Z k := by
    unfold bCell
    rw [hs]
    simp only [hM]
  have h := kk p l e s m args below meth c D dA ad0 I0 (fun i => if i = k then q else ad i) H1 locs ls cx (BP_new hP hk hz hx hP1 hD1) hS1 (al_c hcc hiL hL)
  have e1 : (Value.ref k :: st).map (cv (fun i => if i = k then q else ad i)) = .ref q :: st.map (cv ad) := by
    rw [List.map_cons, st_c hcc hiS]
    show Value.ref (if k = k then q else ad k) :: _ = _
    rw [if_pos rfl]
  rw [e1] at h
  exact h
