/-! ===== the law behind its two constructors ===== -/
theorem lq_istore_n {Ln : Nat} {xs : Nat → Int32} {pc : Nat} {L : List (Option Value)} {st : List Value} {M : Mem} {i : Fin 4} {x : Int32} (hd : decode code pc = .ok (.istore_n i, 1)) (hn : Nat.ble ((i : Nat) + 1) 4 = true) (k : LW Ln xs (pc + 1) (lset1 L (i : Nat) (.int x)) st M) : LW Ln xs pc L (.int x :: st) M := by
  intro p l e s m below meth c b D dA ad H locs ls cx hP hS hL
  exact lv_istore_n cx.1.1 cx.1.2.1 hd rfl hL (Nat.le_of_ble_eq_true hn) rfl (fun ls' hL' => k p l e s m below meth c b D dA ad H locs ls' cx hP hS (al_set1 (x := .int x) hL'))
theorem law_16 {Ln : Nat} {xs : Nat → Int32} (hL : Ln ≤ 3072) : LW Ln xs 16 [some (.ref 9999), some (.ref 0), some (.ref 1000), none] [] M0 := by
  refine lq_iconst (v := 0) d_L_16 (by decide) ?_
  refine lq_istore_n d_L_17 rfl ?_
  exact law_loop hL Ln 0 M0 σ0 (by omega) (by omega) uRC0 uRM0 uIv0
/-! ===== the walk of a constructor ===== -/
def bA (ad : Nat → Nat) (I : List Nat) (sz : Nat) : Nat → Prop := fun q => (∃ k ∈ I, q = ad k) ∨ sz ≤ q
def bInj (ad : Nat → Nat) (I : List Nat) : Prop := I.Nodup ∧ ∀ i ∈ I, ∀ j ∈ I, ad i = ad j → i = j
def BP (D : va_G) (dA : Nat → ClassId) (ad0 : Nat → Nat) (I0 : List Nat) (sz : Nat) (ad : Nat → Nat) (I : List Nat) (M : Mem) (Z : Nat → Nat → Bool) (H : Heap) : Prop :=
  va_P D uCls (bCells dA ad M Z I) H ∧ bInj ad I ∧ (∀ k ∈ I0, k ∈ I ∧ ad k = ad0 k) ∧ (∀ k ∈ I, k ∈ I0 ∨ sz ≤ ad k) ∧ bOk Z I
theorem bD {dA : Nat → ClassId} {ad0 : Nat → Nat} {I0 : List Nat} {sz : Nat} {ad : Nat → Nat} {I : List Nat} {M : Mem} {Z : Nat → Nat → Bool} (hi : bInj ad I) (h0 : ∀ k ∈ I0, k ∈ I ∧ ad k = ad0 k) (h1 : ∀ k ∈ I, k ∈ I0 ∨ sz ≤ ad k) : va_D (bA ad0 I0 sz) (bCells dA ad M Z I) := by
  refine ⟨fun i j p q hp hq e => ?_, fun k q hq => ?_⟩
  · simp only [bCells, List.getElem?_map, Option.map_eq_some_iff] at hp hq
    obtain ⟨a, ha, rfl⟩ := hp
    obtain ⟨b, hb, rfl⟩ := hq
    have hab : a = b := hi.2 a (List.mem_of_getElem? ha) b (List.mem_of_getElem? hb) e
    subst hab
    obtain ⟨l1, e1⟩ := List.getElem?_eq_some_iff.mp ha
    obtain ⟨l2, e2⟩ := List.getElem?_eq_some_iff.mp hb
    exact (List.getElem_inj hi.1).mp (e1.trans e2.symm)
  · simp only [bCells, List.getElem?_map, Option.map_eq_some_iff] at hq
    obtain ⟨a, ha, rfl⟩ := hq
    have hm := List.mem_of_getElem? ha
    rcases h1 a hm with h | h
    · exact Or.inl ⟨a, h, (h0 a h).2⟩
    · exact Or.inr h
/-- what a constructor of the class needs of the tables beside: four links to private constructors, five classes of rows -/
def bXn (s : State) : Prop := (va_Nw (.methodLinkNest "UnlikeDrawn" 49 ⟨"UnlikeDrawn$Sketch", "<init>", "()V"⟩ "UnlikeDrawn") s ∧ va_Nw (.methodLinkNest "UnlikeDrawn" 63 ⟨"UnlikeDrawn$Fraction", "<init>", "()V"⟩ "UnlikeDrawn") s ∧ va_Nw (.methodLinkNest "UnlikeDrawn" 73 ⟨"UnlikeDrawn$Knower", "<init>", "()V"⟩ "UnlikeDrawn") s ∧ va_Nw (.methodLinkNest "UnlikeDrawn" 74 ⟨"UnlikeDrawn$Sheet", "<init>", "()V"⟩ "UnlikeDrawn") s) ∧ (va_AO "UnlikeDrawn$Head" s ∧ va_AO "UnlikeDrawn$Hand" s ∧ va_AO "UnlikeDrawn$Sketch" s ∧ va_AO "UnlikeDrawn$Knower" s ∧ va_AO "UnlikeDrawn$Sheet" s)
theorem bXn.moved {u U : State} (hW : u.WarmedH U.vm) (h : bXn u) : bXn U := ⟨⟨va_Nw.warmM hW h.1.1, va_Nw.warmM hW h.1.2.1, va_Nw.warmM hW h.1.2.2.1, va_Nw.warmM hW h.1.2.2.2⟩, ⟨h.2.1.moved hW.alike, h.2.2.1.moved hW.alike, h.2.2.2.1.moved hW.alike, h.2.2.2.2.1.moved hW.alike, h.2.2.2.2.2.moved hW.alike⟩⟩
theorem bXn.same {u U : State} (e : u.vm = U.vm) (h : bXn u) : bXn U := ⟨⟨va_Nw.same rfl e h.1.1, va_Nw.same rfl e h.1.2.1, va_Nw.same rfl e h.1.2.2.1, va_Nw.same rfl e h.1.2.2.2⟩, ⟨h.2.1.moved (e ▸ Vm.Alike.refl u.vm), h.2.2.1.moved (e ▸ Vm.Alike.refl u.vm), h.2.2.2.1.moved (e ▸ Vm.Alike.refl u.vm), h.2.2.2.2.1.moved (e ▸ Vm.Alike.refl u.vm), h.2.2.2.2.2.moved (e ▸ Vm.Alike.refl u.vm)⟩⟩
theorem bXn.ao {s : State} {t : Nat} (h : bXn s) (h1 : 1 ≤ t) (h2 : t ≤ 5) : va_AO (uTyN t) s := by
  rcases (show t = 1 ∨ t = 2 ∨ t = 3 ∨ t = 4 ∨ t = 5 by omega) with rfl | rfl | rfl | rfl | rfl
  · exact h.2.1
  · exact h.2.2.1
  · exact h.2.2.2.1
  · exact h.2.2.2.2.1
  · exact h.2.2.2.2.2
def BX (u : MI) (p : Program) (s : State) (m : MethodId) (args : Array Value) (meth : Method) (c : Code) (D : va_G) (dA : Nat → ClassId) : Prop :=
  p.tables.exec = Jvm.exec ∧ c.code = u.2.1 ∧ c.maxLocals = u.2.2.1 ∧ s.vm.findClass u.1.cls = some m.cls ∧ (∀ w ∈ gt, w.before args s = true) ∧ meth.sig.returnType = u.2.2.2.1 ∧ meth.locks = false ∧ uKn D dA s ∧ (u.1.name = "<init>" → meth.name = "<init>") ∧ bXn s
def bRm (u : MI) (mc ms : Nat) : Room := { frames := u.2.2.2.2.1, cells := mc, slots := ms, locals := u.2.2.2.2.2 }
def bPc (D : va_G) (dA : Nat → ClassId) (ad : Nat → Nat) (sz : Nat) (args : List Value) (I : List Nat) (M : Mem) (Z : Nat → Nat → Bool) : Array Value → State → Prop := va_Pc (args.map (cv ad)) (fun U => U.heap.size = sz ∧ va_P D uCls (bCells dA ad M Z I) U.heap ∧ uKn D dA U ∧ bInj ad I ∧ bOk Z I ∧ bXn U)
def bQc (D : va_G) (dA : Nat → ClassId) (ad : Nat → Nat) (I : List Nat) (sz : Nat) (post : List Nat → Mem → (Nat → Nat → Bool) → Prop) : Array Value → State → Outcome → State → Prop := fun _ st oc t => (∃ (ad' : Nat → Nat) (I' : List Nat) (M' : Mem) (Z' : Nat → Nat → Bool), oc = .returned none ∧ post I' M' Z' ∧ BP D dA ad I sz ad' I' M' Z' t.heap) ∧ va_F (bA ad I sz) st t
def BS (u : MI) (mc ms : Nat) (args : List Value) (I : List Nat) (M : Mem) (Z : Nat → Nat → Bool) (post : List Nat → Mem → (Nat → Nat → Bool) → Prop) : Prop := ∀ (l : Launch) (D : va_G) (dA : Nat → ClassId) (ad : Nat → Nat) (sz : Nat), Met l u.1 (uLn u) (bRm u mc ms) (bPc D dA ad sz args I M Z) (bQc D dA ad I sz post) mc ms (bA ad I sz)
def BW (u : MI) (mc ms : Nat) (post : List Nat → Mem → (Nat → Nat → Bool) → Prop) (nc ns : Nat) (pc : Nat) (L : List (Option Value)) (st : List Value) (I : List Nat) (M : Mem) (Z : Nat → Nat → Bool) : Prop :=
  ∀ (p : Program) (l : Launch) (e : Env) (s : State) (m : MethodId) (args : Array Value) (below : List Frame) (meth : Method) (c : Code) (D : va_G) (dA : Nat → ClassId) (ad0 : Nat → Nat) (I0 : List Nat) (ad : Nat → Nat) (H : Heap) (locs : List Loc) (ls : Array Slot),
    BX u p s m args meth c D dA → BP D dA ad0 I0 s.heap.size ad I M Z H → va_S (bA ad0 I0 s.heap.size) s.heap H locs → lv_has ls u.2.2.1 (al ad 0 L) →
    W p l e (bRm u mc ms) s m args below meth c H locs nc ns (MQ below (bQc D dA ad0 I0 s.heap.size post) args s mc ms (bA ad0 I0 s.heap.size)) (F0 m pc ls (st.map (cv ad)))
theorem bw_iconst {u : MI} {mc ms nc ns : Nat} {post : List Nat → Mem → (Nat → Nat → Bool) → Prop} {I : List Nat} {Z : Nat → Nat → Bool} {pc : Nat} {L : List (Option Value)} {st : List Value} {M : Mem} {n : Int} {v : Int32} (hd : decode u.2.1 pc = .ok (.iconst n, 1)) (hv : Int32.ofInt n = v) (k : BW u mc ms post nc ns (pc + 1) L (.int v :: st) I M Z) : BW u mc ms post nc ns pc L (st) I M Z := by
  intro p l e s m args below meth c D dA ad0 I0 ad H locs ls cx hP hS hL
  exact lv_iconst cx.1 cx.2.1 hd hv (k p l e s m args below meth c D dA ad0 I0 ad H locs ls cx hP hS hL)
theorem bw_bipush {u : MI} {mc ms nc ns : Nat} {post : List Nat → Mem → (Nat → Nat → Bool) → Prop} {I : List Nat} {Z : Nat → Nat → Bool} {pc : Nat} {L : List (Option Value)} {st : List Value} {M : Mem} {n : Int} {v : Int32} (hd : decode u.2.1 pc = .ok (.bipush n, 2)) (hv : (Int8.ofInt n).toInt32 = v) (k : BW u mc ms post nc ns (pc + 2) L (.int v :: st) I M Z) : BW u mc ms post nc ns pc L (st) I M Z := by
  intro p l e s m args below meth c D dA ad0 I0 ad H locs ls cx hP hS hL
  exact lv_bipush cx.1 cx.2.1 hd hv (k p l e s m args below meth c D dA ad0 I0 ad H locs ls cx hP hS hL)
theorem bw_sipush {u : MI} {mc ms nc ns : Nat} {post : List Nat → Mem → (Nat → Nat → Bool) → Prop} {I : List Nat} {Z : Nat → Nat → Bool} {pc : Nat} {L : List (Option Value)} {st : List Value} {M : Mem} {n : Int} {v : Int32} (hd : decode u.2.1 pc = .ok (.sipush n, 3)) (hv : (Int16.ofInt n).toInt32 = v) (k : BW u mc ms post nc ns (pc + 3) L (.int v :: st) I M Z) : BW u mc ms post nc ns pc L (st) I M Z := by
  intro p l e s m args below meth c D dA ad0 I0 ad H locs ls cx hP hS hL
  exact lv_sipush cx.1 cx.2.1 hd hv (k p l e s m args below meth c D dA ad0 I0 ad H locs ls cx hP hS hL)
theorem bw_lconst {u : MI} {mc ms nc ns : Nat} {post : List Nat → Mem → (Nat → Nat → Bool) → Prop} {I : List Nat} {Z : Nat → Nat → Bool} {pc : Nat} {L : List (Option Value)} {st : List Value} {M : Mem} {n : Fin 2} {v : Int64} (hd : decode u.2.1 pc = .ok (.lconst n, 1)) (hv : Int64.ofNat (n : Nat) = v) (k : BW u mc ms post nc ns (pc + 1) L (.long v :: st) I M Z) : BW u mc ms post nc ns pc L (st) I M Z := by
  intro p l e s m args below meth c D dA ad0 I0 ad H locs ls cx hP hS hL
  exact lv_lconst cx.1 cx.2.1 hd hv (k p l e s m args below meth c D dA ad0 I0 ad H locs ls cx hP hS hL)
theorem bw_iload_n {u : MI} {mc ms nc ns : Nat} {post : List Nat → Mem → (Nat → Nat → Bool) → Prop} {I : List Nat} {Z : Nat → Nat → Bool} {pc : Nat} {L : List (Option Value)} {st : List Value} {M : Mem} {n : Fin 4} {x : Int32} (hd : decode u.2.1 pc = .ok (.iload_n n, 1)) (hl : lget L (n : Nat) = some (.int x)) (k : BW u mc ms post nc ns (pc + 1) L (.int x :: st) I M Z) : BW u mc ms post nc ns pc L (st) I M Z := by
  intro p l e s m args below meth c D dA ad0 I0 ad H locs ls cx hP hS hL
  exact lv_iload_n cx.1 cx.2.1 hd rfl (al_get hL hl) (k p l e s m args below meth c D dA ad0 I0 ad H locs ls cx hP hS hL)
theorem bw_aload_n {u : MI} {mc ms nc ns : Nat} {post : List Nat → Mem → (Nat → Nat → Bool) → Prop} {I : List Nat} {Z : Nat → Nat → Bool} {pc : Nat} {L : List (Option Value)} {st : List Value} {M : Mem} {n : Fin 4} {x : Nat} (hd : decode u.2.1 pc = .ok (.aload_n n, 1)) (hl : lget L (n : Nat) = some (.ref x)) (k : BW u mc ms post nc ns (pc + 1) L (.ref x :: st) I M Z) : BW u mc ms post nc ns pc L (st) I M Z := by
  intro p l e s m args below meth c D dA ad0 I0 ad H locs ls cx hP hS hL
  exact lv_aload_n cx.1 cx.2.1 hd rfl (al_get hL hl) (k p l e s m args below meth c D dA ad0 I0 ad H locs ls cx hP hS hL)
theorem bw_istore_n {u : MI} {mc ms nc ns : Nat} {post : List Nat → Mem → (Nat → Nat → Bool) → Prop} {I : List Nat} {Z : Nat → Nat → Bool} {pc : Nat} {L : List (Option Value)} {st : List Value} {M : Mem} {i : Fin 4} {x : Int32} (hd : decode u.2.1 pc = .ok (.istore_n i, 1)) (hn : Nat.ble ((i : Nat) + 1) u.2.2.1 = true) (k : BW u mc ms post nc ns (pc + 1) (lset1 L (i : Nat) (.int x)) st I M Z) : BW u mc ms post nc ns pc L (.int x :: st) I M Z := by
  intro p l e s m args below meth c D dA ad0 I0 ad H locs ls cx hP hS hL
  exact lv_istore_n cx.1 cx.2.1 hd rfl hL (Nat.le_of_ble_eq_true hn) rfl (fun ls' hL' => k p l e s m args below meth c D dA ad0 I0 ad H locs ls' cx hP hS (al_set1 (x := .int x) hL'))
theorem bw_iinc {u : MI} {mc ms nc ns : Nat} {post : List Nat → Mem → (Nat → Nat → Bool) → Prop} {I : List Nat} {Z : Nat → Nat → Bool} {pc : Nat} {L : List (Option Value)} {st : List Value} {M : Mem} {i : Nat} {n : Int} {x : Int32} (hd : decode u.2.1 pc = .ok (.iinc i n, 3)) (hl : lget L i = some (.int x)) (hn : Nat.ble (i + 1) u.2.2.1 = true) (k : BW u mc ms post nc ns (pc + 3) (lset1 L i (.int (x + Int32.ofInt n))) st I M Z) : BW u mc ms post nc ns pc L st I M Z := by
  intro p l e s m args below meth c D dA ad0 I0 ad H locs ls cx hP hS hL
  obtain ⟨kk, hk⟩ := List.getElem?_of_mem (al_mem (ad := ad) (k := 0) |>.mpr ⟨i, _, hl, (Nat.zero_add i).symm, rfl⟩)
  exact lv_iinc cx.1 cx.2.1 hd hL hk rfl (Nat.le_of_ble_eq_true hn) rfl (fun ls' hL' => k p l e s m args below meth c D dA ad0 I0 ad H locs ls' cx hP hS (al_set1 (x := .int (x + Int32.ofInt n)) hL'))
theorem bw_icmp_ge {u : MI} {mc ms nc ns : Nat} {post : List Nat → Mem → (Nat → Nat → Bool) → Prop} {I : List Nat} {Z : Nat → Nat → Bool} {pc : Nat} {L : List (Option Value)} {st : List Value} {M : Mem} {x y : Int32} {off : Int} (tgt : Nat) (hd : decode u.2.1 pc = .ok (.if_icmp .ge off, 3)) (ht : (pc : Int) + off = (tgt : Int)) (kt : y ≤ x → BW u mc ms post nc ns tgt L st I M Z) (kf : ¬ y ≤ x → BW u mc ms post nc ns (pc + 3) L st I M Z) : BW u mc ms post nc ns pc L (.int y :: .int x :: st) I M Z := by
  intro p l e s m args below meth c D dA ad0 I0 ad H locs ls cx hP hS hL
  exact lv_icmp_ge cx.1 cx.2.1 hd ht (fun h => kt h p l e s m args below meth c D dA ad0 I0 ad H locs ls cx hP hS hL) (fun h => kf h p l e s m args below meth c D dA ad0 I0 ad H locs ls cx hP hS hL)
theorem bw_goto {u : MI} {mc ms nc ns : Nat} {post : List Nat → Mem → (Nat → Nat → Bool) → Prop} {I : List Nat} {Z : Nat → Nat → Bool} {pc : Nat} {L : List (Option Value)} {st : List Value} {M : Mem} {off : Int} (tgt : Nat) (hd : decode u.2.1 pc = .ok (.goto off, 3)) (ht : (pc : Int) + off = (tgt : Int)) (k : BW u mc ms post nc ns tgt L st I M Z) : BW u mc ms post nc ns pc L st I M Z := by
  intro p l e s m args below meth c D dA ad0 I0 ad H locs ls cx hP hS hL
  exact lv_goto cx.1 cx.2.1 hd ht (k p l e s m args below meth c D dA ad0 I0 ad H locs ls cx hP hS hL)
theorem bw_dup_ref {u : MI} {mc ms nc ns : Nat} {post : List Nat → Mem → (Nat → Nat → Bool) → Prop} {I : List Nat} {Z : Nat → Nat → Bool} {pc : Nat} {L : List (Option Value)} {st : List Value} {M : Mem} {x : Nat} (hd : decode u.2.1 pc = .ok (.dup, 1)) (k : BW u mc ms post nc ns (pc + 1) L (.ref x :: .ref x :: st) I M Z) : BW u mc ms post nc ns pc L (.ref x :: st) I M Z := by
  intro p l e s m args below meth c D dA ad0 I0 ad H locs ls cx hP hS hL
  exact lv_dup cx.1 cx.2.1 hd rfl (k p l e s m args below meth c D dA ad0 I0 ad H locs ls cx hP hS hL)
