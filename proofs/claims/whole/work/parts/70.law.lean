/-! THE CLAIM OUT OF ONE WALK OF THE LAW'S BODY. Your part is whole_start (and what it stands on); all else here is the same for every law, but numbers. -/
def R_law : String := "UnlikeDrawnLaw"
def lw_P (b : Addr) (xs : List Int32) (args : Array Value) (s : State) : Prop := args = #[.ref b] ∧ s.IntsAt b xs ∧ xs.length ≤ 3072 ∧ (Jvm.Cond.and given_1 narrow_1).before args s = true
def lw_Q (_ : Array Value) (s : State) (o : Outcome) (t : State) : Prop := o = .returned (some (.int 1)) ∧ Framed s o t [] 600000 7302250
def lw_Z (below : List Frame) (a : Array Value) (s : State) : State → Prop := fun t => ∃ o, t.status = .running ∧ Ended t below o ∧ lw_Q a s o t
/-- the law's own end, with 1 on the stack, nothing written that was there before, its room as the claim has it -/
theorem lw_ret {p : Program} {l : Launch} {e : Env} {s : State} {m : MethodId} {below : List Frame} {meth : Method} {c : Code} {b : Nat} (hx : p.tables.exec = Jvm.exec) (hb : c.code = code) (hr : meth.sig.returnType = ret) (hlocks : meth.locks = false) {pc : Nat} {H : Heap} {ls : Array Slot} (hdg : decode code pc = .ok (.ireturn, 1)) : W p l e room_1 s m #[Value.ref b] below meth c H [] 600000 7302250 (lw_Z below #[Value.ref b] s) (F0 m pc ls [.int 1]) := by
  intro T hT X
  obtain ⟨fs, hret, hrun, hended, hW, hframe⟩ := X.leave (v := some (.int 1)) (hlocks := hlocks) (fun h => by rw [hr] at h; cases h)
  have hmeth' : T.vm.method? m = some meth := X.method'
  refine ⟨T.setFrames fs, ?_, .returned (some (.int 1)), hrun, hended, rfl, ⟨_, rfl⟩, hW, hframe⟩
  jvm_step X.here [X.here.top, hx, hb, hdg, hmeth', hr, ret, narrow_b1]
  (try refine ⟨rfl, ?_⟩); (try refine ⟨rfl, ?_⟩)
  first | (intro acts; rw [hret _ acts rfl rfl rfl]) | rw [hret _ _ rfl rfl rfl]
  exact Steps.refl _
/-- what holds at the law's entry: the machine, the code, the tables' words (any of lw_tbl by 'hts w (by decide +kernel)'), the script of L ints xs at the cell b, what the Statement gives of the start (any of its parts by flat_of_before) -/
def lw_At (p : Program) (s : State) (m : MethodId) (meth : Method) (c : Code) (b L : Nat) (xs : Nat → Int32) : Prop :=
  p.tables.exec = Jvm.exec ∧ c.code = code ∧ meth.sig.returnType = ret ∧ c.maxLocals = 4 ∧ s.vm.findClass R_law = some m.cls ∧ (∀ w ∈ lw_tbl, w.before #[Value.ref b] s = true) ∧ va_X b L xs s s.heap ∧ b < s.heap.size ∧ meth.locks = false ∧ (Jvm.Cond.and given_1 narrow_1).before #[Value.ref b] s = true
/-! ===== the law's own walk: rows over the same world ===== -/
def LX (p : Program) (s : State) (m : MethodId) (meth : Method) (c : Code) (b Ln : Nat) (xs : Nat → Int32) (D : va_G) (dA : Nat → ClassId) (ad : Nat → Nat) : Prop :=
  lw_At p s m meth c b Ln xs ∧ uKn D dA s ∧ uInj ad ∧ ad 9999 = b ∧ ∀ k ∈ uIds, s.heap.size ≤ ad k
def LW (Ln : Nat) (xs : Nat → Int32) (pc : Nat) (L : List (Option Value)) (st : List Value) (M : Mem) : Prop :=
  ∀ (p : Program) (l : Launch) (e : Env) (s : State) (m : MethodId) (below : List Frame) (meth : Method) (c : Code) (b : Nat) (D : va_G) (dA : Nat → ClassId) (ad : Nat → Nat) (H : Heap) (locs : List Loc) (ls : Array Slot),
    LX p s m meth c b Ln xs D dA ad → va_P D uCls (uCells dA ad M) H → va_S (uA ad) s.heap H locs → lv_has ls 4 (al ad 0 L) →
    W p l e room_1 s m #[Value.ref b] below meth c H locs 600000 7302250 (lw_Z below #[Value.ref b] s) (F0 m pc ls (st.map (cv ad)))
theorem LX.ts {p : Program} {s : State} {m : MethodId} {meth : Method} {c : Code} {b Ln : Nat} {xs : Nat → Int32} {D : va_G} {dA : Nat → ClassId} {ad : Nat → Nat} (cx : LX p s m meth c b Ln xs D dA ad) : ∀ w ∈ gt, w.before #[Value.ref b] s = true := fun w hw => cx.1.2.2.2.2.2.1 w (List.mem_filter.mp hw).1
theorem LX.nA {p : Program} {s : State} {m : MethodId} {meth : Method} {c : Code} {b Ln : Nat} {xs : Nat → Int32} {D : va_G} {dA : Nat → ClassId} {ad : Nat → Nat} (cx : LX p s m meth c b Ln xs D dA ad) : ¬ uA ad b := fun ⟨k, hk, e⟩ => by
  have h1 := cx.2.2.2.2 k hk
  have h2 := cx.1.2.2.2.2.2.2.2.1
  omega
theorem LW.cast {Ln : Nat} {xs : Nat → Int32} {pc : Nat} {L L' : List (Option Value)} {st : List Value} {M : Mem} (h : L = L') (k : LW Ln xs pc L' st M) : LW Ln xs pc L st M := by
  subst h
  exact k
theorem lq_iconst {Ln : Nat} {xs : Nat → Int32} {pc : Nat} {L : List (Option Value)} {st : List Value} {M : Mem} {n : Int} {v : Int32} (hd : decode code pc = .ok (.iconst n, 1)) (hv : Int32.ofInt n = v) (k : LW Ln xs (pc + 1) L (.int v :: st) M) : LW Ln xs pc L (st) M := by
  intro p l e s m below meth c b D dA ad H locs ls cx hP hS hL
  exact lv_iconst cx.1.1 cx.1.2.1 hd hv (k p l e s m below meth c b D dA ad H locs ls cx hP hS hL)
theorem lq_bipush {Ln : Nat} {xs : Nat → Int32} {pc : Nat} {L : List (Option Value)} {st : List Value} {M : Mem} {n : Int} {v : Int32} (hd : decode code pc = .ok (.bipush n, 2)) (hv : (Int8.ofInt n).toInt32 = v) (k : LW Ln xs (pc + 2) L (.int v :: st) M) : LW Ln xs pc L (st) M := by
  intro p l e s m below meth c b D dA ad H locs ls cx hP hS hL
  exact lv_bipush cx.1.1 cx.1.2.1 hd hv (k p l e s m below meth c b D dA ad H locs ls cx hP hS hL)
theorem lq_iload_n {Ln : Nat} {xs : Nat → Int32} {pc : Nat} {L : List (Option Value)} {st : List Value} {M : Mem} {n : Fin 4} {x : Int32} (hd : decode code pc = .ok (.iload_n n, 1)) (hl : lget L (n : Nat) = some (.int x)) (k : LW Ln xs (pc + 1) L (.int x :: st) M) : LW Ln xs pc L (st) M := by
  intro p l e s m below meth c b D dA ad H locs ls cx hP hS hL
  exact lv_iload_n cx.1.1 cx.1.2.1 hd rfl (al_get hL hl) (k p l e s m below meth c b D dA ad H locs ls cx hP hS hL)
theorem lq_aload_n {Ln : Nat} {xs : Nat → Int32} {pc : Nat} {L : List (Option Value)} {st : List Value} {M : Mem} {n : Fin 4} {x : Nat} (hd : decode code pc = .ok (.aload_n n, 1)) (hl : lget L (n : Nat) = some (.ref x)) (k : LW Ln xs (pc + 1) L (.ref x :: st) M) : LW Ln xs pc L (st) M := by
  intro p l e s m below meth c b D dA ad H locs ls cx hP hS hL
  exact lv_aload_n cx.1.1 cx.1.2.1 hd rfl (al_get hL hl) (k p l e s m below meth c b D dA ad H locs ls cx hP hS hL)
theorem lq_iadd {Ln : Nat} {xs : Nat → Int32} {pc : Nat} {L : List (Option Value)} {st : List Value} {M : Mem} {x y : Int32} (hd : decode code pc = .ok (.iadd, 1)) (k : LW Ln xs (pc + 1) L (.int (x + y) :: st) M) : LW Ln xs pc L (.int y :: .int x :: st) M := by
  intro p l e s m below meth c b D dA ad H locs ls cx hP hS hL
  exact lv_iadd cx.1.1 cx.1.2.1 hd  (k p l e s m below meth c b D dA ad H locs ls cx hP hS hL)
theorem lq_isub {Ln : Nat} {xs : Nat → Int32} {pc : Nat} {L : List (Option Value)} {st : List Value} {M : Mem} {x y : Int32} (hd : decode code pc = .ok (.isub, 1)) (k : LW Ln xs (pc + 1) L (.int (x - y) :: st) M) : LW Ln xs pc L (.int y :: .int x :: st) M := by
  intro p l e s m below meth c b D dA ad H locs ls cx hP hS hL
  exact lv_isub cx.1.1 cx.1.2.1 hd  (k p l e s m below meth c b D dA ad H locs ls cx hP hS hL)
theorem lq_iand {Ln : Nat} {xs : Nat → Int32} {pc : Nat} {L : List (Option Value)} {st : List Value} {M : Mem} {x y : Int32} (hd : decode code pc = .ok (.iand, 1)) (k : LW Ln xs (pc + 1) L (.int (x &&& y) :: st) M) : LW Ln xs pc L (.int y :: .int x :: st) M := by
  intro p l e s m below meth c b D dA ad H locs ls cx hP hS hL
  exact lv_iand cx.1.1 cx.1.2.1 hd  (k p l e s m below meth c b D dA ad H locs ls cx hP hS hL)
theorem lq_iinc {Ln : Nat} {xs : Nat → Int32} {pc : Nat} {L : List (Option Value)} {st : List Value} {M : Mem} {i : Nat} {n : Int} {x : Int32} (hd : decode code pc = .ok (.iinc i n, 3)) (hl : lget L i = some (.int x)) (hn : Nat.ble (i + 1) 4 = true) (k : LW Ln xs (pc + 3) (lset1 L i (.int (x + Int32.ofInt n))) st M) : LW Ln xs pc L st M := by
  intro p l e s m below meth c b D dA ad H locs ls cx hP hS hL
  obtain ⟨kk, hk⟩ := List.getElem?_of_mem (al_mem (ad := ad) (k := 0) |>.mpr ⟨i, _, hl, (Nat.zero_add i).symm, rfl⟩)
  exact lv_iinc cx.1.1 cx.1.2.1 hd hL hk rfl (Nat.le_of_ble_eq_true hn) rfl (fun ls' hL' => k p l e s m below meth c b D dA ad H locs ls' cx hP hS (al_set1 (x := .int (x + Int32.ofInt n)) hL'))
theorem lq_lcmp {Ln : Nat} {xs : Nat → Int32} {pc : Nat} {L : List (Option Value)} {st : List Value} {M : Mem} {x y : Int64} (hd : decode code pc = .ok (.lcmp, 1)) (k : LW Ln xs (pc + 1) L (.int (lg_cmp x y) :: st) M) : LW Ln xs pc L (.long y :: .long x :: st) M := by
  intro p l e s m below meth c b D dA ad H locs ls cx hP hS hL
  exact W.lcmp cx.1.1 cx.1.2.1 hd  (k p l e s m below meth c b D dA ad H locs ls cx hP hS hL)
theorem lq_if_eq {Ln : Nat} {xs : Nat → Int32} {pc : Nat} {L : List (Option Value)} {st : List Value} {M : Mem} {x : Int32} {off : Int} (tgt : Nat) (hd : decode code pc = .ok (.ifCond .eq off, 3)) (ht : (pc : Int) + off = (tgt : Int)) (kt : x = 0 → LW Ln xs tgt L st M) (kf : ¬ x = 0 → LW Ln xs (pc + 3) L st M) : LW Ln xs pc L (.int x :: st) M := by
  intro p l e s m below meth c b D dA ad H locs ls cx hP hS hL
  exact lv_if_eq cx.1.1 cx.1.2.1 hd ht (fun h => kt h p l e s m below meth c b D dA ad H locs ls cx hP hS hL) (fun h => kf h p l e s m below meth c b D dA ad H locs ls cx hP hS hL)
theorem lq_icmp_eq {Ln : Nat} {xs : Nat → Int32} {pc : Nat} {L : List (Option Value)} {st : List Value} {M : Mem} {x y : Int32} {off : Int} (tgt : Nat) (hd : decode code pc = .ok (.if_icmp .eq off, 3)) (ht : (pc : Int) + off = (tgt : Int)) (kt : x = y → LW Ln xs tgt L st M) (kf : ¬ x = y → LW Ln xs (pc + 3) L st M) : LW Ln xs pc L (.int y :: .int x :: st) M := by
  intro p l e s m below meth c b D dA ad H locs ls cx hP hS hL
  exact lv_icmp_eq cx.1.1 cx.1.2.1 hd ht (fun h => kt h p l e s m below meth c b D dA ad H locs ls cx hP hS hL) (fun h => kf h p l e s m below meth c b D dA ad H locs ls cx hP hS hL)
theorem lq_icmp_gt {Ln : Nat} {xs : Nat → Int32} {pc : Nat} {L : List (Option Value)} {st : List Value} {M : Mem} {x y : Int32} {off : Int} (tgt : Nat) (hd : decode code pc = .ok (.if_icmp .gt off, 3)) (ht : (pc : Int) + off = (tgt : Int)) (kt : y < x → LW Ln xs tgt L st M) (kf : ¬ y < x → LW Ln xs (pc + 3) L st M) : LW Ln xs pc L (.int y :: .int x :: st) M := by
  intro p l e s m below meth c b D dA ad H locs ls cx hP hS hL
  exact lv_icmp_gt cx.1.1 cx.1.2.1 hd ht (fun h => kt h p l e s m below meth c b D dA ad H locs ls cx hP hS hL) (fun h => kf h p l e s m below meth c b D dA ad H locs ls cx hP hS hL)
theorem lq_goto {Ln : Nat} {xs : Nat → Int32} {pc : Nat} {L : List (Option Value)} {st : List Value} {M : Mem} {off : Int} (tgt : Nat) (hd : decode code pc = .ok (.goto off, 3)) (ht : (pc : Int) + off = (tgt : Int)) (k : LW Ln xs tgt L st M) : LW Ln xs pc L st M := by
  intro p l e s m below meth c b D dA ad H locs ls cx hP hS hL
  exact lv_goto cx.1.1 cx.1.2.1 hd ht (k p l e s m below meth c b D dA ad H locs ls cx hP hS hL)
theorem lq_swOut {Ln : Nat} {xs : Nat → Int32} {pc : Nat} {L : List (Option Value)} {st : List Value} {M : Mem} {dflt lo hi : Int} {offs : Array Int} {len : Nat} {x : Int32} (tgt : Nat) (hd : decode code pc = .ok (.tableswitch dflt lo hi offs, len)) (h : x.toInt < lo ∨ hi < x.toInt) (ht : (pc : Int) + dflt = (tgt : Int)) (k : LW Ln xs tgt L st M) : LW Ln xs pc L (.int x :: st) M := by
  intro p l e s m below meth c b D dA ad H locs ls cx hP hS hL
  exact lv_tableOut cx.1.1 cx.1.2.1 hd h ht (k p l e s m below meth c b D dA ad H locs ls cx hP hS hL)
theorem lq_swIn {Ln : Nat} {xs : Nat → Int32} {pc : Nat} {L : List (Option Value)} {st : List Value} {M : Mem} {dflt lo hi : Int} {offs : Array Int} {len : Nat} {x : Int32} {off : Int} (tgt : Nat) (hd : decode code pc = .ok (.tableswitch dflt lo hi offs, len)) (h1 : ¬ x.toInt < lo) (h2 : ¬ hi < x.toInt) (ho : offs[(x.toInt - lo).toNat]? = some off) (ht : (pc : Int) + off = (tgt : Int)) (k : LW Ln xs tgt L st M) : LW Ln xs pc L (.int x :: st) M := by
  intro p l e s m below meth c b D dA ad H locs ls cx hP hS hL
  exact lv_tableIn cx.1.1 cx.1.2.1 hd h1 h2 ho ht (k p l e s m below meth c b D dA ad H locs ls cx hP hS hL)
theorem lq_sld {Ln : Nat} {xs : Nat → Int32} {pc : Nat} {L : List (Option Value)} {st : List Value} {M : Mem} {x : Int32} (hd : decode code pc = .ok (.iaload, 1)) (hin : vp_in x Ln) (k : LW Ln xs (pc + 1) L (.int (xs x.toNatClampNeg) :: st) M) : LW Ln xs pc L (.int x :: .ref 9999 :: st) M := by
  intro p l e s m below meth c b D dA ad H locs ls cx hP hS hL
  have h := va_sld (Q := lw_Z below #[Value.ref b] s) (l := l) (e := e) (R := room_1) (m := m) (args := #[Value.ref b]) (below := below) (meth := meth) (cells := 600000) (slots := 7302250) (ls := ls) (rest := st.map (cv ad)) cx.1.1 cx.1.2.1 cx.1.2.2.2.2.2.2.1 cx.1.2.2.2.2.2.2.2.1 cx.nA hS hin hd (k p l e s m below meth c b D dA ad H locs ls cx hP hS hL)
  have e9 : (cv ad (.ref 9999)) = .ref b := congrArg Value.ref cx.2.2.2.1
  show W p l e room_1 s m #[Value.ref b] below meth c H locs 600000 7302250 (lw_Z below #[Value.ref b] s) (F0 m pc ls (.int x :: cv ad (.ref 9999) :: st.map (cv ad)))
  rw [e9]
  exact h
theorem lq_slen {Ln : Nat} {xs : Nat → Int32} {pc : Nat} {L : List (Option Value)} {st : List Value} {M : Mem} (hd : decode code pc = .ok (.arraylength, 1)) (k : LW Ln xs (pc + 1) L (.int (Int32.ofNat Ln) :: st) M) : LW Ln xs pc L (.ref 9999 :: st) M := by
  intro p l e s m below meth c b D dA ad H locs ls cx hP hS hL
  have h := va_slen (Q := lw_Z below #[Value.ref b] s) (l := l) (e := e) (R := room_1) (m := m) (args := #[Value.ref b]) (below := below) (meth := meth) (cells := 600000) (slots := 7302250) (ls := ls) (rest := st.map (cv ad)) cx.1.1 cx.1.2.1 cx.1.2.2.2.2.2.2.1 cx.1.2.2.2.2.2.2.2.1 cx.nA hS hd (k p l e s m below meth c b D dA ad H locs ls cx hP hS hL)
  have e9 : (cv ad (.ref 9999)) = .ref b := congrArg Value.ref cx.2.2.2.1
  show W p l e room_1 s m #[Value.ref b] below meth c H locs 600000 7302250 (lw_Z below #[Value.ref b] s) (F0 m pc ls (cv ad (.ref 9999) :: st.map (cv ad)))
  rw [e9]
  exact h
theorem lq_ret {Ln : Nat} {xs : Nat → Int32} {pc : Nat} {L : List (Option Value)} {M : Mem} (hd : decode code pc = .ok (.ireturn, 1)) : LW Ln xs pc L [.int 1] M := by
  intro p l e s m below meth c b D dA ad H locs ls cx hP hS hL
  refine va_forget (fun q hq => ?_) (lw_ret cx.1.1 cx.1.2.1 cx.1.2.2.1 cx.1.2.2.2.2.2.2.2.2.1 hd)
  obtain ⟨k, hk, e1⟩ := hS.2.2 q hq
  rw [e1]
  exact cx.2.2.2.2 k hk
def lFit (u' : MI) : Bool := Nat.ble (u'.2.2.2.2.1 + 1) 9 && Nat.ble (8 + (u'.2.2.1 + 11) + u'.2.2.2.2.2) 338
theorem lFit_1 {u' : MI} (h : lFit u' = true) : (uRm u').frames + 1 ≤ room_1.frames ∧ 8 + (u'.2.2.1 + 11) + (uRm u').locals ≤ room_1.locals := by
  unfold lFit at h
  rw [Bool.and_eq_true] at h
  exact ⟨Nat.le_of_ble_eq_true h.1, Nat.le_of_ble_eq_true h.2⟩
section LQCALL
variable {p : Program} {l : Launch} {e : Env} {R : Room} {s : State} {m : MethodId} {args : Array Value} {below : List Frame} {meth : Method} {c : Code} {H : Heap} {locs : List Loc} {cells slots : Nat} {Q : State → Prop}
theorem lq_run {D : va_G} {dA : Nat → ClassId} {ad : Nat → Nat} {post' : Option Value → Mem → Prop} {pc : Nat} {ls : Array Slot} {st0 rest : List Value} {a : Array Value} (hr : va_Run p l e R s m args below meth c H locs cells slots 0 0 (F0 m pc ls st0) rest (uQc D dA ad post' a) (uA ad)) (hS : va_S (uA ad) s.heap H locs)
    (kk : ∀ (v : Option Value) (M' : Mem) (H1 : Heap) (locs1 : List Loc), post' v M' → va_P D uCls (uCells dA ad M') H1 → va_S (uA ad) s.heap H1 locs1 → W p l e R s m args below meth c H1 locs1 cells slots Q (F0 m (pc + 3) ls ((v.map (cv ad)).toList ++ rest))) : W p l e R s m args below meth c H locs cells slots Q (F0 m pc ls st0) := by
  intro T hT X
  obtain ⟨v, st₀, t, T', L, h0, X', hL, e1, e2, ⟨⟨v', M', hv, hp, hb⟩, hz, hk⟩, st⟩ := hr T hT X
  cases hv
  rw [h0] at hz hk
  obtain ⟨t2, a1, b1⟩ := kk v' M' T'.heap (locs ++ L) hp (by rw [e1]; exact hb)
    ⟨Nat.le_trans hS.1 (by rw [e1]; exact hz), fun q h1 h2 => by rw [e1, hk q (Nat.lt_of_lt_of_le h1 hS.1) h2]; exact hS.2.1 q h1 h2, fun q hq => by
      rcases List.mem_append.mp hq with h | h
      · exact hS.2.2 q h
      · exact hL q h⟩ T' rfl X'
  exact ⟨t2, st t2 a1, b1⟩
end LQCALL
theorem lq_virt {Ln : Nat} {xs : Nat → Int32} {pc : Nat} {L : List (Option Value)} {st : List Value} {M : Mem} {u' : MI} {i a ci : Nat} {fs : List Fk} {As st0 : List Value} {post' : Option Value → Mem → Prop} (hw : VL "UnlikeDrawnLaw" i ci u' As.length) (hcs : CS u' (.ref a :: As) M post') (hs : SO a ci fs) (hst : st0 = As.reverse ++ .ref a :: st) (hf : lFit u' = true) (hsum : Nat.ble ((st.map fun v => v.category).sum) 8 = true) (hd : decode code pc = .ok (.invokevirtual i, 3)) (k : ∀ (v : Option Value) (M' : Mem), post' v M' → LW Ln xs (pc + 3) L (v.toList ++ st) M') : LW Ln xs pc L st0 M := by
  intro p l e s m below meth c b D dA ad H locs ls cx hP hS hL
  obtain ⟨⟨w1, w2, w3, w4, w6⟩, w5, T, N, hc⟩ := hw
  have hts := cx.ts
  obtain ⟨q, hq, -⟩ := uCells_at (dA := dA) (ad := ad) (M := M) hs.2
  rw [uCell_O hs] at hq
  refine lq_run (va_runV (As := As.map (cv ad)) (rest := st.map (cv ad)) (Ts := gt) (own := "UnlikeDrawnLaw") (C := u'.1.cls) (b := ad a) ⟨cx.1.1, cx.1.2.1, cx.1.2.2.2.1, cx.1.2.2.2.2.1, hts⟩ (hcs l D dA ad) ⟨callB_of As.length hts (uGood (u := u') w6) rfl rfl rfl (hts _ w4) (hts _ w1) w5 (lFit_1 hf), hts _ w2, hts _ w3⟩ ⟨uBlind, va_recv cx.2.1.1 hP hc hq, fun U hU hW => ⟨rfl, by rw [hU]; exact hP, cx.2.1.moved hW, cx.2.2.1⟩⟩ rfl (by simp) hL.1 (by show st0.map (cv ad) = _; rw [hst, List.map_append, List.map_reverse]; rfl) (uSum hsum) hd ⟨Nat.le_refl _, Nat.le_refl _⟩) hS (fun v M' H1 locs1 hp hP1 hS1 => ?_)
  have h := k v M' hp p l e s m below meth c b D dA ad H1 locs1 ls cx hP1 hS1 hL
  rw [List.map_append] at h
  cases v <;> exact h
theorem lq_virtI {Ln : Nat} {xs : Nat → Int32} {pc : Nat} {L : List (Option Value)} {st : List Value} {M : Mem} {u' : MI} {i a ci : Nat} {fs : List Fk} {As st0 : List Value} {Q : Int32 → Mem → Prop} (hcs : CS u' (.ref a :: As) M (retI Q)) (hst : st0 = As.reverse ++ .ref a :: st) (hw : VL "UnlikeDrawnLaw" i ci u' As.length) (hs : SO a ci fs) (hf : lFit u' = true) (hsum : Nat.ble ((st.map fun v => v.category).sum) 8 = true) (hd : decode code pc = .ok (.invokevirtual i, 3)) (k : ∀ (r : Int32) (M' : Mem), Q r M' → LW Ln xs (pc + 3) L (.int r :: st) M') : LW Ln xs pc L st0 M := by
  refine lq_virt hw hcs hs hst hf hsum hd ?_
  rintro v M' ⟨r, rfl, h⟩
  exact k r M' h
theorem lq_virtJ {Ln : Nat} {xs : Nat → Int32} {pc : Nat} {L : List (Option Value)} {st : List Value} {M : Mem} {u' : MI} {i a ci : Nat} {fs : List Fk} {As st0 : List Value} {Q : Int64 → Mem → Prop} (hcs : CS u' (.ref a :: As) M (retJ Q)) (hst : st0 = As.reverse ++ .ref a :: st) (hw : VL "UnlikeDrawnLaw" i ci u' As.length) (hs : SO a ci fs) (hf : lFit u' = true) (hsum : Nat.ble ((st.map fun v => v.category).sum) 8 = true) (hd : decode code pc = .ok (.invokevirtual i, 3)) (k : ∀ (r : Int64) (M' : Mem), Q r M' → LW Ln xs (pc + 3) L (.long r :: st) M') : LW Ln xs pc L st0 M := by
  refine lq_virt hw hcs hs hst hf hsum hd ?_
  rintro v M' ⟨r, rfl, h⟩
  exact k r M' h
theorem sc_in {i j Ln : Nat} {y : Int32} (hy : y = nI j) (h : i + j < Ln) (hL : Ln ≤ 3072) : vp_in (nI i + y) Ln := by
  rw [hy, nI_add]
  exact vp_in_nI h (by omega)
theorem and63 (x : Int32) : ∃ k : Nat, k < 64 ∧ x &&& 63 = nI k := by
  have h1 : (x &&& 63).toBitVec.toNat ≤ 63 := by rw [Int32.toBitVec_and, BitVec.toNat_and]; exact Nat.and_le_right
  have h2 : (x &&& 63).toInt = ((x &&& 63).toBitVec.toNat : Int) := BitVec.toInt_eq_toNat_of_lt (by omega)
  exact ⟨_, by omega, nI_ofInt h2 (by omega)⟩
theorem law_le {i Ln : Nat} (hL : Ln ≤ 3072) (hi : i ≤ 4000) : ¬ Int32.ofNat Ln - 6 < nI i ↔ i + 6 ≤ Ln := by
  have e : Int32.ofNat Ln = nI Ln := rfl
  rw [e, i32_lt, Int32.toInt_sub, nI_toInt (by omega), nI_toInt (by omega), show (6 : Int32).toInt = 6 from rfl, Int.bmod_eq_of_le (by omega) (by omega)]
  omega
theorem ml_L_13 : VL "UnlikeDrawnLaw" 13 6 u_C_head 0 := ⟨⟨gt_at 195 (by decide +kernel) rfl, gt_at 196 (by decide +kernel) rfl, gt_at 197 (by decide +kernel) rfl, gt_at 1 (by decide +kernel) rfl, gc_C_head⟩, ⟨by decide +kernel, by decide +kernel, by decide +kernel⟩, _, _, rfl⟩
theorem ml_L_17 : VL "UnlikeDrawnLaw" 17 7 u_M_head 0 := ⟨⟨gt_at 727 (by decide +kernel) rfl, gt_at 728 (by decide +kernel) rfl, gt_at 729 (by decide +kernel) rfl, gt_at 9 (by decide +kernel) rfl, gc_M_head⟩, ⟨by decide +kernel, by decide +kernel, by decide +kernel⟩, _, _, rfl⟩
theorem ml_L_18 : VL "UnlikeDrawnLaw" 18 6 u_C_place 3 := ⟨⟨gt_at 199 (by decide +kernel) rfl, gt_at 200 (by decide +kernel) rfl, gt_at 201 (by decide +kernel) rfl, gt_at 1 (by decide +kernel) rfl, gc_C_place⟩, ⟨by decide +kernel, by decide +kernel, by decide +kernel⟩, _, _, rfl⟩
theorem ml_L_22 : VL "UnlikeDrawnLaw" 22 7 u_M_place 3 := ⟨⟨gt_at 731 (by decide +kernel) rfl, gt_at 732 (by decide +kernel) rfl, gt_at 733 (by decide +kernel) rfl, gt_at 9 (by decide +kernel) rfl, gc_M_place⟩, ⟨by decide +kernel, by decide +kernel, by decide +kernel⟩, _, _, rfl⟩
theorem ml_L_23 : VL "UnlikeDrawnLaw" 23 6 u_C_read 2 := ⟨⟨gt_at 213 (by decide +kernel) rfl, gt_at 214 (by decide +kernel) rfl, gt_at 215 (by decide +kernel) rfl, gt_at 1 (by decide +kernel) rfl, gc_C_read⟩, ⟨by decide +kernel, by decide +kernel, by decide +kernel⟩, _, _, rfl⟩
theorem ml_L_27 : VL "UnlikeDrawnLaw" 27 7 u_M_read 2 := ⟨⟨gt_at 744 (by decide +kernel) rfl, gt_at 745 (by decide +kernel) rfl, gt_at 746 (by decide +kernel) rfl, gt_at 9 (by decide +kernel) rfl, gc_M_read⟩, ⟨by decide +kernel, by decide +kernel, by decide +kernel⟩, _, _, rfl⟩
theorem ml_L_28 : VL "UnlikeDrawnLaw" 28 6 u_C_mean 2 := ⟨⟨gt_at 231 (by decide +kernel) rfl, gt_at 232 (by decide +kernel) rfl, gt_at 233 (by decide +kernel) rfl, gt_at 1 (by decide +kernel) rfl, gc_C_mean⟩, ⟨by decide +kernel, by decide +kernel, by decide +kernel⟩, _, _, rfl⟩
theorem ml_L_31 : VL "UnlikeDrawnLaw" 31 7 u_M_mean 2 := ⟨⟨gt_at 749 (by decide +kernel) rfl, gt_at 750 (by decide +kernel) rfl, gt_at 751 (by decide +kernel) rfl, gt_at 9 (by decide +kernel) rfl, gc_M_mean⟩, ⟨by decide +kernel, by decide +kernel, by decide +kernel⟩, _, _, rfl⟩
theorem ml_L_32 : VL "UnlikeDrawnLaw" 32 6 u_C_type 2 := ⟨⟨gt_at 243 (by decide +kernel) rfl, gt_at 244 (by decide +kernel) rfl, gt_at 245 (by decide +kernel) rfl, gt_at 1 (by decide +kernel) rfl, gc_C_type⟩, ⟨by decide +kernel, by decide +kernel, by decide +kernel⟩, _, _, rfl⟩
theorem ml_L_35 : VL "UnlikeDrawnLaw" 35 7 u_M_type 2 := ⟨⟨gt_at 761 (by decide +kernel) rfl, gt_at 762 (by decide +kernel) rfl, gt_at 763 (by decide +kernel) rfl, gt_at 9 (by decide +kernel) rfl, gc_M_type⟩, ⟨by decide +kernel, by decide +kernel, by decide +kernel⟩, _, _, rfl⟩
theorem ml_L_36 : VL "UnlikeDrawnLaw" 36 6 u_C_wipe 1 := ⟨⟨gt_at 278 (by decide +kernel) rfl, gt_at 279 (by decide +kernel) rfl, gt_at 280 (by decide +kernel) rfl, gt_at 1 (by decide +kernel) rfl, gc_C_wipe⟩, ⟨by decide +kernel, by decide +kernel, by decide +kernel⟩, _, _, rfl⟩
theorem ml_L_40 : VL "UnlikeDrawnLaw" 40 7 u_M_wipe 1 := ⟨⟨gt_at 769 (by decide +kernel) rfl, gt_at 770 (by decide +kernel) rfl, gt_at 771 (by decide +kernel) rfl, gt_at 9 (by decide +kernel) rfl, gc_M_wipe⟩, ⟨by decide +kernel, by decide +kernel, by decide +kernel⟩, _, _, rfl⟩
theorem ml_L_41 : VL "UnlikeDrawnLaw" 41 6 u_C_fault 1 := ⟨⟨gt_at 286 (by decide +kernel) rfl, gt_at 287 (by decide +kernel) rfl, gt_at 288 (by decide +kernel) rfl, gt_at 1 (by decide +kernel) rfl, gc_C_fault⟩, ⟨by decide +kernel, by decide +kernel, by decide +kernel⟩, _, _, rfl⟩
theorem ml_L_44 : VL "UnlikeDrawnLaw" 44 7 u_M_fault 1 := ⟨⟨gt_at 773 (by decide +kernel) rfl, gt_at 774 (by decide +kernel) rfl, gt_at 775 (by decide +kernel) rfl, gt_at 9 (by decide +kernel) rfl, gc_M_fault⟩, ⟨by decide +kernel, by decide +kernel, by decide +kernel⟩, _, _, rfl⟩
theorem ml_L_45 : VL "UnlikeDrawnLaw" 45 6 u_C_tenths 2 := ⟨⟨gt_at 290 (by decide +kernel) rfl, gt_at 291 (by decide +kernel) rfl, gt_at 292 (by decide +kernel) rfl, gt_at 1 (by decide +kernel) rfl, gc_C_tenths⟩, ⟨by decide +kernel, by decide +kernel, by decide +kernel⟩, _, _, rfl⟩
theorem ml_L_48 : VL "UnlikeDrawnLaw" 48 7 u_M_tenths 2 := ⟨⟨gt_at 800 (by decide +kernel) rfl, gt_at 801 (by decide +kernel) rfl, gt_at 802 (by decide +kernel) rfl, gt_at 9 (by decide +kernel) rfl, gc_M_tenths⟩, ⟨by decide +kernel, by decide +kernel, by decide +kernel⟩, _, _, rfl⟩
theorem ml_L_49 : VL "UnlikeDrawnLaw" 49 6 u_C_drawn 4 := ⟨⟨gt_at 294 (by decide +kernel) rfl, gt_at 295 (by decide +kernel) rfl, gt_at 296 (by decide +kernel) rfl, gt_at 1 (by decide +kernel) rfl, gc_C_drawn⟩, ⟨by decide +kernel, by decide +kernel, by decide +kernel⟩, _, _, rfl⟩
theorem ml_L_53 : VL "UnlikeDrawnLaw" 53 7 u_M_drawn 4 := ⟨⟨gt_at 807 (by decide +kernel) rfl, gt_at 808 (by decide +kernel) rfl, gt_at 809 (by decide +kernel) rfl, gt_at 9 (by decide +kernel) rfl, gc_M_drawn⟩, ⟨by decide +kernel, by decide +kernel, by decide +kernel⟩, _, _, rfl⟩
theorem ml_L_54 : VL "UnlikeDrawnLaw" 54 6 u_C_set 2 := ⟨⟨gt_at 304 (by decide +kernel) rfl, gt_at 305 (by decide +kernel) rfl, gt_at 306 (by decide +kernel) rfl, gt_at 1 (by decide +kernel) rfl, gc_C_set⟩, ⟨by decide +kernel, by decide +kernel, by decide +kernel⟩, _, _, rfl⟩
theorem ml_L_57 : VL "UnlikeDrawnLaw" 57 7 u_M_set 2 := ⟨⟨gt_at 814 (by decide +kernel) rfl, gt_at 815 (by decide +kernel) rfl, gt_at 816 (by decide +kernel) rfl, gt_at 9 (by decide +kernel) rfl, gc_M_set⟩, ⟨by decide +kernel, by decide +kernel, by decide +kernel⟩, _, _, rfl⟩
theorem ml_L_58 : VL "UnlikeDrawnLaw" 58 6 u_C_draw 4 := ⟨⟨gt_at 308 (by decide +kernel) rfl, gt_at 309 (by decide +kernel) rfl, gt_at 310 (by decide +kernel) rfl, gt_at 1 (by decide +kernel) rfl, gc_C_draw⟩, ⟨by decide +kernel, by decide +kernel, by decide +kernel⟩, _, _, rfl⟩
theorem ml_L_61 : VL "UnlikeDrawnLaw" 61 7 u_M_draw 4 := ⟨⟨gt_at 819 (by decide +kernel) rfl, gt_at 820 (by decide +kernel) rfl, gt_at 821 (by decide +kernel) rfl, gt_at 9 (by decide +kernel) rfl, gc_M_draw⟩, ⟨by decide +kernel, by decide +kernel, by decide +kernel⟩, _, _, rfl⟩
theorem ml_L_62 : VL "UnlikeDrawnLaw" 62 6 u_C_copied 3 := ⟨⟨gt_at 330 (by decide +kernel) rfl, gt_at 331 (by decide +kernel) rfl, gt_at 332 (by decide +kernel) rfl, gt_at 1 (by decide +kernel) rfl, gc_C_copied⟩, ⟨by decide +kernel, by decide +kernel, by decide +kernel⟩, _, _, rfl⟩
theorem ml_L_65 : VL "UnlikeDrawnLaw" 65 7 u_M_copied 3 := ⟨⟨gt_at 827 (by decide +kernel) rfl, gt_at 828 (by decide +kernel) rfl, gt_at 829 (by decide +kernel) rfl, gt_at 9 (by decide +kernel) rfl, gc_M_copied⟩, ⟨by decide +kernel, by decide +kernel, by decide +kernel⟩, _, _, rfl⟩
theorem ml_L_66 : VL "UnlikeDrawnLaw" 66 6 u_C_line 2 := ⟨⟨gt_at 341 (by decide +kernel) rfl, gt_at 342 (by decide +kernel) rfl, gt_at 343 (by decide +kernel) rfl, gt_at 1 (by decide +kernel) rfl, gc_C_line⟩, ⟨by decide +kernel, by decide +kernel, by decide +kernel⟩, _, _, rfl⟩
theorem ml_L_69 : VL "UnlikeDrawnLaw" 69 7 u_M_line 2 := ⟨⟨gt_at 835 (by decide +kernel) rfl, gt_at 836 (by decide +kernel) rfl, gt_at 837 (by decide +kernel) rfl, gt_at 9 (by decide +kernel) rfl, gc_M_line⟩, ⟨by decide +kernel, by decide +kernel, by decide +kernel⟩, _, _, rfl⟩
theorem ml_L_70 : VL "UnlikeDrawnLaw" 70 6 u_C_about 2 := ⟨⟨gt_at 345 (by decide +kernel) rfl, gt_at 346 (by decide +kernel) rfl, gt_at 347 (by decide +kernel) rfl, gt_at 1 (by decide +kernel) rfl, gc_C_about⟩, ⟨by decide +kernel, by decide +kernel, by decide +kernel⟩, _, _, rfl⟩
theorem ml_L_73 : VL "UnlikeDrawnLaw" 73 7 u_M_about 2 := ⟨⟨gt_at 854 (by decide +kernel) rfl, gt_at 855 (by decide +kernel) rfl, gt_at 856 (by decide +kernel) rfl, gt_at 9 (by decide +kernel) rfl, gc_M_about⟩, ⟨by decide +kernel, by decide +kernel, by decide +kernel⟩, _, _, rfl⟩
theorem ml_L_74 : VL "UnlikeDrawnLaw" 74 6 u_C_unlike 2 := ⟨⟨gt_at 373 (by decide +kernel) rfl, gt_at 374 (by decide +kernel) rfl, gt_at 375 (by decide +kernel) rfl, gt_at 1 (by decide +kernel) rfl, gc_C_unlike⟩, ⟨by decide +kernel, by decide +kernel, by decide +kernel⟩, _, _, rfl⟩
theorem ml_L_77 : VL "UnlikeDrawnLaw" 77 7 u_M_unlike 2 := ⟨⟨gt_at 839 (by decide +kernel) rfl, gt_at 840 (by decide +kernel) rfl, gt_at 841 (by decide +kernel) rfl, gt_at 9 (by decide +kernel) rfl, gc_M_unlike⟩, ⟨by decide +kernel, by decide +kernel, by decide +kernel⟩, _, _, rfl⟩
theorem ml_L_78 : VL "UnlikeDrawnLaw" 78 6 u_C_knower 2 := ⟨⟨gt_at 377 (by decide +kernel) rfl, gt_at 378 (by decide +kernel) rfl, gt_at 379 (by decide +kernel) rfl, gt_at 1 (by decide +kernel) rfl, gc_C_knower⟩, ⟨by decide +kernel, by decide +kernel, by decide +kernel⟩, _, _, rfl⟩
theorem ml_L_81 : VL "UnlikeDrawnLaw" 81 7 u_M_knower 2 := ⟨⟨gt_at 878 (by decide +kernel) rfl, gt_at 879 (by decide +kernel) rfl, gt_at 880 (by decide +kernel) rfl, gt_at 9 (by decide +kernel) rfl, gc_M_knower⟩, ⟨by decide +kernel, by decide +kernel, by decide +kernel⟩, _, _, rfl⟩
theorem ml_L_82 : VL "UnlikeDrawnLaw" 82 6 u_C_look 3 := ⟨⟨gt_at 381 (by decide +kernel) rfl, gt_at 382 (by decide +kernel) rfl, gt_at 383 (by decide +kernel) rfl, gt_at 1 (by decide +kernel) rfl, gc_C_look⟩, ⟨by decide +kernel, by decide +kernel, by decide +kernel⟩, _, _, rfl⟩
theorem ml_L_85 : VL "UnlikeDrawnLaw" 85 7 u_M_look 3 := ⟨⟨gt_at 882 (by decide +kernel) rfl, gt_at 883 (by decide +kernel) rfl, gt_at 884 (by decide +kernel) rfl, gt_at 9 (by decide +kernel) rfl, gc_M_look⟩, ⟨by decide +kernel, by decide +kernel, by decide +kernel⟩, _, _, rfl⟩
theorem ml_L_86 : VL "UnlikeDrawnLaw" 86 6 u_C_leans 2 := ⟨⟨gt_at 394 (by decide +kernel) rfl, gt_at 395 (by decide +kernel) rfl, gt_at 396 (by decide +kernel) rfl, gt_at 1 (by decide +kernel) rfl, gc_C_leans⟩, ⟨by decide +kernel, by decide +kernel, by decide +kernel⟩, _, _, rfl⟩
theorem ml_L_89 : VL "UnlikeDrawnLaw" 89 7 u_M_leans 2 := ⟨⟨gt_at 890 (by decide +kernel) rfl, gt_at 891 (by decide +kernel) rfl, gt_at 892 (by decide +kernel) rfl, gt_at 9 (by decide +kernel) rfl, gc_M_leans⟩, ⟨by decide +kernel, by decide +kernel, by decide +kernel⟩, _, _, rfl⟩
theorem ml_L_90 : VL "UnlikeDrawnLaw" 90 6 u_C_score 4 := ⟨⟨gt_at 398 (by decide +kernel) rfl, gt_at 399 (by decide +kernel) rfl, gt_at 400 (by decide +kernel) rfl, gt_at 1 (by decide +kernel) rfl, gc_C_score⟩, ⟨by decide +kernel, by decide +kernel, by decide +kernel⟩, _, _, rfl⟩
theorem ml_L_94 : VL "UnlikeDrawnLaw" 94 7 u_M_score 4 := ⟨⟨gt_at 894 (by decide +kernel) rfl, gt_at 895 (by decide +kernel) rfl, gt_at 896 (by decide +kernel) rfl, gt_at 9 (by decide +kernel) rfl, gc_M_score⟩, ⟨by decide +kernel, by decide +kernel, by decide +kernel⟩, _, _, rfl⟩
theorem ml_L_95 : VL "UnlikeDrawnLaw" 95 6 u_C_named 3 := ⟨⟨gt_at 423 (by decide +kernel) rfl, gt_at 424 (by decide +kernel) rfl, gt_at 425 (by decide +kernel) rfl, gt_at 1 (by decide +kernel) rfl, gc_C_named⟩, ⟨by decide +kernel, by decide +kernel, by decide +kernel⟩, _, _, rfl⟩
theorem ml_L_98 : VL "UnlikeDrawnLaw" 98 7 u_M_named 3 := ⟨⟨gt_at 923 (by decide +kernel) rfl, gt_at 924 (by decide +kernel) rfl, gt_at 925 (by decide +kernel) rfl, gt_at 9 (by decide +kernel) rfl, gc_M_named⟩, ⟨by decide +kernel, by decide +kernel, by decide +kernel⟩, _, _, rfl⟩
theorem ml_L_99 : VL "UnlikeDrawnLaw" 99 6 u_C_much 4 := ⟨⟨gt_at 448 (by decide +kernel) rfl, gt_at 449 (by decide +kernel) rfl, gt_at 450 (by decide +kernel) rfl, gt_at 1 (by decide +kernel) rfl, gc_C_much⟩, ⟨by decide +kernel, by decide +kernel, by decide +kernel⟩, _, _, rfl⟩
theorem ml_L_102 : VL "UnlikeDrawnLaw" 102 7 u_M_much 4 := ⟨⟨gt_at 942 (by decide +kernel) rfl, gt_at 943 (by decide +kernel) rfl, gt_at 944 (by decide +kernel) rfl, gt_at 9 (by decide +kernel) rfl, gc_M_much⟩, ⟨by decide +kernel, by decide +kernel, by decide +kernel⟩, _, _, rfl⟩
theorem ml_L_103 : VL "UnlikeDrawnLaw" 103 6 u_C_few 4 := ⟨⟨gt_at 472 (by decide +kernel) rfl, gt_at 473 (by decide +kernel) rfl, gt_at 474 (by decide +kernel) rfl, gt_at 1 (by decide +kernel) rfl, gc_C_few⟩, ⟨by decide +kernel, by decide +kernel, by decide +kernel⟩, _, _, rfl⟩
theorem ml_L_106 : VL "UnlikeDrawnLaw" 106 7 u_M_few 4 := ⟨⟨gt_at 950 (by decide +kernel) rfl, gt_at 951 (by decide +kernel) rfl, gt_at 952 (by decide +kernel) rfl, gt_at 9 (by decide +kernel) rfl, gc_M_few⟩, ⟨by decide +kernel, by decide +kernel, by decide +kernel⟩, _, _, rfl⟩
theorem ml_L_107 : VL "UnlikeDrawnLaw" 107 6 u_C_stands 4 := ⟨⟨gt_at 486 (by decide +kernel) rfl, gt_at 487 (by decide +kernel) rfl, gt_at 488 (by decide +kernel) rfl, gt_at 1 (by decide +kernel) rfl, gc_C_stands⟩, ⟨by decide +kernel, by decide +kernel, by decide +kernel⟩, _, _, rfl⟩
theorem ml_L_110 : VL "UnlikeDrawnLaw" 110 7 u_M_stands 4 := ⟨⟨gt_at 965 (by decide +kernel) rfl, gt_at 966 (by decide +kernel) rfl, gt_at 967 (by decide +kernel) rfl, gt_at 9 (by decide +kernel) rfl, gc_M_stands⟩, ⟨by decide +kernel, by decide +kernel, by decide +kernel⟩, _, _, rfl⟩
theorem ml_L_111 : VL "UnlikeDrawnLaw" 111 6 u_C_grows 3 := ⟨⟨gt_at 490 (by decide +kernel) rfl, gt_at 491 (by decide +kernel) rfl, gt_at 492 (by decide +kernel) rfl, gt_at 1 (by decide +kernel) rfl, gc_C_grows⟩, ⟨by decide +kernel, by decide +kernel, by decide +kernel⟩, _, _, rfl⟩
theorem ml_L_115 : VL "UnlikeDrawnLaw" 115 7 u_M_grows 3 := ⟨⟨gt_at 969 (by decide +kernel) rfl, gt_at 970 (by decide +kernel) rfl, gt_at 971 (by decide +kernel) rfl, gt_at 9 (by decide +kernel) rfl, gc_M_grows⟩, ⟨by decide +kernel, by decide +kernel, by decide +kernel⟩, _, _, rfl⟩
theorem ml_L_116 : VL "UnlikeDrawnLaw" 116 6 u_C_back 3 := ⟨⟨gt_at 494 (by decide +kernel) rfl, gt_at 495 (by decide +kernel) rfl, gt_at 496 (by decide +kernel) rfl, gt_at 1 (by decide +kernel) rfl, gc_C_back⟩, ⟨by decide +kernel, by decide +kernel, by decide +kernel⟩, _, _, rfl⟩
theorem ml_L_119 : VL "UnlikeDrawnLaw" 119 7 u_M_back 3 := ⟨⟨gt_at 973 (by decide +kernel) rfl, gt_at 974 (by decide +kernel) rfl, gt_at 975 (by decide +kernel) rfl, gt_at 9 (by decide +kernel) rfl, gc_M_back⟩, ⟨by decide +kernel, by decide +kernel, by decide +kernel⟩, _, _, rfl⟩
theorem ml_L_120 : VL "UnlikeDrawnLaw" 120 6 u_C_near 2 := ⟨⟨gt_at 502 (by decide +kernel) rfl, gt_at 503 (by decide +kernel) rfl, gt_at 504 (by decide +kernel) rfl, gt_at 1 (by decide +kernel) rfl, gc_C_near⟩, ⟨by decide +kernel, by decide +kernel, by decide +kernel⟩, _, _, rfl⟩
theorem ml_L_123 : VL "UnlikeDrawnLaw" 123 7 u_M_near 2 := ⟨⟨gt_at 981 (by decide +kernel) rfl, gt_at 982 (by decide +kernel) rfl, gt_at 983 (by decide +kernel) rfl, gt_at 9 (by decide +kernel) rfl, gc_M_near⟩, ⟨by decide +kernel, by decide +kernel, by decide +kernel⟩, _, _, rfl⟩
theorem ml_L_124 : VL "UnlikeDrawnLaw" 124 6 u_C_witness 3 := ⟨⟨gt_at 507 (by decide +kernel) rfl, gt_at 508 (by decide +kernel) rfl, gt_at 509 (by decide +kernel) rfl, gt_at 1 (by decide +kernel) rfl, gc_C_witness⟩, ⟨by decide +kernel, by decide +kernel, by decide +kernel⟩, _, _, rfl⟩
theorem ml_L_127 : VL "UnlikeDrawnLaw" 127 7 u_M_witness 3 := ⟨⟨gt_at 989 (by decide +kernel) rfl, gt_at 990 (by decide +kernel) rfl, gt_at 991 (by decide +kernel) rfl, gt_at 9 (by decide +kernel) rfl, gc_M_witness⟩, ⟨by decide +kernel, by decide +kernel, by decide +kernel⟩, _, _, rfl⟩
theorem ml_L_128 : VL "UnlikeDrawnLaw" 128 6 u_C_plainest 1 := ⟨⟨gt_at 515 (by decide +kernel) rfl, gt_at 516 (by decide +kernel) rfl, gt_at 517 (by decide +kernel) rfl, gt_at 1 (by decide +kernel) rfl, gc_C_plainest⟩, ⟨by decide +kernel, by decide +kernel, by decide +kernel⟩, _, _, rfl⟩
theorem ml_L_131 : VL "UnlikeDrawnLaw" 131 7 u_M_plainest 1 := ⟨⟨gt_at 997 (by decide +kernel) rfl, gt_at 998 (by decide +kernel) rfl, gt_at 999 (by decide +kernel) rfl, gt_at 9 (by decide +kernel) rfl, gc_M_plainest⟩, ⟨by decide +kernel, by decide +kernel, by decide +kernel⟩, _, _, rfl⟩
theorem ml_L_132 : VL "UnlikeDrawnLaw" 132 6 u_C_sheet 3 := ⟨⟨gt_at 524 (by decide +kernel) rfl, gt_at 525 (by decide +kernel) rfl, gt_at 526 (by decide +kernel) rfl, gt_at 1 (by decide +kernel) rfl, gc_C_sheet⟩, ⟨by decide +kernel, by decide +kernel, by decide +kernel⟩, _, _, rfl⟩
theorem ml_L_135 : VL "UnlikeDrawnLaw" 135 7 u_M_sheet 3 := ⟨⟨gt_at 687 (by decide +kernel) rfl, gt_at 688 (by decide +kernel) rfl, gt_at 689 (by decide +kernel) rfl, gt_at 9 (by decide +kernel) rfl, gc_M_sheet⟩, ⟨by decide +kernel, by decide +kernel, by decide +kernel⟩, _, _, rfl⟩
theorem ml_L_136 : VL "UnlikeDrawnLaw" 136 6 u_C_lose 1 := ⟨⟨gt_at 536 (by decide +kernel) rfl, gt_at 537 (by decide +kernel) rfl, gt_at 538 (by decide +kernel) rfl, gt_at 1 (by decide +kernel) rfl, gc_C_lose⟩, ⟨by decide +kernel, by decide +kernel, by decide +kernel⟩, _, _, rfl⟩
theorem ml_L_139 : VL "UnlikeDrawnLaw" 139 7 u_M_lose 1 := ⟨⟨gt_at 703 (by decide +kernel) rfl, gt_at 704 (by decide +kernel) rfl, gt_at 705 (by decide +kernel) rfl, gt_at 9 (by decide +kernel) rfl, gc_M_lose⟩, ⟨by decide +kernel, by decide +kernel, by decide +kernel⟩, _, _, rfl⟩
theorem ml_L_140 : VL "UnlikeDrawnLaw" 140 6 u_C_lay 4 := ⟨⟨gt_at 540 (by decide +kernel) rfl, gt_at 541 (by decide +kernel) rfl, gt_at 542 (by decide +kernel) rfl, gt_at 1 (by decide +kernel) rfl, gc_C_lay⟩, ⟨by decide +kernel, by decide +kernel, by decide +kernel⟩, _, _, rfl⟩
theorem ml_L_143 : VL "UnlikeDrawnLaw" 143 7 u_M_lay 4 := ⟨⟨gt_at 707 (by decide +kernel) rfl, gt_at 708 (by decide +kernel) rfl, gt_at 709 (by decide +kernel) rfl, gt_at 9 (by decide +kernel) rfl, gc_M_lay⟩, ⟨by decide +kernel, by decide +kernel, by decide +kernel⟩, _, _, rfl⟩
theorem ml_L_144 : VL "UnlikeDrawnLaw" 144 6 u_C_get 3 := ⟨⟨gt_at 551 (by decide +kernel) rfl, gt_at 552 (by decide +kernel) rfl, gt_at 553 (by decide +kernel) rfl, gt_at 1 (by decide +kernel) rfl, gc_C_get⟩, ⟨by decide +kernel, by decide +kernel, by decide +kernel⟩, _, _, rfl⟩
theorem ml_L_147 : VL "UnlikeDrawnLaw" 147 7 u_M_get 3 := ⟨⟨gt_at 718 (by decide +kernel) rfl, gt_at 719 (by decide +kernel) rfl, gt_at 720 (by decide +kernel) rfl, gt_at 9 (by decide +kernel) rfl, gc_M_get⟩, ⟨by decide +kernel, by decide +kernel, by decide +kernel⟩, _, _, rfl⟩
theorem ml_L_148 : VL "UnlikeDrawnLaw" 148 6 u_C_copy 5 := ⟨⟨gt_at 556 (by decide +kernel) rfl, gt_at 557 (by decide +kernel) rfl, gt_at 558 (by decide +kernel) rfl, gt_at 1 (by decide +kernel) rfl, gc_C_copy⟩, ⟨by decide +kernel, by decide +kernel, by decide +kernel⟩, _, _, rfl⟩
theorem ml_L_152 : VL "UnlikeDrawnLaw" 152 7 u_M_copy 5 := ⟨⟨gt_at 723 (by decide +kernel) rfl, gt_at 724 (by decide +kernel) rfl, gt_at 725 (by decide +kernel) rfl, gt_at 9 (by decide +kernel) rfl, gc_M_copy⟩, ⟨by decide +kernel, by decide +kernel, by decide +kernel⟩, _, _, rfl⟩
theorem ml_L_153 : VL "UnlikeDrawnLaw" 153 6 u_C_write 2 := ⟨⟨gt_at 564 (by decide +kernel) rfl, gt_at 565 (by decide +kernel) rfl, gt_at 566 (by decide +kernel) rfl, gt_at 1 (by decide +kernel) rfl, gc_C_write⟩, ⟨by decide +kernel, by decide +kernel, by decide +kernel⟩, _, _, rfl⟩
theorem ml_L_156 : VL "UnlikeDrawnLaw" 156 7 u_M_write 2 := ⟨⟨gt_at 1001 (by decide +kernel) rfl, gt_at 1002 (by decide +kernel) rfl, gt_at 1003 (by decide +kernel) rfl, gt_at 9 (by decide +kernel) rfl, gc_M_write⟩, ⟨by decide +kernel, by decide +kernel, by decide +kernel⟩, _, _, rfl⟩
theorem ml_L_157 : VL "UnlikeDrawnLaw" 157 6 u_C_count 1 := ⟨⟨gt_at 568 (by decide +kernel) rfl, gt_at 569 (by decide +kernel) rfl, gt_at 570 (by decide +kernel) rfl, gt_at 1 (by decide +kernel) rfl, gc_C_count⟩, ⟨by decide +kernel, by decide +kernel, by decide +kernel⟩, _, _, rfl⟩
theorem ml_L_160 : VL "UnlikeDrawnLaw" 160 7 u_M_count 1 := ⟨⟨gt_at 1005 (by decide +kernel) rfl, gt_at 1006 (by decide +kernel) rfl, gt_at 1007 (by decide +kernel) rfl, gt_at 9 (by decide +kernel) rfl, gc_M_count⟩, ⟨by decide +kernel, by decide +kernel, by decide +kernel⟩, _, _, rfl⟩
theorem ml_L_161 : VL "UnlikeDrawnLaw" 161 6 u_C_digest 0 := ⟨⟨gt_at 576 (by decide +kernel) rfl, gt_at 577 (by decide +kernel) rfl, gt_at 578 (by decide +kernel) rfl, gt_at 1 (by decide +kernel) rfl, gc_C_digest⟩, ⟨by decide +kernel, by decide +kernel, by decide +kernel⟩, _, _, rfl⟩
theorem ml_L_165 : VL "UnlikeDrawnLaw" 165 7 u_M_digest 0 := ⟨⟨gt_at 1009 (by decide +kernel) rfl, gt_at 1010 (by decide +kernel) rfl, gt_at 1011 (by decide +kernel) rfl, gt_at 9 (by decide +kernel) rfl, gc_M_digest⟩, ⟨by decide +kernel, by decide +kernel, by decide +kernel⟩, _, _, rfl⟩
