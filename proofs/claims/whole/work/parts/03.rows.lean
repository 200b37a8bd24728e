/-! ===== a row an instruction, over the clean layer ===== -/
theorem cw_iconst {u : MI} {post : Option Value → Mem → Prop} {pc : Nat} {L : List (Option Value)} {st : List Value} {M : Mem} {n : Int} {v : Int32} (hd : decode u.2.1 pc = .ok (.iconst n, 1)) (hv : Int32.ofInt n = v) (k : CW u post (pc + 1) L (.int v :: st) M) : CW u post pc L (st) M := by
  intro p l e s m args below meth c D dA ad H locs ls cx hP hS hL
  exact lv_iconst cx.1 cx.2.1 hd hv (k p l e s m args below meth c D dA ad H locs ls cx hP hS hL)
theorem cw_bipush {u : MI} {post : Option Value → Mem → Prop} {pc : Nat} {L : List (Option Value)} {st : List Value} {M : Mem} {n : Int} {v : Int32} (hd : decode u.2.1 pc = .ok (.bipush n, 2)) (hv : (Int8.ofInt n).toInt32 = v) (k : CW u post (pc + 2) L (.int v :: st) M) : CW u post pc L (st) M := by
  intro p l e s m args below meth c D dA ad H locs ls cx hP hS hL
  exact lv_bipush cx.1 cx.2.1 hd hv (k p l e s m args below meth c D dA ad H locs ls cx hP hS hL)
theorem cw_sipush {u : MI} {post : Option Value → Mem → Prop} {pc : Nat} {L : List (Option Value)} {st : List Value} {M : Mem} {n : Int} {v : Int32} (hd : decode u.2.1 pc = .ok (.sipush n, 3)) (hv : (Int16.ofInt n).toInt32 = v) (k : CW u post (pc + 3) L (.int v :: st) M) : CW u post pc L (st) M := by
  intro p l e s m args below meth c D dA ad H locs ls cx hP hS hL
  exact lv_sipush cx.1 cx.2.1 hd hv (k p l e s m args below meth c D dA ad H locs ls cx hP hS hL)
theorem cw_lconst {u : MI} {post : Option Value → Mem → Prop} {pc : Nat} {L : List (Option Value)} {st : List Value} {M : Mem} {n : Fin 2} {v : Int64} (hd : decode u.2.1 pc = .ok (.lconst n, 1)) (hv : Int64.ofNat (n : Nat) = v) (k : CW u post (pc + 1) L (.long v :: st) M) : CW u post pc L (st) M := by
  intro p l e s m args below meth c D dA ad H locs ls cx hP hS hL
  exact lv_lconst cx.1 cx.2.1 hd hv (k p l e s m args below meth c D dA ad H locs ls cx hP hS hL)
theorem cw_iload_n {u : MI} {post : Option Value → Mem → Prop} {pc : Nat} {L : List (Option Value)} {st : List Value} {M : Mem} {n : Fin 4} {x : Int32} (hd : decode u.2.1 pc = .ok (.iload_n n, 1)) (hl : lget L (n : Nat) = some (.int x)) (k : CW u post (pc + 1) L (.int x :: st) M) : CW u post pc L (st) M := by
  intro p l e s m args below meth c D dA ad H locs ls cx hP hS hL
  exact lv_iload_n cx.1 cx.2.1 hd rfl (al_get hL hl) (k p l e s m args below meth c D dA ad H locs ls cx hP hS hL)
theorem cw_iload {u : MI} {post : Option Value → Mem → Prop} {pc : Nat} {L : List (Option Value)} {st : List Value} {M : Mem} {i : Nat} {x : Int32} (hd : decode u.2.1 pc = .ok (.iload i, 2)) (hl : lget L i = some (.int x)) (k : CW u post (pc + 2) L (.int x :: st) M) : CW u post pc L (st) M := by
  intro p l e s m args below meth c D dA ad H locs ls cx hP hS hL
  exact lv_iload cx.1 cx.2.1 hd (al_get hL hl) (k p l e s m args below meth c D dA ad H locs ls cx hP hS hL)
theorem cw_istore_n {u : MI} {post : Option Value → Mem → Prop} {pc : Nat} {L : List (Option Value)} {st : List Value} {M : Mem} {i : Fin 4} {x : Int32} (hd : decode u.2.1 pc = .ok (.istore_n i, 1)) (hn : Nat.ble ((i : Nat) + 1) u.2.2.1 = true) (k : CW u post (pc + 1) (lset1 L (i : Nat) (.int x)) st M) : CW u post pc L (.int x :: st) M := by
  intro p l e s m args below meth c D dA ad H locs ls cx hP hS hL
  exact lv_istore_n cx.1 cx.2.1 hd rfl hL (Nat.le_of_ble_eq_true hn) rfl (fun ls' hL' => k p l e s m args below meth c D dA ad H locs ls' cx hP hS (al_set1 (x := .int x) hL'))
theorem cw_istore {u : MI} {post : Option Value → Mem → Prop} {pc : Nat} {L : List (Option Value)} {st : List Value} {M : Mem} {i : Nat} {x : Int32} (hd : decode u.2.1 pc = .ok (.istore i, 2)) (hn : Nat.ble (i + 1) u.2.2.1 = true) (k : CW u post (pc + 2) (lset1 L i (.int x)) st M) : CW u post pc L (.int x :: st) M := by
  intro p l e s m args below meth c D dA ad H locs ls cx hP hS hL
  exact lv_istore cx.1 cx.2.1 hd hL (Nat.le_of_ble_eq_true hn) rfl (fun ls' hL' => k p l e s m args below meth c D dA ad H locs ls' cx hP hS (al_set1 (x := .int x) hL'))
theorem cw_lload_n {u : MI} {post : Option Value → Mem → Prop} {pc : Nat} {L : List (Option Value)} {st : List Value} {M : Mem} {n : Fin 4} {x : Int64} (hd : decode u.2.1 pc = .ok (.lload_n n, 1)) (hl : lget L (n : Nat) = some (.long x)) (k : CW u post (pc + 1) L (.long x :: st) M) : CW u post pc L (st) M := by
  intro p l e s m args below meth c D dA ad H locs ls cx hP hS hL
  exact lv_lload_n cx.1 cx.2.1 hd rfl (al_get hL hl) (k p l e s m args below meth c D dA ad H locs ls cx hP hS hL)
theorem cw_lload {u : MI} {post : Option Value → Mem → Prop} {pc : Nat} {L : List (Option Value)} {st : List Value} {M : Mem} {i : Nat} {x : Int64} (hd : decode u.2.1 pc = .ok (.lload i, 2)) (hl : lget L i = some (.long x)) (k : CW u post (pc + 2) L (.long x :: st) M) : CW u post pc L (st) M := by
  intro p l e s m args below meth c D dA ad H locs ls cx hP hS hL
  exact lv_lload cx.1 cx.2.1 hd (al_get hL hl) (k p l e s m args below meth c D dA ad H locs ls cx hP hS hL)
theorem cw_lstore_n {u : MI} {post : Option Value → Mem → Prop} {pc : Nat} {L : List (Option Value)} {st : List Value} {M : Mem} {i : Fin 4} {x : Int64} (hd : decode u.2.1 pc = .ok (.lstore_n i, 1)) (hn : Nat.ble ((i : Nat) + 1 + 1) u.2.2.1 = true) (k : CW u post (pc + 1) (lset2 L (i : Nat) (.long x)) st M) : CW u post pc L (.long x :: st) M := by
  intro p l e s m args below meth c D dA ad H locs ls cx hP hS hL
  exact lv_lstore_n cx.1 cx.2.1 hd rfl hL (Nat.le_of_ble_eq_true hn) rfl (fun ls' hL' => k p l e s m args below meth c D dA ad H locs ls' cx hP hS (al_set2 (x := .long x) hL'))
theorem cw_lstore {u : MI} {post : Option Value → Mem → Prop} {pc : Nat} {L : List (Option Value)} {st : List Value} {M : Mem} {i : Nat} {x : Int64} (hd : decode u.2.1 pc = .ok (.lstore i, 2)) (hn : Nat.ble (i + 1 + 1) u.2.2.1 = true) (k : CW u post (pc + 2) (lset2 L i (.long x)) st M) : CW u post pc L (.long x :: st) M := by
  intro p l e s m args below meth c D dA ad H locs ls cx hP hS hL
  exact lv_lstore cx.1 cx.2.1 hd hL (Nat.le_of_ble_eq_true hn) rfl (fun ls' hL' => k p l e s m args below meth c D dA ad H locs ls' cx hP hS (al_set2 (x := .long x) hL'))
theorem cw_aload_n {u : MI} {post : Option Value → Mem → Prop} {pc : Nat} {L : List (Option Value)} {st : List Value} {M : Mem} {n : Fin 4} {x : Nat} (hd : decode u.2.1 pc = .ok (.aload_n n, 1)) (hl : lget L (n : Nat) = some (.ref x)) (k : CW u post (pc + 1) L (.ref x :: st) M) : CW u post pc L (st) M := by
  intro p l e s m args below meth c D dA ad H locs ls cx hP hS hL
  exact lv_aload_n cx.1 cx.2.1 hd rfl (al_get hL hl) (k p l e s m args below meth c D dA ad H locs ls cx hP hS hL)
theorem cw_aload {u : MI} {post : Option Value → Mem → Prop} {pc : Nat} {L : List (Option Value)} {st : List Value} {M : Mem} {i : Nat} {x : Nat} (hd : decode u.2.1 pc = .ok (.aload i, 2)) (hl : lget L i = some (.ref x)) (k : CW u post (pc + 2) L (.ref x :: st) M) : CW u post pc L (st) M := by
  intro p l e s m args below meth c D dA ad H locs ls cx hP hS hL
  exact lv_aload cx.1 cx.2.1 hd (al_get hL hl) (k p l e s m args below meth c D dA ad H locs ls cx hP hS hL)
theorem cw_astore_n {u : MI} {post : Option Value → Mem → Prop} {pc : Nat} {L : List (Option Value)} {st : List Value} {M : Mem} {i : Fin 4} {x : Nat} (hd : decode u.2.1 pc = .ok (.astore_n i, 1)) (hn : Nat.ble ((i : Nat) + 1) u.2.2.1 = true) (k : CW u post (pc + 1) (lset1 L (i : Nat) (.ref x)) st M) : CW u post pc L (.ref x :: st) M := by
  intro p l e s m args below meth c D dA ad H locs ls cx hP hS hL
  exact lv_astore_n cx.1 cx.2.1 hd rfl hL (Nat.le_of_ble_eq_true hn) rfl (fun ls' hL' => k p l e s m args below meth c D dA ad H locs ls' cx hP hS (al_set1 (x := .ref x) hL'))
theorem cw_astore {u : MI} {post : Option Value → Mem → Prop} {pc : Nat} {L : List (Option Value)} {st : List Value} {M : Mem} {i : Nat} {x : Nat} (hd : decode u.2.1 pc = .ok (.astore i, 2)) (hn : Nat.ble (i + 1) u.2.2.1 = true) (k : CW u post (pc + 2) (lset1 L i (.ref x)) st M) : CW u post pc L (.ref x :: st) M := by
  intro p l e s m args below meth c D dA ad H locs ls cx hP hS hL
  exact lv_astore cx.1 cx.2.1 hd hL (Nat.le_of_ble_eq_true hn) rfl (fun ls' hL' => k p l e s m args below meth c D dA ad H locs ls' cx hP hS (al_set1 (x := .ref x) hL'))
theorem cw_iinc {u : MI} {post : Option Value → Mem → Prop} {pc : Nat} {L : List (Option Value)} {st : List Value} {M : Mem} {i : Nat} {n : Int} {x : Int32} (hd : decode u.2.1 pc = .ok (.iinc i n, 3)) (hl : lget L i = some (.int x)) (hn : Nat.ble (i + 1) u.2.2.1 = true) (k : CW u post (pc + 3) (lset1 L i (.int (x + Int32.ofInt n))) st M) : CW u post pc L st M := by
  intro p l e s m args below meth c D dA ad H locs ls cx hP hS hL
  obtain ⟨kk, hk⟩ := List.getElem?_of_mem (al_mem (ad := ad) (k := 0) |>.mpr ⟨i, _, hl, (Nat.zero_add i).symm, rfl⟩)
  exact lv_iinc cx.1 cx.2.1 hd hL hk rfl (Nat.le_of_ble_eq_true hn) rfl (fun ls' hL' => k p l e s m args below meth c D dA ad H locs ls' cx hP hS (al_set1 (x := .int (x + Int32.ofInt n)) hL'))
theorem cw_iadd {u : MI} {post : Option Value → Mem → Prop} {pc : Nat} {L : List (Option Value)} {st : List Value} {M : Mem} {x y : Int32} (hd : decode u.2.1 pc = .ok (.iadd, 1)) (k : CW u post (pc + 1) L (.int (x + y) :: st) M) : CW u post pc L (.int y :: .int x :: st) M := by
  intro p l e s m args below meth c D dA ad H locs ls cx hP hS hL
  exact lv_iadd cx.1 cx.2.1 hd  (k p l e s m args below meth c D dA ad H locs ls cx hP hS hL)
theorem cw_isub {u : MI} {post : Option Value → Mem → Prop} {pc : Nat} {L : List (Option Value)} {st : List Value} {M : Mem} {x y : Int32} (hd : decode u.2.1 pc = .ok (.isub, 1)) (k : CW u post (pc + 1) L (.int (x - y) :: st) M) : CW u post pc L (.int y :: .int x :: st) M := by
  intro p l e s m args below meth c D dA ad H locs ls cx hP hS hL
  exact lv_isub cx.1 cx.2.1 hd  (k p l e s m args below meth c D dA ad H locs ls cx hP hS hL)
theorem cw_imul {u : MI} {post : Option Value → Mem → Prop} {pc : Nat} {L : List (Option Value)} {st : List Value} {M : Mem} {x y : Int32} (hd : decode u.2.1 pc = .ok (.imul, 1)) (k : CW u post (pc + 1) L (.int (x * y) :: st) M) : CW u post pc L (.int y :: .int x :: st) M := by
  intro p l e s m args below meth c D dA ad H locs ls cx hP hS hL
  exact lv_imul cx.1 cx.2.1 hd  (k p l e s m args below meth c D dA ad H locs ls cx hP hS hL)
theorem cw_iand {u : MI} {post : Option Value → Mem → Prop} {pc : Nat} {L : List (Option Value)} {st : List Value} {M : Mem} {x y : Int32} (hd : decode u.2.1 pc = .ok (.iand, 1)) (k : CW u post (pc + 1) L (.int (x &&& y) :: st) M) : CW u post pc L (.int y :: .int x :: st) M := by
  intro p l e s m args below meth c D dA ad H locs ls cx hP hS hL
  exact lv_iand cx.1 cx.2.1 hd  (k p l e s m args below meth c D dA ad H locs ls cx hP hS hL)
theorem cw_ior {u : MI} {post : Option Value → Mem → Prop} {pc : Nat} {L : List (Option Value)} {st : List Value} {M : Mem} {x y : Int32} (hd : decode u.2.1 pc = .ok (.ior, 1)) (k : CW u post (pc + 1) L (.int (x ||| y) :: st) M) : CW u post pc L (.int y :: .int x :: st) M := by
  intro p l e s m args below meth c D dA ad H locs ls cx hP hS hL
  exact lv_ior cx.1 cx.2.1 hd  (k p l e s m args below meth c D dA ad H locs ls cx hP hS hL)
theorem cw_ixor {u : MI} {post : Option Value → Mem → Prop} {pc : Nat} {L : List (Option Value)} {st : List Value} {M : Mem} {x y : Int32} (hd : decode u.2.1 pc = .ok (.ixor, 1)) (k : CW u post (pc + 1) L (.int (x ^^^ y) :: st) M) : CW u post pc L (.int y :: .int x :: st) M := by
  intro p l e s m args below meth c D dA ad H locs ls cx hP hS hL
  exact lv_ixor cx.1 cx.2.1 hd  (k p l e s m args below meth c D dA ad H locs ls cx hP hS hL)
theorem cw_ishl {u : MI} {post : Option Value → Mem → Prop} {pc : Nat} {L : List (Option Value)} {st : List Value} {M : Mem} {x y : Int32} (hd : decode u.2.1 pc = .ok (.ishl, 1)) (k : CW u post (pc + 1) L (.int (x <<< (y &&& 31)) :: st) M) : CW u post pc L (.int y :: .int x :: st) M := by
  intro p l e s m args below meth c D dA ad H locs ls cx hP hS hL
  exact lv_ishl cx.1 cx.2.1 hd  (k p l e s m args below meth c D dA ad H locs ls cx hP hS hL)
theorem cw_ishr {u : MI} {post : Option Value → Mem → Prop} {pc : Nat} {L : List (Option Value)} {st : List Value} {M : Mem} {x y : Int32} (hd : decode u.2.1 pc = .ok (.ishr, 1)) (k : CW u post (pc + 1) L (.int (x >>> (y &&& 31)) :: st) M) : CW u post pc L (.int y :: .int x :: st) M := by
  intro p l e s m args below meth c D dA ad H locs ls cx hP hS hL
  exact lv_ishr cx.1 cx.2.1 hd  (k p l e s m args below meth c D dA ad H locs ls cx hP hS hL)
theorem cw_idiv {u : MI} {post : Option Value → Mem → Prop} {pc : Nat} {L : List (Option Value)} {st : List Value} {M : Mem} {x y : Int32} (hd : decode u.2.1 pc = .ok (.idiv, 1)) (hne : ¬ y = 0) (k : CW u post (pc + 1) L (.int (x / y) :: st) M) : CW u post pc L (.int y :: .int x :: st) M := by
  intro p l e s m args below meth c D dA ad H locs ls cx hP hS hL
  exact lv_idiv cx.1 cx.2.1 hd hne (k p l e s m args below meth c D dA ad H locs ls cx hP hS hL)
theorem cw_ineg {u : MI} {post : Option Value → Mem → Prop} {pc : Nat} {L : List (Option Value)} {st : List Value} {M : Mem} {x : Int32} (hd : decode u.2.1 pc = .ok (.ineg, 1)) (k : CW u post (pc + 1) L (.int (-x) :: st) M) : CW u post pc L (.int x :: st) M := by
  intro p l e s m args below meth c D dA ad H locs ls cx hP hS hL
  exact lv_ineg cx.1 cx.2.1 hd  (k p l e s m args below meth c D dA ad H locs ls cx hP hS hL)
theorem cw_iushr {u : MI} {post : Option Value → Mem → Prop} {pc : Nat} {L : List (Option Value)} {st : List Value} {M : Mem} {x y : Int32} (hd : decode u.2.1 pc = .ok (.iushr, 1)) (k : CW u post (pc + 1) L (.int ((x.toUInt32 >>> (y.toUInt32 &&& Int32.toUInt32 31)).toInt32) :: st) M) : CW u post pc L (.int y :: .int x :: st) M := by
  intro p l e s m args below meth c D dA ad H locs ls cx hP hS hL
  exact lv_iushr cx.1 cx.2.1 hd rfl (k p l e s m args below meth c D dA ad H locs ls cx hP hS hL)
theorem cw_ladd {u : MI} {post : Option Value → Mem → Prop} {pc : Nat} {L : List (Option Value)} {st : List Value} {M : Mem} {x y : Int64} (hd : decode u.2.1 pc = .ok (.ladd, 1)) (k : CW u post (pc + 1) L (.long (x + y) :: st) M) : CW u post pc L (.long y :: .long x :: st) M := by
  intro p l e s m args below meth c D dA ad H locs ls cx hP hS hL
  exact lv_ladd cx.1 cx.2.1 hd  (k p l e s m args below meth c D dA ad H locs ls cx hP hS hL)
theorem cw_lsub {u : MI} {post : Option Value → Mem → Prop} {pc : Nat} {L : List (Option Value)} {st : List Value} {M : Mem} {x y : Int64} (hd : decode u.2.1 pc = .ok (.lsub, 1)) (k : CW u post (pc + 1) L (.long (x - y) :: st) M) : CW u post pc L (.long y :: .long x :: st) M := by
  intro p l e s m args below meth c D dA ad H locs ls cx hP hS hL
  exact lv_lsub cx.1 cx.2.1 hd  (k p l e s m args below meth c D dA ad H locs ls cx hP hS hL)
theorem cw_lmul {u : MI} {post : Option Value → Mem → Prop} {pc : Nat} {L : List (Option Value)} {st : List Value} {M : Mem} {x y : Int64} (hd : decode u.2.1 pc = .ok (.lmul, 1)) (k : CW u post (pc + 1) L (.long (x * y) :: st) M) : CW u post pc L (.long y :: .long x :: st) M := by
  intro p l e s m args below meth c D dA ad H locs ls cx hP hS hL
  exact lv_lmul cx.1 cx.2.1 hd  (k p l e s m args below meth c D dA ad H locs ls cx hP hS hL)
theorem cw_ldiv {u : MI} {post : Option Value → Mem → Prop} {pc : Nat} {L : List (Option Value)} {st : List Value} {M : Mem} {x y : Int64} (hd : decode u.2.1 pc = .ok (.ldiv, 1)) (hne : ¬ y = 0) (k : CW u post (pc + 1) L (.long (x / y) :: st) M) : CW u post pc L (.long y :: .long x :: st) M := by
  intro p l e s m args below meth c D dA ad H locs ls cx hP hS hL
  exact lv_ldiv cx.1 cx.2.1 hd hne (k p l e s m args below meth c D dA ad H locs ls cx hP hS hL)
theorem cw_lrem {u : MI} {post : Option Value → Mem → Prop} {pc : Nat} {L : List (Option Value)} {st : List Value} {M : Mem} {x y : Int64} (hd : decode u.2.1 pc = .ok (.lrem, 1)) (hne : ¬ y = 0) (k : CW u post (pc + 1) L (.long (x - x / y * y) :: st) M) : CW u post pc L (.long y :: .long x :: st) M := by
  intro p l e s m args below meth c D dA ad H locs ls cx hP hS hL
  exact lv_lrem cx.1 cx.2.1 hd hne (k p l e s m args below meth c D dA ad H locs ls cx hP hS hL)
theorem cw_lneg {u : MI} {post : Option Value → Mem → Prop} {pc : Nat} {L : List (Option Value)} {st : List Value} {M : Mem} {x : Int64} (hd : decode u.2.1 pc = .ok (.lneg, 1)) (k : CW u post (pc + 1) L (.long (-x) :: st) M) : CW u post pc L (.long x :: st) M := by
  intro p l e s m args below meth c D dA ad H locs ls cx hP hS hL
  exact lv_lneg cx.1 cx.2.1 hd  (k p l e s m args below meth c D dA ad H locs ls cx hP hS hL)
theorem cw_i2l {u : MI} {post : Option Value → Mem → Prop} {pc : Nat} {L : List (Option Value)} {st : List Value} {M : Mem} {x : Int32} (hd : decode u.2.1 pc = .ok (.i2l, 1)) (k : CW u post (pc + 1) L (.long x.toInt64 :: st) M) : CW u post pc L (.int x :: st) M := by
  intro p l e s m args below meth c D dA ad H locs ls cx hP hS hL
  exact lv_i2l cx.1 cx.2.1 hd rfl (k p l e s m args below meth c D dA ad H locs ls cx hP hS hL)
theorem cw_l2i {u : MI} {post : Option Value → Mem → Prop} {pc : Nat} {L : List (Option Value)} {st : List Value} {M : Mem} {x : Int64} (hd : decode u.2.1 pc = .ok (.l2i, 1)) (k : CW u post (pc + 1) L (.int x.toInt32 :: st) M) : CW u post pc L (.long x :: st) M := by
  intro p l e s m args below meth c D dA ad H locs ls cx hP hS hL
  exact lv_l2i cx.1 cx.2.1 hd rfl (k p l e s m args below meth c D dA ad H locs ls cx hP hS hL)
theorem cw_i2b {u : MI} {post : Option Value → Mem → Prop} {pc : Nat} {L : List (Option Value)} {st : List Value} {M : Mem} {x : Int32} (hd : decode u.2.1 pc = .ok (.i2b, 1)) (k : CW u post (pc + 1) L (.int x.toInt8.toInt32 :: st) M) : CW u post pc L (.int x :: st) M := by
  intro p l e s m args below meth c D dA ad H locs ls cx hP hS hL
  exact lv_i2b cx.1 cx.2.1 hd rfl (k p l e s m args below meth c D dA ad H locs ls cx hP hS hL)
theorem cw_i2s {u : MI} {post : Option Value → Mem → Prop} {pc : Nat} {L : List (Option Value)} {st : List Value} {M : Mem} {x : Int32} (hd : decode u.2.1 pc = .ok (.i2s, 1)) (k : CW u post (pc + 1) L (.int x.toInt16.toInt32 :: st) M) : CW u post pc L (.int x :: st) M := by
  intro p l e s m args below meth c D dA ad H locs ls cx hP hS hL
  exact lv_i2s cx.1 cx.2.1 hd rfl (k p l e s m args below meth c D dA ad H locs ls cx hP hS hL)
theorem cw_lcmp {u : MI} {post : Option Value → Mem → Prop} {pc : Nat} {L : List (Option Value)} {st : List Value} {M : Mem} {x y : Int64} (hd : decode u.2.1 pc = .ok (.lcmp, 1)) (k : CW u post (pc + 1) L (.int (lg_cmp x y) :: st) M) : CW u post pc L (.long y :: .long x :: st) M := by
  intro p l e s m args below meth c D dA ad H locs ls cx hP hS hL
  exact W.lcmp cx.1 cx.2.1 hd  (k p l e s m args below meth c D dA ad H locs ls cx hP hS hL)
theorem cw_dup_int {u : MI} {post : Option Value → Mem → Prop} {pc : Nat} {L : List (Option Value)} {st : List Value} {M : Mem} {x : Int32} (hd : decode u.2.1 pc = .ok (.dup, 1)) (k : CW u post (pc + 1) L (.int x :: .int x :: st) M) : CW u post pc L (.int x :: st) M := by
  intro p l e s m args below meth c D dA ad H locs ls cx hP hS hL
  exact lv_dup cx.1 cx.2.1 hd rfl (k p l e s m args below meth c D dA ad H locs ls cx hP hS hL)
theorem cw_pop_int {u : MI} {post : Option Value → Mem → Prop} {pc : Nat} {L : List (Option Value)} {st : List Value} {M : Mem} {x : Int32} (hd : decode u.2.1 pc = .ok (.pop, 1)) (k : CW u post (pc + 1) L (st) M) : CW u post pc L (.int x :: st) M := by
  intro p l e s m args below meth c D dA ad H locs ls cx hP hS hL
  exact lv_pop cx.1 cx.2.1 hd rfl (k p l e s m args below meth c D dA ad H locs ls cx hP hS hL)
theorem cw_dup_ref {u : MI} {post : Option Value → Mem → Prop} {pc : Nat} {L : List (Option Value)} {st : List Value} {M : Mem} {x : Nat} (hd : decode u.2.1 pc = .ok (.dup, 1)) (k : CW u post (pc + 1) L (.ref x :: .ref x :: st) M) : CW u post pc L (.ref x :: st) M := by
  intro p l e s m args below meth c D dA ad H locs ls cx hP hS hL
  exact lv_dup cx.1 cx.2.1 hd rfl (k p l e s m args below meth c D dA ad H locs ls cx hP hS hL)
theorem cw_pop_ref {u : MI} {post : Option Value → Mem → Prop} {pc : Nat} {L : List (Option Value)} {st : List Value} {M : Mem} {x : Nat} (hd : decode u.2.1 pc = .ok (.pop, 1)) (k : CW u post (pc + 1) L (st) M) : CW u post pc L (.ref x :: st) M := by
  intro p l e s m args below meth c D dA ad H locs ls cx hP hS hL
  exact lv_pop cx.1 cx.2.1 hd rfl (k p l e s m args below meth c D dA ad H locs ls cx hP hS hL)
theorem cw_dup2 {u : MI} {post : Option Value → Mem → Prop} {pc : Nat} {L : List (Option Value)} {st : List Value} {M : Mem} {x : Int32} {y : Nat} (hd : decode u.2.1 pc = .ok (.dup2, 1)) (k : CW u post (pc + 1) L (.int x :: .ref y :: .int x :: .ref y :: st) M) : CW u post pc L (.int x :: .ref y :: st) M := by
  intro p l e s m args below meth c D dA ad H locs ls cx hP hS hL
  exact lv_dup2_11 cx.1 cx.2.1 hd rfl rfl (k p l e s m args below meth c D dA ad H locs ls cx hP hS hL)
theorem cw_if_eq {u : MI} {post : Option Value → Mem → Prop} {pc : Nat} {L : List (Option Value)} {st : List Value} {M : Mem} {x : Int32} {off : Int} (tgt : Nat) (hd : decode u.2.1 pc = .ok (.ifCond .eq off, 3)) (ht : (pc : Int) + off = (tgt : Int)) (kt : x = 0 → CW u post tgt L st M) (kf : ¬ x = 0 → CW u post (pc + 3) L st M) : CW u post pc L (.int x :: st) M := by
  intro p l e s m args below meth c D dA ad H locs ls cx hP hS hL
  exact lv_if_eq cx.1 cx.2.1 hd ht (fun h => kt h p l e s m args below meth c D dA ad H locs ls cx hP hS hL) (fun h => kf h p l e s m args below meth c D dA ad H locs ls cx hP hS hL)
theorem cw_icmp_eq {u : MI} {post : Option Value → Mem → Prop} {pc : Nat} {L : List (Option Value)} {st : List Value} {M : Mem} {x y : Int32} {off : Int} (tgt : Nat) (hd : decode u.2.1 pc = .ok (.if_icmp .eq off, 3)) (ht : (pc : Int) + off = (tgt : Int)) (kt : x = y → CW u post tgt L st M) (kf : ¬ x = y → CW u post (pc + 3) L st M) : CW u post pc L (.int y :: .int x :: st) M := by
  intro p l e s m args below meth c D dA ad H locs ls cx hP hS hL
  exact lv_icmp_eq cx.1 cx.2.1 hd ht (fun h => kt h p l e s m args below meth c D dA ad H locs ls cx hP hS hL) (fun h => kf h p l e s m args below meth c D dA ad H locs ls cx hP hS hL)
theorem cw_if_ne {u : MI} {post : Option Value → Mem → Prop} {pc : Nat} {L : List (Option Value)} {st : List Value} {M : Mem} {x : Int32} {off : Int} (tgt : Nat) (hd : decode u.2.1 pc = .ok (.ifCond .ne off, 3)) (ht : (pc : Int) + off = (tgt : Int)) (kt : ¬ x = 0 → CW u post tgt L st M) (kf : x = 0 → CW u post (pc + 3) L st M) : CW u post pc L (.int x :: st) M := by
  intro p l e s m args below meth c D dA ad H locs ls cx hP hS hL
  exact lv_if_ne cx.1 cx.2.1 hd ht (fun h => kt h p l e s m args below meth c D dA ad H locs ls cx hP hS hL) (fun h => kf h p l e s m args below meth c D dA ad H locs ls cx hP hS hL)
theorem cw_icmp_ne {u : MI} {post : Option Value → Mem → Prop} {pc : Nat} {L : List (Option Value)} {st : List Value} {M : Mem} {x y : Int32} {off : Int} (tgt : Nat) (hd : decode u.2.1 pc = .ok (.if_icmp .ne off, 3)) (ht : (pc : Int) + off = (tgt : Int)) (kt : ¬ x = y → CW u post tgt L st M) (kf : x = y → CW u post (pc + 3) L st M) : CW u post pc L (.int y :: .int x :: st) M := by
  intro p l e s m args below meth c D dA ad H locs ls cx hP hS hL
  exact lv_icmp_ne cx.1 cx.2.1 hd ht (fun h => kt h p l e s m args below meth c D dA ad H locs ls cx hP hS hL) (fun h => kf h p l e s m args below meth c D dA ad H locs ls cx hP hS hL)
theorem cw_if_lt {u : MI} {post : Option Value → Mem → Prop} {pc : Nat} {L : List (Option Value)} {st : List Value} {M : Mem} {x : Int32} {off : Int} (tgt : Nat) (hd : decode u.2.1 pc = .ok (.ifCond .lt off, 3)) (ht : (pc : Int) + off = (tgt : Int)) (kt : x < 0 → CW u post tgt L st M) (kf : ¬ x < 0 → CW u post (pc + 3) L st M) : CW u post pc L (.int x :: st) M := by
  intro p l e s m args below meth c D dA ad H locs ls cx hP hS hL
  exact lv_if_lt cx.1 cx.2.1 hd ht (fun h => kt h p l e s m args below meth c D dA ad H locs ls cx hP hS hL) (fun h => kf h p l e s m args below meth c D dA ad H locs ls cx hP hS hL)
theorem cw_icmp_lt {u : MI} {post : Option Value → Mem → Prop} {pc : Nat} {L : List (Option Value)} {st : List Value} {M : Mem} {x y : Int32} {off : Int} (tgt : Nat) (hd : decode u.2.1 pc = .ok (.if_icmp .lt off, 3)) (ht : (pc : Int) + off = (tgt : Int)) (kt : x < y → CW u post tgt L st M) (kf : ¬ x < y → CW u post (pc + 3) L st M) : CW u post pc L (.int y :: .int x :: st) M := by
  intro p l e s m args below meth c D dA ad H locs ls cx hP hS hL
  exact lv_icmp_lt cx.1 cx.2.1 hd ht (fun h => kt h p l e s m args below meth c D dA ad H locs ls cx hP hS hL) (fun h => kf h p l e s m args below meth c D dA ad H locs ls cx hP hS hL)
theorem cw_if_ge {u : MI} {post : Option Value → Mem → Prop} {pc : Nat} {L : List (Option Value)} {st : List Value} {M : Mem} {x : Int32} {off : Int} (tgt : Nat) (hd : decode u.2.1 pc = .ok (.ifCond .ge off, 3)) (ht : (pc : Int) + off = (tgt : Int)) (kt : 0 ≤ x → CW u post tgt L st M) (kf : ¬ 0 ≤ x → CW u post (pc + 3) L st M) : CW u post pc L (.int x :: st) M := by
  intro p l e s m args below meth c D dA ad H locs ls cx hP hS hL
  exact lv_if_ge cx.1 cx.2.1 hd ht (fun h => kt h p l e s m args below meth c D dA ad H locs ls cx hP hS hL) (fun h => kf h p l e s m args below meth c D dA ad H locs ls cx hP hS hL)
theorem cw_icmp_ge {u : MI} {post : Option Value → Mem → Prop} {pc : Nat} {L : List (Option Value)} {st : List Value} {M : Mem} {x y : Int32} {off : Int} (tgt : Nat) (hd : decode u.2.1 pc = .ok (.if_icmp .ge off, 3)) (ht : (pc : Int) + off = (tgt : Int)) (kt : y ≤ x → CW u post tgt L st M) (kf : ¬ y ≤ x → CW u post (pc + 3) L st M) : CW u post pc L (.int y :: .int x :: st) M := by
  intro p l e s m args below meth c D dA ad H locs ls cx hP hS hL
  exact lv_icmp_ge cx.1 cx.2.1 hd ht (fun h => kt h p l e s m args below meth c D dA ad H locs ls cx hP hS hL) (fun h => kf h p l e s m args below meth c D dA ad H locs ls cx hP hS hL)
theorem cw_if_gt {u : MI} {post : Option Value → Mem → Prop} {pc : Nat} {L : List (Option Value)} {st : List Value} {M : Mem} {x : Int32} {off : Int} (tgt : Nat) (hd : decode u.2.1 pc = .ok (.ifCond .gt off, 3)) (ht : (pc : Int) + off = (tgt : Int)) (kt : 0 < x → CW u post tgt L st M) (kf : ¬ 0 < x → CW u post (pc + 3) L st M) : CW u post pc L (.int x :: st) M := by
  intro p l e s m args below meth c D dA ad H locs ls cx hP hS hL
  exact lv_if_gt cx.1 cx.2.1 hd ht (fun h => kt h p l e s m args below meth c D dA ad H locs ls cx hP hS hL) (fun h => kf h p l e s m args below meth c D dA ad H locs ls cx hP hS hL)
theorem cw_icmp_gt {u : MI} {post : Option Value → Mem → Prop} {pc : Nat} {L : List (Option Value)} {st : List Value} {M : Mem} {x y : Int32} {off : Int} (tgt : Nat) (hd : decode u.2.1 pc = .ok (.if_icmp .gt off, 3)) (ht : (pc : Int) + off = (tgt : Int)) (kt : y < x → CW u post tgt L st M) (kf : ¬ y < x → CW u post (pc + 3) L st M) : CW u post pc L (.int y :: .int x :: st) M := by
  intro p l e s m args below meth c D dA ad H locs ls cx hP hS hL
  exact lv_icmp_gt cx.1 cx.2.1 hd ht (fun h => kt h p l e s m args below meth c D dA ad H locs ls cx hP hS hL) (fun h => kf h p l e s m args below meth c D dA ad H locs ls cx hP hS hL)
theorem cw_if_le {u : MI} {post : Option Value → Mem → Prop} {pc : Nat} {L : List (Option Value)} {st : List Value} {M : Mem} {x : Int32} {off : Int} (tgt : Nat) (hd : decode u.2.1 pc = .ok (.ifCond .le off, 3)) (ht : (pc : Int) + off = (tgt : Int)) (kt : x ≤ 0 → CW u post tgt L st M) (kf : ¬ x ≤ 0 → CW u post (pc + 3) L st M) : CW u post pc L (.int x :: st) M := by
  intro p l e s m args below meth c D dA ad H locs ls cx hP hS hL
  exact lv_if_le cx.1 cx.2.1 hd ht (fun h => kt h p l e s m args below meth c D dA ad H locs ls cx hP hS hL) (fun h => kf h p l e s m args below meth c D dA ad H locs ls cx hP hS hL)
theorem cw_icmp_le {u : MI} {post : Option Value → Mem → Prop} {pc : Nat} {L : List (Option Value)} {st : List Value} {M : Mem} {x y : Int32} {off : Int} (tgt : Nat) (hd : decode u.2.1 pc = .ok (.if_icmp .le off, 3)) (ht : (pc : Int) + off = (tgt : Int)) (kt : x ≤ y → CW u post tgt L st M) (kf : ¬ x ≤ y → CW u post (pc + 3) L st M) : CW u post pc L (.int y :: .int x :: st) M := by
  intro p l e s m args below meth c D dA ad H locs ls cx hP hS hL
  exact lv_icmp_le cx.1 cx.2.1 hd ht (fun h => kt h p l e s m args below meth c D dA ad H locs ls cx hP hS hL) (fun h => kf h p l e s m args below meth c D dA ad H locs ls cx hP hS hL)
theorem cw_goto {u : MI} {post : Option Value → Mem → Prop} {pc : Nat} {L : List (Option Value)} {st : List Value} {M : Mem} {off : Int} (tgt : Nat) (hd : decode u.2.1 pc = .ok (.goto off, 3)) (ht : (pc : Int) + off = (tgt : Int)) (k : CW u post tgt L st M) : CW u post pc L st M := by
  intro p l e s m args below meth c D dA ad H locs ls cx hP hS hL
  exact lv_goto cx.1 cx.2.1 hd ht (k p l e s m args below meth c D dA ad H locs ls cx hP hS hL)
theorem cw_swOut {u : MI} {post : Option Value → Mem → Prop} {pc : Nat} {L : List (Option Value)} {st : List Value} {M : Mem} {dflt lo hi : Int} {offs : Array Int} {len : Nat} {x : Int32} (tgt : Nat) (hd : decode u.2.1 pc = .ok (.tableswitch dflt lo hi offs, len)) (h : x.toInt < lo ∨ hi < x.toInt) (ht : (pc : Int) + dflt = (tgt : Int)) (k : CW u post tgt L st M) : CW u post pc L (.int x :: st) M := by
  intro p l e s m args below meth c D dA ad H locs ls cx hP hS hL
  exact lv_tableOut cx.1 cx.2.1 hd h ht (k p l e s m args below meth c D dA ad H locs ls cx hP hS hL)
theorem cw_swIn {u : MI} {post : Option Value → Mem → Prop} {pc : Nat} {L : List (Option Value)} {st : List Value} {M : Mem} {dflt lo hi : Int} {offs : Array Int} {len : Nat} {x : Int32} {off : Int} (tgt : Nat) (hd : decode u.2.1 pc = .ok (.tableswitch dflt lo hi offs, len)) (h1 : ¬ x.toInt < lo) (h2 : ¬ hi < x.toInt) (ho : offs[(x.toInt - lo).toNat]? = some off) (ht : (pc : Int) + off = (tgt : Int)) (k : CW u post tgt L st M) : CW u post pc L (.int x :: st) M := by
  intro p l e s m args below meth c D dA ad H locs ls cx hP hS hL
  exact lv_tableIn cx.1 cx.2.1 hd h1 h2 ho ht (k p l e s m args below meth c D dA ad H locs ls cx hP hS hL)
theorem cw_ldc {u : MI} {post : Option Value → Mem → Prop} {pc : Nat} {L : List (Option Value)} {st : List Value} {M : Mem} {i : Nat} {v : Int32} (hc : Cond.constant u.1.cls i v ∈ gt) (hd : decode u.2.1 pc = .ok (.ldc i, 2)) (k : CW u post (pc + 2) L (.int v :: st) M) : CW u post pc L st M := by
  intro p l e s m args below meth c D dA ad H locs ls cx hP hS hL
  exact lv_ldc cx.1 cx.2.1 cx.2.2.2.1 (cx.2.2.2.2.1 _ hc) hd (k p l e s m args below meth c D dA ad H locs ls cx hP hS hL)
theorem cw_ldc_w {u : MI} {post : Option Value → Mem → Prop} {pc : Nat} {L : List (Option Value)} {st : List Value} {M : Mem} {i : Nat} {v : Int32} (hc : Cond.constant u.1.cls i v ∈ gt) (hd : decode u.2.1 pc = .ok (.ldc_w i, 3)) (k : CW u post (pc + 3) L (.int v :: st) M) : CW u post pc L st M := by
  intro p l e s m args below meth c D dA ad H locs ls cx hP hS hL
  exact lv_ldcw cx.1 cx.2.1 cx.2.2.2.1 (cx.2.2.2.2.1 _ hc) hd (k p l e s m args below meth c D dA ad H locs ls cx hP hS hL)
theorem cw_ldc2_w {u : MI} {post : Option Value → Mem → Prop} {pc : Nat} {L : List (Option Value)} {st : List Value} {M : Mem} {i : Nat} {v : Int64} (hc : Cond.constantLong u.1.cls i v ∈ gt) (hd : decode u.2.1 pc = .ok (.ldc2_w i, 3)) (k : CW u post (pc + 3) L (.long v :: st) M) : CW u post pc L st M := by
  intro p l e s m args below meth c D dA ad H locs ls cx hP hS hL
  exact lv_ldc2 cx.1 cx.2.1 cx.2.2.2.1 (cx.2.2.2.2.1 _ hc) hd (k p l e s m args below meth c D dA ad H locs ls cx hP hS hL)
theorem cw_iret {u : MI} {pc : Nat} {L : List (Option Value)} {M : Mem} {Q : Int32 → Mem → Prop} {r : Int32} (hr : u.2.2.2.1 = some .int) (hd : decode u.2.1 pc = .ok (.ireturn, 1)) (h : Q r M) : CW u (retI Q) pc L [.int r] M := by
  intro p l e s m args below meth c D dA ad H locs ls cx hP hS hL
  exact W.iret (v := r) cx.1 cx.2.1 (cx.2.2.2.2.2.1.trans hr) (fun t ht hW => ⟨⟨some (.int r), M, rfl, ⟨r, rfl, h⟩, by rw [ht]; exact hP⟩, hS.F ht⟩) hS.2.2 hd cx.2.2.2.2.2.2.1
theorem cw_lret {u : MI} {pc : Nat} {L : List (Option Value)} {M : Mem} {Q : Int64 → Mem → Prop} {r : Int64} (hr : u.2.2.2.1 = some .long) (hd : decode u.2.1 pc = .ok (.lreturn, 1)) (h : Q r M) : CW u (retJ Q) pc L [.long r] M := by
  intro p l e s m args below meth c D dA ad H locs ls cx hP hS hL
  exact W.lret (v := r) cx.1 cx.2.1 (cx.2.2.2.2.2.1.trans hr) (fun t ht hW => ⟨⟨some (.long r), M, rfl, ⟨r, rfl, h⟩, by rw [ht]; exact hP⟩, hS.F ht⟩) hS.2.2 hd cx.2.2.2.2.2.2.1
theorem cw_zret {u : MI} {pc : Nat} {L : List (Option Value)} {M : Mem} {Q : Int32 → Mem → Prop} {r : Int32} (hr : u.2.2.2.1 = some .boolean) (hd : decode u.2.1 pc = .ok (.ireturn, 1)) (hz : r = 0 ∨ r = 1) (h : Q r M) : CW u (retI Q) pc L [.int r] M := by
  intro p l e s m args below meth c D dA ad H locs ls cx hP hS hL
  exact W.zret (v := r) (ty := .boolean) cx.1 cx.2.1 (cx.2.2.2.2.2.1.trans hr) (by rcases hz with rfl | rfl <;> rfl) (fun t ht hW => ⟨⟨some (.int r), M, rfl, ⟨r, rfl, h⟩, by rw [ht]; exact hP⟩, hS.F ht⟩) hS.2.2 hd cx.2.2.2.2.2.2.1
theorem cw_vret {u : MI} {pc : Nat} {L : List (Option Value)} {M : Mem} {Q : Mem → Prop} (hr : u.2.2.2.1 = none) (hd : decode u.2.1 pc = .ok (.return_, 1)) (h : Q M) : CW u (retV Q) pc L [] M := by
  intro p l e s m args below meth c D dA ad H locs ls cx hP hS hL
  exact W.vret cx.1 cx.2.1 (cx.2.2.2.2.2.1.trans hr) (fun t ht hW => ⟨⟨none, M, rfl, ⟨rfl, h⟩, by rw [ht]; exact hP⟩, hS.F ht⟩) hS.2.2 hd cx.2.2.2.2.2.2.1
theorem uCell_O {dA : Nat → ClassId} {ad : Nat → Nat} {M : Mem} {a ci : Nat} {fs : List Fk} (h : SO a ci fs) : uCell dA ad M a = .inr (ci, ucfs ad M a 0 fs) := by
  unfold uCell
  rw [h.1]
theorem uCell_A {dA : Nat → ClassId} {ad : Nat → Nat} {M : Mem} {a n : Nat} (h : SA a n) : uCell dA ad M a = .inl (dA 0, n, .inl (M.1 a)) := by
  unfold uCell
  rw [h.1]
theorem uCell_R {dA : Nat → ClassId} {ad : Nat → Nat} {M : Mem} {a t n : Nat} {g : Nat → Nat} (h : SR a t n g) : uCell dA ad M a = .inl (dA t, n, .inr (.inr (.inr (.inr (fun i => some (ad (g i))))))) := by
  unfold uCell
  rw [h.1]
theorem cw_getI {u : MI} {post : Option Value → Mem → Prop} {pc : Nat} {L : List (Option Value)} {st : List Value} {M : Mem} {a ci j i : Nat} {fs : List Fk} (hf : FL u.1.cls i ci j) (hs : SO a ci fs) (hk : fs[j]? = some (.inr false)) (hd : decode u.2.1 pc = .ok (.getfield i, 3)) (k : CW u post (pc + 3) L (.int (mG M a j) :: st) M) : CW u post pc L (.ref a :: st) M := by
  intro p l e s m args below meth c D dA ad H locs ls cx hP hS hL
  obtain ⟨C, T, N, h1, h2, h3⟩ := hf
  obtain ⟨q, hq, -⟩ := uCells_at (dA := dA) (ad := ad) (M := M) hs.2
  rw [uCell_O hs] at hq
  have hv : (ucfs ad M a 0 fs)[j]? = some (.int (mG M a j)) := by
    have := ucfs_get (ad := ad) (M := M) (k := a) (j := 0) hk
    rw [Nat.zero_add] at this
    exact this
  exact va_get (ref := (T j).1) cx.1 cx.2.1 cx.2.2.2.2.1 (uCls_ok h1).1 cx.2.2.2.1 cx.2.2.2.2.2.2.2.1.1 hP q hq h1 j h2 (cx.2.2.2.2.1 _ h3) (fun _ h => h) hv hd (k p l e s m args below meth c D dA ad H locs ls cx hP hS hL)
theorem cw_getJ {u : MI} {post : Option Value → Mem → Prop} {pc : Nat} {L : List (Option Value)} {st : List Value} {M : Mem} {a ci j i : Nat} {fs : List Fk} (hf : FL u.1.cls i ci j) (hs : SO a ci fs) (hk : fs[j]? = some (.inr true)) (hd : decode u.2.1 pc = .ok (.getfield i, 3)) (k : CW u post (pc + 3) L (.long (jG M a j) :: st) M) : CW u post pc L (.ref a :: st) M := by
  intro p l e s m args below meth c D dA ad H locs ls cx hP hS hL
  obtain ⟨C, T, N, h1, h2, h3⟩ := hf
  obtain ⟨q, hq, -⟩ := uCells_at (dA := dA) (ad := ad) (M := M) hs.2
  rw [uCell_O hs] at hq
  have hv : (ucfs ad M a 0 fs)[j]? = some (.long (jG M a j)) := by
    have := ucfs_get (ad := ad) (M := M) (k := a) (j := 0) hk
    rw [Nat.zero_add] at this
    exact this
  exact va_get (ref := (T j).1) cx.1 cx.2.1 cx.2.2.2.2.1 (uCls_ok h1).1 cx.2.2.2.1 cx.2.2.2.2.2.2.2.1.1 hP q hq h1 j h2 (cx.2.2.2.2.1 _ h3) (fun _ h => h) hv hd (k p l e s m args below meth c D dA ad H locs ls cx hP hS hL)
theorem cw_getR {u : MI} {post : Option Value → Mem → Prop} {pc : Nat} {L : List (Option Value)} {st : List Value} {M : Mem} {a ci j i : Nat} {fs : List Fk} {r : Nat} (hf : FL u.1.cls i ci j) (hs : SO a ci fs) (hk : fs[j]? = some (.inl r)) (hd : decode u.2.1 pc = .ok (.getfield i, 3)) (k : CW u post (pc + 3) L (.ref r :: st) M) : CW u post pc L (.ref a :: st) M := by
  intro p l e s m args below meth c D dA ad H locs ls cx hP hS hL
  obtain ⟨C, T, N, h1, h2, h3⟩ := hf
  obtain ⟨q, hq, -⟩ := uCells_at (dA := dA) (ad := ad) (M := M) hs.2
  rw [uCell_O hs] at hq
  have hv : (ucfs ad M a 0 fs)[j]? = some (.ref (ad r)) := by
    have := ucfs_get (ad := ad) (M := M) (k := a) (j := 0) hk
    rw [Nat.zero_add] at this
    exact this
  exact va_get (ref := (T j).1) cx.1 cx.2.1 cx.2.2.2.2.1 (uCls_ok h1).1 cx.2.2.2.1 cx.2.2.2.2.2.2.2.1.1 hP q hq h1 j h2 (cx.2.2.2.2.1 _ h3) (fun _ h => h) hv hd (k p l e s m args below meth c D dA ad H locs ls cx hP hS hL)
theorem ucfs_set {ad : Nat → Nat} {M M' : Mem} {k i : Nat} {v : Value} : ∀ {fs : List Fk} {j : Nat} {f : Fk}, fs[i]? = some f → ucfv ad M' k (j + i) f = v → (∀ b g, b ≠ j + i → ucfv ad M' k b g = ucfv ad M k b g) → (ucfs ad M k j fs).set i v = ucfs ad M' k j fs := by
  induction i with
  | zero =>
    intro fs j f h1 h2 h3
    cases fs with
    | nil => simp at h1
    | cons g fs =>
      simp at h1
      subst h1
      have h4 : ∀ (fs : List Fk) (b : Nat), j < b → ucfs ad M k b fs = ucfs ad M' k b fs := by
        intro fs
        induction fs with
        | nil => intro b _; rfl
        | cons g fs ih =>
          intro b hb
          simp only [ucfs]
          rw [ih (b + 1) (by omega), h3 b g (by omega)]
      simp only [ucfs, List.set_cons_zero]
      rw [h4 fs (j + 1) (by omega), ← h2]
      rfl
  | succ i ih =>
    intro fs j f h1 h2 h3
    cases fs with
    | nil => simp at h1
    | cons g fs =>
      have h1' : fs[i]? = some f := by simpa using h1
      simp only [ucfs, List.set_cons_succ]
      rw [ih (j := j + 1) h1' (by rw [← h2]; congr 1; omega) (fun b g hb => h3 b g (by omega)), h3 j g (by omega)]
theorem cw_putI {u : MI} {post : Option Value → Mem → Prop} {pc : Nat} {L : List (Option Value)} {st : List Value} {M : Mem} {a ci j i : Nat} {fs : List Fk} {x : Int32} (hf : FP u.1.cls i ci j .int) (hs : SO a ci fs) (hk : fs[j]? = some (.inr false)) (hd : decode u.2.1 pc = .ok (.putfield i, 3)) (k : CW u post (pc + 3) L st (mS M a j x)) : CW u post pc L (.int x :: .ref a :: st) M := by
  intro p l e s m args below meth c D dA ad H locs ls cx hP hS hL
  obtain ⟨C, T, N, h1, h2, h3, h4, h5⟩ := hf
  obtain ⟨q, hq, hi⟩ := uCells_at (dA := dA) (ad := ad) (M := M) hs.2
  rw [uCell_O hs] at hq
  obtain ⟨hw, ty0, hty, hnm⟩ := uCls_ok h1
  have hset : (uCells dA ad M).set q (ad a, .inr (ci, (ucfs ad M a 0 fs).set j (.int x))) = uCells dA ad (mS M a j x) := by
    rw [← uCells_set (M := M) (M' := mS M a j x) hi ?_, uCell_O hs, ucfs_set (M' := mS M a j x) hk]
    · simp [ucfv, mS]
    · intro b g hb
      have hb : b ≠ j := by omega
      rcases g with g | g
      · rfl
      · cases g <;> simp [ucfv, mS, hb]
    · intro b hb
      unfold uCell
      have e1 : (mS M a j x).1 b = M.1 b := by funext z; simp [mS, hb]
      have e2 : (mS M a j x).2 b = M.2 b := by funext z; simp [mS, hb]
      have e3 : ∀ (fs : List Fk) (z : Nat), ucfs ad (mS M a j x) b z fs = ucfs ad M b z fs := by
        intro fs
        induction fs with
        | nil => intro z; rfl
        | cons g fs ih =>
          intro z
          simp only [ucfs]
          rw [ih]
          congr 1
          rcases g with g | g
          · rfl
          · cases g <;> simp [ucfv, e1, e2]
      rw [e1]
      split
      · rfl
      · rfl
      · rw [e3]
  exact va_put (ref := (T j).1) (v := .int x) (ty := .int) cx.1 cx.2.1 cx.2.2.2.2.1 hw ty0 hty hnm cx.2.2.2.1 cx.2.2.2.2.2.2.2.1.1 hP (uD cx.2.2.2.2.2.2.2.2) hS q hq h1 j h2 (cx.2.2.2.2.1 _ h3) (fun _ h => h) h4 h5 rfl rfl (by rw [ucfs_len]; exact (List.getElem?_eq_some_iff.mp hk).1) hd (fun H1 locs1 hP1 hD1 hS1 => k p l e s m args below meth c D dA ad H1 locs1 ls cx (hset ▸ hP1) hS1 hL)
theorem cw_putJ {u : MI} {post : Option Value → Mem → Prop} {pc : Nat} {L : List (Option Value)} {st : List Value} {M : Mem} {a ci j i : Nat} {fs : List Fk} {x : Int64} (hf : FP u.1.cls i ci j .long) (hs : SO a ci fs) (hk : fs[j]? = some (.inr true)) (hd : decode u.2.1 pc = .ok (.putfield i, 3)) (k : CW u post (pc + 3) L st (jS M a j x)) : CW u post pc L (.long x :: .ref a :: st) M := by
  intro p l e s m args below meth c D dA ad H locs ls cx hP hS hL
  obtain ⟨C, T, N, h1, h2, h3, h4, h5⟩ := hf
  obtain ⟨q, hq, hi⟩ := uCells_at (dA := dA) (ad := ad) (M := M) hs.2
  rw [uCell_O hs] at hq
  obtain ⟨hw, ty0, hty, hnm⟩ := uCls_ok h1
  have hset : (uCells dA ad M).set q (ad a, .inr (ci, (ucfs ad M a 0 fs).set j (.long x))) = uCells dA ad (jS M a j x) := by
    rw [← uCells_set (M := M) (M' := jS M a j x) hi ?_, uCell_O hs, ucfs_set (M' := jS M a j x) hk]
    · simp [ucfv, jS]
    · intro b g hb
      have hb : b ≠ j := by omega
      rcases g with g | g
      · rfl
      · cases g <;> simp [ucfv, jS, hb]
    · intro b hb
      unfold uCell
      have e1 : (jS M a j x).1 b = M.1 b := by funext z; simp [jS, hb]
      have e2 : (jS M a j x).2 b = M.2 b := by funext z; simp [jS, hb]
      have e3 : ∀ (fs : List Fk) (z : Nat), ucfs ad (jS M a j x) b z fs = ucfs ad M b z fs := by
        intro fs
        induction fs with
        | nil => intro z; rfl
        | cons g fs ih =>
          intro z
          simp only [ucfs]
          rw [ih]
          congr 1
          rcases g with g | g
          · rfl
          · cases g <;> simp [ucfv, e1, e2]
      rw [e1]
      split
      · rfl
      · rfl
      · rw [e3]
  exact va_put (ref := (T j).1) (v := .long x) (ty := .long) cx.1 cx.2.1 cx.2.2.2.2.1 hw ty0 hty hnm cx.2.2.2.1 cx.2.2.2.2.2.2.2.1.1 hP (uD cx.2.2.2.2.2.2.2.2) hS q hq h1 j h2 (cx.2.2.2.2.1 _ h3) (fun _ h => h) h4 h5 rfl rfl (by rw [ucfs_len]; exact (List.getElem?_eq_some_iff.mp hk).1) hd (fun H1 locs1 hP1 hD1 hS1 => k p l e s m args below meth c D dA ad H1 locs1 ls cx (hset ▸ hP1) hS1 hL)
theorem cw_putZ {u : MI} {post : Option Value → Mem → Prop} {pc : Nat} {L : List (Option Value)} {st : List Value} {M : Mem} {a ci j i : Nat} {fs : List Fk} {x : Int32} (hf : FP u.1.cls i ci j .boolean) (hs : SO a ci fs) (hk : fs[j]? = some (.inr false)) (hz : x = 0 ∨ x = 1) (hd : decode u.2.1 pc = .ok (.putfield i, 3)) (k : CW u post (pc + 3) L st (mS M a j x)) : CW u post pc L (.int x :: .ref a :: st) M := by
  intro p l e s m args below meth c D dA ad H locs ls cx hP hS hL
  obtain ⟨C, T, N, h1, h2, h3, h4, h5⟩ := hf
  obtain ⟨q, hq, hi⟩ := uCells_at (dA := dA) (ad := ad) (M := M) hs.2
  rw [uCell_O hs] at hq
  obtain ⟨hw, ty0, hty, hnm⟩ := uCls_ok h1
  have hset : (uCells dA ad M).set q (ad a, .inr (ci, (ucfs ad M a 0 fs).set j (.int x))) = uCells dA ad (mS M a j x) := by
    rw [← uCells_set (M := M) (M' := mS M a j x) hi ?_, uCell_O hs, ucfs_set (M' := mS M a j x) hk]
    · simp [ucfv, mS]
    · intro b g hb
      have hb : b ≠ j := by omega
      rcases g with g | g
      · rfl
      · cases g <;> simp [ucfv, mS, hb]
    · intro b hb
      unfold uCell
      have e1 : (mS M a j x).1 b = M.1 b := by funext z; simp [mS, hb]
      have e2 : (mS M a j x).2 b = M.2 b := by funext z; simp [mS, hb]
      have e3 : ∀ (fs : List Fk) (z : Nat), ucfs ad (mS M a j x) b z fs = ucfs ad M b z fs := by
        intro fs
        induction fs with
        | nil => intro z; rfl
        | cons g fs ih =>
          intro z
          simp only [ucfs]
          rw [ih]
          congr 1
          rcases g with g | g
          · rfl
          · cases g <;> simp [ucfv, e1, e2]
      rw [e1]
      split
      · rfl
      · rfl
      · rw [e3]
  exact va_put (ref := (T j).1) (v := .int x) (ty := .boolean) cx.1 cx.2.1 cx.2.2.2.2.1 hw ty0 hty hnm cx.2.2.2.1 cx.2.2.2.2.2.2.2.1.1 hP (uD cx.2.2.2.2.2.2.2.2) hS q hq h1 j h2 (cx.2.2.2.2.1 _ h3) (fun _ h => h) h4 h5 (by rcases hz with rfl | rfl <;> rfl) (by rcases hz with rfl | rfl <;> rfl) (by rw [ucfs_len]; exact (List.getElem?_eq_some_iff.mp hk).1) hd (fun H1 locs1 hP1 hD1 hS1 => k p l e s m args below meth c D dA ad H1 locs1 ls cx (hset ▸ hP1) hS1 hL)
theorem cw_iald {u : MI} {post : Option Value → Mem → Prop} {pc : Nat} {L : List (Option Value)} {st : List Value} {M : Mem} {a n : Nat} {x : Int32} (hs : SA a n) (hin : vp_in x n) (hd : decode u.2.1 pc = .ok (.iaload, 1)) (k : CW u post (pc + 1) L (.int (mG M a x.toNatClampNeg) :: st) M) : CW u post pc L (.int x :: .ref a :: st) M := by
  intro p l e s m args below meth c D dA ad H locs ls cx hP hS hL
  obtain ⟨q, hq, -⟩ := uCells_at (dA := dA) (ad := ad) (M := M) hs.2
  rw [uCell_A hs] at hq
  exact va_iald cx.1 cx.2.1 cx.2.2.2.2.2.2.2.1.1 hP q 0 hq rfl hin hd (k p l e s m args below meth c D dA ad H locs ls cx hP hS hL)
theorem cw_ialdN {u : MI} {post : Option Value → Mem → Prop} {pc : Nat} {L : List (Option Value)} {st : List Value} {M : Mem} {a n i : Nat} {x : Int32} (hs : SA a n) (hx : x = nI i) (hi : i < n) (hn : n < 1000) (hd : decode u.2.1 pc = .ok (.iaload, 1)) (k : CW u post (pc + 1) L (.int (mG M a i) :: st) M) : CW u post pc L (.int x :: .ref a :: st) M := by
  subst hx
  refine cw_iald hs (vp_in_nI hi (by omega)) hd ?_
  rw [nI_clamp (by omega)]
  exact k
theorem cw_alen {u : MI} {post : Option Value → Mem → Prop} {pc : Nat} {L : List (Option Value)} {st : List Value} {M : Mem} {a n : Nat} (hs : SA a n) (hd : decode u.2.1 pc = .ok (.arraylength, 1)) (k : CW u post (pc + 1) L (.int (nI n) :: st) M) : CW u post pc L (.ref a :: st) M := by
  intro p l e s m args below meth c D dA ad H locs ls cx hP hS hL
  obtain ⟨q, hq, -⟩ := uCells_at (dA := dA) (ad := ad) (M := M) hs.2
  rw [uCell_A hs] at hq
  exact va_alen cx.1 cx.2.1 cx.2.2.2.2.2.2.2.1.1 hP q 0 hq rfl rfl hd (k p l e s m args below meth c D dA ad H locs ls cx hP hS hL)
theorem cw_aaldN {u : MI} {post : Option Value → Mem → Prop} {pc : Nat} {L : List (Option Value)} {st : List Value} {M : Mem} {a t n i : Nat} {g : Nat → Nat} {x : Int32} (hs : SR a t n g) (hx : x = nI i) (hi : i < n) (hn : n < 1000) (hd : decode u.2.1 pc = .ok (.aaload, 1)) (k : CW u post (pc + 1) L (.ref (g i) :: st) M) : CW u post pc L (.int x :: .ref a :: st) M := by
  intro p l e s m args below meth c D dA ad H locs ls cx hP hS hL
  subst hx
  obtain ⟨q, hq, -⟩ := uCells_at (dA := dA) (ad := ad) (M := M) hs.2.1
  rw [uCell_R hs] at hq
  have ht : ∃ C, (uTys dA)[t]? = some (dA t, .object C) := by
    obtain ⟨h1, h2⟩ := hs.2.2
    rcases (show t = 1 ∨ t = 2 ∨ t = 3 ∨ t = 4 ∨ t = 5 by omega) with rfl | rfl | rfl | rfl | rfl <;> exact ⟨_, rfl⟩
  obtain ⟨C, ht⟩ := ht
  refine va_aldq cx.1 cx.2.1 cx.2.2.2.2.2.2.2.1.1 hP q t hq ht (vp_in_nI hi (by omega)) hd ?_
  rw [nI_clamp (by omega)]
  exact (k p l e s m args below meth c D dA ad H locs ls cx hP hS hL)
theorem uCells_arr {dA : Nat → ClassId} {ad : Nat → Nat} {M M' : Mem} {a n q : Nat} (hs : SA a n) (hi : uIds[q]? = some a) {f : Nat → Int32} (h1 : M'.1 a = f) (h2 : ∀ b, b ≠ a → M'.1 b = M.1 b) (h3 : M'.2 = M.2) : (uCells dA ad M).set q (ad a, .inl (dA 0, n, .inl f)) = uCells dA ad M' := by
  have e : uCell dA ad M' a = .inl (dA 0, n, .inl f) := by rw [uCell_A hs, h1]
  rw [← e]
  refine uCells_set hi ?_
  intro b hb
  unfold uCell
  have e3 : ∀ (fs : List Fk) (z : Nat), ucfs ad M' b z fs = ucfs ad M b z fs := by
    intro fs
    induction fs with
    | nil => intro z; rfl
    | cons g fs ih =>
      intro z
      simp only [ucfs]
      rw [ih]
      congr 1
      rcases g with g | g
      · rfl
      · cases g <;> simp [ucfv, h2 b hb, h3]
  rw [h2 b hb]
  split
  · rfl
  · rfl
  · rw [e3]
theorem cw_iast {u : MI} {post : Option Value → Mem → Prop} {pc : Nat} {L : List (Option Value)} {st : List Value} {M : Mem} {a n : Nat} {x y : Int32} (hs : SA a n) (hin : vp_in x n) (hd : decode u.2.1 pc = .ok (.iastore, 1)) (k : CW u post (pc + 1) L st (mS M a x.toNatClampNeg y)) : CW u post pc L (.int y :: .int x :: .ref a :: st) M := by
  intro p l e s m args below meth c D dA ad H locs ls cx hP hS hL
  obtain ⟨q, hq, hi⟩ := uCells_at (dA := dA) (ad := ad) (M := M) hs.2
  rw [uCell_A hs] at hq
  have hset : (uCells dA ad M).set q (ad a, .inl (dA 0, n, .inl (upd (M.1 a) x.toNatClampNeg y))) = uCells dA ad (mS M a x.toNatClampNeg y) := by
    refine uCells_arr hs hi ?_ ?_ rfl
    · funext z
      simp [mS, upd]
    · intro b hb
      funext z
      simp [mS, hb]
  exact va_iast cx.1 cx.2.1 cx.2.2.2.2.2.2.2.1.1 hP (uD cx.2.2.2.2.2.2.2.2) hS q 0 hq rfl hin hd (fun H1 locs1 hP1 hD1 hS1 => k p l e s m args below meth c D dA ad H1 locs1 ls cx (hset ▸ hP1) hS1 hL)
theorem cw_iastN {u : MI} {post : Option Value → Mem → Prop} {pc : Nat} {L : List (Option Value)} {st : List Value} {M : Mem} {a n i : Nat} {x y : Int32} (hs : SA a n) (hx : x = nI i) (hi : i < n) (hn : n < 1000) (hd : decode u.2.1 pc = .ok (.iastore, 1)) (k : CW u post (pc + 1) L st (mS M a i y)) : CW u post pc L (.int y :: .int x :: .ref a :: st) M := by
  subst hx
  refine cw_iast hs (vp_in_nI hi (by omega)) hd ?_
  rw [nI_clamp (by omega)]
  exact k
def mCpy (M : Mem) (a b sp dp n : Nat) : Mem := (fun k j => if k = b then va_cpy (M.1 a) (M.1 b) sp dp n j else M.1 k j, M.2)
theorem cw_copy {u : MI} {post : Option Value → Mem → Prop} {pc : Nat} {L : List (Option Value)} {st : List Value} {M : Mem} {a b n0 n1 sp dp n i : Nat} {x y z : Int32} (hl : Cond.methodLink u.1.cls i arraycopyName ∈ gt) (h0 : SA a n0) (h1 : SA b n1) (hx : x = nI sp) (hy : y = nI dp) (hz : z = nI n) (hb1 : sp + n ≤ n0) (hb2 : dp + n ≤ n1) (hm : n0 < 1000 ∧ n1 < 1000) (hf : Nat.ble 1 u.2.2.2.2.1 = true) (hlo : Nat.ble ((st.map fun v => v.category).sum + 18) u.2.2.2.2.2 = true) (hd : decode u.2.1 pc = .ok (.invokestatic i, 3)) (k : CW u post (pc + 3) L st (mCpy M a b sp dp n)) : CW u post pc L (.int z :: .int y :: .ref b :: .int x :: .ref a :: st) M := by
  intro p l e s m args below meth c D dA ad H locs ls cx hP hS hL
  subst hx; subst hy; subst hz
  obtain ⟨q0, hq0, -⟩ := uCells_at (dA := dA) (ad := ad) (M := M) h0.2
  rw [uCell_A h0] at hq0
  obtain ⟨q1, hq1, hi1⟩ := uCells_at (dA := dA) (ad := ad) (M := M) h1.2
  rw [uCell_A h1] at hq1
  have hset : (uCells dA ad M).set q1 (ad b, .inl (dA 0, n1, .inl (va_cpy (M.1 a) (M.1 b) sp dp n))) = uCells dA ad (mCpy M a b sp dp n) := by
    refine uCells_arr h1 hi1 ?_ ?_ rfl
    · funext w
      simp [mCpy]
    · intro c hc
      funext w
      simp [mCpy, hc]
  have hsum : ((st.map (cv ad)).map fun v => v.category).sum = (st.map fun v => v.category).sum := by
    rw [List.map_map]
    congr 2
    funext v
    exact cv_cat ad v
  have hlo2 := Nat.le_of_ble_eq_true hlo
  refine va_copyi (sp := nI sp) (dp := nI dp) (n := nI n) cx.1 cx.2.1 (by rw [cx.2.2.1, hL.1]) cx.2.2.2.1 (cx.2.2.2.2.1 _ hl) (cx.2.2.2.2.1 _ uNat) (cx.2.2.2.2.1 _ uNatS) (cx.2.2.2.2.1 _ uNatI) cx.2.2.2.2.2.2.2.1.1 hP (uD cx.2.2.2.2.2.2.2.2) hS q0 q1 0 0 hq0 hq1 rfl rfl rfl (nI_pos (by omega)) (nI_pos (by omega)) (nI_pos (by omega)) (by rw [nI_clamp (by omega), nI_clamp (by omega)]; exact hb1) (by rw [nI_clamp (by omega), nI_clamp (by omega)]; exact hb2) (fun _ _ => rfl) (Nat.le_of_ble_eq_true hf) (by rw [hsum]; exact hlo2) hd (fun H1 locs1 hP1 hD1 hS1 => ?_)
  rw [nI_clamp (by omega), nI_clamp (by omega), nI_clamp (by omega), hset] at hP1
  exact k p l e s m args below meth c D dA ad H1 locs1 ls cx hP1 hS1 hL
theorem uBlind {D : va_G} {dA : Nat → ClassId} {ad : Nat → Nat} {As : List Value} {M : Mem} : FrameBlind (uPc D dA ad As M) := by
  intro a U g mk q
  obtain ⟨q0, qP, qK, qI⟩ := q
  exact ⟨q0, qP, ⟨va_K.moved (u := U) (U := U.calling g mk a) (Vm.Alike.refl U.vm) qK.1, va_Nw.same rfl (u := U) (U := U.calling g mk a) rfl qK.2⟩, qI⟩
theorem cs_intro {u : MI} {As : List Value} {M : Mem} {post : Option Value → Mem → Prop} {L : List (Option Value)} (hy : plainName u.1.cls = true) (hE : ∀ ad, ∀ q ∈ al ad 0 L, q ∈ lv_args 0 (As.map (cv ad))) (hn : ∀ ad, (lg_sl (As.map (cv ad))).length ≤ u.2.2.1) (h : CW u post 0 L [] M) : CS u As M post := by
  intro l D dA ad
  refine Met.ofW (cc := u.2.1) (maxL := u.2.2.1) (ret := u.2.2.2.1) hy rfl ?_
  intro p e s m args below meth c s₁ B hml hv
  obtain ⟨rfl, hP, hK, hI⟩ := hv
  have hts := atoms_spec (ws := uLn u) B.pre
  have hl := lv_entry (As.map (cv ad)) (n := u.2.2.1) (hn ad)
  rw [lg_entry_eq]
  exact h p l e s m _ below meth c D dA ad s.heap [] _ ⟨B.exec, B.bytes, hml, findClass_of_methodNamed B.named, fun w hw => hts w (List.mem_cons_of_mem _ hw), B.returns, B.notSynchronized, hK, hI⟩ hP va_S.rf (hl.mono (hE ad))
theorem uGood {u u' : MI} (hc : Cond.code u'.1 u'.2.1 u'.2.2.1 u'.2.2.2.1 ∈ gt) : GoodIn gt (uLn u') := by
  intro w hw
  rcases List.mem_cons.mp hw with e | e
  · rw [e]
    exact ⟨hc, good_of_word (gt_good hc)⟩
  · exact ⟨e, good_of_word (gt_good e)⟩
/-- the entry idx of own's pool names the static method u' -/
def SL (own : String) (idx : Nat) (u' : MI) (n : Nat) : Prop := (Cond.methodLink own idx u'.1 ∈ gt ∧ Cond.static u'.1 ∈ gt ∧ Cond.initialized u'.1.cls ∈ gt ∧ Cond.code u'.1 u'.2.1 u'.2.2.1 u'.2.2.2.1 ∈ gt) ∧ (u'.1.cls ≠ "java/lang/invoke/MethodHandle" ∧ u'.1.cls ≠ "java/lang/invoke/VarHandle" ∧ (parseMethodDescriptor u'.1.desc).map (fun d => d.parameters.length) = some n)
def VL (own : String) (idx ci : Nat) (u' : MI) (n : Nat) : Prop := (Cond.methodLink own idx u'.1 ∈ gt ∧ Cond.instanceMethod u'.1 ∈ gt ∧ Cond.selects u'.1.cls u'.1 u'.1 ∈ gt ∧ Cond.initialized u'.1.cls ∈ gt ∧ Cond.code u'.1 u'.2.1 u'.2.2.1 u'.2.2.2.1 ∈ gt) ∧ (u'.1.cls ≠ "java/lang/invoke/MethodHandle" ∧ u'.1.cls ≠ "java/lang/invoke/VarHandle" ∧ (parseMethodDescriptor u'.1.desc).map (fun d => d.parameters.length) = some n) ∧ ∃ (T : u_T) (N : Nat), uCls[ci]? = some (u'.1.cls, T, N)
def uFit (u u' : MI) : Bool := Nat.ble (u'.2.2.2.2.1 + 1) u.2.2.2.2.1 && Nat.ble (8 + (u'.2.2.1 + 11) + u'.2.2.2.2.2) u.2.2.2.2.2
theorem uFit_1 {u u' : MI} (h : uFit u u' = true) : (uRm u').frames + 1 ≤ (uRm u).frames ∧ 8 + (u'.2.2.1 + 11) + (uRm u').locals ≤ (uRm u).locals := by
  unfold uFit at h
  rw [Bool.and_eq_true] at h
  exact ⟨Nat.le_of_ble_eq_true h.1, Nat.le_of_ble_eq_true h.2⟩
section CWCALL
variable {p : Program} {l : Launch} {e : Env} {R : Room} {s : State} {m : MethodId} {args : Array Value} {below : List Frame} {meth : Method} {c : Code} {H : Heap} {locs : List Loc} {Q : State → Prop}
theorem cw_run {D : va_G} {dA : Nat → ClassId} {ad : Nat → Nat} {post' : Option Value → Mem → Prop} {pc : Nat} {ls : Array Slot} {st0 rest : List Value} {a : Array Value} (hr : va_Run p l e R s m args below meth c H locs 0 0 0 0 (F0 m pc ls st0) rest (uQc D dA ad post' a) (uA ad)) (hS : va_S (uA ad) s.heap H locs)
    (kk : ∀ (v : Option Value) (M' : Mem) (H1 : Heap) (locs1 : List Loc), post' v M' → va_P D uCls (uCells dA ad M') H1 → va_S (uA ad) s.heap H1 locs1 → W p l e R s m args below meth c H1 locs1 0 0 Q (F0 m (pc + 3) ls ((v.map (cv ad)).toList ++ rest))) : W p l e R s m args below meth c H locs 0 0 Q (F0 m pc ls st0) := by
  intro T hT X
  obtain ⟨v, st₀, t, T', L, h0, X', hL, e1, e2, ⟨⟨v', M', hv, hp, hb⟩, hz, hk⟩, st⟩ := hr T hT X
  cases hv
  rw [h0] at hz hk
  obtain ⟨t2, a1, b1⟩ := kk v' M' T'.heap (locs ++ L) hp (by rw [e1]; exact hb)
    ⟨Nat.le_trans hS.1 (by rw [e1]; exact hz), fun q h1 h2 => by rw [e1, hk q (Nat.lt_of_lt_of_le h1 hS.1) h2]; exact hS.2.1 q h1 h2, fun q hq => by
      rcases List.mem_append.mp hq with h | h
      · exact hS.2.2 q h
      · exact hL q h⟩ T' rfl X'
  exact ⟨t2, st t2 a1, b1⟩
end CWCALL
theorem uSum {ad : Nat → Nat} {st : List Value} (h : Nat.ble ((st.map fun v => v.category).sum) 8 = true) : 2 * 0 + ((st.map (cv ad)).map fun v => v.category).sum ≤ 8 := by
  have hsum : ((st.map (cv ad)).map fun v => v.category).sum = (st.map fun v => v.category).sum := by
    rw [List.map_map]
    congr 2
    funext v
    exact cv_cat ad v
  rw [hsum]
  have := Nat.le_of_ble_eq_true h
  omega
theorem uStk {ad : Nat → Nat} {As st st0 : List Value} (h : st0 = As.reverse ++ st) : st0.map (cv ad) = (As.map (cv ad)).reverse ++ st.map (cv ad) := by
  rw [h, List.map_append, List.map_reverse]
theorem cw_static {u : MI} {post : Option Value → Mem → Prop} {pc : Nat} {L : List (Option Value)} {st : List Value} {M : Mem} {u' : MI} {i : Nat} {As st0 : List Value} {post' : Option Value → Mem → Prop} (hw : SL u.1.cls i u' As.length) (hcs : CS u' As M post') (hst : st0 = As.reverse ++ st) (hf : uFit u u' = true) (hsum : Nat.ble ((st.map fun v => v.category).sum) 8 = true) (hd : decode u.2.1 pc = .ok (.invokestatic i, 3)) (k : ∀ (v : Option Value) (M' : Mem), post' v M' → CW u post (pc + 3) L (v.toList ++ st) M') : CW u post pc L st0 M := by
  intro p l e s m args below meth c D dA ad H locs ls cx hP hS hL
  obtain ⟨⟨w1, w2, w3, w4⟩, w5⟩ := hw
  have hts := cx.2.2.2.2.1
  refine cw_run (va_runS (As := As.map (cv ad)) (rest := st.map (cv ad)) (Ts := gt) (own := u.1.cls) ⟨cx.1, cx.2.1, cx.2.2.1, cx.2.2.2.1, hts⟩ (hcs l D dA ad) ⟨callB_of As.length hts (uGood (u := u) w4) rfl rfl rfl (hts _ w3) (hts _ w1) w5 (uFit_1 hf), hts _ w2⟩ ⟨uBlind, fun U hU hW => ⟨rfl, by rw [hU]; exact hP, cx.2.2.2.2.2.2.2.1.moved hW, cx.2.2.2.2.2.2.2.2⟩⟩ rfl (by simp) hL.1 (uStk hst) (uSum hsum) hd ⟨Nat.zero_le _, Nat.zero_le _⟩) hS (fun v M' H1 locs1 hp hP1 hS1 => ?_)
  have h := k v M' hp p l e s m args below meth c D dA ad H1 locs1 ls cx hP1 hS1 hL
  rw [List.map_append] at h
  cases v <;> exact h
theorem cw_virt {u : MI} {post : Option Value → Mem → Prop} {pc : Nat} {L : List (Option Value)} {st : List Value} {M : Mem} {u' : MI} {i a ci : Nat} {fs : List Fk} {As st0 : List Value} {post' : Option Value → Mem → Prop} (hw : VL u.1.cls i ci u' As.length) (hcs : CS u' (.ref a :: As) M post') (hs : SO a ci fs) (hst : st0 = As.reverse ++ .ref a :: st) (hf : uFit u u' = true) (hsum : Nat.ble ((st.map fun v => v.category).sum) 8 = true) (hd : decode u.2.1 pc = .ok (.invokevirtual i, 3)) (k : ∀ (v : Option Value) (M' : Mem), post' v M' → CW u post (pc + 3) L (v.toList ++ st) M') : CW u post pc L st0 M := by
  intro p l e s m args below meth c D dA ad H locs ls cx hP hS hL
  obtain ⟨⟨w1, w2, w3, w4, w6⟩, w5, T, N, hc⟩ := hw
  have hts := cx.2.2.2.2.1
  obtain ⟨q, hq, -⟩ := uCells_at (dA := dA) (ad := ad) (M := M) hs.2
  rw [uCell_O hs] at hq
  refine cw_run (va_runV (As := As.map (cv ad)) (rest := st.map (cv ad)) (Ts := gt) (own := u.1.cls) (C := u'.1.cls) (b := ad a) ⟨cx.1, cx.2.1, cx.2.2.1, cx.2.2.2.1, hts⟩ (hcs l D dA ad) ⟨callB_of As.length hts (uGood (u := u) w6) rfl rfl rfl (hts _ w4) (hts _ w1) w5 (uFit_1 hf), hts _ w2, hts _ w3⟩ ⟨uBlind, va_recv cx.2.2.2.2.2.2.2.1.1 hP hc hq, fun U hU hW => ⟨rfl, by rw [hU]; exact hP, cx.2.2.2.2.2.2.2.1.moved hW, cx.2.2.2.2.2.2.2.2⟩⟩ rfl (by simp) hL.1 (by show st0.map (cv ad) = _; rw [hst, List.map_append, List.map_reverse]; rfl) (uSum hsum) hd ⟨Nat.zero_le _, Nat.zero_le _⟩) hS (fun v M' H1 locs1 hp hP1 hS1 => ?_)
  have h := k v M' hp p l e s m args below meth c D dA ad H1 locs1 ls cx hP1 hS1 hL
  rw [List.map_append] at h
  cases v <;> exact h
/-- the one call of a nest mate's private static method: Hand.mark, isPart -/
theorem cw_nest {u : MI} {post : Option Value → Mem → Prop} {pc : Nat} {L : List (Option Value)} {st : List Value} {M : Mem} {u' : MI} {As st0 : List Value} {post' : Option Value → Mem → Prop} (hw : u.1.cls = "UnlikeDrawn$Hand" ∧ u'.1 = ⟨"UnlikeDrawn", "isPart", "(I)Z"⟩ ∧ Cond.static u'.1 ∈ gt ∧ Cond.initialized u'.1.cls ∈ gt ∧ Cond.code u'.1 u'.2.1 u'.2.2.1 u'.2.2.2.1 ∈ gt) (hn : As.length = 1) (hcs : CS u' As M post') (hst : st0 = As.reverse ++ st) (hf : uFit u u' = true) (hsum : Nat.ble ((st.map fun v => v.category).sum) 8 = true) (hd : decode u.2.1 pc = .ok (.invokestatic 52, 3)) (k : ∀ (v : Option Value) (M' : Mem), post' v M' → CW u post (pc + 3) L (v.toList ++ st) M') : CW u post pc L st0 M := by
  intro p l e s m args below meth c D dA ad H locs ls cx hP hS hL
  obtain ⟨w0, w1, w2, w3, w4⟩ := hw
  have hts := cx.2.2.2.2.1
  have hnest : va_Nw (.methodLinkNest u.1.cls 52 u'.1 "UnlikeDrawn") s := by rw [w0, w1]; exact cx.2.2.2.2.2.2.2.1.2
  refine cw_run (va_runSN (As := As.map (cv ad)) (rest := st.map (cv ad)) (Ts := gt) (own := u.1.cls) (host := "UnlikeDrawn") ⟨cx.1, cx.2.1, cx.2.2.1, cx.2.2.2.1, hts⟩ (hcs l D dA ad) ⟨va_cnB 1 hts (uGood (u := u) w4) rfl rfl rfl hnest (hts _ w3) (by rw [w1]; decide +kernel) (uFit_1 hf), hts _ w2, trivial⟩ ⟨uBlind, fun U hU hW => ⟨rfl, by rw [hU]; exact hP, cx.2.2.2.2.2.2.2.1.moved hW, cx.2.2.2.2.2.2.2.2⟩⟩ rfl (by simp [hn]) hL.1 (uStk hst) (uSum hsum) hd ⟨Nat.zero_le _, Nat.zero_le _⟩) hS (fun v M' H1 locs1 hp hP1 hS1 => ?_)
  have h := k v M' hp p l e s m args below meth c D dA ad H1 locs1 ls cx hP1 hS1 hL
  rw [List.map_append] at h
  cases v <;> exact h
