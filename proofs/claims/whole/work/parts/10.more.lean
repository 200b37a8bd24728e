/-! ===== rows for pure calls, for numbers that are Nat, for truth values ===== -/
def b2 (b : Bool) : Int32 := if b then 1 else 0
theorem b2_01 (b : Bool) : b2 b = 0 ∨ b2 b = 1 := by cases b <;> simp [b2]
def pI (e : Int32) (M : Mem) : Option Value → Mem → Prop := retI (fun r M' => r = e ∧ M' = M)
def pJ (e : Int64) (M : Mem) : Option Value → Mem → Prop := retJ (fun r M' => r = e ∧ M' = M)
section CWMORE
variable {u : MI} {post : Option Value → Mem → Prop} {pc : Nat} {L : List (Option Value)} {st : List Value} {M : Mem}
theorem cw_cast {L' : List (Option Value)} {st' : List Value} {M' : Mem} (h1 : L = L') (h2 : st = st') (h3 : M = M') (k : CW u post pc L' st' M') : CW u post pc L st M := by
  subst h1; subst h2; subst h3
  exact k
theorem cw_mem {M' : Mem} (h3 : M = M') (k : CW u post pc L st M') : CW u post pc L st M := by
  subst h3
  exact k
theorem cw_top {x y : Int32} (h : x = y) (k : CW u post pc L (.int y :: st) M) : CW u post pc L (.int x :: st) M := by
  subst h
  exact k
theorem cw_topJ {x y : Int64} (h : x = y) (k : CW u post pc L (.long y :: st) M) : CW u post pc L (.long x :: st) M := by
  subst h
  exact k
theorem cw_pc {q : Nat} (h : pc = q) (k : CW u post q L st M) : CW u post pc L st M := by
  subst h
  exact k
theorem cw_staticP {u' : MI} {i : Nat} {As st0 : List Value} {x : Int32} (hcs : CS u' As M (pI x M)) (hst : st0 = As.reverse ++ st) (hw : SL u.1.cls i u' As.length) (hf : uFit u u' = true) (hsum : Nat.ble ((st.map fun v => v.category).sum) 8 = true) (hd : decode u.2.1 pc = .ok (.invokestatic i, 3)) (k : CW u post (pc + 3) L (.int x :: st) M) : CW u post pc L st0 M := by
  refine cw_static hw hcs hst hf hsum hd ?_
  rintro v M' ⟨r, rfl, rfl, rfl⟩
  exact k
theorem cw_staticPJ {u' : MI} {i : Nat} {As st0 : List Value} {x : Int64} (hcs : CS u' As M (pJ x M)) (hst : st0 = As.reverse ++ st) (hw : SL u.1.cls i u' As.length) (hf : uFit u u' = true) (hsum : Nat.ble ((st.map fun v => v.category).sum) 8 = true) (hd : decode u.2.1 pc = .ok (.invokestatic i, 3)) (k : CW u post (pc + 3) L (.long x :: st) M) : CW u post pc L st0 M := by
  refine cw_static hw hcs hst hf hsum hd ?_
  rintro v M' ⟨r, rfl, rfl, rfl⟩
  exact k
theorem cw_staticI {u' : MI} {i : Nat} {As st0 : List Value} {Q : Int32 → Mem → Prop} (hcs : CS u' As M (retI Q)) (hst : st0 = As.reverse ++ st) (hw : SL u.1.cls i u' As.length) (hf : uFit u u' = true) (hsum : Nat.ble ((st.map fun v => v.category).sum) 8 = true) (hd : decode u.2.1 pc = .ok (.invokestatic i, 3)) (k : ∀ (r : Int32) (M' : Mem), Q r M' → CW u post (pc + 3) L (.int r :: st) M') : CW u post pc L st0 M := by
  refine cw_static hw hcs hst hf hsum hd ?_
  rintro v M' ⟨r, rfl, h⟩
  exact k r M' h
theorem cw_staticV {u' : MI} {i : Nat} {As st0 : List Value} {Q : Mem → Prop} (hcs : CS u' As M (retV Q)) (hst : st0 = As.reverse ++ st) (hw : SL u.1.cls i u' As.length) (hf : uFit u u' = true) (hsum : Nat.ble ((st.map fun v => v.category).sum) 8 = true) (hd : decode u.2.1 pc = .ok (.invokestatic i, 3)) (k : ∀ (M' : Mem), Q M' → CW u post (pc + 3) L st M') : CW u post pc L st0 M := by
  refine cw_static hw hcs hst hf hsum hd ?_
  rintro v M' ⟨rfl, h⟩
  exact k M' h
theorem cw_virtP {u' : MI} {i a ci : Nat} {fs : List Fk} {As st0 : List Value} {x : Int32} (hcs : CS u' (.ref a :: As) M (pI x M)) (hst : st0 = As.reverse ++ .ref a :: st) (hw : VL u.1.cls i ci u' As.length) (hs : SO a ci fs) (hf : uFit u u' = true) (hsum : Nat.ble ((st.map fun v => v.category).sum) 8 = true) (hd : decode u.2.1 pc = .ok (.invokevirtual i, 3)) (k : CW u post (pc + 3) L (.int x :: st) M) : CW u post pc L st0 M := by
  refine cw_virt hw hcs hs hst hf hsum hd ?_
  rintro v M' ⟨r, rfl, rfl, rfl⟩
  exact k
theorem cw_virtPJ {u' : MI} {i a ci : Nat} {fs : List Fk} {As st0 : List Value} {x : Int64} (hcs : CS u' (.ref a :: As) M (pJ x M)) (hst : st0 = As.reverse ++ .ref a :: st) (hw : VL u.1.cls i ci u' As.length) (hs : SO a ci fs) (hf : uFit u u' = true) (hsum : Nat.ble ((st.map fun v => v.category).sum) 8 = true) (hd : decode u.2.1 pc = .ok (.invokevirtual i, 3)) (k : CW u post (pc + 3) L (.long x :: st) M) : CW u post pc L st0 M := by
  refine cw_virt hw hcs hs hst hf hsum hd ?_
  rintro v M' ⟨r, rfl, rfl, rfl⟩
  exact k
theorem cw_virtI {u' : MI} {i a ci : Nat} {fs : List Fk} {As st0 : List Value} {Q : Int32 → Mem → Prop} (hcs : CS u' (.ref a :: As) M (retI Q)) (hst : st0 = As.reverse ++ .ref a :: st) (hw : VL u.1.cls i ci u' As.length) (hs : SO a ci fs) (hf : uFit u u' = true) (hsum : Nat.ble ((st.map fun v => v.category).sum) 8 = true) (hd : decode u.2.1 pc = .ok (.invokevirtual i, 3)) (k : ∀ (r : Int32) (M' : Mem), Q r M' → CW u post (pc + 3) L (.int r :: st) M') : CW u post pc L st0 M := by
  refine cw_virt hw hcs hs hst hf hsum hd ?_
  rintro v M' ⟨r, rfl, h⟩
  exact k r M' h
theorem cw_virtJ {u' : MI} {i a ci : Nat} {fs : List Fk} {As st0 : List Value} {Q : Int64 → Mem → Prop} (hcs : CS u' (.ref a :: As) M (retJ Q)) (hst : st0 = As.reverse ++ .ref a :: st) (hw : VL u.1.cls i ci u' As.length) (hs : SO a ci fs) (hf : uFit u u' = true) (hsum : Nat.ble ((st.map fun v => v.category).sum) 8 = true) (hd : decode u.2.1 pc = .ok (.invokevirtual i, 3)) (k : ∀ (r : Int64) (M' : Mem), Q r M' → CW u post (pc + 3) L (.long r :: st) M') : CW u post pc L st0 M := by
  refine cw_virt hw hcs hs hst hf hsum hd ?_
  rintro v M' ⟨r, rfl, h⟩
  exact k r M' h
theorem cw_virtV {u' : MI} {i a ci : Nat} {fs : List Fk} {As st0 : List Value} {Q : Mem → Prop} (hcs : CS u' (.ref a :: As) M (retV Q)) (hst : st0 = As.reverse ++ .ref a :: st) (hw : VL u.1.cls i ci u' As.length) (hs : SO a ci fs) (hf : uFit u u' = true) (hsum : Nat.ble ((st.map fun v => v.category).sum) 8 = true) (hd : decode u.2.1 pc = .ok (.invokevirtual i, 3)) (k : ∀ (M' : Mem), Q M' → CW u post (pc + 3) L st M') : CW u post pc L st0 M := by
  refine cw_virt hw hcs hs hst hf hsum hd ?_
  rintro v M' ⟨rfl, h⟩
  exact k M' h
theorem cw_nestP {u' : MI} {As st0 : List Value} {x : Int32} (hcs : CS u' As M (pI x M)) (hst : st0 = As.reverse ++ st) (hw : u.1.cls = "UnlikeDrawn$Hand" ∧ u'.1 = ⟨"UnlikeDrawn", "isPart", "(I)Z"⟩ ∧ Cond.static u'.1 ∈ gt ∧ Cond.initialized u'.1.cls ∈ gt ∧ Cond.code u'.1 u'.2.1 u'.2.2.1 u'.2.2.2.1 ∈ gt) (hn : As.length = 1) (hf : uFit u u' = true) (hsum : Nat.ble ((st.map fun v => v.category).sum) 8 = true) (hd : decode u.2.1 pc = .ok (.invokestatic 52, 3)) (k : CW u post (pc + 3) L (.int x :: st) M) : CW u post pc L st0 M := by
  refine cw_nest hw hn hcs hst hf hsum hd ?_
  rintro v M' ⟨r, rfl, rfl, rfl⟩
  exact k
theorem cw_bif_eq {b : Bool} {off : Int} (tgt : Nat) (hd : decode u.2.1 pc = .ok (.ifCond .eq off, 3)) (ht : (pc : Int) + off = (tgt : Int)) (kt : b = false → CW u post tgt L st M) (kf : b = true → CW u post (pc + 3) L st M) : CW u post pc L (.int (b2 b) :: st) M := by
  refine cw_if_eq tgt hd ht (fun h => kt ?_) (fun h => kf ?_) <;> cases b <;> simp_all [b2]
theorem cw_bif_ne {b : Bool} {off : Int} (tgt : Nat) (hd : decode u.2.1 pc = .ok (.ifCond .ne off, 3)) (ht : (pc : Int) + off = (tgt : Int)) (kt : b = true → CW u post tgt L st M) (kf : b = false → CW u post (pc + 3) L st M) : CW u post pc L (.int (b2 b) :: st) M := by
  refine cw_if_ne tgt hd ht (fun h => kt ?_) (fun h => kf ?_) <;> cases b <;> simp_all [b2]
theorem cw_icmp_geN {x y : Int32} {off : Int} (i n : Nat) (tgt : Nat) (hx : x = nI i) (hy : y = nI n) (hb : i < 2 ^ 31 ∧ n < 2 ^ 31) (hd : decode u.2.1 pc = .ok (.if_icmp .ge off, 3)) (ht : (pc : Int) + off = (tgt : Int)) (kt : n ≤ i → CW u post tgt L st M) (kf : i < n → CW u post (pc + 3) L st M) : CW u post pc L (.int y :: .int x :: st) M := by
  subst hx; subst hy
  exact cw_icmp_ge tgt hd ht (fun h => kt ((nI_leI hb.2 hb.1).mp h)) (fun h => kf (Nat.lt_of_not_le fun q => h ((nI_leI hb.2 hb.1).mpr q)))
theorem cw_icmp_gtN {x y : Int32} {off : Int} (i n : Nat) (tgt : Nat) (hx : x = nI i) (hy : y = nI n) (hb : i < 2 ^ 31 ∧ n < 2 ^ 31) (hd : decode u.2.1 pc = .ok (.if_icmp .gt off, 3)) (ht : (pc : Int) + off = (tgt : Int)) (kt : n < i → CW u post tgt L st M) (kf : i ≤ n → CW u post (pc + 3) L st M) : CW u post pc L (.int y :: .int x :: st) M := by
  subst hx; subst hy
  exact cw_icmp_gt tgt hd ht (fun h => kt ((nI_ltI hb.2 hb.1).mp h)) (fun h => kf (Nat.le_of_not_lt fun q => h ((nI_ltI hb.2 hb.1).mpr q)))
theorem cw_icmp_neN {x y : Int32} {off : Int} (i n : Nat) (tgt : Nat) (hx : x = nI i) (hy : y = nI n) (hb : i < 2 ^ 31 ∧ n < 2 ^ 31) (hd : decode u.2.1 pc = .ok (.if_icmp .ne off, 3)) (ht : (pc : Int) + off = (tgt : Int)) (kt : i ≠ n → CW u post tgt L st M) (kf : i = n → CW u post (pc + 3) L st M) : CW u post pc L (.int y :: .int x :: st) M := by
  subst hx; subst hy
  exact cw_icmp_ne tgt hd ht (fun h => kt (fun q => h ((nI_eq hb.1 hb.2).mpr q))) (fun h => kf ((nI_eq hb.1 hb.2).mp h))
theorem cw_icmp_eqN {x y : Int32} {off : Int} (i n : Nat) (tgt : Nat) (hx : x = nI i) (hy : y = nI n) (hb : i < 2 ^ 31 ∧ n < 2 ^ 31) (hd : decode u.2.1 pc = .ok (.if_icmp .eq off, 3)) (ht : (pc : Int) + off = (tgt : Int)) (kt : i = n → CW u post tgt L st M) (kf : i ≠ n → CW u post (pc + 3) L st M) : CW u post pc L (.int y :: .int x :: st) M := by
  subst hx; subst hy
  exact cw_icmp_eq tgt hd ht (fun h => kt ((nI_eq hb.1 hb.2).mp h)) (fun h => kf (fun q => h ((nI_eq hb.1 hb.2).mpr q)))
theorem cw_iincN {i x : Nat} (hd : decode u.2.1 pc = .ok (.iinc i 1, 3)) (hl : lget L i = some (.int (nI x))) (hn : Nat.ble (i + 1) u.2.2.1 = true) (k : CW u post (pc + 3) (lset1 L i (.int (nI (x + 1)))) st M) : CW u post pc L st M := by
  refine cw_iinc hd hl hn ?_
  have e : nI x + Int32.ofInt 1 = nI (x + 1) := nI_1 x
  rw [e]
  exact k
end CWMORE
theorem up_ind {n : Nat} {C : Nat → Prop} (h : ∀ i, i ≤ n → (i < n → C (i + 1)) → C i) : ∀ i, i ≤ n → C i := by
  intro i hi
  obtain ⟨d, hd⟩ : ∃ d, n - i = d := ⟨_, rfl⟩
  induction d generalizing i with
  | zero => exact h i hi (fun q => by omega)
  | succ d ih => exact h i hi (fun q => ih (i + 1) (by omega) (by omega))
/-! ===== shapes ===== -/
theorem so_C : SO 0 6 [.inl 1, .inl 2, .inl 3, .inl 4, .inl 5, fI, fI, fI, fI, fI, fI, fI, .inl 130, .inl 6, .inl 7, .inl 8, .inl 9] := ⟨rfl, by decide +kernel⟩
theorem so_M : SO 1000 7 [.inl 1001, .inl 1002, .inl 1003, .inl 1004, fI, fI, .inl 1007, .inl 1008, .inl 1009, fI, .inl 1011, .inl 1012, fI, .inl 1014, .inl 1015, .inl 1016, .inl 1017, .inl 1018, .inl 1019, fI, .inl 1021, .inl 1022, .inl 1023, fI, fJ, fJ, .inl 1027] := ⟨rfl, by decide +kernel⟩
theorem so_fr : SO 8 0 [fJ, fJ] := ⟨rfl, by decide +kernel⟩
theorem so_gr : SO 9 0 [fJ, fJ] := ⟨rfl, by decide +kernel⟩
theorem sr_1 : SR 1 1 8 (fun i => 10 + i) := ⟨rfl, by decide +kernel, by decide, by decide⟩
theorem sr_2 : SR 2 2 4 (fun i => 30 + i) := ⟨rfl, by decide +kernel, by decide, by decide⟩
theorem sr_3 : SR 3 3 30 (fun i => 100 + i) := ⟨rfl, by decide +kernel, by decide, by decide⟩
theorem sr_4 : SR 4 4 4 (fun i => 60 + i) := ⟨rfl, by decide +kernel, by decide, by decide⟩
theorem sr_5 : SR 5 5 4 (fun i => 80 + i) := ⟨rfl, by decide +kernel, by decide, by decide⟩
theorem sa_6 : SA 6 8 := ⟨rfl, by decide +kernel⟩
theorem sa_7 : SA 7 8 := ⟨rfl, by decide +kernel⟩
theorem so_He {h : Nat} (hh : h < 8) : SO (10 + h) 2 [.inl (20 + h)] := by
  refine ⟨?_, (by decide +kernel : ∀ h, h < 8 → 10 + h ∈ uIds) h hh⟩
  have e : 10 + h + 10 = 20 + h := by omega
  simp [uSh, e, show ¬ 10 + h < 10 by omega, show 10 + h < 20 by omega]
theorem sa_pl {h : Nat} (hh : h < 8) : SA (20 + h) 8 := by
  refine ⟨?_, (by decide +kernel : ∀ h, h < 8 → 20 + h ∈ uIds) h hh⟩
  simp [uSh, show ¬ 20 + h < 10 by omega, show ¬ 20 + h < 20 by omega, show 20 + h < 30 by omega]
theorem so_Ha {h : Nat} (hh : h < 4) : SO (30 + h) 1 [.inl (40 + h), .inl (50 + h), fI, fI] := by
  refine ⟨?_, (by decide +kernel : ∀ h, h < 4 → 30 + h ∈ uIds) h hh⟩
  have e : 30 + h + 10 = 40 + h := by omega
  have e2 : 30 + h + 20 = 50 + h := by omega
  simp [uSh, e, e2, show ¬ 30 + h < 10 by omega, show ¬ 30 + h < 20 by omega, show ¬ 30 + h < 30 by omega, show 30 + h < 40 by omega]
theorem sa_tx {h : Nat} (hh : h < 4) : SA (40 + h) 40 := by
  refine ⟨?_, (by decide +kernel : ∀ h, h < 4 → 40 + h ∈ uIds) h hh⟩
  simp [uSh, show ¬ 40 + h < 10 by omega, show ¬ 40 + h < 20 by omega, show ¬ 40 + h < 30 by omega, show ¬ 40 + h < 40 by omega, show 40 + h < 50 by omega]
theorem sa_tn {h : Nat} (hh : h < 4) : SA (50 + h) 8 := by
  refine ⟨?_, (by decide +kernel : ∀ h, h < 4 → 50 + h ∈ uIds) h hh⟩
  simp [uSh, show ¬ 50 + h < 10 by omega, show ¬ 50 + h < 20 by omega, show ¬ 50 + h < 30 by omega, show ¬ 50 + h < 40 by omega, show ¬ 50 + h < 50 by omega, show 50 + h < 60 by omega]
theorem so_Kn {h : Nat} (hh : h < 4) : SO (60 + h) 3 [.inl (70 + h), fI] := by
  refine ⟨?_, (by decide +kernel : ∀ h, h < 4 → 60 + h ∈ uIds) h hh⟩
  have e : 60 + h + 10 = 70 + h := by omega
  simp [uSh, e, show ¬ 60 + h < 10 by omega, show ¬ 60 + h < 20 by omega, show ¬ 60 + h < 30 by omega, show ¬ 60 + h < 40 by omega, show ¬ 60 + h < 50 by omega, show ¬ 60 + h < 60 by omega, show 60 + h < 70 by omega]
theorem sa_km {h : Nat} (hh : h < 4) : SA (70 + h) 8 := by
  refine ⟨?_, (by decide +kernel : ∀ h, h < 4 → 70 + h ∈ uIds) h hh⟩
  simp [uSh, show ¬ 70 + h < 10 by omega, show ¬ 70 + h < 20 by omega, show ¬ 70 + h < 30 by omega, show ¬ 70 + h < 40 by omega, show ¬ 70 + h < 50 by omega, show ¬ 70 + h < 60 by omega, show ¬ 70 + h < 70 by omega, show 70 + h < 80 by omega]
theorem so_Sh {h : Nat} (hh : h < 4) : SO (80 + h) 4 [.inl (90 + h), fI, fI] := by
  refine ⟨?_, (by decide +kernel : ∀ h, h < 4 → 80 + h ∈ uIds) h hh⟩
  have e : 80 + h + 10 = 90 + h := by omega
  simp [uSh, e, show ¬ 80 + h < 10 by omega, show ¬ 80 + h < 20 by omega, show ¬ 80 + h < 30 by omega, show ¬ 80 + h < 40 by omega, show ¬ 80 + h < 50 by omega, show ¬ 80 + h < 60 by omega, show ¬ 80 + h < 70 by omega, show ¬ 80 + h < 80 by omega, show 80 + h < 90 by omega]
theorem sa_it {h : Nat} (hh : h < 4) : SA (90 + h) 60 := by
  refine ⟨?_, (by decide +kernel : ∀ h, h < 4 → 90 + h ∈ uIds) h hh⟩
  simp [uSh, show ¬ 90 + h < 10 by omega, show ¬ 90 + h < 20 by omega, show ¬ 90 + h < 30 by omega, show ¬ 90 + h < 40 by omega, show ¬ 90 + h < 50 by omega, show ¬ 90 + h < 60 by omega, show ¬ 90 + h < 70 by omega, show ¬ 90 + h < 80 by omega, show ¬ 90 + h < 90 by omega, show 90 + h < 100 by omega]
theorem uSh_big {k : Nat} (h : 100 ≤ k) : uSh k = if k < 200 then .inr (.inr (5, [.inl (k + 100), .inl (k + 200), fI, fI, fI, fI])) else if k < 400 then .inl 8 else shM k := by
  simp [uSh, show ¬ k < 10 by omega, show ¬ k < 20 by omega, show ¬ k < 30 by omega, show ¬ k < 40 by omega, show ¬ k < 50 by omega, show ¬ k < 60 by omega, show ¬ k < 70 by omega, show ¬ k < 80 by omega, show ¬ k < 90 by omega, show ¬ k < 100 by omega]
theorem so_Sk {d : Nat} (hd : d < 31) : SO (100 + d) 5 [.inl (200 + d), .inl (300 + d), fI, fI, fI, fI] := by
  refine ⟨?_, (by decide +kernel : ∀ h, h < 31 → 100 + h ∈ uIds) d hd⟩
  have e : 100 + d + 100 = 200 + d := by omega
  have e2 : 100 + d + 200 = 300 + d := by omega
  rw [uSh_big (by omega), if_pos (by omega), e, e2]
theorem sa_ba {d : Nat} (hd : d < 31) : SA (200 + d) 8 := by
  refine ⟨?_, (by decide +kernel : ∀ h, h < 31 → 200 + h ∈ uIds) d hd⟩
  rw [uSh_big (by omega), if_neg (by omega), if_pos (by omega)]
theorem sa_li {d : Nat} (hd : d < 31) : SA (300 + d) 8 := by
  refine ⟨?_, (by decide +kernel : ∀ h, h < 31 → 300 + h ∈ uIds) d hd⟩
  rw [uSh_big (by omega), if_neg (by omega), if_pos (by omega)]
theorem so_tr : SO 130 5 [.inl 230, .inl 330, fI, fI, fI, fI] := so_Sk (d := 30) (by decide)
theorem sa_tb : SA 230 8 := sa_ba (d := 30) (by decide)
theorem sa_tl : SA 330 8 := sa_li (d := 30) (by decide)
theorem sm_forms : SA 1001 4 := ⟨rfl, by decide +kernel⟩
theorem sm_sizes : SA 1002 4 := ⟨rfl, by decide +kernel⟩
theorem sm_items : SA 1003 240 := ⟨rfl, by decide +kernel⟩
theorem sm_moved : SA 1004 60 := ⟨rfl, by decide +kernel⟩
theorem sm_places : SA 1007 64 := ⟨rfl, by decide +kernel⟩
theorem sm_text : SA 1008 160 := ⟨rfl, by decide +kernel⟩
theorem sm_typed : SA 1009 4 := ⟨rfl, by decide +kernel⟩
theorem sm_tenthsOf : SA 1011 8 := ⟨rfl, by decide +kernel⟩
theorem sm_settings : SA 1012 3 := ⟨rfl, by decide +kernel⟩
theorem sm_drawnHead : SA 1014 30 := ⟨rfl, by decide +kernel⟩
theorem sm_drawnYear : SA 1015 30 := ⟨rfl, by decide +kernel⟩
theorem sm_drawnKind : SA 1016 30 := ⟨rfl, by decide +kernel⟩
theorem sm_copiedFrom : SA 1017 30 := ⟨rfl, by decide +kernel⟩
theorem sm_lines : SA 1018 240 := ⟨rfl, by decide +kernel⟩
theorem sm_means : SA 1019 240 := ⟨rfl, by decide +kernel⟩
theorem sm_knows : SA 1021 4 := ⟨rfl, by decide +kernel⟩
theorem sm_own : SA 1022 32 := ⟨rfl, by decide +kernel⟩
theorem sm_seen : SA 1023 8 := ⟨rfl, by decide +kernel⟩
theorem sm_off : SA 1027 8 := ⟨rfl, by decide +kernel⟩
section CWTERN
variable {u : MI} {post : Option Value → Mem → Prop} {pc : Nat} {L : List (Option Value)} {st : List Value} {M : Mem}
theorem cw_tern0 (q : Nat) (e : Int32) (J : CW u post q L (.int e :: st) M) (h : (∀ x : Int32, x = e → CW u post q L (.int x :: st) M) → CW u post pc L st M) : CW u post pc L st M := h (fun x hx => hx ▸ J)
theorem cw_tern1 {c : Int32} (q : Nat) (e : Int32) (J : CW u post q L (.int e :: st) M) (h : (∀ x : Int32, x = e → CW u post q L (.int x :: st) M) → CW u post pc L (.int c :: st) M) : CW u post pc L (.int c :: st) M := h (fun x hx => hx ▸ J)
theorem cw_tern2 {c d : Int32} (q : Nat) (e : Int32) (J : CW u post q L (.int e :: st) M) (h : (∀ x : Int32, x = e → CW u post q L (.int x :: st) M) → CW u post pc L (.int c :: .int d :: st) M) : CW u post pc L (.int c :: .int d :: st) M := h (fun x hx => hx ▸ J)
theorem cw_tern0J (q : Nat) (e : Int64) (J : CW u post q L (.long e :: st) M) (h : (∀ x : Int64, x = e → CW u post q L (.long x :: st) M) → CW u post pc L st M) : CW u post pc L st M := h (fun x hx => hx ▸ J)
theorem cw_tern1J {c : Int32} (q : Nat) (e : Int64) (J : CW u post q L (.long e :: st) M) (h : (∀ x : Int64, x = e → CW u post q L (.long x :: st) M) → CW u post pc L (.int c :: st) M) : CW u post pc L (.int c :: st) M := h (fun x hx => hx ▸ J)
theorem cw_tern2J {c d : Int32} (q : Nat) (e : Int64) (J : CW u post q L (.long e :: st) M) (h : (∀ x : Int64, x = e → CW u post q L (.long x :: st) M) → CW u post pc L (.int c :: .int d :: st) M) : CW u post pc L (.int c :: .int d :: st) M := h (fun x hx => hx ▸ J)
end CWTERN
/-! ===== numbers ===== -/
theorem nAdd {x y : Int32} {a b : Nat} (hx : x = nI a) (hy : y = nI b) : x + y = nI (a + b) := by rw [hx, hy, nI_add]
theorem nMul {x y : Int32} {a b : Nat} (hx : x = nI a) (hy : y = nI b) : x * y = nI (a * b) := by rw [hx, hy, pk_mul]
theorem nSub {x y : Int32} {a b : Nat} (hx : x = nI a) (hy : y = nI b) (h : b ≤ a) : x - y = nI (a - b) := by rw [hx, hy, pk_sub h]
def ixB (x : Int32) (n : Nat) : Bool := decide (0 ≤ x.toInt ∧ x.toInt < (n : Int))
theorem i32_lt {x y : Int32} : x < y ↔ x.toInt < y.toInt := Int32.lt_iff_toInt_lt
theorem i32_le {x y : Int32} : x ≤ y ↔ x.toInt ≤ y.toInt := Int32.le_iff_toInt_le
theorem i64_lt {x y : Int64} : x < y ↔ x.toInt < y.toInt := Int64.lt_iff_toInt_lt
theorem i64_le {x y : Int64} : x ≤ y ↔ x.toInt ≤ y.toInt := Int64.le_iff_toInt_le
theorem nI_ofInt {x : Int32} {i : Nat} (h : x.toInt = (i : Int)) (hi : i < 2 ^ 31) : x = nI i := Int32.toInt_inj.mp (by rw [h, nI_toInt hi])
theorem ixB_t {x : Int32} {n : Nat} (h : ixB x n = true) (hn : n < 2 ^ 31) : ∃ i : Nat, i < n ∧ x = nI i := by
  have h1 := of_decide_eq_true h
  exact ⟨x.toInt.toNat, by omega, nI_ofInt (by omega) (by omega)⟩
theorem ixB_nI {i n : Nat} (h : i < n) (hn : n < 2 ^ 31) : ixB (nI i) n = true := by
  unfold ixB
  rw [nI_toInt (by omega)]
  exact decide_eq_true (by omega)
theorem ixB_f {x : Int32} {n : Nat} (h : x < 0) : b2 (ixB x n) = 0 := by
  have h1 : x.toInt < (0 : Int32).toInt := i32_lt.mp h
  have h0 : (0 : Int32).toInt = 0 := rfl
  unfold ixB b2
  rw [decide_eq_false (by omega)]
  rfl
theorem ixB_g {x y : Int32} {n : Nat} (h : y ≤ x) (hy : y = nI n) (hn : n < 2 ^ 31) : b2 (ixB x n) = 0 := by
  subst hy
  have h1 := i32_le.mp h
  rw [nI_toInt hn] at h1
  unfold ixB b2
  rw [decide_eq_false (by omega)]
  rfl
theorem ixB_h {x y : Int32} {n : Nat} (h0 : ¬ x < 0) (h : ¬ y ≤ x) (hy : y = nI n) (hn : n < 2 ^ 31) : b2 (ixB x n) = 1 := by
  subst hy
  have h1 : ¬ x.toInt < (0 : Int32).toInt := fun q => h0 (i32_lt.mpr q)
  have h2 : ¬ (nI n).toInt ≤ x.toInt := fun q => h (i32_le.mpr q)
  rw [nI_toInt hn] at h2
  have e0 : (0 : Int32).toInt = 0 := rfl
  unfold ixB b2
  rw [decide_eq_true (by omega)]
  rfl
theorem cs_introF {u : MI} {As : List Value} {M : Mem} {post : Option Value → Mem → Prop} {L : List (Option Value)} (hy : plainFor u.1 = true) (hE : ∀ ad, ∀ q ∈ al ad 0 L, q ∈ lv_args 0 (As.map (cv ad))) (hn : ∀ ad, (lg_sl (As.map (cv ad))).length ≤ u.2.2.1) (h : CW u post 0 L [] M) : CS u As M post := by
  intro l D dA ad
  refine va_MetF (cc := u.2.1) (maxL := u.2.2.1) (ret := u.2.2.2.1) hy rfl ?_
  intro p e s m args below meth c s₁ B hml hv
  obtain ⟨rfl, hP, hK, hI⟩ := hv
  have hts := atoms_spec (ws := uLn u) B.pre
  have hl := lv_entry (As.map (cv ad)) (n := u.2.2.1) (hn ad)
  rw [lg_entry_eq]
  exact h p l e s m _ below meth c D dA ad s.heap [] _ ⟨B.exec, B.bytes, hml, findClass_of_methodNamed B.named, fun w hw => hts w (List.mem_cons_of_mem _ hw), B.returns, B.notSynchronized, hK, hI⟩ hP va_S.rf (hl.mono (hE ad))
theorem i64_nle {x y : Int64} : ¬ x ≤ y ↔ y < x := by rw [i64_le, i64_lt]; omega
theorem i32_nle {x y : Int32} : ¬ x ≤ y ↔ y < x := by rw [i32_le, i32_lt]; omega
theorem i64_nlt {x y : Int64} : ¬ x < y ↔ y ≤ x := by rw [i64_le, i64_lt]; omega
theorem i32_nlt {x y : Int32} : ¬ x < y ↔ y ≤ x := by rw [i32_le, i32_lt]; omega
theorem lgc {x y : Int64} : (lg_cmp x y = 1 ∧ y < x) ∨ (lg_cmp x y = 0 ∧ x = y) ∨ (lg_cmp x y = -1 ∧ x < y) := by
  unfold lg_cmp
  by_cases h1 : y < x
  · exact Or.inl ⟨if_pos h1, h1⟩
  · rw [if_neg h1]
    by_cases h2 : x = y
    · exact Or.inr (Or.inl ⟨if_pos h2, h2⟩)
    · refine Or.inr (Or.inr ⟨if_neg h2, ?_⟩)
      rw [i64_lt] at *
      have : x.toInt ≠ y.toInt := fun q => h2 (Int64.toInt_inj.mp q)
      omega
theorem lgc_eq {x y : Int64} : lg_cmp x y = 0 ↔ x = y := by
  rcases lgc (x := x) (y := y) with ⟨h, q⟩ | ⟨h, q⟩ | ⟨h, q⟩ <;> rw [h]
  · exact ⟨fun z => absurd z (by decide), fun z => by subst z; rw [i64_lt] at q; omega⟩
  · exact ⟨fun _ => q, fun _ => rfl⟩
  · exact ⟨fun z => absurd z (by decide), fun z => by subst z; rw [i64_lt] at q; omega⟩
theorem lgc_ge {x y : Int64} : 0 ≤ lg_cmp x y ↔ y ≤ x := by
  rcases lgc (x := x) (y := y) with ⟨h, q⟩ | ⟨h, q⟩ | ⟨h, q⟩ <;> rw [h]
  · rw [i64_lt] at q; rw [i64_le]
    exact ⟨fun _ => by omega, fun _ => by decide⟩
  · subst q; rw [i64_le]
    exact ⟨fun _ => by omega, fun _ => by decide⟩
  · rw [i64_lt] at q; rw [i64_le]
    exact ⟨fun z => absurd z (by decide), fun z => by omega⟩
theorem lgc_lt {x y : Int64} : lg_cmp x y < 0 ↔ x < y := by
  rcases lgc (x := x) (y := y) with ⟨h, q⟩ | ⟨h, q⟩ | ⟨h, q⟩ <;> rw [h]
  · rw [i64_lt] at *
    exact ⟨fun z => absurd z (by decide), fun z => by omega⟩
  · subst q; rw [i64_lt (x := x)]
    exact ⟨fun z => absurd z (by decide), fun z => by omega⟩
  · exact ⟨fun _ => q, fun _ => by decide⟩
theorem lgc_le {x y : Int64} : lg_cmp x y ≤ 0 ↔ x ≤ y := by
  rcases lgc (x := x) (y := y) with ⟨h, q⟩ | ⟨h, q⟩ | ⟨h, q⟩ <;> rw [h]
  · rw [i64_lt] at q; rw [i64_le]
    exact ⟨fun z => absurd z (by decide), fun z => by omega⟩
  · subst q; rw [i64_le]
    exact ⟨fun _ => by omega, fun _ => by decide⟩
  · rw [i64_lt] at q; rw [i64_le]
    exact ⟨fun _ => by omega, fun _ => by decide⟩
theorem lgc_gt {x y : Int64} : 0 < lg_cmp x y ↔ y < x := by
  rcases lgc (x := x) (y := y) with ⟨h, q⟩ | ⟨h, q⟩ | ⟨h, q⟩ <;> rw [h]
  · exact ⟨fun _ => q, fun _ => by decide⟩
  · subst q; rw [i64_lt (x := x)]
    exact ⟨fun z => absurd z (by decide), fun z => by omega⟩
  · rw [i64_lt] at *
    exact ⟨fun z => absurd z (by decide), fun z => by omega⟩
