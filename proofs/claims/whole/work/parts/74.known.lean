/-! ===== what the tables say at the law's entry ===== -/
theorem tb_at {w : Cond} (i : Nat) (h : tables_1[i]? = some w) : w ∈ lw_tbl := List.mem_append_right _ (List.mem_of_getElem? h)
theorem uKn_at {s : State} {args : Array Value} (hts : ∀ w ∈ lw_tbl, w.before args s = true) : ∃ (D : va_G) (dA : Nat → ClassId), uKn D dA s := by
  have hg : ∀ w ∈ gt, w.before args s = true := fun w hw => hts w (List.mem_filter.mp hw).1
  obtain ⟨c0, j0, h0⟩ := u_known hg (uCls_ok (ci := 0) rfl).1 (hts (.instantiable "UnlikeDrawn$Fraction" 2) (tb_at 61 (by decide +kernel)))
  obtain ⟨c1, j1, h1⟩ := u_known hg (uCls_ok (ci := 1) rfl).1 (hts (.instantiable "UnlikeDrawn$Hand" 4) (tb_at 89 (by decide +kernel)))
  obtain ⟨c2, j2, h2⟩ := u_known hg (uCls_ok (ci := 2) rfl).1 (hts (.instantiable "UnlikeDrawn$Head" 1) (tb_at 75 (by decide +kernel)))
  obtain ⟨c3, j3, h3⟩ := u_known hg (uCls_ok (ci := 3) rfl).1 (hts (.instantiable "UnlikeDrawn$Knower" 2) (tb_at 111 (by decide +kernel)))
  obtain ⟨c4, j4, h4⟩ := u_known hg (uCls_ok (ci := 4) rfl).1 (hts (.instantiable "UnlikeDrawn$Sheet" 3) (tb_at 125 (by decide +kernel)))
  obtain ⟨c5, j5, h5⟩ := u_known hg (uCls_ok (ci := 5) rfl).1 (hts (.instantiable "UnlikeDrawn$Sketch" 6) (tb_at 31 (by decide +kernel)))
  obtain ⟨c6, j6, h6⟩ := u_known hg (uCls_ok (ci := 6) rfl).1 (hts (.instantiable "UnlikeDrawn" 17) (tb_at 14 (by decide +kernel)))
  obtain ⟨c7, j7, h7⟩ := u_known hg (uCls_ok (ci := 7) rfl).1 (hts (.instantiable "UnlikeDrawnModel" 27) (tb_at 600 (by decide +kernel)))
  obtain ⟨d0, k0, p0, a0, b0, e0⟩ := Cond.arrayClass_spec (args := args) (first := s) (o := none) (s := s) (idx := []) (hts (.arrayClass .int) (tb_at 59 (by decide +kernel)))
  obtain ⟨p1, d1, k1, f1, g1, b1, e1, a1⟩ := Cond.arrayOver_spec (args := args) (first := s) (o := none) (s := s) (idx := []) (hts (.arrayOver (.object "UnlikeDrawn$Head")) (tb_at 22 (by decide +kernel)))
  obtain ⟨p2, d2, k2, f2, g2, b2, e2, a2⟩ := Cond.arrayOver_spec (args := args) (first := s) (o := none) (s := s) (idx := []) (hts (.arrayOver (.object "UnlikeDrawn$Hand")) (tb_at 24 (by decide +kernel)))
  obtain ⟨p3, d3, k3, f3, g3, b3, e3, a3⟩ := Cond.arrayOver_spec (args := args) (first := s) (o := none) (s := s) (idx := []) (hts (.arrayOver (.object "UnlikeDrawn$Sketch")) (tb_at 26 (by decide +kernel)))
  obtain ⟨p4, d4, k4, f4, g4, b4, e4, a4⟩ := Cond.arrayOver_spec (args := args) (first := s) (o := none) (s := s) (idx := []) (hts (.arrayOver (.object "UnlikeDrawn$Knower")) (tb_at 28 (by decide +kernel)))
  obtain ⟨p5, d5, k5, f5, g5, b5, e5, a5⟩ := Cond.arrayOver_spec (args := args) (first := s) (o := none) (s := s) (idx := []) (hts (.arrayOver (.object "UnlikeDrawn$Sheet")) (tb_at 30 (by decide +kernel)))
  refine ⟨(fun c => match c with | 0 => c0 | 1 => c1 | 2 => c2 | 3 => c3 | 4 => c4 | 5 => c5 | 6 => c6 | _ => c7, fun c => match c with | 0 => j0 | 1 => j1 | 2 => j2 | 3 => j3 | 4 => j4 | 5 => j5 | 6 => j6 | _ => j7), (fun t => match t with | 0 => d0 | 1 => d1 | 2 => d2 | 3 => d3 | 4 => d4 | _ => d5), ⟨fun c q hq => ?_, fun k q hk => ?_⟩, va_Nw.of rfl (hts uNest (tb_at 274 (by decide +kernel)))⟩
  · have hc : c < 8 := (List.getElem?_eq_some_iff.mp hq).1
    rcases (show c = 0 ∨ c = 1 ∨ c = 2 ∨ c = 3 ∨ c = 4 ∨ c = 5 ∨ c = 6 ∨ c = 7 by omega) with rfl | rfl | rfl | rfl | rfl | rfl | rfl | rfl
    · cases hq; exact h0
    · cases hq; exact h1
    · cases hq; exact h2
    · cases hq; exact h3
    · cases hq; exact h4
    · cases hq; exact h5
    · cases hq; exact h6
    · cases hq; exact h7
  · have hc : k < 6 := (List.getElem?_eq_some_iff.mp hk).1
    rcases (show k = 0 ∨ k = 1 ∨ k = 2 ∨ k = 3 ∨ k = 4 ∨ k = 5 by omega) with rfl | rfl | rfl | rfl | rfl | rfl
    · cases hk; exact ⟨fun n z => ⟨fun k h => (by cases h), k0, b0, p0, e0⟩, a0⟩
    · cases hk; exact ⟨fun n z => ⟨fun k h => (by cases h), k1, b1, p1, e1⟩, k1, p1, b1, e1, f1, a1⟩
    · cases hk; exact ⟨fun n z => ⟨fun k h => (by cases h), k2, b2, p2, e2⟩, k2, p2, b2, e2, f2, a2⟩
    · cases hk; exact ⟨fun n z => ⟨fun k h => (by cases h), k3, b3, p3, e3⟩, k3, p3, b3, e3, f3, a3⟩
    · cases hk; exact ⟨fun n z => ⟨fun k h => (by cases h), k4, b4, p4, e4⟩, k4, p4, b4, e4, f4, a4⟩
    · cases hk; exact ⟨fun n z => ⟨fun k h => (by cases h), k5, b5, p5, e5⟩, k5, p5, b5, e5, f5, a5⟩
