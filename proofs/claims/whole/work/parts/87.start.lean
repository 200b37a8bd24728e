/-! ===== all is built: the world of the calls ===== -/
theorem arrV_c {cI : ClassId} {N : Nat} {f g : Nat → Value} (h : ∀ j, j < N → f j = g j) : arrV cI N f = arrV cI N g := by
  have e : (fun j : Fin N => f j.val) = fun j : Fin N => g j.val := funext fun j => h j.1 j.2
  unfold arrV
  rw [e]
theorem bFl_u {ad ad' : Nat → Nat} {M : Mem} {Z : Nat → Nat → Bool} {k : Nat} : ∀ (fs : List Fk) (j : Nat), bFl M Z k j fs → (∀ i r, fs[i]? = some (.inl r) → Z k (j + i) = false → ad' r = ad r) → bcfs ad M Z k j fs = ucfs ad' M0 k j fs
  | [], _, _, _ => rfl
  | .inl r :: fs, j, h, hr => by
    have ih := bFl_u (ad := ad) (ad' := ad') fs (j + 1) h.2 (fun i r h1 h2 => hr (i + 1) r (by simpa using h1) (by rw [show j + (i + 1) = j + 1 + i by omega]; exact h2))
    have e := hr 0 r rfl h.1
    simp only [bcfs, ucfs, bcfv, ucfv, h.1, ih, e, Bool.false_eq_true, if_false]
  | .inr false :: fs, j, h, hr => by
    have ih := bFl_u (ad := ad) (ad' := ad') fs (j + 1) h.2 (fun i r h1 h2 => hr (i + 1) r (by simpa using h1) (by rw [show j + (i + 1) = j + 1 + i by omega]; exact h2))
    simp only [bcfs, ucfs, bcfv, ucfv, h.1, ih]
  | .inr true :: fs, j, h, hr => by
    have ih := bFl_u (ad := ad) (ad' := ad') fs (j + 1) h.2 (fun i r h1 h2 => hr (i + 1) r (by simpa using h1) (by rw [show j + (i + 1) = j + 1 + i by omega]; exact h2))
    simp only [bcfs, ucfs, bcfv, ucfv, h.1, ih]
theorem b_at {D : va_G} {dA : Nat → ClassId} {ad ad' : Nat → Nat} {M : Mem} {Z : Nat → Nat → Bool} {I : List Nat} {H : Heap} {k : Nat} (hd : bDn M Z k) (h : va_at D uCls (ad k, bCell dA ad M Z k) H) (hO : bOk Z I) (hk : k ∈ I) (hc : ∀ r ∈ I, ad' r = ad r) : va_at D uCls (ad' k, uCell dA ad' M0 k) H := by
  have hz := hO k hk
  rw [hc k hk]
  unfold bDn at hd
  cases hs : uSh k with
  | inl n =>
    rw [hs] at hd
    have e1 : bCell dA ad M Z k = .inl (dA 0, n, .inl (M.1 k)) := by unfold bCell; rw [hs]
    have e2 : uCell dA ad' M0 k = .inl (dA 0, n, .inl (M0.1 k)) := by unfold uCell; rw [hs]
    rw [e1] at h
    rw [e2]
    have h' : H[ad k]? = some (arrV (dA 0) n (fun j => .int (M.1 k j))) := h
    show H[ad k]? = some (arrV (dA 0) n (fun j => .int (M0.1 k j)))
    rw [h', arrV_c (fun j hj => congrArg Value.int (hd j hj))]
  | inr w =>
    cases w with
    | inl w =>
      obtain ⟨t, n, g⟩ := w
      rw [hs] at hd hz
      have e1 : bCell dA ad M Z k = .inl (dA t, n, .inr (.inr (.inr (.inr (fun i => if Z k i then none else some (ad (g i))))))) := by unfold bCell; rw [hs]
      have e2 : uCell dA ad' M0 k = .inl (dA t, n, .inr (.inr (.inr (.inr (fun i => some (ad' (g i))))))) := by unfold uCell; rw [hs]
      rw [e1] at h
      rw [e2]
      have h' : H[ad k]? = some (arrV (dA t) n (fun j => va_rf (if Z k j then none else some (ad (g j))))) := h
      show H[ad k]? = some (arrV (dA t) n (fun j => va_rf (some (ad' (g j)))))
      rw [h', arrV_c (fun j hj => ?_)]
      have hj0 : Z k j = false := hd j hj
      have e3 : ad' (g j) = ad (g j) := hc _ (hz j hj0)
      simp only [hj0, e3, Bool.false_eq_true, if_false]
    | inr w =>
      obtain ⟨ci, fs⟩ := w
      rw [hs] at hd hz
      have e1 : bCell dA ad M Z k = .inr (ci, bcfs ad M Z k 0 fs) := by unfold bCell; rw [hs]
      have e2 : uCell dA ad' M0 k = .inr (ci, ucfs ad' M0 k 0 fs) := by unfold uCell; rw [hs]
      have e3 : bcfs ad M Z k 0 fs = ucfs ad' M0 k 0 fs := bFl_u fs 0 hd (fun i r h1 h2 => hc r (hz i r h1 (by rw [Nat.zero_add] at h2; exact h2)))
      rw [e1, e3] at h
      rw [e2]
      exact h
theorem b_fin {D : va_G} {dA : Nat → ClassId} {ad ad' : Nat → Nat} {M : Mem} {Z : Nat → Nat → Bool} {I : List Nat} {H : Heap} (hP : va_P D uCls (bCells dA ad M Z I) H) (hO : bOk Z I) (hD : ∀ k ∈ uIds, k ∈ I ∧ bDn M Z k) (hc : ∀ r ∈ I, ad' r = ad r) : va_P D uCls (uCells dA ad' M0) H := by
  intro i q hq
  simp only [uCells, List.getElem?_map, Option.map_eq_some_iff] at hq
  obtain ⟨k, hk, rfl⟩ := hq
  obtain ⟨h1, h2⟩ := hD k (List.mem_of_getElem? hk)
  obtain ⟨j, hj, -⟩ := bCells_at (dA := dA) (ad := ad) (M := M) (Z := Z) h1
  exact b_at h2 (hP j _ hj) hO h1 hc
theorem pC_dn {I : List Nat} {M : Mem} {Z : Nat → Nat → Bool} (h : pC I M Z) {k : Nat} (hk : bC 8 4 30 4 4 k) : bDn M Z k := by
  by_cases h5 : 1 ≤ k ∧ k ≤ 5
  · rcases (show k = 1 ∨ k = 2 ∨ k = 3 ∨ k = 4 ∨ k = 5 by omega) with rfl | rfl | rfl | rfl | rfl
    · exact fun j hj => h.2.2.1 1 j (Or.inl ⟨rfl, hj⟩)
    · exact fun j hj => h.2.2.1 2 j (Or.inr (Or.inl ⟨rfl, hj⟩))
    · exact fun j hj => h.2.2.1 3 j (Or.inr (Or.inr (Or.inl ⟨rfl, hj⟩)))
    · exact fun j hj => h.2.2.1 4 j (Or.inr (Or.inr (Or.inr (Or.inl ⟨rfl, hj⟩))))
    · exact fun j hj => h.2.2.1 5 j (Or.inr (Or.inr (Or.inr (Or.inr ⟨rfl, hj⟩))))
  · exact h.2.1 k hk h5
set_option maxRecDepth 20000 in
theorem uIds_in : ∀ k ∈ uIds, bC 8 4 30 4 4 k ∨ k = 1000 ∨ k ∈ mL := by
  unfold bC
  decide +kernel
theorem mL_ge : ∀ k ∈ mL, 1000 < k ∧ k < 9999 := by decide +kernel
theorem uIds_lt : ∀ k ∈ uIds, k < 9999 := by
  set_option maxRecDepth 20000 in
  decide +kernel
/-! ===== from the law's entry ===== -/
theorem bXn_at {s : State} {args : Array Value} (hts : ∀ w ∈ lw_tbl, w.before args s = true) : bXn s := ⟨⟨va_Nw.of rfl (hts _ (tb_at 32 (by decide +kernel))), va_Nw.of rfl (hts _ (tb_at 62 (by decide +kernel))), va_Nw.of rfl (hts _ (tb_at 112 (by decide +kernel))), va_Nw.of rfl (hts _ (tb_at 126 (by decide +kernel)))⟩, ⟨va_AO.of (hts _ (tb_at 22 (by decide +kernel))), va_AO.of (hts _ (tb_at 24 (by decide +kernel))), va_AO.of (hts _ (tb_at 26 (by decide +kernel))), va_AO.of (hts _ (tb_at 28 (by decide +kernel))), va_AO.of (hts _ (tb_at 30 (by decide +kernel)))⟩⟩
theorem whole_start {p : Program} {e : Env} {s : State} {m : MethodId} {below : List Frame} {meth : Method} {c : Code} (l : Launch) (hflags : l.flags = flags0) {b L : Nat} {xs : Nat → Int32} (hL : L ≤ 3072) (C0 : lw_At p s m meth c b L xs) : W p l e room_1 s m #[Value.ref b] below meth c s.heap [] 0 0 (lw_Z below #[Value.ref b] s) (entryFrame m ([Value.ref b] : List Value).toArray 4) := by
  obtain ⟨hx, hb, hr, hml, hown, hts, hX, hbl, hlocks, hgv⟩ := id C0
  obtain ⟨D, dA, hKn⟩ := uKn_at hts
  have hXn : bXn s := bXn_at hts
  have hgt : ∀ w ∈ gt, w.before #[Value.ref b] s = true := fun w hw => hts w (List.mem_filter.mp hw).1
  have hl := lv_entry ([.ref b]) (n := 4) (Nat.le_of_ble_eq_true rfl)
  rw [lg_entry_eq]
  generalize (lg_sl ([.ref b]) ++ List.replicate (4 - (lg_sl ([.ref b])).length) Slot.unset).toArray = ls at hl ⊢
  have hl : lv_has ls 4 [(0, .ref b)] := hl
  have hB0 : BP D dA (fun _ => 0) [] s.heap.size (fun _ => 0) [] Mz Zt s.heap := ⟨fun k q h => by simp [bCells] at h, ⟨List.nodup_nil, fun i hi => by simp at hi⟩, fun k hk => by simp at hk, fun k hk => by simp at hk, fun k hk => by simp at hk⟩
  have hS0 : va_S (bA (fun _ => 0) [] s.heap.size) s.heap s.heap [] := va_S.rf
  refine va_new (ci := 6) (fs := bDef (shObj 0).2) (C := uR6) (T := uT6) (N := 17) (own := R_law) hx hb hgt (uCls_ok (ci := 6) rfl).1 uY6 uTyOk6 hown (hts (.classLink "UnlikeDrawnLaw" 7 "UnlikeDrawn") (tb_at 13 (by decide +kernel))) (hts (.instantiable "UnlikeDrawn" 17) (tb_at 14 (by decide +kernel))) (hts (.initialized "UnlikeDrawn") (tb_at 1 (by decide +kernel))) hKn.1 hB0.1 (bD hB0.2.1 hB0.2.2.1 hB0.2.2.2.1) hS0 (fun q hq => Or.inr hq) rfl df6 (Nat.le_of_ble_eq_true rfl) (Nat.le_of_ble_eq_true rfl) d_L_0 (fun q0 H1 hP1 hD1 hS1 => ?_)
  have hx1 : (.inr (6, bDef (shObj 0).2) : va_E) = bCell dA (fun i => if i = 0 then q0 else (fun _ => 0) i) Mz Zt 0 := by
    unfold bCell
    rw [sh_0]
    simp only [bcfs_def (bUn_0 0).1 (bUn_0 0).2.1 (bUn_0 0).2.2]
  have hB1 := BP_new hB0 (by simp) (fun _ => rfl) hx1 hP1 hD1
  refine lv_dup hx hb d_L_3 rfl ?_
  have fC : (bRm u_C_init 146 1324).frames + 1 ≤ room_1.frames ∧ 8 + (u_C_init.2.2.1 + 11) + (bRm u_C_init 146 1324).locals ≤ room_1.locals := ⟨Nat.le_of_ble_eq_true rfl, Nat.le_of_ble_eq_true rfl⟩
  refine bw_run (va_runI (bytes := u_C_init.2.1) (maxL := u_C_init.2.2.1) (n := 0) (As := []) (rest := [.ref q0]) (b := q0) (Ts := gt) (own := R_law) ⟨hx, hb, hml, hown, hgt⟩ (bs_C l D dA (fun i => if i = 0 then q0 else (fun _ => 0) i) H1.size) ⟨callB_of 0 hgt (uGood (u := u_C_init) gc_C_init) (uLn_none rfl) rfl rfl (hgt _ iw_C.1.2.1) (hts (.methodLink "UnlikeDrawnLaw" 9 ⟨"UnlikeDrawn", "<init>", "()V"⟩) (tb_at 15 (by decide +kernel))) iw_C.2.1 fC, iw_C.2.2.1, hgt _ iw_C.1.1⟩ ⟨bBlind, fun U hU hW => ⟨rfl, by rw [hU], by rw [hU]; exact hB1.1, hKn.moved hW, hB1.2.1, hB1.2.2.2.2, hXn.moved hW⟩⟩ rfl rfl hl.1 rfl (Nat.le_of_ble_eq_true rfl) d_L_4 ⟨Nat.le_of_ble_eq_true rfl, Nat.le_of_ble_eq_true rfl⟩) hB1 hS1 (fun ad2 I2 M2 Z2 H2 locs2 q2 hB2 hk2 hS2 => ?_)
  refine lv_astore_n hx hb d_L_7 rfl hl (by decide) rfl (fun ls1 hl1 => ?_)
  have n0 : ¬ bC 8 4 30 4 4 1000 := by unfold bC; decide
  have nk : ∀ k, 1000 ≤ k → ¬ bC 8 4 30 4 4 k := fun k hk => by unfold bC; omega
  have ni : 1000 ∉ I2 := fun z => n0 ((q2.1 1000).mp z)
  have u2 : ∀ k, 1000 ≤ k → bUn M2 Z2 k := fun k hk => q2.2.2.2 k (nk k hk)
  refine va_new (ci := 7) (fs := bDef (shObj 1).2) (C := uR7) (T := uT7) (N := 27) (own := R_law) hx hb hgt (uCls_ok (ci := 7) rfl).1 uY7 uTyOk7 hown (hts (.classLink "UnlikeDrawnLaw" 10 "UnlikeDrawnModel") (tb_at 599 (by decide +kernel))) (hts (.instantiable "UnlikeDrawnModel" 27) (tb_at 600 (by decide +kernel))) (hts (.initialized "UnlikeDrawnModel") (tb_at 9 (by decide +kernel))) hKn.1 hB2.1 (bD hB2.2.1 hB2.2.2.1 hB2.2.2.2.1) hS2 (fun q hq => Or.inr hq) rfl df7 (Nat.le_of_ble_eq_true rfl) (Nat.le_of_ble_eq_true rfl) d_L_8 (fun q1 H3 hP3 hD3 hS3 => ?_)
  have hx3 : (.inr (7, bDef (shObj 1).2) : va_E) = bCell dA (fun i => if i = 1000 then q1 else ad2 i) M2 Z2 1000 := by
    unfold bCell
    rw [sh_1000]
    simp only [bcfs_def (u2 1000 (Nat.le_refl _)).1 (u2 1000 (Nat.le_refl _)).2.1 (u2 1000 (Nat.le_refl _)).2.2]
  have hB3 := BP_new hB2 ni (u2 1000 (Nat.le_refl _)).2.2 hx3 hP3 hD3
  refine lv_dup hx hb d_L_11 rfl ?_
  have fM : (bRm u_M_init 19 1199).frames + 1 ≤ room_1.frames ∧ 8 + (u_M_init.2.2.1 + 11) + (bRm u_M_init 19 1199).locals ≤ room_1.locals := ⟨Nat.le_of_ble_eq_true rfl, Nat.le_of_ble_eq_true rfl⟩
  have m3 : 1000 ∈ I2 ++ [1000] := List.mem_append_right _ (List.mem_singleton.mpr rfl)
  have n3 : ∀ k, 1000 < k → k ∉ I2 ++ [1000] := fun k hk z => (List.mem_append.mp z).elim (fun z => nk k (Nat.le_of_lt hk) ((q2.1 k).mp z)) (fun z => by have := List.mem_singleton.mp z; omega)
  have hbm := bs_M m3 n3 u2 l D dA (fun i => if i = 1000 then q1 else ad2 i) H3.size
  have eq1 : cv (fun i => if i = 1000 then q1 else ad2 i) (.ref 1000) = .ref q1 := rfl
  refine bw_run (va_runI (bytes := u_M_init.2.1) (maxL := u_M_init.2.2.1) (n := 0) (As := []) (rest := [.ref q1]) (b := q1) (Ts := gt) (own := R_law) ⟨hx, hb, hml, hown, hgt⟩ hbm ⟨callB_of 0 hgt (uGood (u := u_M_init) gc_M_init) (uLn_none rfl) rfl rfl (hgt _ iw_M.1.2.1) (hts (.methodLink "UnlikeDrawnLaw" 12 ⟨"UnlikeDrawnModel", "<init>", "()V"⟩) (tb_at 601 (by decide +kernel))) iw_M.2.1 fM, iw_M.2.2.1, hgt _ iw_M.1.1⟩ ⟨bBlind, fun U hU hW => ⟨rfl, by rw [hU], by rw [hU]; exact hB3.1, hKn.moved hW, hB3.2.1, hB3.2.2.2.2, hXn.moved hW⟩⟩ rfl rfl hl1.1 rfl (Nat.le_of_ble_eq_true rfl) d_L_12 ⟨Nat.le_of_ble_eq_true rfl, Nat.le_of_ble_eq_true rfl⟩) hB3 hS3 (fun ad4 I4 M4 Z4 H4 locs4 q4 hB4 hk4 hS4 => ?_)
  refine lv_astore_n hx hb d_L_15 rfl hl1 (by decide) rfl (fun ls2 hl2 => ?_)
  have hout : ∀ q, bA (fun _ => 0) [] s.heap.size q → s.heap.size ≤ q := fun q z => z.elim (fun ⟨k, hk, _⟩ => by simp at hk) id
  refine va_forget (fun q hq => hout _ (hS4.2.2 q hq)) ?_
  refine W.widen (k := 600000) (n := 7302250) (Nat.le_of_ble_eq_true rfl) (Nat.le_of_ble_eq_true rfl) ?_
  have i4 : ∀ k, k ∈ I4 → k < 9999 := fun k hk => by
    rcases (q4.1 k).mp hk with z | z
    · rcases List.mem_append.mp z with z | z
      · have := (q2.1 k).mp z
        unfold bC at this
        omega
      · have := List.mem_singleton.mp z
        omega
    · exact (mL_ge k z).2
  have hall : ∀ k ∈ uIds, k ∈ I4 ∧ bDn M4 Z4 k := fun k hk => by
    rcases uIds_in k hk with z | z | z
    · have hp : ¬ (k = 1000 ∨ k ∈ mL) := fun y => y.elim (fun y => nk 1000 (Nat.le_refl _) (y ▸ z)) (fun y => nk k (Nat.le_of_lt (mL_ge k y).1) z)
      exact ⟨(q4.1 k).mpr (Or.inl (List.mem_append_left _ ((q2.1 k).mpr z))), (pC_dn q2 z).sm (q4.2.2 k hp)⟩
    · subst z
      exact ⟨(q4.1 1000).mpr (Or.inl m3), q4.2.1 1000 (Or.inl rfl)⟩
    · exact ⟨(q4.1 k).mpr (Or.inr z), q4.2.1 k (Or.inr z)⟩
  have h5 : ∀ k, k ∈ I4 → (fun k => if k = 9999 then b else ad4 k) k = ad4 k := fun k hk => if_neg (fun e => by have := i4 k hk; omega)
  have a0 : ad4 0 = q0 := by
    have e1 := (hk4 0 (List.mem_append_left _ (hk2 0 (by simp)).1)).2
    have e2 := (hk2 0 (by simp)).2
    rw [e1]
    show (if 0 = 1000 then q1 else ad2 0) = q0
    rw [if_neg (by decide), e2]
    rfl
  have a1 : ad4 1000 = q1 := by
    have e1 := (hk4 1000 m3).2
    rw [e1]
    rfl
  refine law_16 hL p l e s m below meth c b D dA (fun k => if k = 9999 then b else ad4 k) H4 [] ls2 ⟨C0, hKn, fun i hi j hj eij => ?_, rfl, fun k hk => ?_⟩ (b_fin hB4.1 hB4.2.2.2.2 hall h5) ⟨hS4.1, fun q h1 h2 => hS4.2.1 q h1 (fun z => absurd (hout q z) (Nat.not_le.mpr h1)), fun q hq => by simp at hq⟩ (hl2.mono (fun q hq => ?_))
  · have h1 := h5 i (hall i hi).1
    have h2 := h5 j (hall j hj).1
    exact hB4.2.1.2 i (hall i hi).1 j (hall j hj).1 (h1.symm.trans (eij.trans h2))
  · have h1 := h5 k (hall k hk).1
    have h2 := hB4.2.2.2.1 k (hall k hk).1
    show s.heap.size ≤ (fun k => if k = 9999 then b else ad4 k) k
    rw [h1]
    rcases h2 with h2 | h2
    · simp at h2
    · exact h2
  · have e3 : al (fun k => if k = 9999 then b else ad4 k) 0 [some (.ref 9999), some (.ref 0), some (.ref 1000), none] = [(0, .ref b), (1, .ref (ad4 0)), (2, .ref (ad4 1000))] := rfl
    rw [e3, a0, a1] at hq
    simp only [List.mem_cons, List.not_mem_nil, or_false] at hq
    rcases hq with rfl | rfl | rfl <;> simp [Value.category]
