/-! ===== THE CLEAN LAYER: one world of fixed cells (the class's object and the reference's), memory as two tables of numbers; CW: a walk over it; CS: a contract over it ===== -/
def gt : List Cond := lw_tbl.filter goodWord
theorem gt_at {w : Cond} (i : Nat) (h : tables_1[i]? = some w) (g : goodWord w = true) : w ∈ gt :=
  List.mem_filter.mpr ⟨List.mem_append_right _ (List.mem_of_getElem? h), g⟩
theorem gt_sel {q : MethodName × Nat} (i : Nat) (h : lw_privs[i]? = some q) : Cond.selects q.1.cls q.1 q.1 ∈ gt :=
  List.mem_filter.mpr ⟨List.mem_append_left _ (List.mem_map.mpr ⟨q, List.mem_of_getElem? h, rfl⟩), rfl⟩
theorem gt_good {w : Cond} (h : w ∈ gt) : goodWord w = true := (List.mem_filter.mp h).2

abbrev Mem : Type := (Nat → Nat → Int32) × (Nat → Nat → Int64)
abbrev Fk : Type := Nat ⊕ Bool
abbrev Shp : Type := Nat ⊕ (Nat × Nat × (Nat → Nat)) ⊕ (Nat × List Fk)
abbrev MI : Type := MethodName × ByteArray × Nat × Option FieldType × Nat × Nat
def cv (ad : Nat → Nat) : Value → Value
  | .ref a => .ref (ad a)
  | .int x => .int x
  | .long x => .long x
  | .float x => .float x
  | .double x => .double x
  | .null => .null
  | .retAddr x => .retAddr x
theorem cv_cat (ad : Nat → Nat) (v : Value) : (cv ad v).category = v.category := by cases v <;> rfl

def fI : Fk := .inr false
def fJ : Fk := .inr true
def shObj (k : Nat) : Nat × List Fk := match k with
  | 0 => (6, [.inl 1, .inl 2, .inl 3, .inl 4, .inl 5, fI, fI, fI, fI, fI, fI, fI, .inl 130, .inl 6, .inl 7, .inl 8, .inl 9])
  | _ => (7, [.inl 1001, .inl 1002, .inl 1003, .inl 1004, fI, fI, .inl 1007, .inl 1008, .inl 1009, fI, .inl 1011, .inl 1012, fI, .inl 1014, .inl 1015, .inl 1016, .inl 1017, .inl 1018, .inl 1019, fI, .inl 1021, .inl 1022, .inl 1023, fI, fJ, fJ, .inl 1027])
def shM (k : Nat) : Shp := match k with
  | 1000 => .inr (.inr (shObj 1))
  | 1001 => .inl 4
  | 1002 => .inl 4
  | 1003 => .inl 240
  | 1004 => .inl 60
  | 1007 => .inl 64
  | 1008 => .inl 160
  | 1009 => .inl 4
  | 1011 => .inl 8
  | 1012 => .inl 3
  | 1014 => .inl 30
  | 1015 => .inl 30
  | 1016 => .inl 30
  | 1017 => .inl 30
  | 1018 => .inl 240
  | 1019 => .inl 240
  | 1021 => .inl 4
  | 1022 => .inl 32
  | 1023 => .inl 8
  | _ => .inl 8
def shC (k : Nat) : Shp := match k with
  | 0 => .inr (.inr (shObj 0))
  | 1 => .inr (.inl (1, 8, fun i => 10 + i))
  | 2 => .inr (.inl (2, 4, fun i => 30 + i))
  | 3 => .inr (.inl (3, 30, fun i => 100 + i))
  | 4 => .inr (.inl (4, 4, fun i => 60 + i))
  | 5 => .inr (.inl (5, 4, fun i => 80 + i))
  | 6 => .inl 8
  | 7 => .inl 8
  | _ => .inr (.inr (0, [fJ, fJ]))
def uSh (k : Nat) : Shp :=
  if k < 10 then shC k
  else if k < 20 then .inr (.inr (2, [.inl (k + 10)]))
  else if k < 30 then .inl 8
  else if k < 40 then .inr (.inr (1, [.inl (k + 10), .inl (k + 20), fI, fI]))
  else if k < 50 then .inl 40
  else if k < 60 then .inl 8
  else if k < 70 then .inr (.inr (3, [.inl (k + 10), fI]))
  else if k < 80 then .inl 8
  else if k < 90 then .inr (.inr (4, [.inl (k + 10), fI, fI]))
  else if k < 100 then .inl 60
  else if k < 200 then .inr (.inr (5, [.inl (k + 100), .inl (k + 200), fI, fI, fI, fI]))
  else if k < 400 then .inl 8
  else shM k
def uIds : List Nat := List.range 10 ++ (List.range 8).map (10 + ·) ++ (List.range 8).map (20 + ·) ++ (List.range 4).map (30 + ·) ++ (List.range 4).map (40 + ·) ++ (List.range 4).map (50 + ·) ++ (List.range 4).map (60 + ·) ++ (List.range 4).map (70 + ·) ++ (List.range 4).map (80 + ·) ++ (List.range 4).map (90 + ·) ++ (List.range 31).map (100 + ·) ++ (List.range 31).map (200 + ·) ++ (List.range 31).map (300 + ·) ++ [1000, 1001, 1002, 1003, 1004, 1007, 1008, 1009, 1011, 1012, 1014, 1015, 1016, 1017, 1018, 1019, 1021, 1022, 1023, 1027]
set_option maxRecDepth 20000 in
theorem uIds_nd : uIds.Nodup := by decide +kernel
theorem uIds_inj {i j k : Nat} (hi : uIds[i]? = some k) (hj : uIds[j]? = some k) : i = j := by
  exact (List.getElem?_inj (List.getElem?_eq_some_iff.mp hi).1 uIds_nd).mp (hi.trans hj.symm)

def ucfv (ad : Nat → Nat) (M : Mem) (k j : Nat) : Fk → Value
  | .inl r => .ref (ad r)
  | .inr false => .int (M.1 k j)
  | .inr true => .long (M.2 k j)
def ucfs (ad : Nat → Nat) (M : Mem) (k : Nat) (j : Nat) : List Fk → List Value
  | [] => []
  | f :: fs => ucfv ad M k j f :: ucfs ad M k (j + 1) fs
theorem ucfs_get {ad : Nat → Nat} {M : Mem} {k : Nat} : ∀ {fs : List Fk} {j i : Nat} {f : Fk}, fs[i]? = some f → (ucfs ad M k j fs)[i]? = some (ucfv ad M k (j + i) f)
  | [], j, i, f, h => by simp at h
  | g :: fs, j, 0, f, h => by
    simp at h
    subst h
    simp [ucfs]
  | g :: fs, j, i + 1, f, h => by
    have h' : fs[i]? = some f := by simpa using h
    have := ucfs_get (ad := ad) (M := M) (k := k) (j := j + 1) h'
    simp only [ucfs, List.getElem?_cons_succ, this]
    congr 2
    omega
theorem ucfs_len {ad : Nat → Nat} {M : Mem} {k : Nat} : ∀ {fs : List Fk} {j : Nat}, (ucfs ad M k j fs).length = fs.length
  | [], _ => rfl
  | _ :: fs, j => by simp [ucfs, ucfs_len (fs := fs)]
def uCell (dA : Nat → ClassId) (ad : Nat → Nat) (M : Mem) (k : Nat) : va_E := match uSh k with
  | .inl n => .inl (dA 0, n, .inl (M.1 k))
  | .inr (.inl (t, n, g)) => .inl (dA t, n, .inr (.inr (.inr (.inr (fun i => some (ad (g i)))))))
  | .inr (.inr (ci, fs)) => .inr (ci, ucfs ad M k 0 fs)
def uCells (dA : Nat → ClassId) (ad : Nat → Nat) (M : Mem) : va_W := uIds.map (fun k => (ad k, uCell dA ad M k))
theorem uCells_at {dA : Nat → ClassId} {ad : Nat → Nat} {M : Mem} {k : Nat} (hk : k ∈ uIds) : ∃ q : Nat, (uCells dA ad M)[q]? = some (ad k, uCell dA ad M k) ∧ uIds[q]? = some k := by
  obtain ⟨q, hq⟩ := List.getElem?_of_mem hk
  exact ⟨q, by simp [uCells, List.getElem?_map, hq], hq⟩
theorem uCells_set {dA : Nat → ClassId} {ad : Nat → Nat} {M M' : Mem} {k q : Nat} (hq : uIds[q]? = some k) (h : ∀ j, j ≠ k → uCell dA ad M' j = uCell dA ad M j) : (uCells dA ad M).set q (ad k, uCell dA ad M' k) = uCells dA ad M' := by
  apply List.ext_getElem?
  intro i
  rw [List.getElem?_set]
  by_cases hi : q = i
  · subst hi
    have hlt : q < (uCells dA ad M).length := by
      have := (List.getElem?_eq_some_iff.mp hq).1
      simpa [uCells] using this
    rw [if_pos rfl, if_pos hlt]
    simp [uCells, List.getElem?_map, hq]
  · rw [if_neg hi]
    simp only [uCells, List.getElem?_map]
    cases hk : uIds[i]? with
    | none => rfl
    | some k' =>
      have hne : k' ≠ k := by
        intro e
        subst e
        exact hi (uIds_inj hq hk)
      simp [h k' hne]
def uInj (ad : Nat → Nat) : Prop := ∀ i ∈ uIds, ∀ j ∈ uIds, ad i = ad j → i = j
def uA (ad : Nat → Nat) : Nat → Prop := fun q => ∃ k ∈ uIds, q = ad k
theorem uD {dA : Nat → ClassId} {ad : Nat → Nat} {M : Mem} (h : uInj ad) : va_D (uA ad) (uCells dA ad M) := by
  refine ⟨?_, ?_⟩
  · intro i j p q hi hj e
    simp only [uCells, List.getElem?_map, Option.map_eq_some_iff] at hi hj
    obtain ⟨k1, h1, rfl⟩ := hi
    obtain ⟨k2, h2, rfl⟩ := hj
    have := h k1 (List.mem_of_getElem? h1) k2 (List.mem_of_getElem? h2) e
    subst this
    exact uIds_inj h1 h2
  · intro i q hi
    simp only [uCells, List.getElem?_map, Option.map_eq_some_iff] at hi
    obtain ⟨k1, h1, rfl⟩ := hi
    exact ⟨k1, List.mem_of_getElem? h1, rfl⟩
def uTys (dA : Nat → ClassId) : List (ClassId × FieldType) := [(dA 0, .int), (dA 1, .object "UnlikeDrawn$Head"), (dA 2, .object "UnlikeDrawn$Hand"), (dA 3, .object "UnlikeDrawn$Sketch"), (dA 4, .object "UnlikeDrawn$Knower"), (dA 5, .object "UnlikeDrawn$Sheet")]
def uTyN (t : Nat) : String := match t with
  | 1 => "UnlikeDrawn$Head"
  | 2 => "UnlikeDrawn$Hand"
  | 3 => "UnlikeDrawn$Sketch"
  | 4 => "UnlikeDrawn$Knower"
  | _ => "UnlikeDrawn$Sheet"
def uKn (D : va_G) (dA : Nat → ClassId) (U : State) : Prop := va_K D uCls (uTys dA) U ∧ va_Nw uNest U
theorem uKn.moved {D : va_G} {dA : Nat → ClassId} {u U : State} (hW : u.WarmedH U.vm) (h : uKn D dA u) : uKn D dA U := ⟨va_K.moved hW.alike h.1, va_Nw.warmM hW h.2⟩
def uLn (u : MI) : List Cond := .code u.1 u.2.1 u.2.2.1 u.2.2.2.1 :: gt
def uRm (u : MI) : Room := { frames := u.2.2.2.2.1, cells := 0, slots := 0, locals := u.2.2.2.2.2 }
def uPc (D : va_G) (dA : Nat → ClassId) (ad : Nat → Nat) (args : List Value) (M : Mem) : Array Value → State → Prop := va_Pc (args.map (cv ad)) (fun U => va_P D uCls (uCells dA ad M) U.heap ∧ uKn D dA U ∧ uInj ad)
def uQc (D : va_G) (dA : Nat → ClassId) (ad : Nat → Nat) (post : Option Value → Mem → Prop) : Array Value → State → Outcome → State → Prop := fun _ st oc t => (∃ (v : Option Value) (M' : Mem), oc = .returned (v.map (cv ad)) ∧ post v M' ∧ va_P D uCls (uCells dA ad M') t.heap) ∧ va_F (uA ad) st t
def CS (u : MI) (args : List Value) (M : Mem) (post : Option Value → Mem → Prop) : Prop := ∀ (l : Launch) (D : va_G) (dA : Nat → ClassId) (ad : Nat → Nat), Met l u.1 (uLn u) (uRm u) (uPc D dA ad args M) (uQc D dA ad post) 0 0 (uA ad)
/-- locals, place by place -/
def al (ad : Nat → Nat) : Nat → List (Option Value) → List (Nat × Value)
  | _, [] => []
  | i, none :: L => al ad (i + 1) L
  | i, some v :: L => (i, cv ad v) :: al ad (i + 1) L
def lget : List (Option Value) → Nat → Option Value
  | [], _ => none
  | o :: _, 0 => o
  | _ :: L, n + 1 => lget L n
theorem al_mem {ad : Nat → Nat} : ∀ {L : List (Option Value)} {k j : Nat} {w : Value}, (j, w) ∈ al ad k L ↔ ∃ i v, lget L i = some v ∧ j = k + i ∧ w = cv ad v
  | [], k, j, w => by simp [al, lget]
  | none :: L, k, j, w => by
    rw [al, al_mem (L := L)]
    constructor
    · rintro ⟨i, v, h1, h2, h3⟩
      exact ⟨i + 1, v, h1, by omega, h3⟩
    · rintro ⟨i, v, h1, h2, h3⟩
      cases i with
      | zero => simp [lget] at h1
      | succ i => exact ⟨i, v, h1, by omega, h3⟩
  | some x :: L, k, j, w => by
    rw [al, List.mem_cons, al_mem (L := L)]
    constructor
    · rintro (h | ⟨i, v, h1, h2, h3⟩)
      · cases h
        exact ⟨0, x, rfl, rfl, rfl⟩
      · exact ⟨i + 1, v, h1, by omega, h3⟩
    · rintro ⟨i, v, h1, h2, h3⟩
      cases i with
      | zero =>
        left
        simp [lget] at h1
        subst h1
        simp [h2, h3]
      | succ i => exact Or.inr ⟨i, v, h1, by omega, h3⟩
def kl : Option Value → Option Value
  | some (.long _) => none
  | some (.double _) => none
  | some (.int x) => some (.int x)
  | some (.ref x) => some (.ref x)
  | some .null => some .null
  | some (.float x) => some (.float x)
  | some (.retAddr x) => some (.retAddr x)
  | none => none
def lset1 : List (Option Value) → Nat → Value → List (Option Value)
  | [], _, _ => []
  | _ :: L, 0, x => some x :: L
  | o :: L, 1, x => kl o :: lset1 L 0 x
  | o :: L, n + 2, x => o :: lset1 L (n + 1) x
def lset2 : List (Option Value) → Nat → Value → List (Option Value)
  | [], _, _ => []
  | [_], 0, x => [some x]
  | _ :: _ :: L, 0, x => some x :: none :: L
  | o :: L, 1, x => kl o :: lset2 L 0 x
  | o :: L, n + 2, x => o :: lset2 L (n + 1) x
theorem kl_some {o : Option Value} {v : Value} (h : kl o = some v) : o = some v ∧ ¬ v.category = 2 := by
  cases o with
  | none => simp [kl] at h
  | some w => cases w <;> simp [kl] at h <;> subst h <;> simp [Value.category]
theorem lset1_get : ∀ {L : List (Option Value)} {i j : Nat} {x v : Value}, lget (lset1 L i x) j = some v → (j = i ∧ v = x) ∨ (j ≠ i ∧ lget L j = some v ∧ ¬ (j + 1 = i ∧ v.category = 2))
  | [], i, j, x, v, h => by simp [lset1, lget] at h
  | o :: L, 0, 0, x, v, h => by
    simp [lset1, lget] at h
    exact Or.inl ⟨rfl, h.symm⟩
  | o :: L, 0, j + 1, x, v, h => by
    simp [lset1, lget] at h
    exact Or.inr ⟨by omega, h, by omega⟩
  | o :: L, 1, 0, x, v, h => by
    simp only [lset1, lget] at h
    obtain ⟨h1, h2⟩ := kl_some h
    exact Or.inr ⟨by omega, h1, fun q => h2 q.2⟩
  | o :: L, 1, j + 1, x, v, h => by
    simp only [lset1, lget] at h
    rcases lset1_get h with ⟨h1, h2⟩ | ⟨h1, h2, h3⟩
    · exact Or.inl ⟨by omega, h2⟩
    · exact Or.inr ⟨by omega, h2, fun q => by omega⟩
  | o :: L, i + 2, 0, x, v, h => by
    simp only [lset1, lget] at h
    exact Or.inr ⟨by omega, h, by omega⟩
  | o :: L, i + 2, j + 1, x, v, h => by
    simp only [lset1, lget] at h
    rcases lset1_get h with ⟨h1, h2⟩ | ⟨h1, h2, h3⟩
    · exact Or.inl ⟨by omega, h2⟩
    · exact Or.inr ⟨by omega, h2, fun q => h3 ⟨by omega, q.2⟩⟩
theorem lset2_get : ∀ {L : List (Option Value)} {i j : Nat} {x v : Value}, lget (lset2 L i x) j = some v → (j = i ∧ v = x) ∨ (j ≠ i ∧ j ≠ i + 1 ∧ lget L j = some v ∧ ¬ (j + 1 = i ∧ v.category = 2))
  | [], i, j, x, v, h => by simp [lset2, lget] at h
  | [o], 0, 0, x, v, h => by
    simp [lset2, lget] at h
    exact Or.inl ⟨rfl, h.symm⟩
  | [o], 0, j + 1, x, v, h => by simp [lset2, lget] at h
  | o :: o2 :: L, 0, 0, x, v, h => by
    simp [lset2, lget] at h
    exact Or.inl ⟨rfl, h.symm⟩
  | o :: o2 :: L, 0, 1, x, v, h => by simp [lset2, lget] at h
  | o :: o2 :: L, 0, j + 2, x, v, h => by
    simp [lset2, lget] at h
    exact Or.inr ⟨by omega, by omega, h, by omega⟩
  | o :: L, 1, 0, x, v, h => by
    cases L <;> simp only [lset2, lget] at h <;> obtain ⟨h1, h2⟩ := kl_some h <;> exact Or.inr ⟨by omega, by omega, h1, fun q => h2 q.2⟩
  | o :: L, 1, j + 1, x, v, h => by
    have h' : lget (lset2 L 0 x) j = some v := by cases L <;> simpa only [lset2, lget] using h
    rcases lset2_get h' with ⟨h1, h2⟩ | ⟨h1, h2, h3, h4⟩
    · exact Or.inl ⟨by omega, h2⟩
    · exact Or.inr ⟨by omega, by omega, h3, fun q => by omega⟩
  | o :: L, i + 2, 0, x, v, h => by
    have h' : o = some v := by cases L <;> simpa only [lset2, lget] using h
    exact Or.inr ⟨by omega, by omega, h', by omega⟩
  | o :: L, i + 2, j + 1, x, v, h => by
    have h' : lget (lset2 L (i + 1) x) j = some v := by cases L <;> simpa only [lset2, lget] using h
    rcases lset2_get h' with ⟨h1, h2⟩ | ⟨h1, h2, h3, h4⟩
    · exact Or.inl ⟨by omega, h2⟩
    · exact Or.inr ⟨by omega, by omega, h3, fun q => h4 ⟨by omega, q.2⟩⟩
theorem lv_has.mono {ls : Array Slot} {n : Nat} {l l' : List (Nat × Value)} (h : lv_has ls n l) (hs : ∀ q ∈ l', q ∈ l) : lv_has ls n l' := ⟨h.1, h.2.1, fun q hq => h.2.2 q (hs q hq)⟩
theorem al_set1 {ad : Nat → Nat} {ls : Array Slot} {n i : Nat} {L : List (Option Value)} {x : Value} (h : lv_has ls n ((i, cv ad x) :: (al ad 0 L).filter (fun q => !(q.1 == i) && !(q.1 + 1 == i && q.2.category == 2)))) : lv_has ls n (al ad 0 (lset1 L i x)) := by
  refine h.mono ?_
  rintro ⟨j, w⟩ hq
  obtain ⟨i', v, h1, h2, h3⟩ := al_mem.mp hq
  have h2 : j = i' := by omega
  subst h2; subst h3
  rcases lset1_get h1 with ⟨h4, h5⟩ | ⟨h4, h5, h6⟩
  · subst h4; subst h5
    exact List.mem_cons_self
  · refine List.mem_cons_of_mem _ (List.mem_filter.mpr ⟨al_mem.mpr ⟨j, v, h5, by omega, rfl⟩, ?_⟩)
    simp only [cv_cat]
    by_cases e : j + 1 = i
    · have : ¬ v.category = 2 := fun q => h6 ⟨e, q⟩
      simp [h4, this]
    · simp [h4, e]
theorem al_set2 {ad : Nat → Nat} {ls : Array Slot} {n i : Nat} {L : List (Option Value)} {x : Value} (h : lv_has ls n ((i, cv ad x) :: (al ad 0 L).filter (fun q => !(q.1 == i) && (!(q.1 == i + 1) && !(q.1 + 1 == i && q.2.category == 2))))) : lv_has ls n (al ad 0 (lset2 L i x)) := by
  refine h.mono ?_
  rintro ⟨j, w⟩ hq
  obtain ⟨i', v, h1, h2, h3⟩ := al_mem.mp hq
  have h2 : j = i' := by omega
  subst h2; subst h3
  rcases lset2_get h1 with ⟨h4, h5⟩ | ⟨h4, h4', h5, h6⟩
  · subst h4; subst h5
    exact List.mem_cons_self
  · refine List.mem_cons_of_mem _ (List.mem_filter.mpr ⟨al_mem.mpr ⟨j, v, h5, by omega, rfl⟩, ?_⟩)
    simp only [cv_cat]
    by_cases e : j + 1 = i
    · have : ¬ v.category = 2 := fun q => h6 ⟨e, q⟩
      simp [h4, h4', this]
    · simp [h4, h4', e]
theorem al_get {ad : Nat → Nat} {ls : Array Slot} {n i : Nat} {L : List (Option Value)} {v : Value} (h : lv_has ls n (al ad 0 L)) (hl : lget L i = some v) : ls[i]? = some (.val (cv ad v)) := h.2.2 (i, cv ad v) (al_mem.mpr ⟨i, v, hl, by omega, rfl⟩)
/-- what is fixed while a method's body runs -/
def Cx (u : MI) (p : Program) (s : State) (m : MethodId) (args : Array Value) (meth : Method) (c : Code) (D : va_G) (dA : Nat → ClassId) (ad : Nat → Nat) : Prop :=
  p.tables.exec = Jvm.exec ∧ c.code = u.2.1 ∧ c.maxLocals = u.2.2.1 ∧ s.vm.findClass u.1.cls = some m.cls ∧ (∀ w ∈ gt, w.before args s = true) ∧ meth.sig.returnType = u.2.2.2.1 ∧ meth.locks = false ∧ uKn D dA s ∧ uInj ad
def CW (u : MI) (post : Option Value → Mem → Prop) (pc : Nat) (L : List (Option Value)) (st : List Value) (M : Mem) : Prop :=
  ∀ (p : Program) (l : Launch) (e : Env) (s : State) (m : MethodId) (args : Array Value) (below : List Frame) (meth : Method) (c : Code) (D : va_G) (dA : Nat → ClassId) (ad : Nat → Nat) (H : Heap) (locs : List Loc) (ls : Array Slot),
    Cx u p s m args meth c D dA ad → va_P D uCls (uCells dA ad M) H → va_S (uA ad) s.heap H locs → lv_has ls u.2.2.1 (al ad 0 L) →
    W p l e (uRm u) s m args below meth c H locs 0 0 (MQ below (uQc D dA ad post) args s 0 0 (uA ad)) (F0 m pc ls (st.map (cv ad)))
def retI (Q : Int32 → Mem → Prop) : Option Value → Mem → Prop := fun v M => ∃ r : Int32, v = some (.int r) ∧ Q r M
def retJ (Q : Int64 → Mem → Prop) : Option Value → Mem → Prop := fun v M => ∃ r : Int64, v = some (.long r) ∧ Q r M
def retV (Q : Mem → Prop) : Option Value → Mem → Prop := fun v M => v = none ∧ Q M
def mG (M : Mem) (k j : Nat) : Int32 := M.1 k j
def jG (M : Mem) (k j : Nat) : Int64 := M.2 k j
def mS (M : Mem) (k j : Nat) (x : Int32) : Mem := (fun a b => if a = k ∧ b = j then x else M.1 a b, M.2)
def jS (M : Mem) (k j : Nat) (x : Int64) : Mem := (M.1, fun a b => if a = k ∧ b = j then x else M.2 a b)
def SO (a ci : Nat) (fs : List Fk) : Prop := uSh a = .inr (.inr (ci, fs)) ∧ a ∈ uIds
def SA (a n : Nat) : Prop := uSh a = .inl n ∧ a ∈ uIds
def SR (a t n : Nat) (g : Nat → Nat) : Prop := uSh a = .inr (.inl (t, n, g)) ∧ a ∈ uIds ∧ 1 ≤ t ∧ t ≤ 5
/-- the field k of class ci is what the entry idx of own's pool names -/
def FL (own : String) (idx ci k : Nat) : Prop := ∃ (C : String) (T : u_T) (N : Nat), uCls[ci]? = some (C, T, N) ∧ k < N ∧ Cond.fieldLink own idx (T k).1 (T k).2.1 (T k).2.2.1 ∈ gt
def FP (own : String) (idx ci k : Nat) (ty : FieldType) : Prop := ∃ (C : String) (T : u_T) (N : Nat), uCls[ci]? = some (C, T, N) ∧ k < N ∧ Cond.fieldLink own idx (T k).1 (T k).2.1 (T k).2.2.1 ∈ gt ∧ (T k).2.2.2 = false ∧ parseFieldDescriptor (T k).2.2.1 = some ty
theorem uIn0 : (u_ws uR0 uT0 2).all (fun w => decide (w ∈ tables_1) && goodWord w) = true := by decide +kernel
theorem uTyOk0 : ∀ k, k < 2 → parseFieldDescriptor (uT0 k).2.2.1 = some (uY0 k) := by decide +kernel
theorem uNm0 : ∀ a, a < 2 → ∀ b, b < 2 → a ≠ b → (uT0 a).2.1 ≠ (uT0 b).2.1 := by decide +kernel
theorem uIn1 : (u_ws uR1 uT1 4).all (fun w => decide (w ∈ tables_1) && goodWord w) = true := by decide +kernel
theorem uTyOk1 : ∀ k, k < 4 → parseFieldDescriptor (uT1 k).2.2.1 = some (uY1 k) := by decide +kernel
theorem uNm1 : ∀ a, a < 4 → ∀ b, b < 4 → a ≠ b → (uT1 a).2.1 ≠ (uT1 b).2.1 := by decide +kernel
theorem uIn2 : (u_ws uR2 uT2 1).all (fun w => decide (w ∈ tables_1) && goodWord w) = true := by decide +kernel
theorem uTyOk2 : ∀ k, k < 1 → parseFieldDescriptor (uT2 k).2.2.1 = some (uY2 k) := by decide +kernel
theorem uNm2 : ∀ a, a < 1 → ∀ b, b < 1 → a ≠ b → (uT2 a).2.1 ≠ (uT2 b).2.1 := by decide +kernel
theorem uIn3 : (u_ws uR3 uT3 2).all (fun w => decide (w ∈ tables_1) && goodWord w) = true := by decide +kernel
theorem uTyOk3 : ∀ k, k < 2 → parseFieldDescriptor (uT3 k).2.2.1 = some (uY3 k) := by decide +kernel
theorem uNm3 : ∀ a, a < 2 → ∀ b, b < 2 → a ≠ b → (uT3 a).2.1 ≠ (uT3 b).2.1 := by decide +kernel
theorem uIn4 : (u_ws uR4 uT4 3).all (fun w => decide (w ∈ tables_1) && goodWord w) = true := by decide +kernel
theorem uTyOk4 : ∀ k, k < 3 → parseFieldDescriptor (uT4 k).2.2.1 = some (uY4 k) := by decide +kernel
theorem uNm4 : ∀ a, a < 3 → ∀ b, b < 3 → a ≠ b → (uT4 a).2.1 ≠ (uT4 b).2.1 := by decide +kernel
theorem uIn5 : (u_ws uR5 uT5 6).all (fun w => decide (w ∈ tables_1) && goodWord w) = true := by decide +kernel
theorem uTyOk5 : ∀ k, k < 6 → parseFieldDescriptor (uT5 k).2.2.1 = some (uY5 k) := by decide +kernel
theorem uNm5 : ∀ a, a < 6 → ∀ b, b < 6 → a ≠ b → (uT5 a).2.1 ≠ (uT5 b).2.1 := by decide +kernel
theorem uIn6 : (u_ws uR6 uT6 17).all (fun w => decide (w ∈ tables_1) && goodWord w) = true := by decide +kernel
theorem uTyOk6 : ∀ k, k < 17 → parseFieldDescriptor (uT6 k).2.2.1 = some (uY6 k) := by decide +kernel
theorem uNm6 : ∀ a, a < 17 → ∀ b, b < 17 → a ≠ b → (uT6 a).2.1 ≠ (uT6 b).2.1 := by decide +kernel
theorem uIn7 : (u_ws uR7 uT7 27).all (fun w => decide (w ∈ tables_1) && goodWord w) = true := by decide +kernel
theorem uTyOk7 : ∀ k, k < 27 → parseFieldDescriptor (uT7 k).2.2.1 = some (uY7 k) := by decide +kernel
theorem uNm7 : ∀ a, a < 27 → ∀ b, b < 27 → a ≠ b → (uT7 a).2.1 ≠ (uT7 b).2.1 := by decide +kernel
theorem uAllIn {ws : List Cond} (h : ws.all (fun w => decide (w ∈ tables_1) && goodWord w) = true) : ∀ w ∈ ws, w ∈ gt := by
  intro w hw
  have h1 := List.all_eq_true.mp h w hw
  simp only [Bool.and_eq_true, decide_eq_true_eq] at h1
  exact List.mem_filter.mpr ⟨List.mem_append_right _ h1.1, h1.2⟩
theorem uCls_ok {ci : Nat} {C : String} {T : u_T} {N : Nat} (h : uCls[ci]? = some (C, T, N)) : (∀ w ∈ u_ws C T N, w ∈ gt) ∧ ∃ ty : Nat → FieldType, (∀ k, k < N → parseFieldDescriptor (T k).2.2.1 = some (ty k)) ∧ (∀ a, a < N → ∀ b, b < N → a ≠ b → (T a).2.1 ≠ (T b).2.1) := by
  match ci, h with
  | 0, h => cases h; exact ⟨uAllIn uIn0, uY0, uTyOk0, uNm0⟩
  | 1, h => cases h; exact ⟨uAllIn uIn1, uY1, uTyOk1, uNm1⟩
  | 2, h => cases h; exact ⟨uAllIn uIn2, uY2, uTyOk2, uNm2⟩
  | 3, h => cases h; exact ⟨uAllIn uIn3, uY3, uTyOk3, uNm3⟩
  | 4, h => cases h; exact ⟨uAllIn uIn4, uY4, uTyOk4, uNm4⟩
  | 5, h => cases h; exact ⟨uAllIn uIn5, uY5, uTyOk5, uNm5⟩
  | 6, h => cases h; exact ⟨uAllIn uIn6, uY6, uTyOk6, uNm6⟩
  | 7, h => cases h; exact ⟨uAllIn uIn7, uY7, uTyOk7, uNm7⟩
  | k + 8, h => simp [uCls] at h
theorem uNat : Cond.native arraycopyName ∈ gt := gt_at 340 (by decide +kernel) rfl
theorem uNatS : Cond.static arraycopyName ∈ gt := gt_at 339 (by decide +kernel) rfl
theorem uNatI : Cond.initialized "java/lang/System" ∈ gt := gt_at 11 (by decide +kernel) rfl
