/-! ===== the class: sheets ===== -/
theorem RC_su2 {M : Mem} {σ : Sg} (hI : σ.1.2.1 ≤ 30 ∧ σ.1.2.2 ≤ 4) (hR : RC M σ) {t i j : Nat} {v : Int32} (hd : dC σ t i j) (ht : t ≠ 2 ∧ t ≠ 3) : RC (mS M (LC t i j).1 (LC t i j).2 v) (su σ t i j v) := by
  obtain ⟨o1, o2, o3⟩ := LC_off hd
  have ne : ∀ k s, ¬ (k = (LC t i j).1 ∧ s = (LC t i j).2) → mG (mS M (LC t i j).1 (LC t i j).2 v) k s = mG M k s := fun k s h => by
    show (if _ then _ else _) = _
    rw [if_neg h]; rfl
  refine ⟨?_, ?_, ?_, fun a b c h => ?_, fun a ha => ⟨fun p hp => ?_, ?_⟩⟩
  · rw [ne 0 5 (fun q => by have := o1 q.1.symm; omega)]; exact hR.n1
  · rw [ne 0 6 (fun q => by have := o1 q.1.symm; omega)]; exact hR.n2
  · rw [ne 0 7 (fun q => by have := o1 q.1.symm; omega)]; exact hR.n3
  · have h : dC σ a b c := h
    by_cases q : a = t ∧ b = i ∧ c = j
    · obtain ⟨rfl, rfl, rfl⟩ := q
      rw [su_at]; exact mS_at
    · rw [su_ne q, ne _ _ (fun z => q (LC_inj hI.1 hI.2 h hd z.1 z.2))]
      exact hR.2.2.2.1 a b c h
  · rw [hPar_su ht, ne _ _ (fun q => by omega)]; exact hR.tn ha hp
  · rw [hPar_su ht, ne _ _ (fun q => by have := o3 (by omega) (by omega); omega)]; exact hR.fa ha
theorem RC_row2 {M : Mem} {σ : Sg} (hI : σ.1.2.1 ≤ 30 ∧ σ.1.2.2 ≤ 4) (hR : RC M σ) {t i n : Nat} {f : Nat → Int32} (r : Nat) (hl : ∀ j, j < n → dC σ t i j ∧ LC t i j = (r, j)) (ht : t ≠ 2 ∧ t ≠ 3) (hr : r ≠ 0 ∧ ¬ (30 ≤ r ∧ r < 34) ∧ ¬ (50 ≤ r ∧ r < 54)) (hc : ∀ a b c, dC σ a b c → (LC a b c).1 = r → (LC a b c).2 < n → a = t ∧ b = i) : RC (mRow M r n f) (aftR σ t i n f) := by
  have hp : ∀ a, hPar (aftR σ t i n f) a = hPar σ a := by
    intro a
    have e1 : (aftR σ t i n f).2 2 a = σ.2 2 a := by funext z; exact if_neg (fun q => ht.1 q.1.symm)
    have e2 : (aftR σ t i n f).2 3 a 0 = σ.2 3 a 0 := if_neg (fun q => ht.2 q.1.symm)
    unfold hPar hLen
    rw [e1, e2]
  refine ⟨(mRow_out (by omega)).trans hR.n1, (mRow_out (by omega)).trans hR.n2, (mRow_out (by omega)).trans hR.n3, fun a b c hd => ?_, fun a ha => ⟨fun p h => ?_, ?_⟩⟩
  · have hd : dC σ a b c := hd
    by_cases q : a = t ∧ b = i ∧ c < n
    · obtain ⟨rfl, rfl, q⟩ := q
      have ev : (aftR σ a b n f).2 a b c = f c := if_pos ⟨rfl, rfl, q⟩
      rw [ev, (hl c q).2]
      exact mRow_in q
    · have ev : (aftR σ t i n f).2 a b c = σ.2 a b c := if_neg q
      rw [ev]
      refine Eq.trans ?_ (hR.2.2.2.1 a b c hd)
      show (if _ then _ else _) = _
      rw [if_neg]
      · rfl
      · intro z
        obtain ⟨e1, e2⟩ := hc a b c hd z.1 z.2
        have h2 : LC a b c = (r, (LC a b c).2) := Prod.ext z.1 rfl
        have hh := hl (LC a b c).2 z.2
        have := LC_inj hI.1 hI.2 hd hh.1 (by rw [hh.2]; exact z.1) (by rw [hh.2])
        exact q ⟨e1, e2, by omega⟩
  · rw [hp]; exact (mRow_out (by omega)).trans (hR.tn ha h)
  · rw [hp]; exact (mRow_out (by omega)).trans (hR.fa ha)
def lostB (σ : Sg) (s : Nat) : Bool := decide (σ.2 13 s 0 = -1)
def aftSh (σ : Sg) (s : Nat) (f n : Int32) : Sg := aftR (su (su σ 13 s 0 f) 14 s 0 n) 15 s 60 (fun _ => 0)
theorem items_row {M : Mem} {σ : Sg} (hI : σ.1.2.1 ≤ 30 ∧ σ.1.2.2 ≤ 4) (hR : RC M σ) {s n : Nat} {f : Nat → Int32} (hs : s < 4) (hn : n ≤ 60) : RC (mRow M (90 + s) n f) (aftR σ 15 s n f) := by
  refine RC_row2 hI hR (90 + s) (fun j hj => ⟨⟨hs, by omega⟩, rfl⟩) (by decide) (by omega) (fun a b c hd e1 e2 => ?_)
  have h2 : dLC (LC a b c).1 (LC a b c).2 = (a, b, c) := dLC_ok hI.1 hI.2 hd
  rw [e1] at h2
  unfold dLC at h2
  rw [if_neg (by omega), if_neg (by omega), if_neg (by omega), if_neg (by omega), if_neg (by omega), if_neg (by omega), if_neg (by omega), if_pos (by omega)] at h2
  simp only [Prod.mk.injEq] at h2
  omega
theorem places_row {M : Mem} {σ : Sg} (hI : σ.1.2.1 ≤ 30 ∧ σ.1.2.2 ≤ 4) (hR : RC M σ) {h n : Nat} {f : Nat → Int32} (hs : h < 8) (hn : n ≤ 8) : RC (mRow M (20 + h) n f) (aftR σ 1 h n f) := by
  refine RC_row2 hI hR (20 + h) (fun j hj => ⟨⟨hs, by omega⟩, rfl⟩) (by decide) (by omega) (fun a b c hd e1 e2 => ?_)
  have h2 : dLC (LC a b c).1 (LC a b c).2 = (a, b, c) := dLC_ok hI.1 hI.2 hd
  rw [e1] at h2
  unfold dLC at h2
  rw [if_neg (by omega), if_pos (by omega)] at h2
  simp only [Prod.mk.injEq] at h2
  omega
theorem begin_RC {M : Mem} {σ : Sg} (hI : Iv σ) (hR : RC M σ) {s : Nat} {f n : Int32} (hs : s < 4) : RC (mRow (mS (mS M (80 + s) 1 f) (80 + s) 2 n) (90 + s) 60 (fun _ => 0)) (aftSh σ s f n) := by
  have h1 := RC_su2 (t := 13) (i := s) (j := 0) (v := f) ⟨hI.2.1, hI.2.2.1⟩ hR ⟨hs, rfl⟩ (by decide)
  have h2 := RC_su2 (σ := su σ 13 s 0 f) (t := 14) (i := s) (j := 0) (v := n) ⟨hI.2.1, hI.2.2.1⟩ h1 ⟨hs, rfl⟩ (by decide)
  exact items_row (σ := su (su σ 13 s 0 f) 14 s 0 n) (n := 60) ⟨hI.2.1, hI.2.2.1⟩ h2 hs (by omega)
theorem found_RC {M : Mem} {σ : Sg} (hI : Iv σ) (hR : RC M σ) {x : Int32} : RC (mS M 0 11 x) (su σ 16 0 0 x) := hR.su hI (t := 16) (i := 0) (j := 0) ⟨rfl, rfl⟩ (by decide)
def okSheet (x f n : Int32) : Bool := ixB x 4 && ixB f (2 + 1) && decide (n ≤ 60)
def ans_sheet (x f n : Int32) : Int32 := if okSheet x f n = true then (if n < 0 then -10 - 5 else n) else -2
def aft_sheet (σ : Sg) (x f n : Int32) : Sg := if okSheet x f n = true then (if n < 0 then su σ 16 0 0 5 else aftSh σ (ix x) f n) else σ
def ans_lose (σ : Sg) (x : Int32) : Int32 := if ixB x 4 = true then (if lostB σ (ix x) = true then -10 - 1 else σ.2 14 (ix x) 0) else -2
def aft_lose (σ : Sg) (x : Int32) : Sg := if ixB x 4 = true then (if lostB σ (ix x) = true then su σ 16 0 0 1 else aftSh σ (ix x) (-1) 0) else σ
def findS (σ : Sg) (s : Nat) (f i : Int32) : Int32 := if lostB σ s = true then 1 else if ¬ σ.2 13 s 0 = f then 3 else if i < 0 ∨ σ.2 14 s 0 ≤ i then 2 else 0
def okLay (x f : Int32) : Bool := ixB x 4 && ixB f (2 + 1)
def ans_lay (σ : Sg) (x f i : Int32) : Int32 := if okLay x f = true then (if findS σ (ix x) f i = 0 then 1 else -10 - findS σ (ix x) f i) else -2
def aft_lay (σ : Sg) (x f i v : Int32) : Sg := if okLay x f = true then (if findS σ (ix x) f i = 0 then su σ 15 (ix x) (ix i) (cutS f v) else su σ 16 0 0 (findS σ (ix x) f i)) else σ
def ans_get (σ : Sg) (x f i : Int32) : Int32 := if okLay x f = true then (if findS σ (ix x) f i = 0 then σ.2 15 (ix x) (ix i) else -2147483648) else -2147483648
def aft_get (σ : Sg) (x f i : Int32) : Sg := if okLay x f = true then (if findS σ (ix x) f i = 0 then σ else su σ 16 0 0 (findS σ (ix x) f i)) else σ
def okCopy (x y : Int32) : Bool := ixB x 4 && ixB y 4
def cpF (σ : Sg) (s t : Nat) (i j n : Int32) : Int32 := if (lostB σ s || lostB σ t) = true then 1 else if ¬ σ.2 13 s 0 = σ.2 13 t 0 then 4 else if (runB (σ.2 14 s 0) i n && runB (σ.2 14 t 0) j n) = true then 0 else 2
def ans_copy (σ : Sg) (x i y j n : Int32) : Int32 := if okCopy x y = true then (if cpF σ (ix x) (ix y) i j n = 0 then 1 else -10 - cpF σ (ix x) (ix y) i j n) else -2
def aft_copy (σ : Sg) (x i y j n : Int32) : Sg := if okCopy x y = true then (if cpF σ (ix x) (ix y) i j n = 0 then aftR σ 15 (ix y) 60 (va_cpy (σ.2 15 (ix x)) (σ.2 15 (ix y)) (ix i) (ix j) (ix n)) else su σ 16 0 0 (cpF σ (ix x) (ix y) i j n)) else σ
def min8 (σ : Sg) (s : Nat) : Nat := min (ix (σ.2 14 s 0)) 8
def okWrite (σ : Sg) (d x : Int32) : Bool := ixB d σ.1.2.1 && ixB x 4
def ans_write (σ : Sg) (d x : Int32) : Int32 := if okWrite σ d x = true then (if lostB σ (ix x) = true then -10 - 1 else nI (min8 σ (ix x))) else -2
def aft_write (σ : Sg) (d x : Int32) : Sg := if okWrite σ d x = true then (if lostB σ (ix x) = true then su σ 16 0 0 1 else aftR σ 15 (ix x) (min8 σ (ix x)) (fun p => cutS (σ.2 13 (ix x) 0) (σ.2 9 (ix d) p))) else σ
def rdN (f : Nat → Int32) : Nat → Nat → Nat
  | 0, i => i
  | n + 1, i => if ixB (f i) (99 + 1) = true then rdN f n (i + 1) else i
def okRead (σ : Sg) (x h : Int32) : Bool := ixB x 4 && ixB h σ.1.1
def ans_read (σ : Sg) (x h : Int32) : Int32 := if okRead σ x h = true then (if lostB σ (ix x) = true then -10 - 1 else nI (rdN (σ.2 15 (ix x)) (min8 σ (ix x)) 0)) else -2
def aft_read (σ : Sg) (x h : Int32) : Sg := if okRead σ x h = true then (if lostB σ (ix x) = true then su σ 16 0 0 1 else aftR σ 1 (ix h) (rdN (σ.2 15 (ix x)) (min8 σ (ix x)) 0) (σ.2 15 (ix x))) else σ
theorem size_ok {σ : Sg} (hI : Iv σ) (s : Nat) : σ.2 14 s 0 = nI (ix (σ.2 14 s 0)) ∧ ix (σ.2 14 s 0) ≤ 60 := by
  have h := (hI.2.2.2.2.2.2.2.2.2 s).2
  unfold rD at h
  unfold ix
  exact ⟨nI_ofInt (by omega) (by omega), by omega⟩
theorem min8_ok {σ : Sg} (hI : Iv σ) (s : Nat) : (if (8 : Int32) < σ.2 14 s 0 then (8 : Int32) else σ.2 14 s 0) = nI (min8 σ s) := by
  obtain ⟨h1, h2⟩ := size_ok hI s
  unfold min8
  by_cases q : (8 : Int32) < σ.2 14 s 0
  · rw [if_pos q]
    rw [h1] at q
    have := (nI_ltI (a := 8) (by decide) (by omega)).mp q
    rw [Nat.min_eq_right (by omega)]
    rfl
  · rw [if_neg q]
    rw [h1] at q
    have : ¬ 8 < ix (σ.2 14 s 0) := fun z => q (nI_lt (a := 8) z (by omega))
    rw [Nat.min_eq_left (by omega)]
    exact h1
set_option maxRecDepth 100000 in
theorem c_sheet {M : Mem} {σ : Sg} (hR : RC M σ) (hI : Iv σ) {x f v : Int32} : CS u_C_sheet [.ref 0, .int x, .int f, .int v] M (rC (ans_sheet x f v) (aft_sheet σ x f v) M) := by
  obtain ⟨hn1, hn2, hn3⟩ := hI.n
  refine cs_introF (L := [some (.ref 0), some (.int x), some (.int f), some (.int v)]) (by decide +kernel) (fun ad q h => h) (fun ad => Nat.le_of_ble_eq_true rfl) ?_
  refine cw_iload_n d_C_sheet_0 rfl ?_
  refine cw_staticP (s_C_isSheet) rfl ml_C_91 rfl rfl d_C_sheet_1 ?_
  refine cw_bif_eq 20 d_C_sheet_4 (by decide) (fun c_4 => ?_) (fun c_4 => ?_)
  · refine cw_bipush (v := (-2)) d_C_sheet_20 (by decide) ?_
    refine cw_iret rfl d_C_sheet_22 ?_
    exact ⟨by simp [ans_sheet, okSheet, c_4], by simp [aft_sheet, okSheet, c_4]; exact hR, kC.rf⟩
  · obtain ⟨s, hhs, e_s⟩ := ixB_t c_4 (by omega)
    subst e_s
    refine cw_iload_n d_C_sheet_7 rfl ?_
    refine cw_staticP (s_C_isForm) rfl ml_C_288 rfl rfl d_C_sheet_8 ?_
    refine cw_bif_eq 20 d_C_sheet_11 (by decide) (fun c_11 => ?_) (fun c_11 => ?_)
    · refine cw_bipush (v := (-2)) d_C_sheet_20 (by decide) ?_
      refine cw_iret rfl d_C_sheet_22 ?_
      exact ⟨by simp [ans_sheet, okSheet, c_4, c_11], by simp [aft_sheet, okSheet, c_4, c_11]; exact hR, kC.rf⟩
    · refine cw_iload_n d_C_sheet_14 rfl ?_
      refine cw_bipush (v := 60) d_C_sheet_15 (by decide) ?_
      refine cw_icmp_le 23 d_C_sheet_17 (by decide) (fun c_17 => ?_) (fun c_17 => ?_)
      · refine cw_iload_n d_C_sheet_23 rfl ?_
        refine cw_if_ge 33 d_C_sheet_24 (by decide) (fun c_24 => ?_) (fun c_24 => ?_)
        · refine cw_aload_n d_C_sheet_33 rfl ?_
          refine cw_getR fl_C_35 so_C rfl d_C_sheet_34 ?_
          refine cw_iload_n d_C_sheet_37 rfl ?_
          refine cw_aaldN (i := s) sr_5 rfl (by omega) (by decide) d_C_sheet_38 ?_
          refine cw_iload_n d_C_sheet_39 rfl ?_
          refine cw_iload_n d_C_sheet_40 rfl ?_
          refine cw_virtV (s_Sh_begin (s := s) (by omega)) rfl ml_C_291 (so_Sh (h := s) (by omega)) rfl rfl d_C_sheet_41 (fun M_41 q_41 => ?_)
          subst q_41
          refine cw_iload_n d_C_sheet_44 rfl ?_
          refine cw_iret rfl d_C_sheet_45 ?_
          have hok : okSheet (nI s) f v = true := by simp [okSheet, c_4, c_11, c_17]
          have hz : ¬ v < 0 := i32_nlt.mpr c_24
          exact ⟨by unfold ans_sheet; rw [if_pos hok, if_neg hz], by unfold aft_sheet; rw [if_pos hok, if_neg hz, ix_nI (show s < 2 ^ 31 by omega)]; exact begin_RC hI hR (by omega), ((mS_kC (by omega)).tr (mS_kC (by omega))).tr (mRow_kC (by omega))⟩
        · refine cw_aload_n d_C_sheet_27 rfl ?_
          refine cw_iconst (v := 5) d_C_sheet_28 (by decide) ?_
          refine cw_virtI (s_C_found) rfl ml_C_98 so_C rfl rfl d_C_sheet_29 (fun r_29 M_29 q_29 => ?_)
          obtain ⟨e_29, f_29⟩ := q_29
          subst e_29; subst f_29
          refine cw_iret rfl d_C_sheet_32 ?_
          have hok : okSheet (nI s) f v = true := by simp [okSheet, c_4, c_11, c_17]
          have hz : v < 0 := i32_nle.mp c_24
          exact ⟨by unfold ans_sheet; rw [if_pos hok, if_pos hz], by unfold aft_sheet; rw [if_pos hok, if_pos hz]; exact found_RC hI hR, mS_kC (by omega)⟩
      · refine cw_bipush (v := (-2)) d_C_sheet_20 (by decide) ?_
        refine cw_iret rfl d_C_sheet_22 ?_
        exact ⟨by simp [ans_sheet, okSheet, c_4, c_11, c_17], by simp [aft_sheet, okSheet, c_4, c_11, c_17]; exact hR, kC.rf⟩
set_option maxRecDepth 100000 in
theorem c_lose {M : Mem} {σ : Sg} (hR : RC M σ) (hI : Iv σ) {x : Int32} : CS u_C_lose [.ref 0, .int x] M (rC (ans_lose σ x) (aft_lose σ x) M) := by
  obtain ⟨hn1, hn2, hn3⟩ := hI.n
  refine cs_introF (L := [some (.ref 0), some (.int x), none]) (by decide +kernel) (fun ad q h => h) (fun ad => Nat.le_of_ble_eq_true rfl) ?_
  refine cw_iload_n d_C_lose_0 rfl ?_
  refine cw_staticP (s_C_isSheet) rfl ml_C_91 rfl rfl d_C_lose_1 ?_
  refine cw_bif_ne 10 d_C_lose_4 (by decide) (fun c_4 => ?_) (fun c_4 => ?_)
  · obtain ⟨s, hhs, e_s⟩ := ixB_t c_4 (by omega)
    subst e_s
    refine cw_aload_n d_C_lose_10 rfl ?_
    refine cw_getR fl_C_35 so_C rfl d_C_lose_11 ?_
    refine cw_iload_n d_C_lose_14 rfl ?_
    refine cw_aaldN (i := s) sr_5 rfl (by omega) (by decide) d_C_lose_15 ?_
    refine cw_virtP (s_Sh_isLost (s := s) (by omega)) rfl ml_C_94 (so_Sh (h := s) (by omega)) rfl rfl d_C_lose_16 ?_
    refine cw_top (y := b2 (lostB σ s)) (by rw [hR.fo (by omega)]; rfl) ?_
    refine cw_bif_eq 28 d_C_lose_19 (by decide) (fun c_19 => ?_) (fun c_19 => ?_)
    · refine cw_aload_n d_C_lose_28 rfl ?_
      refine cw_getR fl_C_35 so_C rfl d_C_lose_29 ?_
      refine cw_iload_n d_C_lose_32 rfl ?_
      refine cw_aaldN (i := s) sr_5 rfl (by omega) (by decide) d_C_lose_33 ?_
      refine cw_getI fl_C_102 (so_Sh (h := s) (by omega)) rfl d_C_lose_34 ?_
      refine cw_istore_n d_C_lose_37 rfl ?_
      refine cw_aload_n d_C_lose_38 rfl ?_
      refine cw_getR fl_C_35 so_C rfl d_C_lose_39 ?_
      refine cw_iload_n d_C_lose_42 rfl ?_
      refine cw_aaldN (i := s) sr_5 rfl (by omega) (by decide) d_C_lose_43 ?_
      refine cw_iconst (v := (-1)) d_C_lose_44 (by decide) ?_
      refine cw_iconst (v := 0) d_C_lose_45 (by decide) ?_
      refine cw_virtV (s_Sh_begin (s := s) (by omega)) rfl ml_C_291 (so_Sh (h := s) (by omega)) rfl rfl d_C_lose_46 (fun M_46 q_46 => ?_)
      subst q_46
      refine cw_iload_n d_C_lose_49 rfl ?_
      refine cw_iret rfl d_C_lose_50 ?_
      exact ⟨by unfold ans_lose; rw [if_pos c_4, ix_nI (show s < 2 ^ 31 by omega), if_neg (Bool.eq_false_iff.mp c_19)]; exact hR.si (by omega), by unfold aft_lose; rw [if_pos c_4, ix_nI (show s < 2 ^ 31 by omega), if_neg (Bool.eq_false_iff.mp c_19)]; exact begin_RC hI hR (by omega), ((mS_kC (by omega)).tr (mS_kC (by omega))).tr (mRow_kC (by omega))⟩
    · refine cw_aload_n d_C_lose_22 rfl ?_
      refine cw_iconst (v := 1) d_C_lose_23 (by decide) ?_
      refine cw_virtI (s_C_found) rfl ml_C_98 so_C rfl rfl d_C_lose_24 (fun r_24 M_24 q_24 => ?_)
      obtain ⟨e_24, f_24⟩ := q_24
      subst e_24; subst f_24
      refine cw_iret rfl d_C_lose_27 ?_
      exact ⟨by unfold ans_lose; rw [if_pos c_4, ix_nI (show s < 2 ^ 31 by omega), if_pos c_19], by unfold aft_lose; rw [if_pos c_4, ix_nI (show s < 2 ^ 31 by omega), if_pos c_19]; exact found_RC hI hR, mS_kC (by omega)⟩
  · refine cw_bipush (v := (-2)) d_C_lose_7 (by decide) ?_
    refine cw_iret rfl d_C_lose_9 ?_
    exact ⟨by simp [ans_lose, okLay, c_4], by simp [aft_lose, okLay, c_4]; exact hR, kC.rf⟩
set_option maxRecDepth 100000 in
theorem s_C_findingAt {M : Mem} {σ : Sg} (hR : RC M σ) (hI : Iv σ) {s : Nat} {f i : Int32} (hs : s < 4) : CS u_C_findingAt [.ref (80 + s), .int f, .int i] M (pI (findS σ s f i) M) := by
  refine cs_introF (L := [some (.ref (80 + s)), some (.int f), some (.int i)]) (by decide +kernel) (fun ad q h => h) (fun ad => Nat.le_of_ble_eq_true rfl) ?_
  refine cw_aload_n d_C_findingAt_0 rfl ?_
  refine cw_virtP (s_Sh_isLost (s := s) (by omega)) rfl ml_C_94 (so_Sh (h := s) (by omega)) rfl rfl d_C_findingAt_1 ?_
  refine cw_top (y := b2 (lostB σ s)) (by rw [hR.fo (by omega)]; rfl) ?_
  refine cw_bif_eq 9 d_C_findingAt_4 (by decide) (fun c_4 => ?_) (fun c_4 => ?_)
  · refine cw_aload_n d_C_findingAt_9 rfl ?_
    refine cw_getI fl_C_303 (so_Sh (h := s) (by omega)) rfl d_C_findingAt_10 ?_
    refine cw_top (hR.fo (by omega)) ?_
    refine cw_iload_n d_C_findingAt_13 rfl ?_
    refine cw_icmp_eq 19 d_C_findingAt_14 (by decide) (fun c_14 => ?_) (fun c_14 => ?_)
    · refine cw_iload_n d_C_findingAt_19 rfl ?_
      refine cw_if_lt 31 d_C_findingAt_20 (by decide) (fun c_20 => ?_) (fun c_20 => ?_)
      · refine cw_iconst (v := 2) d_C_findingAt_31 (by decide) ?_
        refine cw_goto 36 d_C_findingAt_32 (by decide) ?_
        refine cw_iret rfl d_C_findingAt_36 ?_
        exact ⟨by unfold findS; rw [if_neg (Bool.eq_false_iff.mp c_4), if_neg (Classical.not_not.mpr c_14)]; exact (if_pos (Or.inl c_20)).symm, rfl⟩
      · refine cw_iload_n d_C_findingAt_23 rfl ?_
        refine cw_aload_n d_C_findingAt_24 rfl ?_
        refine cw_getI fl_C_102 (so_Sh (h := s) (by omega)) rfl d_C_findingAt_25 ?_
        refine cw_top (hR.si (by omega)) ?_
        refine cw_icmp_lt 35 d_C_findingAt_28 (by decide) (fun c_28 => ?_) (fun c_28 => ?_)
        · refine cw_iconst (v := 0) d_C_findingAt_35 (by decide) ?_
          refine cw_iret rfl d_C_findingAt_36 ?_
          exact ⟨by unfold findS; rw [if_neg (Bool.eq_false_iff.mp c_4), if_neg (Classical.not_not.mpr c_14)]; first | exact (if_pos (Or.inr (i32_nlt.mp c_28))).symm | exact (if_neg (fun q => q.elim c_20 (fun z => absurd c_28 (i32_nlt.mpr z)))).symm, rfl⟩
        · refine cw_iconst (v := 2) d_C_findingAt_31 (by decide) ?_
          refine cw_goto 36 d_C_findingAt_32 (by decide) ?_
          refine cw_iret rfl d_C_findingAt_36 ?_
          exact ⟨by unfold findS; rw [if_neg (Bool.eq_false_iff.mp c_4), if_neg (Classical.not_not.mpr c_14)]; first | exact (if_pos (Or.inr (i32_nlt.mp c_28))).symm | exact (if_neg (fun q => q.elim c_20 (fun z => absurd c_28 (i32_nlt.mpr z)))).symm, rfl⟩
    · refine cw_iconst (v := 3) d_C_findingAt_17 (by decide) ?_
      refine cw_iret rfl d_C_findingAt_18 ?_
      exact ⟨by unfold findS; rw [if_neg (Bool.eq_false_iff.mp c_4), if_pos c_14], rfl⟩
  · refine cw_iconst (v := 1) d_C_findingAt_7 (by decide) ?_
    refine cw_iret rfl d_C_findingAt_8 ?_
    exact ⟨(if_pos c_4).symm, rfl⟩
theorem findS_0 {σ : Sg} (hI : Iv σ) {s : Nat} {f i : Int32} (h : findS σ s f i = 0) : σ.2 13 s 0 = f ∧ lostB σ s = false ∧ ∃ k, k < 60 ∧ k < ix (σ.2 14 s 0) ∧ i = nI k ∧ ¬ σ.2 14 s 0 ≤ nI k := by
  obtain ⟨h1, h2⟩ := size_ok hI s
  unfold findS at h
  split at h
  · exact absurd h (by decide)
  · rename_i q1
    split at h
    · exact absurd h (by decide)
    · rename_i q2
      split at h
      · exact absurd h (by decide)
      · rename_i q3
        have q4 := i32_le.mp (i32_nlt.mp (fun z => q3 (Or.inl z)))
        have q5 : ¬ σ.2 14 s 0 ≤ i := fun z => q3 (Or.inr z)
        have q6 := i32_lt.mp (i32_nle.mp q5)
        have := i0
        obtain ⟨k, hk⟩ : ∃ k : Nat, i.toInt = (k : Int) := ⟨i.toInt.toNat, by omega⟩
        have e : i = nI k := nI_ofInt hk (by have := Int32.toInt_lt i; omega)
        rw [h1, nI_toInt (by omega)] at q6
        exact ⟨Classical.not_not.mp q2, Bool.eq_false_iff.mpr q1, k, by omega, by omega, e, e ▸ q5⟩
set_option maxRecDepth 100000 in
theorem c_lay {M : Mem} {σ : Sg} (hR : RC M σ) (hI : Iv σ) {x f i v : Int32} : CS u_C_lay [.ref 0, .int x, .int f, .int i, .int v] M (rC (ans_lay σ x f i) (aft_lay σ x f i v) M) := by
  obtain ⟨hn1, hn2, hn3⟩ := hI.n
  refine cs_introF (L := [some (.ref 0), some (.int x), some (.int f), some (.int i), some (.int v), none]) (by decide +kernel) (fun ad q h => h) (fun ad => Nat.le_of_ble_eq_true rfl) ?_
  refine cw_iload_n d_C_lay_0 rfl ?_
  refine cw_staticP (s_C_isSheet) rfl ml_C_91 rfl rfl d_C_lay_1 ?_
  refine cw_bif_eq 14 d_C_lay_4 (by decide) (fun c_4 => ?_) (fun c_4 => ?_)
  · refine cw_bipush (v := (-2)) d_C_lay_14 (by decide) ?_
    refine cw_iret rfl d_C_lay_16 ?_
    exact ⟨by simp [ans_lay, okLay, c_4], by simp [aft_lay, okLay, c_4]; exact hR, kC.rf⟩
  · obtain ⟨s, hhs, e_s⟩ := ixB_t c_4 (by omega)
    subst e_s
    refine cw_iload_n d_C_lay_7 rfl ?_
    refine cw_staticP (s_C_isForm) rfl ml_C_288 rfl rfl d_C_lay_8 ?_
    refine cw_bif_ne 17 d_C_lay_11 (by decide) (fun c_11 => ?_) (fun c_11 => ?_)
    · refine cw_aload_n d_C_lay_17 rfl ?_
      refine cw_getR fl_C_35 so_C rfl d_C_lay_18 ?_
      refine cw_iload_n d_C_lay_21 rfl ?_
      refine cw_aaldN (i := s) sr_5 rfl (by omega) (by decide) d_C_lay_22 ?_
      refine cw_iload_n d_C_lay_23 rfl ?_
      refine cw_iload_n d_C_lay_24 rfl ?_
      refine cw_staticP (s_C_findingAt hR hI (s := s) (by omega)) rfl ml_C_295 rfl rfl d_C_lay_25 ?_
      refine cw_istore d_C_lay_28 rfl ?_
      refine cw_iload d_C_lay_30 rfl ?_
      refine cw_if_eq 42 d_C_lay_32 (by decide) (fun c_32 => ?_) (fun c_32 => ?_)
      · have hok : okLay (nI s) f = true := by simp [okLay, c_4, c_11]
        obtain ⟨hf1, hf2, k, hk1, hk2, e_k, hk3⟩ := findS_0 hI c_32
        subst e_k
        refine cw_aload_n d_C_lay_42 rfl ?_
        refine cw_getR fl_C_35 so_C rfl d_C_lay_43 ?_
        refine cw_iload_n d_C_lay_46 rfl ?_
        refine cw_aaldN (i := s) sr_5 rfl (by omega) (by decide) d_C_lay_47 ?_
        refine cw_iload_n d_C_lay_48 rfl ?_
        refine cw_iload d_C_lay_49 rfl ?_
        refine cw_virtV (s_Sh_put (s := s) (i := k) (by omega) hk1 (by rw [hR.si (by omega)]; exact hk3)) rfl ml_C_299 (so_Sh (h := s) (by omega)) rfl rfl d_C_lay_51 (fun M_51 q_51 => ?_)
        subst q_51
        refine cw_iconst (v := 1) d_C_lay_54 (by decide) ?_
        refine cw_iret rfl d_C_lay_55 ?_
        exact ⟨by unfold ans_lay; rw [if_pos hok, ix_nI (show s < 2 ^ 31 by omega), if_pos c_32], by unfold aft_lay; rw [if_pos hok, ix_nI (show s < 2 ^ 31 by omega), if_pos c_32, ix_nI (show k < 2 ^ 31 by omega), hR.fo (by omega), hf1]; exact hR.su hI (t := 15) (i := s) (j := k) ⟨by omega, hk1⟩ (by decide), mS_kC (by omega)⟩
      · have hok : okLay (nI s) f = true := by simp [okLay, c_4, c_11]
        refine cw_aload_n d_C_lay_35 rfl ?_
        refine cw_iload d_C_lay_36 rfl ?_
        refine cw_virtI (s_C_found) rfl ml_C_98 so_C rfl rfl d_C_lay_38 (fun r_38 M_38 q_38 => ?_)
        obtain ⟨e_38, f_38⟩ := q_38
        subst e_38; subst f_38
        refine cw_iret rfl d_C_lay_41 ?_
        exact ⟨by unfold ans_lay; rw [if_pos hok, ix_nI (show s < 2 ^ 31 by omega), if_neg c_32], by unfold aft_lay; rw [if_pos hok, ix_nI (show s < 2 ^ 31 by omega), if_neg c_32]; exact found_RC hI hR, mS_kC (by omega)⟩
    · refine cw_bipush (v := (-2)) d_C_lay_14 (by decide) ?_
      refine cw_iret rfl d_C_lay_16 ?_
      exact ⟨by simp [ans_lay, okLay, c_4, c_11], by simp [aft_lay, okLay, c_4, c_11]; exact hR, kC.rf⟩
set_option maxRecDepth 100000 in
theorem c_get {M : Mem} {σ : Sg} (hR : RC M σ) (hI : Iv σ) {x f i : Int32} : CS u_C_get [.ref 0, .int x, .int f, .int i] M (rC (ans_get σ x f i) (aft_get σ x f i) M) := by
  obtain ⟨hn1, hn2, hn3⟩ := hI.n
  refine cs_introF (L := [some (.ref 0), some (.int x), some (.int f), some (.int i), none]) (by decide +kernel) (fun ad q h => h) (fun ad => Nat.le_of_ble_eq_true rfl) ?_
  refine cw_iload_n d_C_get_0 rfl ?_
  refine cw_staticP (s_C_isSheet) rfl ml_C_91 rfl rfl d_C_get_1 ?_
  refine cw_bif_eq 14 d_C_get_4 (by decide) (fun c_4 => ?_) (fun c_4 => ?_)
  · refine cw_ldc_w kc_C_302 d_C_get_14 ?_
    refine cw_iret rfl d_C_get_17 ?_
    exact ⟨by simp [ans_get, okLay, c_4], by simp [aft_get, okLay, c_4]; exact hR, kC.rf⟩
  · obtain ⟨s, hhs, e_s⟩ := ixB_t c_4 (by omega)
    subst e_s
    refine cw_iload_n d_C_get_7 rfl ?_
    refine cw_staticP (s_C_isForm) rfl ml_C_288 rfl rfl d_C_get_8 ?_
    refine cw_bif_ne 18 d_C_get_11 (by decide) (fun c_11 => ?_) (fun c_11 => ?_)
    · refine cw_aload_n d_C_get_18 rfl ?_
      refine cw_getR fl_C_35 so_C rfl d_C_get_19 ?_
      refine cw_iload_n d_C_get_22 rfl ?_
      refine cw_aaldN (i := s) sr_5 rfl (by omega) (by decide) d_C_get_23 ?_
      refine cw_iload_n d_C_get_24 rfl ?_
      refine cw_iload_n d_C_get_25 rfl ?_
      refine cw_staticP (s_C_findingAt hR hI (s := s) (by omega)) rfl ml_C_295 rfl rfl d_C_get_26 ?_
      refine cw_istore d_C_get_29 rfl ?_
      refine cw_iload d_C_get_31 rfl ?_
      refine cw_if_eq 47 d_C_get_33 (by decide) (fun c_33 => ?_) (fun c_33 => ?_)
      · have hok : okLay (nI s) f = true := by simp [okLay, c_4, c_11]
        obtain ⟨hf1, hf2, k, hk1, hk2, e_k, hk3⟩ := findS_0 hI c_33
        subst e_k
        refine cw_aload_n d_C_get_47 rfl ?_
        refine cw_getR fl_C_35 so_C rfl d_C_get_48 ?_
        refine cw_iload_n d_C_get_51 rfl ?_
        refine cw_aaldN (i := s) sr_5 rfl (by omega) (by decide) d_C_get_52 ?_
        refine cw_getR fl_C_111 (so_Sh (h := s) (by omega)) rfl d_C_get_53 ?_
        refine cw_iload_n d_C_get_56 rfl ?_
        refine cw_ialdN (i := k) (sa_it (h := s) (by omega)) rfl (by omega) (by decide) d_C_get_57 ?_
        refine cw_iret rfl d_C_get_58 ?_
        exact ⟨by unfold ans_get; rw [if_pos hok, ix_nI (show s < 2 ^ 31 by omega), if_pos c_33, ix_nI (show k < 2 ^ 31 by omega)]; exact hR.it (by omega) hk1, by unfold aft_get; rw [if_pos hok, ix_nI (show s < 2 ^ 31 by omega), if_pos c_33]; exact hR, kC.rf⟩
      · have hok : okLay (nI s) f = true := by simp [okLay, c_4, c_11]
        refine cw_aload_n d_C_get_36 rfl ?_
        refine cw_iload d_C_get_37 rfl ?_
        refine cw_virtI (s_C_found) rfl ml_C_98 so_C rfl rfl d_C_get_39 (fun r_39 M_39 q_39 => ?_)
        obtain ⟨e_39, f_39⟩ := q_39
        subst e_39; subst f_39
        refine cw_pop_int d_C_get_42 ?_
        refine cw_ldc_w kc_C_302 d_C_get_43 ?_
        refine cw_iret rfl d_C_get_46 ?_
        exact ⟨by unfold ans_get; rw [if_pos hok, ix_nI (show s < 2 ^ 31 by omega), if_neg c_33], by unfold aft_get; rw [if_pos hok, ix_nI (show s < 2 ^ 31 by omega), if_neg c_33]; exact found_RC hI hR, mS_kC (by omega)⟩
    · refine cw_ldc_w kc_C_302 d_C_get_14 ?_
      refine cw_iret rfl d_C_get_17 ?_
      exact ⟨by simp [ans_get, okLay, c_4, c_11], by simp [aft_get, okLay, c_4, c_11]; exact hR, kC.rf⟩
theorem runB_t {n i k : Int32} (h : runB n i k = true) (hn : rD n 0 60) : ∃ a b : Nat, i = nI a ∧ k = nI b ∧ a + b ≤ 60 := by
  have h1 := of_decide_eq_true h
  unfold rD at hn
  exact ⟨i.toInt.toNat, k.toInt.toNat, nI_ofInt (by omega) (by omega), nI_ofInt (by omega) (by omega), by omega⟩
theorem mCpy_row {M : Mem} {a b sp dp n : Nat} (h : dp + n ≤ 60) : mCpy M a b sp dp n = mRow M b 60 (va_cpy (mG M a) (mG M b) sp dp n) := by
  unfold mCpy mRow
  apply Prod.ext
  · funext k j
    by_cases q : k = b
    · subst q
      by_cases z : j < 60
      · simp only [z, and_self, if_true]; rfl
      · simp only [z, and_false, if_true, if_false]
        unfold va_cpy
        rw [if_neg (by omega)]
    · simp [q]
  · rfl
theorem copy_RC {M : Mem} {σ : Sg} (hI : Iv σ) (hR : RC M σ) {s t sp dp n : Nat} (hs : s < 4) (ht : t < 4) (h1 : sp + n ≤ 60) (h2 : dp + n ≤ 60) : RC (mCpy M (90 + s) (90 + t) sp dp n) (aftR σ 15 t 60 (va_cpy (σ.2 15 s) (σ.2 15 t) sp dp n)) := by
  rw [mCpy_row h2, mRow_congr (g := va_cpy (σ.2 15 s) (σ.2 15 t) sp dp n)]
  · exact items_row (n := 60) ⟨hI.2.1, hI.2.2.1⟩ hR ht (by omega)
  · intro j hj
    unfold va_cpy
    split
    · exact hR.it hs (by omega)
    · exact hR.it ht hj
set_option maxHeartbeats 4000000 in
set_option maxRecDepth 100000 in
theorem c_copy {M : Mem} {σ : Sg} (hR : RC M σ) (hI : Iv σ) {x i y j v : Int32} : CS u_C_copy [.ref 0, .int x, .int i, .int y, .int j, .int v] M (rC (ans_copy σ x i y j v) (aft_copy σ x i y j v) M) := by
  obtain ⟨hn1, hn2, hn3⟩ := hI.n
  refine cs_introF (L := [some (.ref 0), some (.int x), some (.int i), some (.int y), some (.int j), some (.int v), none, none]) (by decide +kernel) (fun ad q h => h) (fun ad => Nat.le_of_ble_eq_true rfl) ?_
  refine cw_iload_n d_C_copy_0 rfl ?_
  refine cw_staticP (s_C_isSheet) rfl ml_C_91 rfl rfl d_C_copy_1 ?_
  refine cw_bif_eq 14 d_C_copy_4 (by decide) (fun c_4 => ?_) (fun c_4 => ?_)
  · refine cw_bipush (v := (-2)) d_C_copy_14 (by decide) ?_
    refine cw_iret rfl d_C_copy_16 ?_
    exact ⟨by simp [ans_copy, okCopy, c_4], by simp [aft_copy, okCopy, c_4]; exact hR, kC.rf⟩
  · obtain ⟨s, hhs, e_s⟩ := ixB_t c_4 (by omega)
    subst e_s
    refine cw_iload_n d_C_copy_7 rfl ?_
    refine cw_staticP (s_C_isSheet) rfl ml_C_91 rfl rfl d_C_copy_8 ?_
    refine cw_bif_ne 17 d_C_copy_11 (by decide) (fun c_11 => ?_) (fun c_11 => ?_)
    · obtain ⟨t, hht, e_t⟩ := ixB_t c_11 (by omega)
      subst e_t
      refine cw_aload_n d_C_copy_17 rfl ?_
      refine cw_getR fl_C_35 so_C rfl d_C_copy_18 ?_
      refine cw_iload_n d_C_copy_21 rfl ?_
      refine cw_aaldN (i := s) sr_5 rfl (by omega) (by decide) d_C_copy_22 ?_
      refine cw_astore d_C_copy_23 rfl ?_
      refine cw_aload_n d_C_copy_25 rfl ?_
      refine cw_getR fl_C_35 so_C rfl d_C_copy_26 ?_
      refine cw_iload_n d_C_copy_29 rfl ?_
      refine cw_aaldN (i := t) sr_5 rfl (by omega) (by decide) d_C_copy_30 ?_
      refine cw_astore d_C_copy_31 rfl ?_
      refine cw_aload d_C_copy_33 rfl ?_
      refine cw_virtP (s_Sh_isLost (s := s) (by omega)) rfl ml_C_94 (so_Sh (h := s) (by omega)) rfl rfl d_C_copy_35 ?_
      refine cw_top (y := b2 (lostB σ s)) (by rw [hR.fo (by omega)]; rfl) ?_
      refine cw_bif_ne 49 d_C_copy_38 (by decide) (fun c_38 => ?_) (fun c_38 => ?_)
      · refine cw_aload_n d_C_copy_49 rfl ?_
        refine cw_iconst (v := 1) d_C_copy_50 (by decide) ?_
        refine cw_virtI (s_C_found) rfl ml_C_98 so_C rfl rfl d_C_copy_51 (fun r_51 M_51 q_51 => ?_)
        obtain ⟨e_51, f_51⟩ := q_51
        subst e_51; subst f_51
        refine cw_iret rfl d_C_copy_54 ?_
        have hok : okCopy (nI s) (nI t) = true := by simp [okCopy, c_4, c_11]
        have hc : cpF σ s t i j v = 1 := by unfold cpF; rw [if_pos (by simp [c_38])]
        exact ⟨by unfold ans_copy; rw [if_pos hok, ix_nI (show s < 2 ^ 31 by omega), ix_nI (show t < 2 ^ 31 by omega), hc, if_neg (by decide)], by unfold aft_copy; rw [if_pos hok, ix_nI (show s < 2 ^ 31 by omega), ix_nI (show t < 2 ^ 31 by omega), hc, if_neg (by decide)]; exact found_RC hI hR, mS_kC (by omega)⟩
      · refine cw_aload d_C_copy_41 rfl ?_
        refine cw_virtP (s_Sh_isLost (s := t) (by omega)) rfl ml_C_94 (so_Sh (h := t) (by omega)) rfl rfl d_C_copy_43 ?_
        refine cw_top (y := b2 (lostB σ t)) (by rw [hR.fo (by omega)]; rfl) ?_
        refine cw_bif_eq 55 d_C_copy_46 (by decide) (fun c_46 => ?_) (fun c_46 => ?_)
        · refine cw_aload d_C_copy_55 rfl ?_
          refine cw_getI fl_C_303 (so_Sh (h := s) (by omega)) rfl d_C_copy_57 ?_
          refine cw_top (hR.fo (by omega)) ?_
          refine cw_aload d_C_copy_60 rfl ?_
          refine cw_getI fl_C_303 (so_Sh (h := t) (by omega)) rfl d_C_copy_62 ?_
          refine cw_top (hR.fo (by omega)) ?_
          refine cw_icmp_eq 74 d_C_copy_65 (by decide) (fun c_65 => ?_) (fun c_65 => ?_)
          · refine cw_aload d_C_copy_74 rfl ?_
            refine cw_iload_n d_C_copy_76 rfl ?_
            refine cw_iload d_C_copy_77 rfl ?_
            refine cw_virtP (s_Sh_hasRun (s := s) (by omega) (by rw [hR.si (by omega)]; exact (hI.2.2.2.2.2.2.2.2.2 s).2)) rfl ml_C_306 (so_Sh (h := s) (by omega)) rfl rfl d_C_copy_79 ?_
            refine cw_top (y := b2 (runB (σ.2 14 s 0) i v)) (by rw [hR.si (by omega)]) ?_
            refine cw_bif_eq 97 d_C_copy_82 (by decide) (fun c_82 => ?_) (fun c_82 => ?_)
            · refine cw_aload_n d_C_copy_97 rfl ?_
              refine cw_iconst (v := 2) d_C_copy_98 (by decide) ?_
              refine cw_virtI (s_C_found) rfl ml_C_98 so_C rfl rfl d_C_copy_99 (fun r_99 M_99 q_99 => ?_)
              obtain ⟨e_99, f_99⟩ := q_99
              subst e_99; subst f_99
              refine cw_iret rfl d_C_copy_102 ?_
              have hok : okCopy (nI s) (nI t) = true := by simp [okCopy, c_4, c_11]
              have hc : cpF σ s t i j v = 2 := by unfold cpF; rw [if_neg (by simp [c_38, c_46]), if_neg (Classical.not_not.mpr c_65), if_neg (by simp [c_82])]
              exact ⟨by unfold ans_copy; rw [if_pos hok, ix_nI (show s < 2 ^ 31 by omega), ix_nI (show t < 2 ^ 31 by omega), hc, if_neg (by decide)], by unfold aft_copy; rw [if_pos hok, ix_nI (show s < 2 ^ 31 by omega), ix_nI (show t < 2 ^ 31 by omega), hc, if_neg (by decide)]; exact found_RC hI hR, mS_kC (by omega)⟩
            · refine cw_aload d_C_copy_85 rfl ?_
              refine cw_iload d_C_copy_87 rfl ?_
              refine cw_iload d_C_copy_89 rfl ?_
              refine cw_virtP (s_Sh_hasRun (s := t) (by omega) (by rw [hR.si (by omega)]; exact (hI.2.2.2.2.2.2.2.2.2 t).2)) rfl ml_C_306 (so_Sh (h := t) (by omega)) rfl rfl d_C_copy_91 ?_
              refine cw_top (y := b2 (runB (σ.2 14 t 0) j v)) (by rw [hR.si (by omega)]) ?_
              refine cw_bif_ne 103 d_C_copy_94 (by decide) (fun c_94 => ?_) (fun c_94 => ?_)
              · obtain ⟨a, k, e_a, e_k, hak⟩ := runB_t c_82 (hI.2.2.2.2.2.2.2.2.2 s).2
                obtain ⟨b, k2, e_b, e_k2, hbk⟩ := runB_t c_94 (hI.2.2.2.2.2.2.2.2.2 t).2
                subst e_a; subst e_b; subst e_k
                have ekk : k = k2 := (nI_eq (by omega) (by omega)).mp e_k2
                subst ekk
                refine cw_aload d_C_copy_103 rfl ?_
                refine cw_getR fl_C_111 (so_Sh (h := s) (by omega)) rfl d_C_copy_105 ?_
                refine cw_iload_n d_C_copy_108 rfl ?_
                refine cw_aload d_C_copy_109 rfl ?_
                refine cw_getR fl_C_111 (so_Sh (h := t) (by omega)) rfl d_C_copy_111 ?_
                refine cw_iload d_C_copy_114 rfl ?_
                refine cw_iload d_C_copy_116 rfl ?_
                refine cw_copy (sp := a) (dp := b) (n := k) ml_C_179 (sa_it (h := s) (by omega)) (sa_it (h := t) (by omega)) rfl rfl rfl (by omega) (by omega) (by decide) rfl rfl d_C_copy_118 ?_
                refine cw_iconst (v := 1) d_C_copy_121 (by decide) ?_
                refine cw_iret rfl d_C_copy_122 ?_
                have hok : okCopy (nI s) (nI t) = true := by simp [okCopy, c_4, c_11]
                have hc : cpF σ s t (nI a) (nI b) (nI k) = 0 := by unfold cpF; rw [if_neg (by simp [c_38, c_46]), if_neg (Classical.not_not.mpr c_65), if_pos (by simp [c_82, c_94])]
                exact ⟨by unfold ans_copy; rw [if_pos hok, ix_nI (show s < 2 ^ 31 by omega), ix_nI (show t < 2 ^ 31 by omega), hc, if_pos rfl], by unfold aft_copy; rw [if_pos hok, ix_nI (show s < 2 ^ 31 by omega), ix_nI (show t < 2 ^ 31 by omega), hc, if_pos rfl, ix_nI (show a < 2 ^ 31 by omega), ix_nI (show b < 2 ^ 31 by omega), ix_nI (show k < 2 ^ 31 by omega)]; exact copy_RC hI hR (by omega) (by omega) hak hbk, fun z hz => ⟨by funext q; simp [mCpy, show ¬ z = 90 + t by omega], rfl⟩⟩
              · refine cw_aload_n d_C_copy_97 rfl ?_
                refine cw_iconst (v := 2) d_C_copy_98 (by decide) ?_
                refine cw_virtI (s_C_found) rfl ml_C_98 so_C rfl rfl d_C_copy_99 (fun r_99 M_99 q_99 => ?_)
                obtain ⟨e_99, f_99⟩ := q_99
                subst e_99; subst f_99
                refine cw_iret rfl d_C_copy_102 ?_
                have hok : okCopy (nI s) (nI t) = true := by simp [okCopy, c_4, c_11]
                have hc : cpF σ s t i j v = 2 := by unfold cpF; rw [if_neg (by simp [c_38, c_46]), if_neg (Classical.not_not.mpr c_65), if_neg (by simp [c_82, c_94])]
                exact ⟨by unfold ans_copy; rw [if_pos hok, ix_nI (show s < 2 ^ 31 by omega), ix_nI (show t < 2 ^ 31 by omega), hc, if_neg (by decide)], by unfold aft_copy; rw [if_pos hok, ix_nI (show s < 2 ^ 31 by omega), ix_nI (show t < 2 ^ 31 by omega), hc, if_neg (by decide)]; exact found_RC hI hR, mS_kC (by omega)⟩
          · refine cw_aload_n d_C_copy_68 rfl ?_
            refine cw_iconst (v := 4) d_C_copy_69 (by decide) ?_
            refine cw_virtI (s_C_found) rfl ml_C_98 so_C rfl rfl d_C_copy_70 (fun r_70 M_70 q_70 => ?_)
            obtain ⟨e_70, f_70⟩ := q_70
            subst e_70; subst f_70
            refine cw_iret rfl d_C_copy_73 ?_
            have hok : okCopy (nI s) (nI t) = true := by simp [okCopy, c_4, c_11]
            have hc : cpF σ s t i j v = 4 := by unfold cpF; rw [if_neg (by simp [c_38, c_46]), if_pos c_65]
            exact ⟨by unfold ans_copy; rw [if_pos hok, ix_nI (show s < 2 ^ 31 by omega), ix_nI (show t < 2 ^ 31 by omega), hc, if_neg (by decide)], by unfold aft_copy; rw [if_pos hok, ix_nI (show s < 2 ^ 31 by omega), ix_nI (show t < 2 ^ 31 by omega), hc, if_neg (by decide)]; exact found_RC hI hR, mS_kC (by omega)⟩
        · refine cw_aload_n d_C_copy_49 rfl ?_
          refine cw_iconst (v := 1) d_C_copy_50 (by decide) ?_
          refine cw_virtI (s_C_found) rfl ml_C_98 so_C rfl rfl d_C_copy_51 (fun r_51 M_51 q_51 => ?_)
          obtain ⟨e_51, f_51⟩ := q_51
          subst e_51; subst f_51
          refine cw_iret rfl d_C_copy_54 ?_
          have hok : okCopy (nI s) (nI t) = true := by simp [okCopy, c_4, c_11]
          have hc : cpF σ s t i j v = 1 := by unfold cpF; rw [if_pos (by simp [c_38, c_46])]
          exact ⟨by unfold ans_copy; rw [if_pos hok, ix_nI (show s < 2 ^ 31 by omega), ix_nI (show t < 2 ^ 31 by omega), hc, if_neg (by decide)], by unfold aft_copy; rw [if_pos hok, ix_nI (show s < 2 ^ 31 by omega), ix_nI (show t < 2 ^ 31 by omega), hc, if_neg (by decide)]; exact found_RC hI hR, mS_kC (by omega)⟩
    · refine cw_bipush (v := (-2)) d_C_copy_14 (by decide) ?_
      refine cw_iret rfl d_C_copy_16 ?_
      exact ⟨by simp [ans_copy, okCopy, c_4, c_11], by simp [aft_copy, okCopy, c_4, c_11]; exact hR, kC.rf⟩
set_option maxRecDepth 100000 in
theorem l_C_write {M : Mem} {σ : Sg} (hR : RC M σ) (hI : Iv σ) {d s : Nat} (hd : d < σ.1.2.1) (hs : s < 4)  : ∀ i, i ≤ min8 σ s → CW u_C_write (retI (fun r M2 => r = nI (min8 σ s) ∧ M2 = mRow M (90 + s) (min8 σ s) (fun p => cutS (σ.2 13 s 0) (σ.2 9 d p)))) 52 [some (.ref 0), some (.int (nI d)), some (.int (nI s)), some (.ref (80 + s)), some (.int (nI (min8 σ s))), some (.int (nI i))] [] (mRow M (90 + s) i (fun p => cutS (σ.2 13 s 0) (σ.2 9 d p))) := by
  obtain ⟨hn1, hn2, hn3⟩ := hI.n
  have hm8 : min8 σ s ≤ 8 := Nat.min_le_right _ _
  have hms : min8 σ s ≤ ix (σ.2 14 s 0) := Nat.min_le_left _ _
  obtain ⟨hz1, hz2⟩ := size_ok hI s
  refine up_ind (fun i hi ih => ?_)
  have e1 : ∀ k j, k ≠ 90 + s → mG (mRow M (90 + s) i (fun p => cutS (σ.2 13 s 0) (σ.2 9 d p))) k j = mG M k j := fun k j q => mRow_out q
  refine cw_iload d_C_write_52 rfl ?_
  refine cw_iload d_C_write_54 rfl ?_
  refine cw_icmp_geN (i) (min8 σ s) 83 rfl rfl (by omega) d_C_write_56 (by decide) (fun c_56 => ?_) (fun c_56 => ?_)
  · refine cw_iload d_C_write_83 rfl ?_
    refine cw_iret rfl d_C_write_85 ?_
    have ei : i = min8 σ s := by omega
    subst ei
    exact ⟨rfl, rfl⟩
  · refine cw_aload_n d_C_write_59 rfl ?_
    refine cw_iload d_C_write_60 rfl ?_
    refine cw_aload_n d_C_write_62 rfl ?_
    refine cw_getR fl_C_23 so_C rfl d_C_write_63 ?_
    refine cw_iload_n d_C_write_66 rfl ?_
    refine cw_aaldN (i := d) sr_3 rfl (by omega) (by decide) d_C_write_67 ?_
    refine cw_getR fl_C_185 (so_Sk (d := d) (by omega)) rfl d_C_write_68 ?_
    refine cw_iload d_C_write_71 rfl ?_
    refine cw_ialdN (i := i) (sa_li (d := d) (by omega)) rfl (by omega) (by decide) d_C_write_73 ?_
    refine cw_top ((e1 _ _ (by omega)).trans (hR.li hd (by omega))) ?_
    refine cw_virtV (s_Sh_put (s := s) (i := i) (v := σ.2 9 d i) hs (by omega) (by rw [e1 _ _ (by omega), hR.si hs, hz1]; exact nI_ge (by omega) (by omega))) rfl ml_C_299 (so_Sh (h := s) (by omega)) rfl rfl d_C_write_74 (fun M_74 q_74 => ?_)
    rw [e1 _ _ (by omega), hR.fo hs] at q_74
    subst q_74
    refine cw_iincN (x := i) d_C_write_77 rfl rfl ?_
    refine cw_goto 52 d_C_write_80 (by decide) ?_
    exact cw_cast (by simp only [lset1, kl]) rfl (mRow_s (f := (fun p => cutS (σ.2 13 s 0) (σ.2 9 d p)))) (ih c_56)
set_option maxRecDepth 100000 in
theorem c_write {M : Mem} {σ : Sg} (hR : RC M σ) (hI : Iv σ) {x y : Int32} : CS u_C_write [.ref 0, .int x, .int y] M (rC (ans_write σ x y) (aft_write σ x y) M) := by
  obtain ⟨hn1, hn2, hn3⟩ := hI.n
  refine cs_introF (L := [some (.ref 0), some (.int x), some (.int y), none, none, none]) (by decide +kernel) (fun ad q h => h) (fun ad => Nat.le_of_ble_eq_true rfl) ?_
  refine cw_aload_n d_C_write_0 rfl ?_
  refine cw_iload_n d_C_write_1 rfl ?_
  refine cw_virtP (s_C_isDrawing hR hI) rfl ml_C_176 so_C rfl rfl d_C_write_2 ?_
  refine cw_bif_eq 15 d_C_write_5 (by decide) (fun c_5 => ?_) (fun c_5 => ?_)
  · refine cw_bipush (v := (-2)) d_C_write_15 (by decide) ?_
    refine cw_iret rfl d_C_write_17 ?_
    exact ⟨by simp [ans_write, okWrite, c_5], by simp [aft_write, okWrite, c_5]; exact hR, kC.rf⟩
  · obtain ⟨d, hhd, e_d⟩ := ixB_t c_5 (by omega)
    subst e_d
    refine cw_iload_n d_C_write_8 rfl ?_
    refine cw_staticP (s_C_isSheet) rfl ml_C_91 rfl rfl d_C_write_9 ?_
    refine cw_bif_ne 18 d_C_write_12 (by decide) (fun c_12 => ?_) (fun c_12 => ?_)
    · obtain ⟨s, hhs, e_s⟩ := ixB_t c_12 (by omega)
      subst e_s
      refine cw_aload_n d_C_write_18 rfl ?_
      refine cw_getR fl_C_35 so_C rfl d_C_write_19 ?_
      refine cw_iload_n d_C_write_22 rfl ?_
      refine cw_aaldN (i := s) sr_5 rfl (by omega) (by decide) d_C_write_23 ?_
      refine cw_astore_n d_C_write_24 rfl ?_
      refine cw_aload_n d_C_write_25 rfl ?_
      refine cw_virtP (s_Sh_isLost (s := s) (by omega)) rfl ml_C_94 (so_Sh (h := s) (by omega)) rfl rfl d_C_write_26 ?_
      refine cw_top (y := b2 (lostB σ s)) (by rw [hR.fo (by omega)]; rfl) ?_
      refine cw_bif_eq 38 d_C_write_29 (by decide) (fun c_29 => ?_) (fun c_29 => ?_)
      · refine cw_aload_n d_C_write_38 rfl ?_
        refine cw_getI fl_C_102 (so_Sh (h := s) (by omega)) rfl d_C_write_39 ?_
        refine cw_bipush (v := 8) d_C_write_42 (by decide) ?_
        refine cw_staticP (s_J_min) rfl ml_C_105 rfl rfl d_C_write_44 ?_
        refine cw_top (y := nI (min8 σ s)) (by rw [hR.si (by omega)]; exact min8_ok hI s) ?_
        refine cw_istore d_C_write_47 rfl ?_
        refine cw_iconst (v := 0) d_C_write_49 (by decide) ?_
        refine cw_istore d_C_write_50 rfl ?_
        have hok : okWrite σ (nI d) (nI s) = true := by simp [okWrite, c_5, c_12]
        refine cw_post (fun v M2 hq => ?_) (cw_mem mRow_0.symm (l_C_write hR hI (d := d) (s := s) (by omega) (by omega) 0 (by omega)))
        obtain ⟨r, hv, hr, rfl⟩ := hq
        exact ⟨r, hv, by unfold ans_write; rw [if_pos hok, ix_nI (show s < 2 ^ 31 by omega), if_neg (Bool.eq_false_iff.mp c_29)]; exact hr, by unfold aft_write; rw [if_pos hok, ix_nI (show s < 2 ^ 31 by omega), ix_nI (show d < 2 ^ 31 by omega), if_neg (Bool.eq_false_iff.mp c_29)]; exact items_row ⟨hI.2.1, hI.2.2.1⟩ hR (by omega) (by have : min8 σ s ≤ 8 := Nat.min_le_right _ _; omega), mRow_kC (by omega)⟩
      · refine cw_aload_n d_C_write_32 rfl ?_
        refine cw_iconst (v := 1) d_C_write_33 (by decide) ?_
        refine cw_virtI (s_C_found) rfl ml_C_98 so_C rfl rfl d_C_write_34 (fun r_34 M_34 q_34 => ?_)
        obtain ⟨e_34, f_34⟩ := q_34
        subst e_34; subst f_34
        refine cw_iret rfl d_C_write_37 ?_
        have hok : okWrite σ (nI d) (nI s) = true := by simp [okWrite, c_5, c_12]
        exact ⟨by unfold ans_write; rw [if_pos hok, ix_nI (show s < 2 ^ 31 by omega), if_pos c_29], by unfold aft_write; rw [if_pos hok, ix_nI (show s < 2 ^ 31 by omega), if_pos c_29]; exact found_RC hI hR, mS_kC (by omega)⟩
    · refine cw_bipush (v := (-2)) d_C_write_15 (by decide) ?_
      refine cw_iret rfl d_C_write_17 ?_
      exact ⟨by simp [ans_write, okWrite, c_5, c_12], by simp [aft_write, okWrite, c_5, c_12]; exact hR, kC.rf⟩
set_option maxRecDepth 100000 in
theorem l_C_read {M : Mem} {σ : Sg} (hR : RC M σ) (hI : Iv σ) {h s : Nat} (hh : h < 8) (hs : s < 4) {m : Nat} (hm : m ≤ 8)  : ∀ (n i : Nat), i + n = m → CW u_C_read (retI (fun r M2 => r = nI (rdN (σ.2 15 s) n i) ∧ M2 = mRow M (20 + h) (rdN (σ.2 15 s) n i) (σ.2 15 s))) 63 [some (.ref 0), some (.int (nI s)), some (.int (nI h)), some (.ref (80 + s)), some (.ref (20 + h)), some (.int (nI m)), some (.int (nI i))] [] (mRow M (20 + h) i (σ.2 15 s)) := by
  obtain ⟨hn1, hn2, hn3⟩ := hI.n
  intro n
  induction n with
  | zero =>
    intro i hi
    refine cw_iload d_C_read_63 rfl ?_
    refine cw_iload d_C_read_65 rfl ?_
    refine cw_icmp_geN (i) (m) 104 rfl rfl (by omega) d_C_read_67 (by decide) (fun c_67 => ?_) (fun c_67 => ?_)
    · refine cw_iload d_C_read_104 rfl ?_
      refine cw_iret rfl d_C_read_106 ?_
      have ei : i = m := by omega
      subst ei
      exact ⟨rfl, rfl⟩
    · exact absurd c_67 (by omega)
  | succ n ih =>
    intro i hi
    refine cw_iload d_C_read_63 rfl ?_
    refine cw_iload d_C_read_65 rfl ?_
    refine cw_icmp_geN (i) (m) 104 rfl rfl (by omega) d_C_read_67 (by decide) (fun c_67 => ?_) (fun c_67 => ?_)
    · exact absurd c_67 (by omega)
    · refine cw_aload_n d_C_read_70 rfl ?_
      refine cw_getR fl_C_111 (so_Sh (h := s) (by omega)) rfl d_C_read_71 ?_
      refine cw_iload d_C_read_74 rfl ?_
      refine cw_ialdN (i := i) (sa_it (h := s) (by omega)) rfl (by omega) (by decide) d_C_read_76 ?_
      refine cw_top ((mRow_out (by omega)).trans (hR.it hs (by omega))) ?_
      refine cw_staticP (s_C_isPlace) rfl ml_C_85 rfl rfl d_C_read_77 ?_
      refine cw_bif_ne 86 d_C_read_80 (by decide) (fun c_80 => ?_) (fun c_80 => ?_)
      · have hs2 : rdN (σ.2 15 s) (n + 1) i = rdN (σ.2 15 s) n (i + 1) := if_pos c_80
        rw [hs2]
        refine cw_aload d_C_read_86 rfl ?_
        refine cw_iload d_C_read_88 rfl ?_
        refine cw_aload_n d_C_read_90 rfl ?_
        refine cw_getR fl_C_111 (so_Sh (h := s) (by omega)) rfl d_C_read_91 ?_
        refine cw_iload d_C_read_94 rfl ?_
        refine cw_ialdN (i := i) (sa_it (h := s) (by omega)) rfl (by omega) (by decide) d_C_read_96 ?_
        refine cw_top ((mRow_out (by omega)).trans (hR.it hs (by omega))) ?_
        refine cw_iastN (i := i) (sa_pl (h := h) (by omega)) rfl (by omega) (by decide) d_C_read_97 ?_
        refine cw_iincN (x := i) d_C_read_98 rfl rfl ?_
        refine cw_goto 63 d_C_read_101 (by decide) ?_
        exact cw_cast (by simp only [lset1, kl]) rfl (mRow_s (f := (σ.2 15 s))) (ih (i + 1) (by omega))
      · have hs2 : rdN (σ.2 15 s) (n + 1) i = i := if_neg (Bool.eq_false_iff.mp c_80)
        rw [hs2]
        refine cw_iload d_C_read_83 rfl ?_
        refine cw_iret rfl d_C_read_85 ?_
        exact ⟨rfl, rfl⟩
theorem rdN_le (f : Nat → Int32) : ∀ n i, rdN f n i ≤ i + n
  | 0, i => Nat.le_refl _
  | n + 1, i => by
    simp only [rdN]
    split
    · have := rdN_le f n (i + 1); omega
    · omega
set_option maxRecDepth 100000 in
theorem c_read {M : Mem} {σ : Sg} (hR : RC M σ) (hI : Iv σ) {x y : Int32} : CS u_C_read [.ref 0, .int x, .int y] M (rC (ans_read σ x y) (aft_read σ x y) M) := by
  obtain ⟨hn1, hn2, hn3⟩ := hI.n
  refine cs_introF (L := [some (.ref 0), some (.int x), some (.int y), none, none, none, none]) (by decide +kernel) (fun ad q h => h) (fun ad => Nat.le_of_ble_eq_true rfl) ?_
  refine cw_iload_n d_C_read_0 rfl ?_
  refine cw_staticP (s_C_isSheet) rfl ml_C_91 rfl rfl d_C_read_1 ?_
  refine cw_bif_eq 15 d_C_read_4 (by decide) (fun c_4 => ?_) (fun c_4 => ?_)
  · refine cw_bipush (v := (-2)) d_C_read_15 (by decide) ?_
    refine cw_iret rfl d_C_read_17 ?_
    exact ⟨by simp [ans_read, okRead, c_4], by simp [aft_read, okRead, c_4]; exact hR, kC.rf⟩
  · obtain ⟨s, hhs, e_s⟩ := ixB_t c_4 (by omega)
    subst e_s
    refine cw_aload_n d_C_read_7 rfl ?_
    refine cw_iload_n d_C_read_8 rfl ?_
    refine cw_virtP (s_C_isHead hR hI) rfl ml_C_78 so_C rfl rfl d_C_read_9 ?_
    refine cw_bif_ne 18 d_C_read_12 (by decide) (fun c_12 => ?_) (fun c_12 => ?_)
    · obtain ⟨h, hhh, e_h⟩ := ixB_t c_12 (by omega)
      subst e_h
      refine cw_aload_n d_C_read_18 rfl ?_
      refine cw_getR fl_C_35 so_C rfl d_C_read_19 ?_
      refine cw_iload_n d_C_read_22 rfl ?_
      refine cw_aaldN (i := s) sr_5 rfl (by omega) (by decide) d_C_read_23 ?_
      refine cw_astore_n d_C_read_24 rfl ?_
      refine cw_aload_n d_C_read_25 rfl ?_
      refine cw_virtP (s_Sh_isLost (s := s) (by omega)) rfl ml_C_94 (so_Sh (h := s) (by omega)) rfl rfl d_C_read_26 ?_
      refine cw_top (y := b2 (lostB σ s)) (by rw [hR.fo (by omega)]; rfl) ?_
      refine cw_bif_eq 38 d_C_read_29 (by decide) (fun c_29 => ?_) (fun c_29 => ?_)
      · refine cw_aload_n d_C_read_38 rfl ?_
        refine cw_getR fl_C_11 so_C rfl d_C_read_39 ?_
        refine cw_iload_n d_C_read_42 rfl ?_
        refine cw_aaldN (i := h) sr_1 rfl (by omega) (by decide) d_C_read_43 ?_
        refine cw_getR fl_C_88 (so_He (h := h) (by omega)) rfl d_C_read_44 ?_
        refine cw_astore d_C_read_47 rfl ?_
        refine cw_aload_n d_C_read_49 rfl ?_
        refine cw_getI fl_C_102 (so_Sh (h := s) (by omega)) rfl d_C_read_50 ?_
        refine cw_bipush (v := 8) d_C_read_53 (by decide) ?_
        refine cw_staticP (s_J_min) rfl ml_C_105 rfl rfl d_C_read_55 ?_
        refine cw_top (y := nI (min8 σ s)) (by rw [hR.si (by omega)]; exact min8_ok hI s) ?_
        refine cw_istore d_C_read_58 rfl ?_
        refine cw_iconst (v := 0) d_C_read_60 (by decide) ?_
        refine cw_istore d_C_read_61 rfl ?_
        have hok : okRead σ (nI s) (nI h) = true := by simp [okRead, c_4, c_12]
        have hm8 : min8 σ s ≤ 8 := Nat.min_le_right _ _
        have hle := rdN_le (σ.2 15 s) (min8 σ s) 0
        refine cw_post (fun v M2 hq => ?_) (cw_mem mRow_0.symm (l_C_read hR hI (h := h) (s := s) (m := min8 σ s) (by omega) (by omega) hm8 (min8 σ s) 0 (by omega)))
        obtain ⟨r, hv, hr, rfl⟩ := hq
        exact ⟨r, hv, by unfold ans_read; rw [if_pos hok, ix_nI (show s < 2 ^ 31 by omega), if_neg (Bool.eq_false_iff.mp c_29)]; exact hr, by unfold aft_read; rw [if_pos hok, ix_nI (show s < 2 ^ 31 by omega), ix_nI (show h < 2 ^ 31 by omega), if_neg (Bool.eq_false_iff.mp c_29)]; exact places_row ⟨hI.2.1, hI.2.2.1⟩ hR (by omega) (by omega), mRow_kC (by omega)⟩
      · refine cw_aload_n d_C_read_32 rfl ?_
        refine cw_iconst (v := 1) d_C_read_33 (by decide) ?_
        refine cw_virtI (s_C_found) rfl ml_C_98 so_C rfl rfl d_C_read_34 (fun r_34 M_34 q_34 => ?_)
        obtain ⟨e_34, f_34⟩ := q_34
        subst e_34; subst f_34
        refine cw_iret rfl d_C_read_37 ?_
        have hok : okRead σ (nI s) (nI h) = true := by simp [okRead, c_4, c_12]
        exact ⟨by unfold ans_read; rw [if_pos hok, ix_nI (show s < 2 ^ 31 by omega), if_pos c_29], by unfold aft_read; rw [if_pos hok, ix_nI (show s < 2 ^ 31 by omega), if_pos c_29]; exact found_RC hI hR, mS_kC (by omega)⟩
    · refine cw_bipush (v := (-2)) d_C_read_15 (by decide) ?_
      refine cw_iret rfl d_C_read_17 ?_
      exact ⟨by simp [ans_read, okRead, c_4, c_12], by simp [aft_read, okRead, c_4, c_12]; exact hR, kC.rf⟩
