/-! ===== the reference: what is seen, scores, names ===== -/
def rsA (ln mn pl : Nat → Int32) (p : Nat) : Int64 := if ln p = LO then 0 else ((ln p).toInt64 - (mn p).toInt64) * ((pl p).toInt64 - (mn p).toInt64)
def rsB (ln mn pl : Nat → Int32) (p : Nat) : Int64 := if ln p = LO then 0 else ((pl p).toInt64 - (mn p).toInt64) * ((pl p).toInt64 - (mn p).toInt64)
def rsX (ln mn pl : Nat → Int32) : Int64 := if sumUpJ (rsA ln mn pl) 8 < 0 ∨ sumUpJ (rsB ln mn pl) 8 = 0 then 0 else sumUpJ (rsA ln mn pl) 8 * sumUpJ (rsA ln mn pl) 8
def rsY (ln mn pl : Nat → Int32) : Int64 := if sumUpJ (rsB ln mn pl) 8 = 0 then 1 else sumUpJ (rsB ln mn pl) 8
def scB (ln mn pl : Nat → Int32) : Prop := ∀ p, p < 8 → (ln p = LO ∨ rD (ln p) (-7000) 7000) ∧ rD (mn p) (-7000) 7000 ∧ rD (pl p) 0 99
theorem sub64 {a b : Int32} (ha : rD a (-7000) 7000) (hb : rD b (-7000) 7000) : (a - b).toInt64 = a.toInt64 - b.toInt64 ∧ (a.toInt64 - b.toInt64).toInt = a.toInt - b.toInt := by
  obtain ⟨a1, a2⟩ := ha
  obtain ⟨b1, b2⟩ := hb
  have e2 : (a.toInt64 - b.toInt64).toInt = a.toInt - b.toInt := by rw [Int64.toInt_sub, Int32.toInt_toInt64, Int32.toInt_toInt64, bm64 (by omega) (by omega)]
  refine ⟨Int64.toInt_inj.mp ?_, e2⟩
  rw [e2, Int32.toInt_toInt64, Int32.toInt_sub, Int.bmod_eq_of_le (by omega) (by omega)]
theorem mulB {x y : Int} {X Y : Nat} (hx : x.natAbs ≤ X) (hy : y.natAbs ≤ Y) : (x * y).natAbs ≤ X * Y := by
  rw [Int.natAbs_mul]
  exact Nat.mul_le_mul hx hy
theorem rs_at {ln mn pl : Nat → Int32} (h : scB ln mn pl) {p : Nat} (hp : p < 8) : rsA ln mn pl p = wgA ln mn pl p ∧ rsB ln mn pl p = wgB ln mn pl p ∧ (wgA ln mn pl p).toInt.natAbs ≤ 100000000 ∧ 0 ≤ (wgB ln mn pl p).toInt ∧ (wgB ln mn pl p).toInt.natAbs ≤ 60000000 := by
  obtain ⟨h1, h2, h3⟩ := h p hp
  unfold rsA rsB wgA wgB
  by_cases q : ln p = LO
  · simp only [if_pos q]
    exact ⟨trivial, trivial, by decide, by decide, by decide⟩
  · simp only [if_neg q]
    obtain ⟨a1, a2⟩ := sub64 (h1.resolve_left q) h2
    obtain ⟨b1, b2⟩ := sub64 (a := pl p) (b := mn p) ⟨by have := h3.1; omega, by have := h3.2; omega⟩ h2
    rw [a1, b1]
    have h4 := h1.resolve_left q
    unfold rD at h2 h3 h4
    have m1 : (((ln p).toInt - (mn p).toInt) * ((pl p).toInt - (mn p).toInt)).natAbs ≤ 14000 * 7099 := mulB (by omega) (by omega)
    have m2 : (((pl p).toInt - (mn p).toInt) * ((pl p).toInt - (mn p).toInt)).natAbs ≤ 7099 * 7099 := mulB (by omega) (by omega)
    have m3 := Int.natAbs_mul_self (a := (pl p).toInt - (mn p).toInt)
    have e1 : (((pl p).toInt64 - (mn p).toInt64) * ((ln p).toInt64 - (mn p).toInt64)).toInt = ((ln p).toInt - (mn p).toInt) * ((pl p).toInt - (mn p).toInt) := by
      rw [Int64.mul_comm, Int64.toInt_mul, a2, b2, bm64 (by omega) (by omega)]
    have e2 : (((pl p).toInt64 - (mn p).toInt64) * ((pl p).toInt64 - (mn p).toInt64)).toInt = ((pl p).toInt - (mn p).toInt) * ((pl p).toInt - (mn p).toInt) := by
      rw [Int64.toInt_mul, b2, bm64 (by omega) (by omega)]
    refine ⟨Int64.mul_comm _ _, rfl, ?_, ?_, ?_⟩
    · rw [e1]; omega
    · rw [e2, ← m3]; omega
    · rw [e2]; omega
theorem sumJ_b {f : Nat → Int64} {n : Nat} (hn : n ≤ 8) (h : ∀ i, i < n → (f i).toInt.natAbs ≤ 100000000) : (sumUpJ f n).toInt.natAbs ≤ n * 100000000 := by
  induction n with
  | zero => exact Nat.le_refl 0
  | succ n ih =>
    have h1 := ih (by omega) (fun i hi => h i (by omega))
    have h2 := h n (by omega)
    simp only [sumUpJ]
    rw [Int64.toInt_add, bm64 (by omega) (by omega)]
    omega
theorem sumJ_p {f : Nat → Int64} {n : Nat} (hn : n ≤ 8) (h : ∀ i, i < n → 0 ≤ (f i).toInt ∧ (f i).toInt.natAbs ≤ 60000000) : 0 ≤ (sumUpJ f n).toInt ∧ (sumUpJ f n).toInt ≤ n * 60000000 := by
  induction n with
  | zero => exact ⟨Int.le_refl 0, Int.le_refl 0⟩
  | succ n ih =>
    have h1 := ih (by omega) (fun i hi => h i (by omega))
    have h2 := h n (by omega)
    simp only [sumUpJ]
    rw [Int64.toInt_add, bm64 (by omega) (by omega)]
    omega
theorem sc_ok {ln mn pl : Nat → Int32} (h : scB ln mn pl) : ∃ a b c : Nat, wgX ln mn pl = nL a ∧ wgY ln mn pl = nL b ∧ rsX ln mn pl = nL a ∧ rsY ln mn pl = nL c ∧ 0 < b ∧ b < 2 ^ 30 ∧ 0 < c ∧ c < 2 ^ 30 ∧ a < 2 ^ 60 ∧ (a = 0 ∨ b = c) := by
  have eA : sumUpJ (rsA ln mn pl) 8 = sumUpJ (wgA ln mn pl) 8 := sumUpJ_congr (fun p hp => (rs_at h hp).1)
  have eB : sumUpJ (rsB ln mn pl) 8 = sumUpJ (wgB ln mn pl) 8 := sumUpJ_congr (fun p hp => (rs_at h hp).2.1)
  have bA := sumJ_b (f := wgA ln mn pl) (n := 8) (by decide) (fun p hp => (rs_at h hp).2.2.1)
  have bB := sumJ_p (f := wgB ln mn pl) (n := 8) (by decide) (fun p hp => (rs_at h hp).2.2.2)
  unfold wgX wgY rsX rsY
  rw [eA, eB]
  generalize sumUpJ (wgA ln mn pl) 8 = A at *
  generalize sumUpJ (wgB ln mn pl) 8 = D at *
  have m1 : (A.toInt * A.toInt).natAbs ≤ 800000000 * 800000000 := mulB (by omega) (by omega)
  have m2 := Int.natAbs_mul_self (a := A.toInt)
  have eD : D = nL D.toInt.toNat := nL_of (by omega)
  by_cases q2 : D = 0
  · refine ⟨0, 1, 1, ?_, ?_, ?_, ?_, by decide, by decide, by decide, by decide, by decide, Or.inl rfl⟩
    · rw [if_pos (Or.inr q2)]; rfl
    · rw [if_pos (Or.inr q2)]; rfl
    · rw [if_pos (Or.inr q2)]; rfl
    · rw [if_pos q2]; rfl
  · have hD : ¬ D.toInt = 0 := fun z => q2 (Int64.toInt_inj.mp z)
    by_cases q1 : A < 0
    · refine ⟨0, 1, D.toInt.toNat, ?_, ?_, ?_, ?_, by decide, by decide, by omega, by omega, by decide, Or.inl rfl⟩
      · rw [if_pos (Or.inl q1)]; rfl
      · rw [if_pos (Or.inl q1)]; rfl
      · rw [if_pos (Or.inl q1)]; rfl
      · rw [if_neg q2]; exact eD
    · have eX : A * A = nL (A.toInt.natAbs * A.toInt.natAbs) := nL_of (by rw [Int64.toInt_mul, bm64 (by omega) (by omega), ← m2])
      refine ⟨A.toInt.natAbs * A.toInt.natAbs, D.toInt.toNat, D.toInt.toNat, ?_, ?_, ?_, ?_, by omega, by omega, by omega, by omega, by omega, Or.inr rfl⟩
      · rw [if_neg (fun z => z.elim q1 q2)]; exact eX
      · rw [if_neg (fun z => z.elim q1 q2)]; exact eD
      · rw [if_neg (fun z => z.elim q1 q2)]; exact eX
      · rw [if_neg q2]; exact eD
theorem fr_sm {x y : Nat} {B : Nat} (hy : 0 < y) (hB : x < B * y) : x / y < B := (Nat.div_lt_iff_lt_mul hy).mpr hB
theorem abv_mr {a b c d : Nat} (hb0 : 0 < b) (hd0 : 0 < d) (hb : b < 2 ^ 30) (hd : d < 2 ^ 30) (ha : a < 2 ^ 60) (hc : c < 2 ^ 60) : abvB (nL a) (nL b) (nL c) (nL d) = mrB false a b c d := by
  have hbz : ¬ nL b = 0 := fun z => by have := (nL_0 (by omega)).mp z; omega
  have hdz : ¬ nL d = 0 := fun z => by have := (nL_0 (by omega)).mp z; omega
  have d1 : a / b ≤ a := Nat.div_le_self a b
  have d2 : c / d ≤ c := Nat.div_le_self c d
  have m1 := Nat.mod_lt a hb0
  have m2 := Nat.mod_lt c hd0
  have e1 : cutJ (nL a) (nL b) = nL (a / b) := (if_neg hbz).trans (nL_div (by omega) (by omega))
  have e2 : cutJ (nL c) (nL d) = nL (c / d) := (if_neg hdz).trans (nL_div (by omega) (by omega))
  have r1 : nL a - nL (a / b) * nL b = nL (a % b) := by rw [← nL_div (by omega) (by omega)]; exact nL_rem (by omega) (by omega)
  have r2 : nL c - nL (c / d) * nL d = nL (c % d) := by rw [← nL_div (by omega) (by omega)]; exact nL_rem (by omega) (by omega)
  have p1 : a % b * d < 2 ^ 60 := Nat.lt_of_lt_of_le (Nat.mul_lt_mul_of_lt_of_lt (show a % b < 2 ^ 30 by omega) hd) (by decide)
  have p2 : c % d * b < 2 ^ 60 := Nat.lt_of_lt_of_le (Nat.mul_lt_mul_of_lt_of_lt (show c % d < 2 ^ 30 by omega) hb) (by decide)
  unfold abvB
  rw [e1, e2, r1, r2, nL_mul (by omega) (by omega) (by omega), nL_mul (by omega) (by omega) (by omega)]
  by_cases q : a / b = c / d
  · rw [if_pos (congrArg nL q), mr_eq q]
    exact decide_eq_decide.mpr (nL_lt (by omega) (by omega))
  · rw [if_neg (fun z => q ((nL_eq (by omega) (by omega)).mp z)), mr_ne hb0 hd0 q, Bool.bne_false]
    exact decide_eq_decide.mpr (nL_lt (by omega) (by omega))
theorem mr_rep {a b b' c d d' : Nat} (hb : 0 < b) (hb' : 0 < b') (hd : 0 < d) (hd' : 0 < d') (h1 : a = 0 ∨ b = b') (h2 : c = 0 ∨ d = d') : mrB false a b' c d' = mrB false a b c d := by
  rcases h1 with rfl | rfl
  · simp [mrB]
  · rcases h2 with rfl | rfl
    · simp [mrB, Nat.mul_pos_iff_of_pos_right hd, Nat.mul_pos_iff_of_pos_right hd']
    · rfl
def kj (M M2 : Mem) : Prop := M2.1 = M.1 ∧ ∀ k, k ≠ 1000 → M2.2 k = M.2 k
theorem kj.kq {M M2 : Mem} (h : kj M M2) : kq M M2 := ⟨fun k j _ => by unfold mG; rw [h.1], h.2⟩
theorem kj.g {M M2 : Mem} (h : kj M M2) (k j : Nat) : mG M2 k j = mG M k j := by unfold mG; rw [h.1]
theorem kj.rf {M : Mem} : kj M M := ⟨rfl, fun _ _ => rfl⟩
theorem kj.tr {M1 M2 M3 : Mem} (h1 : kj M1 M2) (h2 : kj M2 M3) : kj M1 M3 := ⟨h2.1.trans h1.1, fun k h => (h2.2 k h).trans (h1.2 k h)⟩
def SN (M : Mem) (ln : Nat → Int32) (mo : Bool) : Prop := (∀ p, p < 8 → mG M 1023 p = ln p) ∧ mG M 1000 23 = b2 mo
theorem SN.kj {M M2 : Mem} {ln : Nat → Int32} {mo : Bool} (h : SN M ln mo) (k : kj M M2) : SN M2 ln mo := ⟨fun p hp => (k.g _ _).trans (h.1 p hp), (k.g _ _).trans h.2⟩
theorem sn_s {M : Mem} {f : Nat → Int32} {k i : Nat} (h : ∀ p, p < i → mG M k p = f p) (p : Nat) (hp : p < i + 1) : mG (mS M k i (f i)) k p = f p := by
  by_cases q : p = i
  · subst q; exact mS_at
  · exact (mS_j q).trans (h p (by omega))
theorem sc_seen : ∀ j, scM 1023 j := fun j => by unfold scM; omega
theorem sc_mon : scM 1000 23 := by unfold scM; omega
set_option maxRecDepth 100000 in
theorem s_M_doesKnow {M : Mem} {σ : Sg} (hR : RM M σ) (hI : Iv σ) {k h : Nat} (hk : k < σ.1.2.2) (hh : h < 8)  : CS u_M_doesKnow [.ref 1000, .int (nI k), .int (nI h)] M (pI (b2 (bit (σ.2 11 k 0) h)) M) := by
  obtain ⟨hn1, hn2, hn3⟩ := hI.n
  refine cs_introF (L := [some (.ref 1000), some (.int (nI k)), some (.int (nI h))]) (by decide +kernel) (fun ad q h => h) (fun ad => Nat.le_of_ble_eq_true rfl) ?_
  refine cw_aload_n d_M_doesKnow_0 rfl ?_
  refine cw_getR fl_M_55 so_M rfl d_M_doesKnow_1 ?_
  refine cw_iload_n d_M_doesKnow_4 rfl ?_
  refine cw_ialdN (i := k) sm_knows rfl (by omega) (by decide) d_M_doesKnow_5 ?_
  refine cw_top (hR.kk hk) ?_
  refine cw_iload_n d_M_doesKnow_6 rfl ?_
  refine cw_ishr d_M_doesKnow_7 ?_
  refine cw_iconst (v := 1) d_M_doesKnow_8 (by decide) ?_
  refine cw_iand d_M_doesKnow_9 ?_
  refine cw_iconst (v := 1) d_M_doesKnow_10 (by decide) ?_
  refine cw_icmp_ne 18 d_M_doesKnow_11 (by decide) (fun c_11 => ?_) (fun c_11 => ?_)
  · refine cw_iconst (v := 0) d_M_doesKnow_18 (by decide) ?_
    refine cw_zret rfl d_M_doesKnow_19 (by first | exact Or.inl rfl | exact Or.inr rfl | exact b2_01 _) ?_
    exact ⟨b2_0 (decide_eq_false c_11), rfl⟩
  · refine cw_iconst (v := 1) d_M_doesKnow_14 (by decide) ?_
    refine cw_goto 19 d_M_doesKnow_15 (by decide) ?_
    refine cw_zret rfl d_M_doesKnow_19 (by first | exact Or.inl rfl | exact Or.inr rfl | exact b2_01 _) ?_
    exact ⟨b2_1 (decide_eq_true c_11), rfl⟩
set_option maxRecDepth 100000 in
theorem l_M_sees_I {M : Mem} {σ : Sg} (hR : RM M σ) (hI : Iv σ) {d : Nat} (hd : d < σ.1.2.1)  : ∀ i, i ≤ 8 → CW u_M_sees_I (retV (fun M2 => kq M M2 ∧ SN M2 (σ.2 9 d) (offB (σ.2 4 0 0) (σ.2 9 d) (σ.2 10 d)))) 2 [some (.ref 1000), some (.int (nI d)), some (.int (nI i))] [] (mRow M 1023 i (σ.2 9 d)) := by
  obtain ⟨hn1, hn2, hn3⟩ := hI.n
  refine up_ind (fun i hi ih => ?_)
  refine cw_iload_n d_M_sees_I_2 rfl ?_
  refine cw_bipush (v := 8) d_M_sees_I_3 (by decide) ?_
  refine cw_icmp_geN (i) (8) 31 rfl rfl (by omega) d_M_sees_I_5 (by decide) (fun c_5 => ?_) (fun c_5 => ?_)
  · refine cw_aload_n d_M_sees_I_31 rfl ?_
    refine cw_aload_n d_M_sees_I_32 rfl ?_
    refine cw_iload_n d_M_sees_I_33 rfl ?_
    refine cw_virtP (s_M_isMonster (RM_kq hR (mRow_kq sc_seen)) hI hd) rfl ml_M_178 so_M rfl rfl d_M_sees_I_34 ?_
    refine cw_putZ fp_M_196 so_M rfl (by first | exact Or.inl rfl | exact Or.inr rfl | exact b2_01 _) d_M_sees_I_37 ?_
    refine cw_vret rfl d_M_sees_I_40 ?_
    have ei : i = 8 := by omega
    subst ei
    exact ⟨(mRow_kq sc_seen).tr (mS_kq sc_mon), fun p hp => (mS_k (by omega)).trans (mRow_in hp), mS_at⟩
  · refine cw_aload_n d_M_sees_I_8 rfl ?_
    refine cw_getR fl_M_61 so_M rfl d_M_sees_I_9 ?_
    refine cw_iload_n d_M_sees_I_12 rfl ?_
    refine cw_aload_n d_M_sees_I_13 rfl ?_
    refine cw_getR fl_M_49 so_M rfl d_M_sees_I_14 ?_
    refine cw_bipush (v := 8) d_M_sees_I_17 (by decide) ?_
    refine cw_iload_n d_M_sees_I_19 rfl ?_
    refine cw_imul d_M_sees_I_20 ?_
    refine cw_iload_n d_M_sees_I_21 rfl ?_
    refine cw_iadd d_M_sees_I_22 ?_
    refine cw_ialdN (i := (8 * d) + i) sm_lines (nAdd (nMul rfl rfl) rfl) (by omega) (by decide) d_M_sees_I_23 ?_
    refine cw_top ((mRow_out (by omega)).trans (hR.li hd (by omega))) ?_
    refine cw_iastN (i := i) sm_seen rfl (by omega) (by decide) d_M_sees_I_24 ?_
    refine cw_iincN (x := i) d_M_sees_I_25 rfl rfl ?_
    refine cw_goto 2 d_M_sees_I_28 (by decide) ?_
    exact cw_mem (mRow_s (f := σ.2 9 d)) (ih c_5)
set_option maxRecDepth 100000 in
theorem s_M_sees_I {M : Mem} {σ : Sg} (hR : RM M σ) (hI : Iv σ) {d : Nat} (hd : d < σ.1.2.1)  : CS u_M_sees_I [.ref 1000, .int (nI d)] M (retV (fun M2 => kq M M2 ∧ SN M2 (σ.2 9 d) (offB (σ.2 4 0 0) (σ.2 9 d) (σ.2 10 d)))) := by
  refine cs_introF (L := [some (.ref 1000), some (.int (nI d)), none]) (by decide +kernel) (fun ad q h => h) (fun ad => Nat.le_of_ble_eq_true rfl) ?_
  refine cw_iconst (v := 0) d_M_sees_I_0 (by decide) ?_
  refine cw_istore_n d_M_sees_I_1 rfl ?_
  exact cw_mem mRow_0.symm (l_M_sees_I hR hI hd 0 (by omega))
set_option maxRecDepth 100000 in
theorem l_M_sees_IIII {M : Mem} {σ : Sg} (hR : RM M σ) (hI : Iv σ) {h : Nat} {s t bits : Int32} (hh : h < σ.1.1) (hs : setB s σ.1.1 = true)  : ∀ i, i ≤ 8 → ∀ (M' : Mem) (o6 : Option Value), RM M' σ → kq M M' → (∀ p, p < i → mG M' 1023 p = (tryS σ h s bits t) p) → mG M' 1000 23 = b2 (anyUp (offP (σ.2 4 0 0) (tryS σ h s bits t) (meanS σ s)) i) → CW u_M_sees_IIII (retV (fun M2 => kq M M2 ∧ SN M2 (tryS σ h s bits t) (offB (σ.2 4 0 0) (tryS σ h s bits t) (meanS σ s)))) 8 [some (.ref 1000), some (.int (nI h)), some (.int s), some (.int t), some (.int bits), some (.int (nI i)), o6] [] M' := by
  obtain ⟨hn1, hn2, hn3⟩ := hI.n
  refine up_ind (fun i hi ih M' o6 hR' hk hs1 hs2 => ?_)
  refine cw_iload d_M_sees_IIII_8 rfl ?_
  refine cw_bipush (v := 8) d_M_sees_IIII_10 (by decide) ?_
  refine cw_icmp_geN (i) (8) 123 rfl rfl (by omega) d_M_sees_IIII_12 (by decide) (fun c_12 => ?_) (fun c_12 => ?_)
  · refine cw_vret rfl d_M_sees_IIII_123 ?_
    have ei : i = 8 := by omega
    subst ei
    exact ⟨hk, hs1, hs2⟩
  · refine cw_aload_n d_M_sees_IIII_15 rfl ?_
    refine cw_iload_n d_M_sees_IIII_16 rfl ?_
    refine cw_iload d_M_sees_IIII_17 rfl ?_
    refine cw_virtP (s_M_meanOf hR' hI (s := s) (p := i) (by omega) hs) rfl ml_M_117 so_M rfl rfl d_M_sees_IIII_19 ?_
    refine cw_istore d_M_sees_IIII_22 rfl ?_
    refine cw_aload_n d_M_sees_IIII_24 rfl ?_
    refine cw_getR fl_M_61 so_M rfl d_M_sees_IIII_25 ?_
    refine cw_iload d_M_sees_IIII_28 rfl ?_
    refine cw_iload d_M_sees_IIII_30 rfl ?_
    refine cw_iload d_M_sees_IIII_32 rfl ?_
    refine cw_ishr d_M_sees_IIII_34 ?_
    refine cw_iconst (v := 1) d_M_sees_IIII_35 (by decide) ?_
    refine cw_iand d_M_sees_IIII_36 ?_
    refine cw_iconst (v := 1) d_M_sees_IIII_37 (by decide) ?_
    refine cw_tern2 65 ((tryS σ h s bits t) i) ?_ (fun k_38 => ?_)
    · refine cw_iastN (i := i) sm_seen rfl (by omega) (by decide) d_M_sees_IIII_65 ?_
      refine cw_aload_n d_M_sees_IIII_66 rfl ?_
      refine cw_aload_n d_M_sees_IIII_67 rfl ?_
      refine cw_getI fl_M_196 so_M rfl d_M_sees_IIII_68 ?_
      refine cw_top ((mS_k (by omega)).trans hs2) ?_
      refine cw_tern1 114 (b2 (anyUp (offP (σ.2 4 0 0) (tryS σ h s bits t) (meanS σ s)) (i + 1))) ?_ (fun k_71 => ?_)
      · refine cw_putZ fp_M_196 so_M rfl (by first | exact Or.inl rfl | exact Or.inr rfl | exact b2_01 _) d_M_sees_IIII_114 ?_
        refine cw_iincN (x := i) d_M_sees_IIII_117 rfl rfl ?_
        refine cw_goto 8 d_M_sees_IIII_120 (by decide) ?_
        have k2 : kq M' (mS (mS M' 1023 i ((tryS σ h s bits t) i)) 1000 23 (b2 (anyUp (offP (σ.2 4 0 0) (tryS σ h s bits t) (meanS σ s)) (i + 1)))) := (mS_kq (sc_seen i)).tr (mS_kq sc_mon)
        have h9 : ∀ p, p < i + 1 → mG (mS (mS M' 1023 i ((tryS σ h s bits t) i)) 1000 23 (b2 (anyUp (offP (σ.2 4 0 0) (tryS σ h s bits t) (meanS σ s)) (i + 1)))) 1023 p = (tryS σ h s bits t) p := fun p hp => (mS_k (by omega)).trans (sn_s (f := (tryS σ h s bits t)) hs1 p hp)
        exact cw_cast (by simp only [lset1, kl]; rfl) rfl rfl (ih c_12 _ _ (RM_kq hR' k2) (hk.tr k2) h9 mS_at)
      · refine cw_bif_ne 109 d_M_sees_IIII_71 (by decide) (fun c_71 => ?_) (fun c_71 => ?_)
        · refine cw_iconst (v := 1) d_M_sees_IIII_109 (by decide) ?_
          refine cw_goto 114 d_M_sees_IIII_110 (by decide) ?_
          exact k_71 _ (b2_1 (by simp only [anyUp, c_71, Bool.true_or]))
        · refine cw_aload_n d_M_sees_IIII_74 rfl ?_
          refine cw_getR fl_M_61 so_M rfl d_M_sees_IIII_75 ?_
          refine cw_iload d_M_sees_IIII_78 rfl ?_
          refine cw_ialdN (i := i) sm_seen rfl (by omega) (by decide) d_M_sees_IIII_80 ?_
          refine cw_top mS_at ?_
          refine cw_sipush (v := (-9999)) d_M_sees_IIII_81 (by decide) ?_
          refine cw_icmp_eq 113 d_M_sees_IIII_84 (by decide) (fun c_84 => ?_) (fun c_84 => ?_)
          · refine cw_iconst (v := 0) d_M_sees_IIII_113 (by decide) ?_
            exact k_71 _ (b2_0 (by simp only [anyUp, c_71, Bool.false_or]; exact decide_eq_false (fun q => q.1 c_84)))
          · refine cw_aload_n d_M_sees_IIII_87 rfl ?_
            refine cw_getR fl_M_61 so_M rfl d_M_sees_IIII_88 ?_
            refine cw_iload d_M_sees_IIII_91 rfl ?_
            refine cw_ialdN (i := i) sm_seen rfl (by omega) (by decide) d_M_sees_IIII_93 ?_
            refine cw_top mS_at ?_
            refine cw_iload d_M_sees_IIII_94 rfl ?_
            refine cw_isub d_M_sees_IIII_96 ?_
            refine cw_staticP (s_M_amount) rfl ml_M_166 rfl rfl d_M_sees_IIII_97 ?_
            refine cw_aload_n d_M_sees_IIII_100 rfl ?_
            refine cw_getR fl_M_34 so_M rfl d_M_sees_IIII_101 ?_
            refine cw_iconst (v := 0) d_M_sees_IIII_104 (by decide) ?_
            refine cw_ialdN (i := 0) sm_settings rfl (by omega) (by decide) d_M_sees_IIII_105 ?_
            refine cw_top ((mS_k (by omega)).trans (hR'.st (by omega))) ?_
            refine cw_icmp_le 113 d_M_sees_IIII_106 (by decide) (fun c_106 => ?_) (fun c_106 => ?_)
            · refine cw_iconst (v := 0) d_M_sees_IIII_113 (by decide) ?_
              exact k_71 _ (b2_0 (by simp only [anyUp, c_71, Bool.false_or]; exact decide_eq_false (fun q => absurd c_106 (i32_nle.mpr q.2))))
            · refine cw_iconst (v := 1) d_M_sees_IIII_109 (by decide) ?_
              refine cw_goto 114 d_M_sees_IIII_110 (by decide) ?_
              exact k_71 _ (b2_1 (by simp only [anyUp, c_71, Bool.false_or]; exact decide_eq_true ⟨c_84, i32_nle.mp c_106⟩))
    · refine cw_icmp_ne 62 d_M_sees_IIII_38 (by decide) (fun c_38 => ?_) (fun c_38 => ?_)
      · refine cw_sipush (v := (-9999)) d_M_sees_IIII_62 (by decide) ?_
        exact k_38 _ (by show _ = drawnS _ _ _; rw [if_neg (by rw [show bit bits i = false from decide_eq_false c_38]; decide)]; exact (if_pos (Or.inr rfl)).symm)
      · refine cw_aload_n d_M_sees_IIII_41 rfl ?_
        refine cw_getR fl_M_22 so_M rfl d_M_sees_IIII_42 ?_
        refine cw_bipush (v := 8) d_M_sees_IIII_45 (by decide) ?_
        refine cw_iload_n d_M_sees_IIII_47 rfl ?_
        refine cw_imul d_M_sees_IIII_48 ?_
        refine cw_iload d_M_sees_IIII_49 rfl ?_
        refine cw_iadd d_M_sees_IIII_51 ?_
        refine cw_ialdN (i := (8 * h) + i) sm_places (nAdd (nMul rfl rfl) rfl) (by omega) (by decide) d_M_sees_IIII_52 ?_
        refine cw_top (hR'.pl hh (by omega)) ?_
        refine cw_iload d_M_sees_IIII_53 rfl ?_
        refine cw_iload_n d_M_sees_IIII_55 rfl ?_
        refine cw_staticP (s_M_drawnBy) rfl ml_M_152 rfl rfl d_M_sees_IIII_56 ?_
        refine cw_goto 65 d_M_sees_IIII_59 (by decide) ?_
        exact k_38 _ (by show _ = drawnS _ _ _; rw [if_pos (show bit bits i = true from decide_eq_true c_38)])
set_option maxRecDepth 100000 in
theorem s_M_sees_IIII {M : Mem} {σ : Sg} (hR : RM M σ) (hI : Iv σ) {h : Nat} {s t bits : Int32} (hh : h < σ.1.1) (hs : setB s σ.1.1 = true)  : CS u_M_sees_IIII [.ref 1000, .int (nI h), .int s, .int t, .int bits] M (retV (fun M2 => kq M M2 ∧ SN M2 (tryS σ h s bits t) (offB (σ.2 4 0 0) (tryS σ h s bits t) (meanS σ s)))) := by
  refine cs_introF (L := [some (.ref 1000), some (.int (nI h)), some (.int s), some (.int t), some (.int bits), none, none]) (by decide +kernel) (fun ad q h => h) (fun ad => Nat.le_of_ble_eq_true rfl) ?_
  refine cw_aload_n d_M_sees_IIII_0 rfl ?_
  refine cw_iconst (v := 0) d_M_sees_IIII_1 (by decide) ?_
  refine cw_putZ fp_M_196 so_M rfl (by first | exact Or.inl rfl | exact Or.inr rfl | exact b2_01 _) d_M_sees_IIII_2 ?_
  refine cw_iconst (v := 0) d_M_sees_IIII_5 (by decide) ?_
  refine cw_istore d_M_sees_IIII_6 rfl ?_
  exact l_M_sees_IIII hR hI hh hs 0 (by omega) _ _ (RM_kq hR (mS_kq sc_mon)) (mS_kq sc_mon) (fun p hp => absurd hp (by omega)) mS_at
theorem fs_M {M : Mem} {x y : Int64} : kj M (jS (jS M 1000 24 x) 1000 25 y) ∧ jG (jS (jS M 1000 24 x) 1000 25 y) 1000 24 = x ∧ jG (jS (jS M 1000 24 x) 1000 25 y) 1000 25 = y := by
  refine ⟨⟨rfl, fun k hk => ?_⟩, by simp [jS, jG], by simp [jS, jG]⟩
  funext b
  simp [jS, hk]
set_option maxRecDepth 100000 in
theorem l_M_findScore {M : Mem} {σ : Sg} (hR : RM M σ) (hI : Iv σ) {k h : Nat} {ln : Nat → Int32} {mo : Bool} (hk : k < σ.1.2.2) (hh : h < σ.1.1) (hs : SN M ln mo)  : ∀ i, i ≤ 8 → ∀ o8 o10, CW u_M_findScore (retV (fun M2 => kj M M2 ∧ jG M2 1000 24 = rsX ln (σ.2 12 k) (σ.2 1 h) ∧ jG M2 1000 25 = rsY ln (σ.2 12 k) (σ.2 1 h))) 8 [some (.ref 1000), some (.int (nI k)), some (.int (nI h)), some (.long (sumUpJ (rsA ln (σ.2 12 k) (σ.2 1 h)) i)), none, some (.long (sumUpJ (rsB ln (σ.2 12 k) (σ.2 1 h)) i)), none, some (.int (nI i)), o8, none, o10, none] [] M := by
  obtain ⟨hn1, hn2, hn3⟩ := hI.n
  refine up_ind (fun i hi ih o8 o10 => ?_)
  refine cw_iload d_M_findScore_8 rfl ?_
  refine cw_bipush (v := 8) d_M_findScore_10 (by decide) ?_
  refine cw_icmp_geN (i) (8) 115 rfl rfl (by omega) d_M_findScore_12 (by decide) (fun c_12 => ?_) (fun c_12 => ?_)
  · have ei : i = 8 := by omega
    subst ei
    refine cw_aload_n d_M_findScore_115 rfl ?_
    refine cw_lload_n d_M_findScore_116 rfl ?_
    refine cw_lconst (v := 0) d_M_findScore_117 (by decide) ?_
    refine cw_lcmp d_M_findScore_118 ?_
    refine cw_tern1J 136 (rsX ln (σ.2 12 k) (σ.2 1 h)) ?_ (fun k_119 => ?_)
    · refine cw_putJ fp_M_200 so_M rfl d_M_findScore_136 ?_
      refine cw_aload_n d_M_findScore_139 rfl ?_
      refine cw_lload d_M_findScore_140 rfl ?_
      refine cw_lconst (v := 0) d_M_findScore_142 (by decide) ?_
      refine cw_lcmp d_M_findScore_143 ?_
      refine cw_tern1J 153 (rsY ln (σ.2 12 k) (σ.2 1 h)) ?_ (fun k_144 => ?_)
      · refine cw_putJ fp_M_204 so_M rfl d_M_findScore_153 ?_
        refine cw_vret rfl d_M_findScore_156 ?_
        exact fs_M
      · refine cw_if_ne 151 d_M_findScore_144 (by decide) (fun c_144 => ?_) (fun c_144 => ?_)
        · refine cw_lload d_M_findScore_151 rfl ?_
          exact k_144 _ ((if_neg (fun z => c_144 (lgc_eq.mpr z))).symm)
        · refine cw_lconst (v := 1) d_M_findScore_147 (by decide) ?_
          refine cw_goto 153 d_M_findScore_148 (by decide) ?_
          exact k_144 _ ((if_pos (lgc_eq.mp c_144)).symm)
    · refine cw_if_lt 129 d_M_findScore_119 (by decide) (fun c_119 => ?_) (fun c_119 => ?_)
      · refine cw_lconst (v := 0) d_M_findScore_129 (by decide) ?_
        refine cw_goto 136 d_M_findScore_130 (by decide) ?_
        exact k_119 _ ((if_pos (Or.inl (lgc_lt.mp c_119))).symm)
      · refine cw_lload d_M_findScore_122 rfl ?_
        refine cw_lconst (v := 0) d_M_findScore_124 (by decide) ?_
        refine cw_lcmp d_M_findScore_125 ?_
        refine cw_if_ne 133 d_M_findScore_126 (by decide) (fun c_126 => ?_) (fun c_126 => ?_)
        · refine cw_lload_n d_M_findScore_133 rfl ?_
          refine cw_lload_n d_M_findScore_134 rfl ?_
          refine cw_lmul d_M_findScore_135 ?_
          exact k_119 _ ((if_neg (fun q => q.elim (fun z => c_119 (lgc_lt.mpr z)) (fun z => c_126 (lgc_eq.mpr z)))).symm)
        · refine cw_lconst (v := 0) d_M_findScore_129 (by decide) ?_
          refine cw_goto 136 d_M_findScore_130 (by decide) ?_
          exact k_119 _ ((if_pos (Or.inr (lgc_eq.mp c_126))).symm)
  · refine cw_aload_n d_M_findScore_15 rfl ?_
    refine cw_getR fl_M_58 so_M rfl d_M_findScore_16 ?_
    refine cw_bipush (v := 8) d_M_findScore_19 (by decide) ?_
    refine cw_iload_n d_M_findScore_21 rfl ?_
    refine cw_imul d_M_findScore_22 ?_
    refine cw_iload d_M_findScore_23 rfl ?_
    refine cw_iadd d_M_findScore_25 ?_
    refine cw_ialdN (i := (8 * k) + i) sm_own (nAdd (nMul rfl rfl) rfl) (by omega) (by decide) d_M_findScore_26 ?_
    refine cw_top (hR.ow hk (by omega)) ?_
    refine cw_i2l d_M_findScore_27 ?_
    refine cw_lstore d_M_findScore_28 rfl ?_
    refine cw_aload_n d_M_findScore_30 rfl ?_
    refine cw_getR fl_M_22 so_M rfl d_M_findScore_31 ?_
    refine cw_bipush (v := 8) d_M_findScore_34 (by decide) ?_
    refine cw_iload_n d_M_findScore_36 rfl ?_
    refine cw_imul d_M_findScore_37 ?_
    refine cw_iload d_M_findScore_38 rfl ?_
    refine cw_iadd d_M_findScore_40 ?_
    refine cw_ialdN (i := (8 * h) + i) sm_places (nAdd (nMul rfl rfl) rfl) (by omega) (by decide) d_M_findScore_41 ?_
    refine cw_top (hR.pl hh (by omega)) ?_
    refine cw_i2l d_M_findScore_42 ?_
    refine cw_lload d_M_findScore_43 rfl ?_
    refine cw_lsub d_M_findScore_45 ?_
    refine cw_lstore d_M_findScore_46 rfl ?_
    refine cw_lload_n d_M_findScore_48 rfl ?_
    refine cw_aload_n d_M_findScore_49 rfl ?_
    refine cw_getR fl_M_61 so_M rfl d_M_findScore_50 ?_
    refine cw_iload d_M_findScore_53 rfl ?_
    refine cw_ialdN (i := i) sm_seen rfl (by omega) (by decide) d_M_findScore_55 ?_
    refine cw_top (hs.1 i (by omega)) ?_
    refine cw_sipush (v := (-9999)) d_M_findScore_56 (by decide) ?_
    refine cw_tern2J 80 (rsA ln (σ.2 12 k) (σ.2 1 h) i) ?_ (fun k_59 => ?_)
    · refine cw_ladd d_M_findScore_80 ?_
      refine cw_lstore_n d_M_findScore_81 rfl ?_
      refine cw_lload d_M_findScore_82 rfl ?_
      refine cw_aload_n d_M_findScore_84 rfl ?_
      refine cw_getR fl_M_61 so_M rfl d_M_findScore_85 ?_
      refine cw_iload d_M_findScore_88 rfl ?_
      refine cw_ialdN (i := i) sm_seen rfl (by omega) (by decide) d_M_findScore_90 ?_
      refine cw_top (hs.1 i (by omega)) ?_
      refine cw_sipush (v := (-9999)) d_M_findScore_91 (by decide) ?_
      refine cw_tern2J 106 (rsB ln (σ.2 12 k) (σ.2 1 h) i) ?_ (fun k_94 => ?_)
      · refine cw_ladd d_M_findScore_106 ?_
        refine cw_lstore d_M_findScore_107 rfl ?_
        refine cw_iincN (x := i) d_M_findScore_109 rfl rfl ?_
        refine cw_goto 8 d_M_findScore_112 (by decide) ?_
        exact ih c_12 _ _
      · refine cw_icmp_ne 101 d_M_findScore_94 (by decide) (fun c_94 => ?_) (fun c_94 => ?_)
        · refine cw_lload d_M_findScore_101 rfl ?_
          refine cw_lload d_M_findScore_103 rfl ?_
          refine cw_lmul d_M_findScore_105 ?_
          exact k_94 _ ((if_neg c_94).symm)
        · refine cw_lconst (v := 0) d_M_findScore_97 (by decide) ?_
          refine cw_goto 106 d_M_findScore_98 (by decide) ?_
          exact k_94 _ ((if_pos c_94).symm)
    · refine cw_icmp_ne 66 d_M_findScore_59 (by decide) (fun c_59 => ?_) (fun c_59 => ?_)
      · refine cw_aload_n d_M_findScore_66 rfl ?_
        refine cw_getR fl_M_61 so_M rfl d_M_findScore_67 ?_
        refine cw_iload d_M_findScore_70 rfl ?_
        refine cw_ialdN (i := i) sm_seen rfl (by omega) (by decide) d_M_findScore_72 ?_
        refine cw_top (hs.1 i (by omega)) ?_
        refine cw_i2l d_M_findScore_73 ?_
        refine cw_lload d_M_findScore_74 rfl ?_
        refine cw_lsub d_M_findScore_76 ?_
        refine cw_lload d_M_findScore_77 rfl ?_
        refine cw_lmul d_M_findScore_79 ?_
        exact k_59 _ ((if_neg c_59).symm)
      · refine cw_lconst (v := 0) d_M_findScore_62 (by decide) ?_
        refine cw_goto 80 d_M_findScore_63 (by decide) ?_
        exact k_59 _ ((if_pos c_59).symm)
set_option maxRecDepth 100000 in
theorem s_M_findScore {M : Mem} {σ : Sg} (hR : RM M σ) (hI : Iv σ) {k h : Nat} {ln : Nat → Int32} {mo : Bool} (hk : k < σ.1.2.2) (hh : h < σ.1.1) (hs : SN M ln mo)  : CS u_M_findScore [.ref 1000, .int (nI k), .int (nI h)] M (retV (fun M2 => kj M M2 ∧ jG M2 1000 24 = rsX ln (σ.2 12 k) (σ.2 1 h) ∧ jG M2 1000 25 = rsY ln (σ.2 12 k) (σ.2 1 h))) := by
  refine cs_introF (L := [some (.ref 1000), some (.int (nI k)), some (.int (nI h)), none, none, none, none, none, none, none, none, none]) (by decide +kernel) (fun ad q h => h) (fun ad => Nat.le_of_ble_eq_true rfl) ?_
  refine cw_lconst (v := 0) d_M_findScore_0 (by decide) ?_
  refine cw_lstore_n d_M_findScore_1 rfl ?_
  refine cw_lconst (v := 0) d_M_findScore_2 (by decide) ?_
  refine cw_lstore d_M_findScore_3 rfl ?_
  refine cw_iconst (v := 0) d_M_findScore_5 (by decide) ?_
  refine cw_istore d_M_findScore_6 rfl ?_
  exact l_M_findScore hR hI hk hh hs 0 (by omega) _ _
