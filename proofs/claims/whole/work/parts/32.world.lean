/-! ===== how the class's world goes over into the next state ===== -/
theorem txB_c {f g : Nat → Int32} {len : Nat} (h : ∀ j, j < len → f j = g j) (i : Nat) : txB f len i = txB g len i := by
  unfold txB
  split
  · exact h i (by assumption)
  · rfl
theorem txS_e {f g : Nat → Int32} {len : Nat} (h : ∀ j, j < len → f j = g j) (i : Nat) (F : Nat → Int32) : txS f len i F = txS g len i F := by
  unfold txS
  simp only [txB_c h]
theorem txR_e {f g : Nat → Int32} {len : Nat} (h : ∀ j, j < len → f j = g j) : ∀ (n i : Nat) (F : Nat → Int32), txR f len n i F = txR g len n i F
  | 0, i, F => rfl
  | n + 1, i, F => by
    simp only [txR, txS_e h, txB_c h]
    cases txS g len i F with
    | inl k => rfl
    | inr x => simp only [txR_e h n]
theorem txP_e {f g : Nat → Int32} {len : Nat} (h : ∀ j, j < len → f j = g j) : txP f len = txP g len := by
  unfold txP
  rw [txR_e h]
theorem RC.hand {M M1 : Mem} {σ σ' : Sg} {a : Nat} {r : Int32 × (Nat → Int32)} (hR : RC M σ) (ha : a < 4)
    (h1 : ∀ k s, k ≠ 30 + a → k ≠ 40 + a → mG M1 k s = mG M k s) (h2 : ∀ j, j < 40 → mG M1 (40 + a) j = σ'.2 2 a j) (h3 : mG M1 (30 + a) 2 = σ'.2 3 a 0)
    (h0 : σ'.1 = σ.1) (h4 : ∀ t i j, ¬ (t = 2 ∧ i = a) → ¬ (t = 3 ∧ i = a) → σ'.2 t i j = σ.2 t i j) (h5 : r = hPar σ' a) : RC (finH M1 a r) σ' := by
  have hk : ∀ k s, k ≠ 30 + a → k ≠ 40 + a → k ≠ 50 + a → mG (finH M1 a r) k s = mG M k s := fun k s q1 q2 q3 => ((mS_k q1).trans (mRow_out q3)).trans (h1 k s q1 q2)
  refine ⟨?_, ?_, ?_, fun t i j hd => ?_, fun b hb => ?_⟩
  · rw [hk 0 5 (by omega) (by omega) (by omega), h0]; exact hR.n1
  · rw [hk 0 6 (by omega) (by omega) (by omega), h0]; exact hR.n2
  · rw [hk 0 7 (by omega) (by omega) (by omega), h0]; exact hR.n3
  · by_cases q2 : t = 2 ∧ i = a
    · obtain ⟨rfl, rfl⟩ := q2
      exact (congrFun finH_x j).trans (h2 j hd.2)
    · by_cases q3 : t = 3 ∧ i = a
      · obtain ⟨rfl, rfl⟩ := q3
        have e : j = 0 := hd.2
        subst e
        exact finH_n.trans h3
      · rw [h4 t i j q2 q3]
        have hd' : dC σ t i j := by
          unfold dC at hd ⊢
          rw [h0] at hd
          exact hd
        rw [hk]
        · exact hR.2.2.2.1 t i j hd'
        · intro e
          unfold dC at hd'
          unfold LC at e
          split at hd' <;> simp_all <;> omega
        · intro e
          unfold dC at hd'
          unfold LC at e
          split at hd' <;> simp_all <;> omega
        · exact fun e => (LC_off hd').2.1 (by omega)
  · by_cases q : b = a
    · subst q
      exact ⟨fun p hp => by rw [finH_t hp, h5], by rw [finH_f, h5]⟩
    · have e1 : σ'.2 2 b = σ.2 2 b := by funext z; exact h4 2 b z (fun z => q z.2) (fun z => by omega)
      have e2 : σ'.2 3 b 0 = σ.2 3 b 0 := h4 3 b 0 (fun z => by omega) (fun z => q z.2)
      have e3 : hPar σ' b = hPar σ b := by unfold hPar hLen; rw [e1, e2]
      rw [e3]
      exact ⟨fun p hp => by rw [hk _ _ (by omega) (by omega) (by omega)]; exact hR.tn hb hp, by rw [hk _ _ (by omega) (by omega) (by omega)]; exact hR.fa hb⟩
theorem hLen_ok {σ : Sg} (hI : Iv σ) (a : Nat) : σ.2 3 a 0 = nI (hLen σ a) ∧ hLen σ a ≤ 40 := by
  have h := hI.2.2.2.2.2.1 a
  unfold rD at h
  unfold hLen
  exact ⟨nI_ofInt (by omega) (by omega), by omega⟩
def aftD (σ : Sg) (hd yr kd src : Int32) (ln mn : Nat → Int32) : Sg := ((σ.1.1, σ.1.2.1 + 1, σ.1.2.2), fun t i j => if i = σ.1.2.1 ∧ 5 ≤ t ∧ t ≤ 10 then (match t with
  | 5 => hd
  | 6 => yr
  | 7 => kd
  | 8 => src
  | 9 => ln j
  | _ => mn j) else σ.2 t i j)
theorem RC_drw {M M0 : Mem} {σ : Sg} {hd yr kd src : Int32} {ln mn : Nat → Int32} (hI : Iv σ) (hR : RC M σ) (hn : σ.1.2.1 < 30) (hk : kp σ M M0) (g1 : mG M0 (100 + σ.1.2.1) 2 = hd) (g2 : mG M0 (100 + σ.1.2.1) 3 = yr) (g3 : mG M0 (100 + σ.1.2.1) 4 = kd) (g4 : mG M0 (100 + σ.1.2.1) 5 = src) (g5 : ∀ p, p < 8 → mG M0 (300 + σ.1.2.1) p = ln p) (g6 : ∀ p, p < 8 → mG M0 (200 + σ.1.2.1) p = mn p) : RC (mS M0 0 6 (nI (σ.1.2.1 + 1))) (aftD σ hd yr kd src ln mn) := by
  have hR0 := hR.kp hI hk
  have hp : ∀ a, hPar (aftD σ hd yr kd src ln mn) a = hPar σ a := by
    intro a
    have e1 : (aftD σ hd yr kd src ln mn).2 2 a = σ.2 2 a := by funext z; exact if_neg (by omega)
    have e2 : (aftD σ hd yr kd src ln mn).2 3 a 0 = σ.2 3 a 0 := if_neg (by omega)
    unfold hPar hLen
    rw [e1, e2]
  refine ⟨(mS_j (by omega)).trans hR0.n1, mS_at, (mS_j (by omega)).trans hR0.n3, fun t i j hd' => ?_, fun a ha => ⟨fun p h => ?_, ?_⟩⟩
  · by_cases q : i = σ.1.2.1 ∧ 5 ≤ t ∧ t ≤ 10
    · have ev : (aftD σ hd yr kd src ln mn).2 t i j = _ := if_pos q
      rw [ev]
      obtain ⟨rfl, q1, q2⟩ := q
      rcases (show t = 5 ∨ t = 6 ∨ t = 7 ∨ t = 8 ∨ t = 9 ∨ t = 10 by omega) with rfl | rfl | rfl | rfl | rfl | rfl
      · exact (mS_k (k' := 100 + σ.1.2.1) (by omega)).trans g1
      · exact (mS_k (k' := 100 + σ.1.2.1) (by omega)).trans g2
      · exact (mS_k (k' := 100 + σ.1.2.1) (by omega)).trans g3
      · exact (mS_k (k' := 100 + σ.1.2.1) (by omega)).trans g4
      · exact (mS_k (k' := 300 + σ.1.2.1) (by omega)).trans (g5 j hd'.2)
      · exact (mS_k (k' := 200 + σ.1.2.1) (by omega)).trans (g6 j hd'.2)
    · have ev : (aftD σ hd yr kd src ln mn).2 t i j = σ.2 t i j := if_neg q
      rw [ev]
      have hd2 : dC σ t i j := by
        unfold dC at hd' ⊢
        split at hd' <;> simp_all [aftD] <;> omega
      have := (LC_off hd2).1
      refine Eq.trans ?_ (hR0.2.2.2.1 t i j hd2)
      show (if _ then _ else _) = _
      rw [if_neg (fun q => by have := this q.1; omega)]
      rfl
  · rw [hp]; exact (mS_k (by omega)).trans (hR0.tn ha h)
  · rw [hp]; exact (mS_k (by omega)).trans (hR0.fa ha)
def aftK (σ : Sg) (kn : Int32) (mn : Nat → Int32) : Sg := ((σ.1.1, σ.1.2.1, σ.1.2.2 + 1), fun t i j => if i = σ.1.2.2 ∧ 11 ≤ t ∧ t ≤ 12 then (match t with
  | 11 => kn
  | _ => mn j) else σ.2 t i j)
theorem RC_knw {M M0 : Mem} {σ : Sg} {kn : Int32} {mn : Nat → Int32} (hI : Iv σ) (hR : RC M σ) (hn : σ.1.2.2 < 4) (hk : kp σ M M0) (g1 : mG M0 (60 + σ.1.2.2) 1 = kn) (g5 : ∀ p, p < 8 → mG M0 (70 + σ.1.2.2) p = mn p) : RC (mS M0 0 7 (nI (σ.1.2.2 + 1))) (aftK σ kn mn) := by
  have hR0 := hR.kp hI hk
  have hp : ∀ a, hPar (aftK σ kn mn) a = hPar σ a := by
    intro a
    have e1 : (aftK σ kn mn).2 2 a = σ.2 2 a := by funext z; exact if_neg (by omega)
    have e2 : (aftK σ kn mn).2 3 a 0 = σ.2 3 a 0 := if_neg (by omega)
    unfold hPar hLen
    rw [e1, e2]
  refine ⟨(mS_j (by omega)).trans hR0.n1, (mS_j (by omega)).trans hR0.n2, mS_at, fun t i j hd' => ?_, fun a ha => ⟨fun p h => ?_, ?_⟩⟩
  · by_cases q : i = σ.1.2.2 ∧ 11 ≤ t ∧ t ≤ 12
    · have ev : (aftK σ kn mn).2 t i j = _ := if_pos q
      rw [ev]
      obtain ⟨rfl, q1, q2⟩ := q
      rcases (show t = 11 ∨ t = 12 by omega) with rfl | rfl
      · exact (mS_k (k' := 60 + σ.1.2.2) (by omega)).trans g1
      · exact (mS_k (k' := 70 + σ.1.2.2) (by omega)).trans (g5 j hd'.2)
    · have ev : (aftK σ kn mn).2 t i j = σ.2 t i j := if_neg q
      rw [ev]
      have hd2 : dC σ t i j := by
        unfold dC at hd' ⊢
        split at hd' <;> simp_all [aftK] <;> omega
      have := (LC_off hd2).1
      refine Eq.trans ?_ (hR0.2.2.2.1 t i j hd2)
      show (if _ then _ else _) = _
      rw [if_neg (fun q => by have := this q.1; omega)]
      rfl
  · rw [hp]; exact (mS_k (by omega)).trans (hR0.tn ha h)
  · rw [hp]; exact (mS_k (by omega)).trans (hR0.fa ha)
/-- a row of a kind whose second place is the row's -/
def aftR (σ : Sg) (t i n : Nat) (f : Nat → Int32) : Sg := (σ.1, fun a b c => if a = t ∧ b = i ∧ c < n then f c else σ.2 a b c)
theorem RC.row {M : Mem} {σ : Sg} (hI : Iv σ) (hR : RC M σ) {t i n : Nat} {f : Nat → Int32} (r : Nat) (hl : ∀ j, j < n → dC σ t i j ∧ LC t i j = (r, j)) (ht : t ≠ 2 ∧ t ≠ 3) (hr : r ≠ 0 ∧ ¬ (30 ≤ r ∧ r < 34) ∧ ¬ (50 ≤ r ∧ r < 54)) (hc : ∀ a b c, dC σ a b c → (LC a b c).1 = r → (LC a b c).2 < n → a = t ∧ b = i) : RC (mRow M r n f) (aftR σ t i n f) := by
  have hp : ∀ a, hPar (aftR σ t i n f) a = hPar σ a := by
    intro a
    have e1 : (aftR σ t i n f).2 2 a = σ.2 2 a := by funext z; exact if_neg (fun q => ht.1 q.1.symm)
    have e2 : (aftR σ t i n f).2 3 a 0 = σ.2 3 a 0 := if_neg (fun q => ht.2 q.1.symm)
    unfold hPar hLen
    rw [e1, e2]
  refine ⟨(mRow_out (by omega)).trans hR.n1, (mRow_out (by omega)).trans hR.n2, (mRow_out (by omega)).trans hR.n3, fun a b c hd => ?_, fun a ha => ⟨fun p h => ?_, ?_⟩⟩
  · have hd : dC σ a b c := hd
    by_cases q : a = t ∧ b = i ∧ c < n
    · obtain ⟨rfl, rfl, q⟩ := q
      have ev : (aftR σ a b n f).2 a b c = f c := if_pos ⟨rfl, rfl, q⟩
      rw [ev, (hl c q).2]
      exact mRow_in q
    · have ev : (aftR σ t i n f).2 a b c = σ.2 a b c := if_neg q
      rw [ev]
      refine Eq.trans ?_ (hR.2.2.2.1 a b c hd)
      show (if _ then _ else _) = _
      rw [if_neg]
      · rfl
      · intro z
        obtain ⟨e1, e2⟩ := hc a b c hd z.1 z.2
        have h2 : LC a b c = (r, (LC a b c).2) := Prod.ext z.1 rfl
        have hh := hl (LC a b c).2 z.2
        have := LC_inj hI.2.1 hI.2.2.1 hd hh.1 (by rw [hh.2]; exact z.1) (by rw [hh.2])
        exact q ⟨e1, e2, by omega⟩
  · rw [hp]; exact (mRow_out (by omega)).trans (hR.tn ha h)
  · rw [hp]; exact (mRow_out (by omega)).trans (hR.fa ha)
