/-! ===== the reference's world ===== -/
def scM (k j : Nat) : Prop := k = 1004 ∨ k = 1011 ∨ k = 1023 ∨ k = 1027 ∨ (k = 1000 ∧ (j = 9 ∨ j = 23))
def kq (M M' : Mem) : Prop := (∀ k j, ¬ scM k j → mG M' k j = mG M k j) ∧ ∀ k, k ≠ 1000 → M'.2 k = M.2 k
theorem kq.rf {M : Mem} : kq M M := ⟨fun _ _ _ => rfl, fun _ _ => rfl⟩
theorem kq.tr {M1 M2 M3 : Mem} (h1 : kq M1 M2) (h2 : kq M2 M3) : kq M1 M3 := ⟨fun k j h => (h2.1 k j h).trans (h1.1 k j h), fun k h => (h2.2 k h).trans (h1.2 k h)⟩
theorem kq.kM {M M' : Mem} (h : kq M M') : kM M M' := fun k hk => ⟨by funext j; exact h.1 k j (by unfold scM; omega), h.2 k (by omega)⟩
theorem LM_ns {σ : Sg} {t i j : Nat} (h : dM σ t i j) : ¬ scM (LM t i j).1 (LM t i j).2 ∧ ((LM t i j).1 = 1000 → (LM t i j).2 = 4) := by
  unfold dM at h
  unfold LM scM
  split <;> simp_all
theorem RM_kq {M M' : Mem} {σ : Sg} (h : RM M σ) (hk : kq M M') : RM M' σ := by
  refine ⟨?_, ?_, ?_, fun t i j hd => ?_⟩
  · rw [hk.1 1000 5 (by unfold scM; omega)]; exact h.n1
  · rw [hk.1 1000 12 (by unfold scM; omega)]; exact h.n2
  · rw [hk.1 1000 19 (by unfold scM; omega)]; exact h.n3
  · rw [hk.1 _ _ (LM_ns hd).1]; exact h.2.2.2 t i j hd
def dLM (k s : Nat) : Nat × Nat × Nat := match k with
  | 1007 => (1, s / 8, s % 8)
  | 1008 => (2, s / 40, s % 40)
  | 1009 => (3, s, 0)
  | 1012 => (4, s, 0)
  | 1014 => (5, s, 0)
  | 1015 => (6, s, 0)
  | 1016 => (7, s, 0)
  | 1017 => (8, s, 0)
  | 1018 => (9, s / 8, s % 8)
  | 1019 => (10, s / 8, s % 8)
  | 1021 => (11, s, 0)
  | 1022 => (12, s / 8, s % 8)
  | 1001 => (13, s, 0)
  | 1002 => (14, s, 0)
  | 1003 => (15, s / 60, s % 60)
  | _ => (16, 0, 0)
theorem dLM_ok {σ : Sg} (hI : Iv σ) {t i j : Nat} (h : dM σ t i j) : dLM (LM t i j).1 (LM t i j).2 = (t, i, j) := by
  have hz := (hI.2.2.2.2.2.2.2.2.2 i).2.2
  unfold dM at h
  split at h
  all_goals first | exact h.elim | skip
  · exact Prod.ext rfl (Prod.ext (by show (8 * i + j) / 8 = i; omega) (by show (8 * i + j) % 8 = j; omega))
  · exact Prod.ext rfl (Prod.ext (by show (40 * i + j) / 40 = i; omega) (by show (40 * i + j) % 40 = j; omega))
  · exact Prod.ext rfl (Prod.ext rfl h.2.symm)
  · exact Prod.ext rfl (Prod.ext rfl h.2.symm)
  · exact Prod.ext rfl (Prod.ext rfl h.2.symm)
  · exact Prod.ext rfl (Prod.ext rfl h.2.symm)
  · exact Prod.ext rfl (Prod.ext rfl h.2.symm)
  · exact Prod.ext rfl (Prod.ext rfl h.2.symm)
  · exact Prod.ext rfl (Prod.ext (by show (8 * i + j) / 8 = i; omega) (by show (8 * i + j) % 8 = j; omega))
  · exact Prod.ext rfl (Prod.ext (by show (8 * i + j) / 8 = i; omega) (by show (8 * i + j) % 8 = j; omega))
  · exact Prod.ext rfl (Prod.ext rfl h.2.symm)
  · exact Prod.ext rfl (Prod.ext (by show (8 * i + j) / 8 = i; omega) (by show (8 * i + j) % 8 = j; omega))
  · exact Prod.ext rfl (Prod.ext rfl h.2.symm)
  · exact Prod.ext rfl (Prod.ext rfl h.2.1.symm)
  · exact Prod.ext rfl (Prod.ext (by show (60 * i + j) / 60 = i; omega) (by show (60 * i + j) % 60 = j; omega))
  · exact Prod.ext rfl (Prod.ext h.1.symm h.2.symm)
theorem LM_inj {σ : Sg} (hI : Iv σ) {t i j t' i' j' : Nat} (h : dM σ t i j) (h' : dM σ t' i' j') (e1 : (LM t i j).1 = (LM t' i' j').1) (e2 : (LM t i j).2 = (LM t' i' j').2) : t = t' ∧ i = i' ∧ j = j' := by
  have a := dLM_ok hI h
  have b := dLM_ok hI h'
  rw [e1, e2, b] at a
  cases a
  exact ⟨rfl, rfl, rfl⟩
theorem RM_su {M : Mem} {σ : Sg} (hI : Iv σ) (hR : RM M σ) {t i j : Nat} {v : Int32} (hd : dM σ t i j) (ht : t ≠ 13 ∧ t ≠ 14) : RM (mS M (LM t i j).1 (LM t i j).2 v) (su σ t i j v) := by
  have o1 := (LM_ns hd).2
  have ne : ∀ k s, ¬ (k = (LM t i j).1 ∧ s = (LM t i j).2) → mG (mS M (LM t i j).1 (LM t i j).2 v) k s = mG M k s := fun k s h => by
    show (if _ then _ else _) = _
    rw [if_neg h]; rfl
  refine ⟨?_, ?_, ?_, fun a b c h => ?_⟩
  · rw [ne 1000 5 (fun q => by have := o1 q.1.symm; omega)]; exact hR.n1
  · rw [ne 1000 12 (fun q => by have := o1 q.1.symm; omega)]; exact hR.n2
  · rw [ne 1000 19 (fun q => by have := o1 q.1.symm; omega)]; exact hR.n3
  · have h' : dM σ a b c := by
      have e13 : ∀ z, (su σ t i j v).2 13 z 0 = σ.2 13 z 0 := fun z => su_ne (fun q => ht.1 q.1.symm)
      have e14 : ∀ z, (su σ t i j v).2 14 z 0 = σ.2 14 z 0 := fun z => su_ne (fun q => ht.2 q.1.symm)
      unfold dM at h ⊢
      simp only [e13, e14] at h
      exact h
    by_cases q : a = t ∧ b = i ∧ c = j
    · obtain ⟨rfl, rfl, rfl⟩ := q
      rw [su_at]; exact mS_at
    · rw [su_ne q, ne _ _ (fun z => q (LM_inj hI h' hd z.1 z.2))]
      exact hR.2.2.2 a b c h'
def mSeg (M : Mem) (k b n : Nat) (f : Nat → Int32) : Mem := (fun a c => if a = k ∧ b ≤ c ∧ c < b + n then f (c - b) else M.1 a c, M.2)
theorem mSeg_0 {M : Mem} {k b : Nat} {f : Nat → Int32} : mSeg M k b 0 f = M := by
  unfold mSeg
  apply Prod.ext
  · funext a c
    show (if _ then _ else _) = _
    rw [if_neg (by omega)]
  · rfl
theorem mSeg_s {M : Mem} {k b n : Nat} {f : Nat → Int32} : mS (mSeg M k b n f) k (b + n) (f n) = mSeg M k b (n + 1) f := by
  unfold mSeg mS
  apply Prod.ext
  · funext a c
    by_cases h1 : a = k ∧ c = b + n
    · obtain ⟨rfl, rfl⟩ := h1
      simp only [and_self, if_true]
      rw [if_pos (show True ∧ b ≤ b + n ∧ b + n < b + (n + 1) from ⟨trivial, by omega, by omega⟩), Nat.add_sub_cancel_left]
    · by_cases h2 : a = k ∧ b ≤ c ∧ c < b + n
      · simp only [if_neg h1, if_pos h2]
        rw [if_pos (by omega)]
      · simp only [if_neg h1, if_neg h2]
        rw [if_neg (by omega)]
  · rfl
theorem mSeg_in {M : Mem} {k b n j : Nat} {f : Nat → Int32} (h : j < n) : mG (mSeg M k b n f) k (b + j) = f j := by
  show (if _ then _ else _) = _
  rw [if_pos (by omega), Nat.add_sub_cancel_left]
theorem mSeg_out {M : Mem} {k b n a c : Nat} {f : Nat → Int32} (h : ¬ (a = k ∧ b ≤ c ∧ c < b + n)) : mG (mSeg M k b n f) a c = mG M a c := by
  show (if _ then _ else _) = _
  rw [if_neg h]; rfl
theorem mSeg_k {M : Mem} {k b n a c : Nat} {f : Nat → Int32} (h : a ≠ k) : mG (mSeg M k b n f) a c = mG M a c := mSeg_out (fun q => h q.1)
theorem RM_row {M : Mem} {σ : Sg} (hI : Iv σ) (hR : RM M σ) {t i n : Nat} {f : Nat → Int32} (k b : Nat) (hl : ∀ j, j < n → dM σ t i j ∧ LM t i j = (k, b + j)) (ht : t ≠ 13 ∧ t ≠ 14) (hk : k ≠ 1000) : RM (mSeg M k b n f) (aftR σ t i n f) := by
  refine ⟨(mSeg_k (by omega)).trans hR.n1, (mSeg_k (by omega)).trans hR.n2, (mSeg_k (by omega)).trans hR.n3, fun a c d h => ?_⟩
  have h' : dM σ a c d := by
    have e13 : ∀ z, (aftR σ t i n f).2 13 z 0 = σ.2 13 z 0 := fun z => if_neg (fun q => ht.1 q.1.symm)
    have e14 : ∀ z, (aftR σ t i n f).2 14 z 0 = σ.2 14 z 0 := fun z => if_neg (fun q => ht.2 q.1.symm)
    unfold dM at h ⊢
    simp only [e13, e14] at h
    exact h
  by_cases q : a = t ∧ c = i ∧ d < n
  · obtain ⟨rfl, rfl, q⟩ := q
    have ev : (aftR σ a c n f).2 a c d = f d := if_pos ⟨rfl, rfl, q⟩
    rw [ev, (hl d q).2]
    exact mSeg_in q
  · have ev : (aftR σ t i n f).2 a c d = σ.2 a c d := if_neg q
    rw [ev, mSeg_out]
    · exact hR.2.2.2 a c d h'
    · intro z
      have hh := hl ((LM a c d).2 - b) (by omega)
      have := LM_inj hI h' hh.1 (by rw [hh.2]; exact z.1) (by rw [hh.2]; simp only; omega)
      exact q ⟨this.1, this.2.1, by omega⟩
def rM (e : Int32) (σ : Sg) (M : Mem) : Option Value → Mem → Prop := retI (fun r M2 => r = e ∧ RM M2 σ ∧ kM M M2)
def rMJ (e : Int64) (σ : Sg) (M : Mem) : Option Value → Mem → Prop := retJ (fun r M2 => r = e ∧ RM M2 σ ∧ kM M M2)
theorem mS_kM {M : Mem} {k j : Nat} {v : Int32} (h : 1000 ≤ k) : kM M (mS M k j v) := fun a ha => ⟨by funext b; simp [mS, show ¬ a = k by omega], rfl⟩
theorem mSeg_kM {M : Mem} {k b n : Nat} {f : Nat → Int32} (h : 1000 ≤ k) : kM M (mSeg M k b n f) := fun a ha => ⟨by funext c; simp [mSeg, show ¬ a = k by omega], rfl⟩
theorem mRow_kM {M : Mem} {k n : Nat} {f : Nat → Int32} (h : 1000 ≤ k) : kM M (mRow M k n f) := fun a ha => ⟨by funext c; simp [mRow, show ¬ a = k by omega], rfl⟩
theorem mS_kq {M : Mem} {k j : Nat} {v : Int32} (h : scM k j) : kq M (mS M k j v) := ⟨fun a b q => by
  show (if _ then _ else _) = _
  rw [if_neg (fun z => q (by rw [z.1, z.2]; exact h))]; rfl, fun _ _ => rfl⟩
theorem mRow_kq {M : Mem} {k n : Nat} {f : Nat → Int32} (h : ∀ j, scM k j) : kq M (mRow M k n f) := ⟨fun a b q => by
  show (if _ then _ else _) = _
  rw [if_neg (fun z => q (by rw [z.1]; exact h b))]; rfl, fun _ _ => rfl⟩
theorem jS_kq {M : Mem} {j : Nat} {v : Int64} : kq M (jS M 1000 j v) := ⟨fun a b q => rfl, fun k hk => by funext b; simp [jS, hk]⟩
def inJ (v lo hi : Int64) : Bool := decide (lo.toInt ≤ v.toInt ∧ v.toInt ≤ hi.toInt)
theorem inJ_ix {x : Int32} {hi : Int64} (n : Nat) (h : hi.toInt = (n : Int) - 1) : inJ x.toInt64 0 hi = ixB x n := by
  unfold inJ ixB
  rw [Int32.toInt_toInt64, h, show (0 : Int64).toInt = 0 from rfl]
  exact decide_eq_decide.mpr ⟨fun q => by omega, fun q => by omega⟩
