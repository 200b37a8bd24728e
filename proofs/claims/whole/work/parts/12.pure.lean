/-! ===== pure words of both sides ===== -/
def absS (x : Int32) : Int32 := if 0 ≤ x then x else -x
def bit (s : Int32) (h : Nat) : Bool := decide ((s >>> (nI h &&& 31)) &&& 1 = 1)
def sumUp (f : Nat → Int32) : Nat → Int32
  | 0 => 0
  | i + 1 => sumUp f i + f i
def sumUpJ (f : Nat → Int64) : Nat → Int64
  | 0 => 0
  | i + 1 => sumUpJ f i + f i
def cntUp (f : Nat → Bool) : Nat → Nat
  | 0 => 0
  | i + 1 => if f i then cntUp f i + 1 else cntUp f i
def anyUp (f : Nat → Bool) : Nat → Bool
  | 0 => false
  | i + 1 => anyUp f i || f i
theorem cntUp_le (f : Nat → Bool) (n : Nat) : cntUp f n ≤ n := by
  induction n with
  | zero => simp [cntUp]
  | succ n ih => simp only [cntUp]; split <;> omega
theorem cntUp_t {f : Nat → Bool} {i : Nat} (h : f i = true) : cntUp f (i + 1) = cntUp f i + 1 := by simp [cntUp, h]
theorem cntUp_f {f : Nat → Bool} {i : Nat} (h : f i = false) : cntUp f (i + 1) = cntUp f i := by simp [cntUp, h]
theorem sumUp_s (f : Nat → Int32) (i : Nat) : sumUp f (i + 1) = sumUp f i + f i := rfl
theorem sumUp_0 {f : Nat → Int32} {i : Nat} (h : f i = 0) : sumUp f (i + 1) = sumUp f i := by rw [sumUp_s, h, Int32.add_zero]
theorem sumUp_congr {f g : Nat → Int32} {n : Nat} (h : ∀ i, i < n → f i = g i) : sumUp f n = sumUp g n := by
  induction n with
  | zero => rfl
  | succ n ih => rw [sumUp_s, sumUp_s, ih (fun i hi => h i (by omega)), h n (by omega)]
theorem sumUpJ_congr {f g : Nat → Int64} {n : Nat} (h : ∀ i, i < n → f i = g i) : sumUpJ f n = sumUpJ g n := by
  induction n with
  | zero => rfl
  | succ n ih => simp only [sumUpJ]; rw [ih (fun i hi => h i (by omega)), h n (by omega)]
theorem anyUp_t {f : Nat → Bool} {i n : Nat} (hi : i < n) (h : f i = true) : anyUp f n = true := by
  induction n with
  | zero => omega
  | succ n ih =>
    simp only [anyUp, Bool.or_eq_true]
    by_cases e : i = n
    · subst e; exact Or.inr h
    · exact Or.inl (ih (by omega))
theorem anyUp_congr {f g : Nat → Bool} {n : Nat} (h : ∀ i, i < n → f i = g i) : anyUp f n = anyUp g n := by
  induction n with
  | zero => rfl
  | succ n ih => simp only [anyUp]; rw [ih (fun i hi => h i (by omega)), h n (by omega)]
def setB (s : Int32) (n : Nat) : Bool := decide (0 < s.toInt ∧ s.toInt < ((2 ^ n : Nat) : Int))
theorem shl1 : ∀ n, n ≤ 8 → (1 : Int32) <<< (nI n &&& 31) = nI (2 ^ n) := by decide +kernel
theorem pow8 {n : Nat} (h : n ≤ 8) : 1 ≤ 2 ^ n ∧ 2 ^ n ≤ 256 := ⟨Nat.one_le_two_pow, by
  have : 2 ^ n ≤ 2 ^ 8 := Nat.pow_le_pow_right (by decide) h
  simpa using this⟩
def meanS (σ : Sg) (s : Int32) (p : Nat) : Int32 := sumUp (fun h => if bit s h then σ.2 1 h p else 0) σ.1.1 / nI (cntUp (bit s) σ.1.1)
theorem cnt_pos0 : ∀ n, n ≤ 8 → ∀ k, k < 256 → 0 < k → k < 2 ^ n → 0 < cntUp (bit (nI k)) n := by decide +kernel
theorem cnt_pos {s : Int32} {n : Nat} (hn : n ≤ 8) (h : setB s n = true) : 0 < cntUp (bit s) n := by
  have h1 := of_decide_eq_true h
  have h2 := pow8 hn
  obtain ⟨k, hk⟩ : ∃ k : Nat, s.toInt = (k : Int) := ⟨s.toInt.toNat, by omega⟩
  have e : s = nI k := nI_ofInt hk (by omega)
  rw [e]
  exact cnt_pos0 n hn k (by omega) (by omega) (by omega)
def clS (w : Int32) : Int32 := if 7000 < w then 7000 else if w < -7000 then -7000 else w
def drawnS (mean place ten : Int32) : Int32 := if place = LO ∨ ten = LO then LO else clS (mean + (place - mean) * ten / 10)
def distP (odd x y : Int32) : Int32 := if x = LO ∨ y = LO then (if x = y then 0 else odd) else absS (x - y)
def distS (odd : Int32) (a b : Nat → Int32) : Int32 := sumUp (fun p => distP odd (a p) (b p)) 8
def offP (ruin : Int32) (ln mn : Nat → Int32) (p : Nat) : Bool := decide (¬ ln p = LO ∧ ruin < absS (ln p - mn p))
def offB (ruin : Int32) (ln mn : Nat → Int32) : Bool := anyUp (offP ruin ln mn) 8
theorem clS_mm (w : Int32) : clS w = (if -7000 < (if w < 7000 then w else 7000) then (if w < 7000 then w else 7000) else -7000) := by
  unfold clS
  have h7 : (7000 : Int32).toInt = 7000 := rfl
  have h8 : (-7000 : Int32).toInt = -7000 := rfl
  by_cases h1 : w < 7000
  · simp only [if_pos h1]
    by_cases h2 : -7000 < w
    · rw [if_pos h2, if_neg, if_neg] <;> rw [i32_lt] at * <;> omega
    · rw [if_neg h2, if_neg (by rw [i32_lt] at *; omega)]
      by_cases h3 : w < -7000
      · rw [if_pos h3]
      · rw [if_neg h3]
        apply Int32.toInt_inj.mp
        rw [i32_lt] at *
        omega
  · simp only [if_neg h1]
    rw [if_pos (show (-7000 : Int32) < 7000 by decide)]
    by_cases h2 : 7000 < w
    · rw [if_pos h2]
    · rw [if_neg h2, if_neg (by rw [i32_lt] at *; omega)]
      apply Int32.toInt_inj.mp
      rw [i32_lt] at *
      omega
/-! ===== what of the memory is not read by RC may change ===== -/
def live (σ : Sg) (k : Nat) : Prop := k < 6 ∨ (10 ≤ k ∧ k < 60) ∨ (60 ≤ k ∧ k < 60 + σ.1.2.2) ∨ (70 ≤ k ∧ k < 70 + σ.1.2.2) ∨ (80 ≤ k ∧ k < 100) ∨ (100 ≤ k ∧ k < 100 + σ.1.2.1) ∨ (200 ≤ k ∧ k < 200 + σ.1.2.1) ∨ (300 ≤ k ∧ k < 300 + σ.1.2.1) ∨ 1000 ≤ k
def kp (σ : Sg) (M M' : Mem) : Prop := ∀ k, live σ k → M'.1 k = M.1 k ∧ M'.2 k = M.2 k
theorem kp.rf {σ : Sg} {M : Mem} : kp σ M M := fun _ _ => ⟨rfl, rfl⟩
theorem kp.tr {σ : Sg} {M1 M2 M3 : Mem} (h1 : kp σ M1 M2) (h2 : kp σ M2 M3) : kp σ M1 M3 := fun k h => ⟨(h2 k h).1.trans (h1 k h).1, (h2 k h).2.trans (h1 k h).2⟩
theorem kp.kC {σ : Sg} {M M' : Mem} (h : kp σ M M') : kC M M' := fun k hk => h k (Or.inr (Or.inr (Or.inr (Or.inr (Or.inr (Or.inr (Or.inr (Or.inr hk))))))))
theorem LC_live {σ : Sg} (h2 : σ.1.2.1 ≤ 30) (h3 : σ.1.2.2 ≤ 4) {t i j : Nat} (h : dC σ t i j) : live σ (LC t i j).1 := by
  unfold dC at h
  unfold LC live
  split <;> simp_all <;> omega
theorem RC.kp {M M' : Mem} {σ : Sg} (hI : Iv σ) (h : RC M σ) (hk : kp σ M M') : RC M' σ := by
  obtain ⟨g1, g2, g3, g4, g5⟩ := h
  have l0 : live σ 0 := Or.inl (by omega)
  refine ⟨?_, ?_, ?_, fun t i j hd => ?_, fun a ha => ⟨fun p hp => ?_, ?_⟩⟩
  · rw [mG, (hk 0 l0).1]; exact g1
  · rw [mG, (hk 0 l0).1]; exact g2
  · rw [mG, (hk 0 l0).1]; exact g3
  · rw [mG, (hk _ (LC_live hI.2.1 hI.2.2.1 hd)).1]; exact g4 t i j hd
  · rw [mG, (hk _ (Or.inr (Or.inl (by omega)))).1]; exact (g5 a ha).1 p hp
  · rw [mG, (hk _ (Or.inr (Or.inl (by omega)))).1]; exact (g5 a ha).2
def mRow (M : Mem) (r n : Nat) (f : Nat → Int32) : Mem := (fun k j => if k = r ∧ j < n then f j else M.1 k j, M.2)
theorem mRow_0 {M : Mem} {r : Nat} {f : Nat → Int32} : mRow M r 0 f = M := by
  unfold mRow
  apply Prod.ext
  · funext k j; simp
  · rfl
theorem mRow_s {M : Mem} {r n : Nat} {f : Nat → Int32} : mS (mRow M r n f) r n (f n) = mRow M r (n + 1) f := by
  unfold mRow mS
  apply Prod.ext
  · funext k j
    by_cases h1 : k = r ∧ j = n
    · obtain ⟨rfl, rfl⟩ := h1; simp
    · by_cases h2 : k = r ∧ j < n
      · simp [h2, show ¬ j = n by omega, show j < n + 1 by omega]
      · have : ¬ (k = r ∧ j < n + 1) := fun q => by
          rcases Nat.lt_or_ge j n with z | z
          · exact h2 ⟨q.1, z⟩
          · exact h1 ⟨q.1, by omega⟩
        simp only [if_neg h1, if_neg h2, if_neg this]
  · rfl
theorem mRow_kp {σ : Sg} {M : Mem} {r n : Nat} {f : Nat → Int32} (h : ¬ live σ r) : kp σ M (mRow M r n f) := by
  intro k hk
  have : k ≠ r := fun e => h (e ▸ hk)
  exact ⟨by funext j; simp [mRow, this], rfl⟩
theorem mRow_in {M : Mem} {r n j : Nat} {f : Nat → Int32} (h : j < n) : mG (mRow M r n f) r j = f j := by simp [mRow, mG, h]
theorem mRow_out {M : Mem} {r n k j : Nat} {f : Nat → Int32} (h : k ≠ r) : mG (mRow M r n f) k j = mG M k j := by simp [mRow, mG, h]
theorem RC.n1 {M : Mem} {σ : Sg} (h : RC M σ) : mG M 0 5 = nI σ.1.1 := h.1
theorem RC.n2 {M : Mem} {σ : Sg} (h : RC M σ) : mG M 0 6 = nI σ.1.2.1 := h.2.1
theorem RC.n3 {M : Mem} {σ : Sg} (h : RC M σ) : mG M 0 7 = nI σ.1.2.2 := h.2.2.1
theorem RC.pl {M : Mem} {σ : Sg} (h : RC M σ) {i j : Nat} (hi : i < 8) (hj : j < 8) : mG M (20 + i) j = σ.2 1 i j := h.2.2.2.1 1 i j ⟨hi, hj⟩
theorem RC.tx {M : Mem} {σ : Sg} (h : RC M σ) {i j : Nat} (hi : i < 4) (hj : j < 40) : mG M (40 + i) j = σ.2 2 i j := h.2.2.2.1 2 i j ⟨hi, hj⟩
theorem RC.ty {M : Mem} {σ : Sg} (h : RC M σ) {i : Nat} (hi : i < 4) : mG M (30 + i) 2 = σ.2 3 i 0 := h.2.2.2.1 3 i 0 ⟨hi, rfl⟩
theorem RC.ru {M : Mem} {σ : Sg} (h : RC M σ) : mG M 0 8 = σ.2 4 0 0 := h.2.2.2.1 4 0 0 ⟨by decide, rfl⟩
theorem RC.la {M : Mem} {σ : Sg} (h : RC M σ) : mG M 0 9 = σ.2 4 1 0 := h.2.2.2.1 4 1 0 ⟨by decide, rfl⟩
theorem RC.od {M : Mem} {σ : Sg} (h : RC M σ) : mG M 0 10 = σ.2 4 2 0 := h.2.2.2.1 4 2 0 ⟨by decide, rfl⟩
theorem RC.dh {M : Mem} {σ : Sg} (h : RC M σ) {i : Nat} (hi : i < σ.1.2.1) : mG M (100 + i) 2 = σ.2 5 i 0 := h.2.2.2.1 5 i 0 ⟨hi, rfl⟩
theorem RC.dy {M : Mem} {σ : Sg} (h : RC M σ) {i : Nat} (hi : i < σ.1.2.1) : mG M (100 + i) 3 = σ.2 6 i 0 := h.2.2.2.1 6 i 0 ⟨hi, rfl⟩
theorem RC.dk {M : Mem} {σ : Sg} (h : RC M σ) {i : Nat} (hi : i < σ.1.2.1) : mG M (100 + i) 4 = σ.2 7 i 0 := h.2.2.2.1 7 i 0 ⟨hi, rfl⟩
theorem RC.df {M : Mem} {σ : Sg} (h : RC M σ) {i : Nat} (hi : i < σ.1.2.1) : mG M (100 + i) 5 = σ.2 8 i 0 := h.2.2.2.1 8 i 0 ⟨hi, rfl⟩
theorem RC.li {M : Mem} {σ : Sg} (h : RC M σ) {i j : Nat} (hi : i < σ.1.2.1) (hj : j < 8) : mG M (300 + i) j = σ.2 9 i j := h.2.2.2.1 9 i j ⟨hi, hj⟩
theorem RC.me {M : Mem} {σ : Sg} (h : RC M σ) {i j : Nat} (hi : i < σ.1.2.1) (hj : j < 8) : mG M (200 + i) j = σ.2 10 i j := h.2.2.2.1 10 i j ⟨hi, hj⟩
theorem RC.kk {M : Mem} {σ : Sg} (h : RC M σ) {i : Nat} (hi : i < σ.1.2.2) : mG M (60 + i) 1 = σ.2 11 i 0 := h.2.2.2.1 11 i 0 ⟨hi, rfl⟩
theorem RC.ow {M : Mem} {σ : Sg} (h : RC M σ) {i j : Nat} (hi : i < σ.1.2.2) (hj : j < 8) : mG M (70 + i) j = σ.2 12 i j := h.2.2.2.1 12 i j ⟨hi, hj⟩
theorem RC.fo {M : Mem} {σ : Sg} (h : RC M σ) {i : Nat} (hi : i < 4) : mG M (80 + i) 1 = σ.2 13 i 0 := h.2.2.2.1 13 i 0 ⟨hi, rfl⟩
theorem RC.si {M : Mem} {σ : Sg} (h : RC M σ) {i : Nat} (hi : i < 4) : mG M (80 + i) 2 = σ.2 14 i 0 := h.2.2.2.1 14 i 0 ⟨hi, rfl⟩
theorem RC.it {M : Mem} {σ : Sg} (h : RC M σ) {i j : Nat} (hi : i < 4) (hj : j < 60) : mG M (90 + i) j = σ.2 15 i j := h.2.2.2.1 15 i j ⟨hi, hj⟩
theorem RC.lt {M : Mem} {σ : Sg} (h : RC M σ) : mG M 0 11 = σ.2 16 0 0 := h.2.2.2.1 16 0 0 ⟨rfl, rfl⟩
theorem RC.tn {M : Mem} {σ : Sg} (h : RC M σ) {i j : Nat} (hi : i < 4) (hj : j < 8) : mG M (50 + i) j = (hPar σ i).2 j := (h.2.2.2.2 i hi).1 j hj
theorem RC.fa {M : Mem} {σ : Sg} (h : RC M σ) {i : Nat} (hi : i < 4) : mG M (30 + i) 3 = (hPar σ i).1 := (h.2.2.2.2 i hi).2
theorem RM.n1 {M : Mem} {σ : Sg} (h : RM M σ) : mG M 1000 5 = nI σ.1.1 := h.1
theorem RM.n2 {M : Mem} {σ : Sg} (h : RM M σ) : mG M 1000 12 = nI σ.1.2.1 := h.2.1
theorem RM.n3 {M : Mem} {σ : Sg} (h : RM M σ) : mG M 1000 19 = nI σ.1.2.2 := h.2.2.1
theorem RM.pl {M : Mem} {σ : Sg} (h : RM M σ) {i j : Nat} (hi : i < σ.1.1) (hj : j < 8) : mG M 1007 (8 * i + j) = σ.2 1 i j := h.2.2.2 1 i j ⟨hi, hj⟩
theorem RM.tx {M : Mem} {σ : Sg} (h : RM M σ) {i j : Nat} (hi : i < 4) (hj : j < 40) : mG M 1008 (40 * i + j) = σ.2 2 i j := h.2.2.2 2 i j ⟨hi, hj⟩
theorem RM.ty {M : Mem} {σ : Sg} (h : RM M σ) {i : Nat} (hi : i < 4) : mG M 1009 i = σ.2 3 i 0 := h.2.2.2 3 i 0 ⟨hi, rfl⟩
theorem RM.st {M : Mem} {σ : Sg} (h : RM M σ) {i : Nat} (hi : i < 3) : mG M 1012 i = σ.2 4 i 0 := h.2.2.2 4 i 0 ⟨hi, rfl⟩
theorem RM.dh {M : Mem} {σ : Sg} (h : RM M σ) {i : Nat} (hi : i < σ.1.2.1) : mG M 1014 i = σ.2 5 i 0 := h.2.2.2 5 i 0 ⟨hi, rfl⟩
theorem RM.dy {M : Mem} {σ : Sg} (h : RM M σ) {i : Nat} (hi : i < σ.1.2.1) : mG M 1015 i = σ.2 6 i 0 := h.2.2.2 6 i 0 ⟨hi, rfl⟩
theorem RM.dk {M : Mem} {σ : Sg} (h : RM M σ) {i : Nat} (hi : i < σ.1.2.1) : mG M 1016 i = σ.2 7 i 0 := h.2.2.2 7 i 0 ⟨hi, rfl⟩
theorem RM.df {M : Mem} {σ : Sg} (h : RM M σ) {i : Nat} (hi : i < σ.1.2.1) : mG M 1017 i = σ.2 8 i 0 := h.2.2.2 8 i 0 ⟨hi, rfl⟩
theorem RM.li {M : Mem} {σ : Sg} (h : RM M σ) {i j : Nat} (hi : i < σ.1.2.1) (hj : j < 8) : mG M 1018 (8 * i + j) = σ.2 9 i j := h.2.2.2 9 i j ⟨hi, hj⟩
theorem RM.me {M : Mem} {σ : Sg} (h : RM M σ) {i j : Nat} (hi : i < σ.1.2.1) (hj : j < 8) : mG M 1019 (8 * i + j) = σ.2 10 i j := h.2.2.2 10 i j ⟨hi, hj⟩
theorem RM.kk {M : Mem} {σ : Sg} (h : RM M σ) {i : Nat} (hi : i < σ.1.2.2) : mG M 1021 i = σ.2 11 i 0 := h.2.2.2 11 i 0 ⟨hi, rfl⟩
theorem RM.ow {M : Mem} {σ : Sg} (h : RM M σ) {i j : Nat} (hi : i < σ.1.2.2) (hj : j < 8) : mG M 1022 (8 * i + j) = σ.2 12 i j := h.2.2.2 12 i j ⟨hi, hj⟩
theorem RM.fo {M : Mem} {σ : Sg} (h : RM M σ) {i : Nat} (hi : i < 4) : mG M 1001 i = σ.2 13 i 0 := h.2.2.2 13 i 0 ⟨hi, rfl⟩
theorem RM.lt {M : Mem} {σ : Sg} (h : RM M σ) : mG M 1000 4 = σ.2 16 0 0 := h.2.2.2 16 0 0 ⟨rfl, rfl⟩
