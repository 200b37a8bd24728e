/-! ===== the reference: long numbers, scores ===== -/
theorem bm64 {x : Int} (h1 : -9223372036854775808 ≤ x) (h2 : x < 9223372036854775808) : x.bmod (2 ^ 64) = x := Int.bmod_eq_of_le (by omega) (by omega)
def nL (n : Nat) : Int64 := Int64.ofInt (n : Int)
theorem nL_t {n : Nat} (h : n < 2 ^ 63) : (nL n).toInt = n := Int64.toInt_ofInt_of_le (by omega) (by omega)
theorem nL_of {x : Int64} {n : Nat} (h : x.toInt = n) : x = nL n := by rw [← Int64.ofInt_toInt x, h]; rfl
theorem nL_div {p q : Nat} (hp : p < 2 ^ 63) (hq : q < 2 ^ 63) : nL p / nL q = nL (p / q) := by
  have h1 : p / q ≤ p := Nat.div_le_self p q
  refine nL_of ?_
  rw [Int64.toInt_div, nL_t hp, nL_t hq, ← Int.ofNat_tdiv]
  generalize p / q = z at h1
  rw [bm64 (by omega) (by omega)]
theorem nL_mod {p q : Nat} (hp : p < 2 ^ 63) (hq : q < 2 ^ 63) : nL p % nL q = nL (p % q) := by
  refine nL_of ?_
  rw [Int64.toInt_mod, nL_t hp, nL_t hq, ← Int.ofNat_tmod]
theorem nL_eq {p q : Nat} (hp : p < 2 ^ 63) (hq : q < 2 ^ 63) : nL p = nL q ↔ p = q := by
  refine ⟨fun h => ?_, fun h => by rw [h]⟩
  have := congrArg Int64.toInt h
  rw [nL_t hp, nL_t hq] at this
  omega
theorem nL_lt {p q : Nat} (hp : p < 2 ^ 63) (hq : q < 2 ^ 63) : nL p < nL q ↔ p < q := by rw [i64_lt, nL_t hp, nL_t hq]; omega
theorem nL_0 {p : Nat} (hp : p < 2 ^ 63) : nL p = 0 ↔ p = 0 := nL_eq (q := 0) hp (by decide)
theorem nL_c0 {p : Nat} (hp : p < 2 ^ 63) : lg_cmp (nL p) 0 = 0 ↔ p = 0 := lgc_eq.trans (nL_0 hp)
theorem nL_sub {p q : Nat} (hp : p < 2 ^ 63) (h : q ≤ p) : nL p - nL q = nL (p - q) := by
  refine nL_of ?_
  rw [Int64.toInt_sub, nL_t hp, nL_t (by omega), bm64 (by omega) (by omega)]
  omega
theorem nL_mul {p q : Nat} (h : p * q < 2 ^ 63) (hp : p < 2 ^ 63) (hq : q < 2 ^ 63) : nL p * nL q = nL (p * q) := by
  refine nL_of ?_
  have e : (p : Int) * (q : Int) = ((p * q : Nat) : Int) := (Int.natCast_mul p q).symm
  rw [Int64.toInt_mul, nL_t hp, nL_t hq, e, bm64 (by omega) (by omega)]
theorem nL_rem {p q : Nat} (hp : p < 2 ^ 63) (hq : q < 2 ^ 63) : nL p - nL p / nL q * nL q = nL (p % q) := by
  have h1 : p / q * q ≤ p := Nat.div_mul_le_self p q
  have h2 : p / q ≤ p := Nat.div_le_self p q
  rw [nL_div hp hq, nL_mul (by omega) (by omega) hq, nL_sub hp h1]
  congr 1
  have h3 : q * (p / q) + p % q = p := Nat.div_add_mod p q
  rw [Nat.mul_comm] at h3
  omega
def mrB (tu : Bool) (p q r t : Nat) : Bool := if tu then decide (p * t < r * q) else decide (r * q < p * t)
theorem fr_lt {p q r t : Nat} (hq : 0 < q) (ht : 0 < t) (h : p / q < r / t) : p * t < r * q := by
  have h1 : p < (p / q + 1) * q := by
    have := Nat.div_add_mod p q
    have := Nat.mod_lt p hq
    rw [Nat.add_mul, Nat.mul_comm (p / q)]; omega
  have h2 : (p / q + 1) * t ≤ r := by
    have := Nat.div_mul_le_self r t
    exact Nat.le_trans (Nat.mul_le_mul_right t h) this
  have h3 : p * t < (p / q + 1) * q * t := Nat.mul_lt_mul_of_pos_right h1 ht
  have h4 : (p / q + 1) * t * q ≤ r * q := Nat.mul_le_mul_right q h2
  have h5 : (p / q + 1) * q * t = (p / q + 1) * t * q := Nat.mul_right_comm _ _ _
  omega
theorem mr_ne {tu : Bool} {p q r t : Nat} (hq : 0 < q) (ht : 0 < t) (h : ¬ p / q = r / t) : mrB tu p q r t = (decide (r / t < p / q) != tu) := by
  unfold mrB
  rcases Nat.lt_or_gt_of_ne h with g | g
  · have a0 := fr_lt hq ht g
    have a1 : decide (r * q < p * t) = false := decide_eq_false (by omega)
    have a2 : decide (p * t < r * q) = true := decide_eq_true a0
    have a3 : decide (r / t < p / q) = false := decide_eq_false (Nat.not_lt.mpr (Nat.le_of_lt g))
    rw [a1, a2, a3]; cases tu <;> rfl
  · have a0 := fr_lt ht hq g
    have a1 : decide (r * q < p * t) = true := decide_eq_true a0
    have a2 : decide (p * t < r * q) = false := decide_eq_false (by omega)
    have a3 : decide (r / t < p / q) = true := decide_eq_true g
    rw [a1, a2, a3]; cases tu <;> rfl
theorem mr_eq {tu : Bool} {p q r t : Nat} (h : p / q = r / t) : mrB tu p q r t = mrB tu (p % q) q (r % t) t := by
  have e1 : p * t = q * (p / q) * t + p % q * t := by rw [← Nat.add_mul, Nat.div_add_mod]
  have e2 : r * q = t * (r / t) * q + r % t * q := by rw [← Nat.add_mul, Nat.div_add_mod]
  have e3 : q * (p / q) * t = t * (r / t) * q := by rw [h, Nat.mul_right_comm, Nat.mul_comm q t, Nat.mul_right_comm]
  unfold mrB
  rw [e1, e2, e3]
  cases tu <;> simp
theorem mr_z {tu : Bool} {p q r t : Nat} (hq : 0 < q) (ht : 0 < t) (h : p = 0 ∨ r = 0) : mrB tu p q r t = (if tu then decide (p = 0 ∧ ¬ r = 0) else decide (¬ p = 0 ∧ r = 0)) := by
  have a : ∀ x y : Nat, 0 < y → (0 < x * y ↔ ¬ x = 0) := fun x y hy => by
    rw [Nat.mul_pos_iff_of_pos_right hy]; omega
  unfold mrB
  rcases h with rfl | rfl
  · cases tu <;> simp [a r q hq, Nat.zero_mul]
  · cases tu <;> simp [a p t ht, Nat.zero_mul]
theorem mr_sw {tu : Bool} {p q r t : Nat} : mrB tu p q r t = mrB (!tu) q p t r := by
  unfold mrB
  rw [Nat.mul_comm q r, Nat.mul_comm t p]
  cases tu <;> rfl
set_option maxRecDepth 100000 in
theorem l_M_isMore {M : Mem} {x0 x2 x4 x6 : Int64} : ∀ N p q r t tu o17 o19 o21, q < N → 0 < q → 0 < t → q < 2 ^ 63 → t < 2 ^ 63 → p < 2 ^ 63 ∧ r < 2 ^ 63 → CW u_M_isMore (pI (b2 (mrB tu p q r t)) M) 17 [some (.long x0), none, some (.long x2), none, some (.long x4), none, some (.long x6), none, some (.long (nL p)), none, some (.long (nL q)), none, some (.long (nL r)), none, some (.long (nL t)), none, some (.int (b2 tu)), o17, none, o19, none, o21, none] [] M := by
  intro N
  induction N with
  | zero =>
    intro p q r t tu o17 o19 o21 h
    omega
  | succ N ih =>
    intro p q r t tu o17 o19 o21 hN hq0 ht0 hq1 ht1 hpr
    obtain ⟨hp1, hr1⟩ := hpr
    have hd1 : p / q ≤ p := Nat.div_le_self p q
    have hd2 : r / t ≤ r := Nat.div_le_self r t
    refine cw_lload d_M_isMore_17 rfl ?_
    refine cw_lload d_M_isMore_19 rfl ?_
    refine cw_ldiv d_M_isMore_21 (fun z => by have := (nL_0 (by omega)).mp z; omega) ?_
    refine cw_topJ (nL_div (by omega) (by omega)) ?_
    refine cw_lstore d_M_isMore_22 rfl ?_
    refine cw_lload d_M_isMore_24 rfl ?_
    refine cw_lload d_M_isMore_26 rfl ?_
    refine cw_ldiv d_M_isMore_28 (fun z => by have := (nL_0 (by omega)).mp z; omega) ?_
    refine cw_topJ (nL_div (by omega) (by omega)) ?_
    refine cw_lstore d_M_isMore_29 rfl ?_
    refine cw_lload d_M_isMore_31 rfl ?_
    refine cw_lload d_M_isMore_33 rfl ?_
    refine cw_lcmp d_M_isMore_35 ?_
    refine cw_if_eq 63 d_M_isMore_36 (by decide) (fun c_36 => ?_) (fun c_36 => ?_)
    · have hm : mrB tu p q r t = mrB tu (p % q) q (r % t) t := mr_eq ((nL_eq (by omega) (by omega)).mp (lgc_eq.mp c_36))
      have hp2 : p % q < q := Nat.mod_lt p hq0
      have hr2 : r % t < t := Nat.mod_lt r ht0
      refine cw_lload d_M_isMore_63 rfl ?_
      refine cw_lload d_M_isMore_65 rfl ?_
      refine cw_lrem d_M_isMore_67 (fun z => by have := (nL_0 (by omega)).mp z; omega) ?_
      refine cw_topJ (nL_rem (by omega) (by omega)) ?_
      refine cw_lstore d_M_isMore_68 rfl ?_
      refine cw_lload d_M_isMore_70 rfl ?_
      refine cw_lload d_M_isMore_72 rfl ?_
      refine cw_lrem d_M_isMore_74 (fun z => by have := (nL_0 (by omega)).mp z; omega) ?_
      refine cw_topJ (nL_rem (by omega) (by omega)) ?_
      refine cw_lstore d_M_isMore_75 rfl ?_
      refine cw_lload d_M_isMore_77 rfl ?_
      refine cw_lconst (v := 0) d_M_isMore_79 (by decide) ?_
      refine cw_lcmp d_M_isMore_80 ?_
      refine cw_if_eq 91 d_M_isMore_81 (by decide) (fun c_81 => ?_) (fun c_81 => ?_)
      · have z_81 : p % q = 0 := (nL_c0 (by omega)).mp c_81
        refine cw_iload d_M_isMore_91 rfl ?_
        refine cw_bif_eq 118 d_M_isMore_93 (by decide) (fun c_93 => ?_) (fun c_93 => ?_)
        · refine cw_lload d_M_isMore_118 rfl ?_
          refine cw_lconst (v := 0) d_M_isMore_120 (by decide) ?_
          refine cw_lcmp d_M_isMore_121 ?_
          refine cw_if_eq 136 d_M_isMore_122 (by decide) (fun c_122 => ?_) (fun c_122 => ?_)
          · have z_122 : p % q = 0 := (nL_c0 (by omega)).mp c_122
            refine cw_iconst (v := 0) d_M_isMore_136 (by decide) ?_
            refine cw_zret rfl d_M_isMore_137 (by first | exact Or.inl rfl | exact Or.inr rfl | exact b2_01 _) ?_
            exact ⟨by rw [hm, mr_z hq0 ht0 (by omega)]; simp [z_81, z_122, c_93, b2], rfl⟩
          · have z_122 : ¬ p % q = 0 := fun z => c_122 ((nL_c0 (by omega)).mpr z)
            refine cw_lload d_M_isMore_125 rfl ?_
            refine cw_lconst (v := 0) d_M_isMore_127 (by decide) ?_
            refine cw_lcmp d_M_isMore_128 ?_
            refine cw_if_ne 136 d_M_isMore_129 (by decide) (fun c_129 => ?_) (fun c_129 => ?_)
            · have z_129 : ¬ r % t = 0 := fun z => c_129 ((nL_c0 (by omega)).mpr z)
              refine cw_iconst (v := 0) d_M_isMore_136 (by decide) ?_
              refine cw_zret rfl d_M_isMore_137 (by first | exact Or.inl rfl | exact Or.inr rfl | exact b2_01 _) ?_
              exact absurd z_81 z_122
            · have z_129 : r % t = 0 := (nL_c0 (by omega)).mp c_129
              refine cw_iconst (v := 1) d_M_isMore_132 (by decide) ?_
              refine cw_goto 137 d_M_isMore_133 (by decide) ?_
              refine cw_zret rfl d_M_isMore_137 (by first | exact Or.inl rfl | exact Or.inr rfl | exact b2_01 _) ?_
              exact absurd z_81 z_122
        · refine cw_lload d_M_isMore_96 rfl ?_
          refine cw_lconst (v := 0) d_M_isMore_98 (by decide) ?_
          refine cw_lcmp d_M_isMore_99 ?_
          refine cw_if_ne 114 d_M_isMore_100 (by decide) (fun c_100 => ?_) (fun c_100 => ?_)
          · have z_100 : ¬ p % q = 0 := fun z => c_100 ((nL_c0 (by omega)).mpr z)
            refine cw_iconst (v := 0) d_M_isMore_114 (by decide) ?_
            refine cw_goto 137 d_M_isMore_115 (by decide) ?_
            refine cw_zret rfl d_M_isMore_137 (by first | exact Or.inl rfl | exact Or.inr rfl | exact b2_01 _) ?_
            exact absurd z_81 z_100
          · have z_100 : p % q = 0 := (nL_c0 (by omega)).mp c_100
            refine cw_lload d_M_isMore_103 rfl ?_
            refine cw_lconst (v := 0) d_M_isMore_105 (by decide) ?_
            refine cw_lcmp d_M_isMore_106 ?_
            refine cw_if_eq 114 d_M_isMore_107 (by decide) (fun c_107 => ?_) (fun c_107 => ?_)
            · have z_107 : r % t = 0 := (nL_c0 (by omega)).mp c_107
              refine cw_iconst (v := 0) d_M_isMore_114 (by decide) ?_
              refine cw_goto 137 d_M_isMore_115 (by decide) ?_
              refine cw_zret rfl d_M_isMore_137 (by first | exact Or.inl rfl | exact Or.inr rfl | exact b2_01 _) ?_
              exact ⟨by rw [hm, mr_z hq0 ht0 (by omega)]; simp [z_81, z_100, z_107, c_93, b2], rfl⟩
            · have z_107 : ¬ r % t = 0 := fun z => c_107 ((nL_c0 (by omega)).mpr z)
              refine cw_iconst (v := 1) d_M_isMore_110 (by decide) ?_
              refine cw_goto 137 d_M_isMore_111 (by decide) ?_
              refine cw_zret rfl d_M_isMore_137 (by first | exact Or.inl rfl | exact Or.inr rfl | exact b2_01 _) ?_
              exact ⟨by rw [hm, mr_z hq0 ht0 (by omega)]; simp [z_81, z_100, z_107, c_93, b2], rfl⟩
      · have z_81 : ¬ p % q = 0 := fun z => c_81 ((nL_c0 (by omega)).mpr z)
        refine cw_lload d_M_isMore_84 rfl ?_
        refine cw_lconst (v := 0) d_M_isMore_86 (by decide) ?_
        refine cw_lcmp d_M_isMore_87 ?_
        refine cw_if_ne 138 d_M_isMore_88 (by decide) (fun c_88 => ?_) (fun c_88 => ?_)
        · have z_88 : ¬ r % t = 0 := fun z => c_88 ((nL_c0 (by omega)).mpr z)
          refine cw_lload d_M_isMore_138 rfl ?_
          refine cw_lstore d_M_isMore_140 rfl ?_
          refine cw_lload d_M_isMore_142 rfl ?_
          refine cw_lstore d_M_isMore_144 rfl ?_
          refine cw_lload d_M_isMore_146 rfl ?_
          refine cw_lstore d_M_isMore_148 rfl ?_
          refine cw_lload d_M_isMore_150 rfl ?_
          refine cw_lstore d_M_isMore_152 rfl ?_
          refine cw_lload d_M_isMore_154 rfl ?_
          refine cw_lstore d_M_isMore_156 rfl ?_
          refine cw_lload d_M_isMore_158 rfl ?_
          refine cw_lstore d_M_isMore_160 rfl ?_
          refine cw_iload d_M_isMore_162 rfl ?_
          refine cw_tern1 172 (b2 (!tu)) ?_ (fun k_164 => ?_)
          · refine cw_istore d_M_isMore_172 rfl ?_
            refine cw_goto 17 d_M_isMore_174 (by decide) ?_
            rw [hm, mr_sw]
            exact ih q (p % q) t (r % t) (!tu) _ _ _ (by omega) (by omega) (by omega) (by omega) (by omega) (by omega)
          · refine cw_bif_ne 171 d_M_isMore_164 (by decide) (fun c_164 => ?_) (fun c_164 => ?_)
            · refine cw_iconst (v := 0) d_M_isMore_171 (by decide) ?_
              exact k_164 _ (by rw [c_164]; rfl)
            · refine cw_iconst (v := 1) d_M_isMore_167 (by decide) ?_
              refine cw_goto 172 d_M_isMore_168 (by decide) ?_
              exact k_164 _ (by rw [c_164]; rfl)
        · have z_88 : r % t = 0 := (nL_c0 (by omega)).mp c_88
          refine cw_iload d_M_isMore_91 rfl ?_
          refine cw_bif_eq 118 d_M_isMore_93 (by decide) (fun c_93 => ?_) (fun c_93 => ?_)
          · refine cw_lload d_M_isMore_118 rfl ?_
            refine cw_lconst (v := 0) d_M_isMore_120 (by decide) ?_
            refine cw_lcmp d_M_isMore_121 ?_
            refine cw_if_eq 136 d_M_isMore_122 (by decide) (fun c_122 => ?_) (fun c_122 => ?_)
            · have z_122 : p % q = 0 := (nL_c0 (by omega)).mp c_122
              refine cw_iconst (v := 0) d_M_isMore_136 (by decide) ?_
              refine cw_zret rfl d_M_isMore_137 (by first | exact Or.inl rfl | exact Or.inr rfl | exact b2_01 _) ?_
              exact absurd z_122 z_81
            · have z_122 : ¬ p % q = 0 := fun z => c_122 ((nL_c0 (by omega)).mpr z)
              refine cw_lload d_M_isMore_125 rfl ?_
              refine cw_lconst (v := 0) d_M_isMore_127 (by decide) ?_
              refine cw_lcmp d_M_isMore_128 ?_
              refine cw_if_ne 136 d_M_isMore_129 (by decide) (fun c_129 => ?_) (fun c_129 => ?_)
              · have z_129 : ¬ r % t = 0 := fun z => c_129 ((nL_c0 (by omega)).mpr z)
                refine cw_iconst (v := 0) d_M_isMore_136 (by decide) ?_
                refine cw_zret rfl d_M_isMore_137 (by first | exact Or.inl rfl | exact Or.inr rfl | exact b2_01 _) ?_
                exact absurd z_88 z_129
              · have z_129 : r % t = 0 := (nL_c0 (by omega)).mp c_129
                refine cw_iconst (v := 1) d_M_isMore_132 (by decide) ?_
                refine cw_goto 137 d_M_isMore_133 (by decide) ?_
                refine cw_zret rfl d_M_isMore_137 (by first | exact Or.inl rfl | exact Or.inr rfl | exact b2_01 _) ?_
                exact ⟨by rw [hm, mr_z hq0 ht0 (by omega)]; simp [z_81, z_88, z_122, z_129, c_93, b2], rfl⟩
          · refine cw_lload d_M_isMore_96 rfl ?_
            refine cw_lconst (v := 0) d_M_isMore_98 (by decide) ?_
            refine cw_lcmp d_M_isMore_99 ?_
            refine cw_if_ne 114 d_M_isMore_100 (by decide) (fun c_100 => ?_) (fun c_100 => ?_)
            · have z_100 : ¬ p % q = 0 := fun z => c_100 ((nL_c0 (by omega)).mpr z)
              refine cw_iconst (v := 0) d_M_isMore_114 (by decide) ?_
              refine cw_goto 137 d_M_isMore_115 (by decide) ?_
              refine cw_zret rfl d_M_isMore_137 (by first | exact Or.inl rfl | exact Or.inr rfl | exact b2_01 _) ?_
              exact ⟨by rw [hm, mr_z hq0 ht0 (by omega)]; simp [z_81, z_88, z_100, c_93, b2], rfl⟩
            · have z_100 : p % q = 0 := (nL_c0 (by omega)).mp c_100
              refine cw_lload d_M_isMore_103 rfl ?_
              refine cw_lconst (v := 0) d_M_isMore_105 (by decide) ?_
              refine cw_lcmp d_M_isMore_106 ?_
              refine cw_if_eq 114 d_M_isMore_107 (by decide) (fun c_107 => ?_) (fun c_107 => ?_)
              · have z_107 : r % t = 0 := (nL_c0 (by omega)).mp c_107
                refine cw_iconst (v := 0) d_M_isMore_114 (by decide) ?_
                refine cw_goto 137 d_M_isMore_115 (by decide) ?_
                refine cw_zret rfl d_M_isMore_137 (by first | exact Or.inl rfl | exact Or.inr rfl | exact b2_01 _) ?_
                exact absurd z_100 z_81
              · have z_107 : ¬ r % t = 0 := fun z => c_107 ((nL_c0 (by omega)).mpr z)
                refine cw_iconst (v := 1) d_M_isMore_110 (by decide) ?_
                refine cw_goto 137 d_M_isMore_111 (by decide) ?_
                refine cw_zret rfl d_M_isMore_137 (by first | exact Or.inl rfl | exact Or.inr rfl | exact b2_01 _) ?_
                exact absurd z_100 z_81
    · have h36 : ¬ p / q = r / t := fun z => c_36 (lgc_eq.mpr (congrArg nL z))
      refine cw_lload d_M_isMore_39 rfl ?_
      refine cw_lload d_M_isMore_41 rfl ?_
      refine cw_lcmp d_M_isMore_43 ?_
      refine cw_if_le 51 d_M_isMore_44 (by decide) (fun c_44 => ?_) (fun c_44 => ?_)
      · refine cw_iconst (v := 0) d_M_isMore_51 (by decide) ?_
        refine cw_iload d_M_isMore_52 rfl ?_
        refine cw_icmp_eq 61 d_M_isMore_54 (by decide) (fun c_54 => ?_) (fun c_54 => ?_)
        · refine cw_iconst (v := 0) d_M_isMore_61 (by decide) ?_
          refine cw_zret rfl d_M_isMore_62 (by first | exact Or.inl rfl | exact Or.inr rfl | exact b2_01 _) ?_
          have h44 : decide (r / t < p / q) = false := decide_eq_false (fun z => absurd (lgc_le.mp c_44) (i64_nle.mpr ((nL_lt (by omega) (by omega)).mpr z)))
          exact ⟨by rw [mr_ne hq0 ht0 h36, h44]; cases tu <;> first | rfl | exact absurd rfl c_54 | exact absurd c_54 (by decide), rfl⟩
        · refine cw_iconst (v := 1) d_M_isMore_57 (by decide) ?_
          refine cw_goto 62 d_M_isMore_58 (by decide) ?_
          refine cw_zret rfl d_M_isMore_62 (by first | exact Or.inl rfl | exact Or.inr rfl | exact b2_01 _) ?_
          have h44 : decide (r / t < p / q) = false := decide_eq_false (fun z => absurd (lgc_le.mp c_44) (i64_nle.mpr ((nL_lt (by omega) (by omega)).mpr z)))
          exact ⟨by rw [mr_ne hq0 ht0 h36, h44]; cases tu <;> first | rfl | exact absurd rfl c_54 | exact absurd c_54 (by decide), rfl⟩
      · refine cw_iconst (v := 1) d_M_isMore_47 (by decide) ?_
        refine cw_goto 52 d_M_isMore_48 (by decide) ?_
        refine cw_iload d_M_isMore_52 rfl ?_
        refine cw_icmp_eq 61 d_M_isMore_54 (by decide) (fun c_54 => ?_) (fun c_54 => ?_)
        · refine cw_iconst (v := 0) d_M_isMore_61 (by decide) ?_
          refine cw_zret rfl d_M_isMore_62 (by first | exact Or.inl rfl | exact Or.inr rfl | exact b2_01 _) ?_
          have h44 : decide (r / t < p / q) = true := decide_eq_true ((nL_lt (by omega) (by omega)).mp (i64_nle.mp (fun z => c_44 (lgc_le.mpr z))))
          exact ⟨by rw [mr_ne hq0 ht0 h36, h44]; cases tu <;> first | rfl | exact absurd rfl c_54 | exact absurd c_54 (by decide), rfl⟩
        · refine cw_iconst (v := 1) d_M_isMore_57 (by decide) ?_
          refine cw_goto 62 d_M_isMore_58 (by decide) ?_
          refine cw_zret rfl d_M_isMore_62 (by first | exact Or.inl rfl | exact Or.inr rfl | exact b2_01 _) ?_
          have h44 : decide (r / t < p / q) = true := decide_eq_true ((nL_lt (by omega) (by omega)).mp (i64_nle.mp (fun z => c_44 (lgc_le.mpr z))))
          exact ⟨by rw [mr_ne hq0 ht0 h36, h44]; cases tu <;> first | rfl | exact absurd rfl c_54 | exact absurd c_54 (by decide), rfl⟩
set_option maxRecDepth 100000 in
theorem s_M_isMore {M : Mem} {p q r t : Nat} (hq0 : 0 < q) (ht0 : 0 < t) (hq : q < 2 ^ 63) (ht : t < 2 ^ 63) (hp : p < 2 ^ 63) (hr : r < 2 ^ 63)  : CS u_M_isMore [.long (nL p), .long (nL q), .long (nL r), .long (nL t)] M (pI (b2 (mrB false p q r t)) M) := by
  refine cs_introF (L := [some (.long (nL p)), none, some (.long (nL q)), none, some (.long (nL r)), none, some (.long (nL t)), none, none, none, none, none, none, none, none, none, none, none, none, none, none, none, none]) (by decide +kernel) (fun ad q h => h) (fun ad => Nat.le_of_ble_eq_true rfl) ?_
  refine cw_lload_n d_M_isMore_0 rfl ?_
  refine cw_lstore d_M_isMore_1 rfl ?_
  refine cw_lload_n d_M_isMore_3 rfl ?_
  refine cw_lstore d_M_isMore_4 rfl ?_
  refine cw_lload d_M_isMore_6 rfl ?_
  refine cw_lstore d_M_isMore_8 rfl ?_
  refine cw_lload d_M_isMore_10 rfl ?_
  refine cw_lstore d_M_isMore_12 rfl ?_
  refine cw_iconst (v := 0) d_M_isMore_14 (by decide) ?_
  refine cw_istore d_M_isMore_15 rfl ?_
  exact l_M_isMore (q + 1) p q r t false _ _ _ (by omega) hq0 ht0 hq ht ⟨hp, hr⟩
theorem gc_0 {x y : Nat} (h : y ≤ x) (h2 : x * y < 2 ^ 0) : y = 0 := by
  have : x * y = 0 := by omega
  rcases Nat.mul_eq_zero.mp this with h | h <;> omega
theorem gc_s {x y n : Nat} (h : y ≤ x) (hz : ¬ y = 0) (h2 : x * y < 2 ^ (n + 1)) : y * (x % y) < 2 ^ n := by
  have h3 : x % y < y := Nat.mod_lt x (by omega)
  have h4 : y * 1 ≤ y * (x / y) := Nat.mul_le_mul_left y (Nat.div_pos h (by omega))
  have h5 : y * (x / y) + x % y = x := Nat.div_add_mod x y
  have h6 : 2 * (x % y) * y ≤ x * y := Nat.mul_le_mul_right y (by omega)
  have h7 : 2 * (x % y) * y = 2 * (y * (x % y)) := by rw [Nat.mul_assoc, Nat.mul_comm (x % y)]
  rw [Nat.pow_succ] at h2
  omega
set_option maxRecDepth 100000 in
theorem l_M_divisor {M : Mem} {x0 x2 : Int64} : ∀ (n x y : Nat) (o8 : Option Value), x < 2 ^ 63 → y < 2 ^ 63 → y ≤ x → x * y < 2 ^ n → CW u_M_divisor (pJ (gcdJ n (nL x) (nL y)) M) 17 [some (.long x0), none, some (.long x2), none, some (.long (nL x)), none, some (.long (nL y)), none, o8, none] [] M := by
  intro n
  induction n using Nat.strongRecOn with
  | _ n ih =>
  intro x y o8 hx hy0 hyx hxy
  refine cw_lload d_M_divisor_17 rfl ?_
  refine cw_lconst (v := 0) d_M_divisor_19 (by decide) ?_
  refine cw_lcmp d_M_divisor_20 ?_
  refine cw_if_eq 42 d_M_divisor_21 (by decide) (fun c_21 => ?_) (fun c_21 => ?_)
  · have hz : y = 0 := (nL_c0 (by omega)).mp c_21
    have hg : gcdJ n (nL x) (nL y) = nL x := by cases n with
      | zero => rfl
      | succ n => exact if_pos ((nL_0 (by omega)).mpr hz)
    rw [hg]
    refine cw_lload d_M_divisor_42 rfl ?_
    refine cw_lret rfl d_M_divisor_44 ?_
    exact ⟨rfl, rfl⟩
  · have hz : ¬ y = 0 := fun z => c_21 ((nL_c0 (by omega)).mpr z)
    have hy : ¬ nL y = 0 := fun z => hz ((nL_0 (by omega)).mp z)
    have hr2 : x % y < y := Nat.mod_lt x (by omega)
    cases n with
    | zero => exact absurd (gc_0 hyx hxy) hz
    | succ n =>
    refine cw_lload d_M_divisor_24 rfl ?_
    refine cw_lload d_M_divisor_26 rfl ?_
    refine cw_lrem d_M_divisor_28 hy ?_
    refine cw_topJ (nL_rem (by omega) (by omega)) ?_
    refine cw_lstore d_M_divisor_29 rfl ?_
    refine cw_lload d_M_divisor_31 rfl ?_
    refine cw_lstore d_M_divisor_33 rfl ?_
    refine cw_lload d_M_divisor_35 rfl ?_
    refine cw_lstore d_M_divisor_37 rfl ?_
    refine cw_goto 17 d_M_divisor_39 (by decide) ?_
    have hg : gcdJ (n + 1) (nL x) (nL y) = gcdJ n (nL y) (nL (x % y)) := (if_neg hy).trans (by rw [nL_rem (by omega) (by omega)])
    rw [hg]
    exact ih n (by omega) y (x % y) _ (by omega) (by omega) (by omega) (gc_s hyx hz hxy)
set_option maxRecDepth 100000 in
theorem s_M_divisor {M : Mem} {x : Int64} {a b : Nat} (hx : absJ x = nL a) (ha : a < 2 ^ 63) (hb0 : 0 < b) (hb : b < 2 ^ 49)  : CS u_M_divisor [.long x, .long (nL b)] M (pJ (gcdJ 100 (absJ x) (nL b)) M) := by
  refine cs_introF (L := [some (.long x), none, some (.long (nL b)), none, none, none, none, none, none, none]) (by decide +kernel) (fun ad q h => h) (fun ad => Nat.le_of_ble_eq_true rfl) ?_
  refine cw_lload_n d_M_divisor_0 rfl ?_
  refine cw_lconst (v := 0) d_M_divisor_1 (by decide) ?_
  refine cw_lcmp d_M_divisor_2 ?_
  refine cw_tern1J 12 (nL a) ?_ (fun k_3 => ?_)
  · refine cw_lstore d_M_divisor_12 rfl ?_
    refine cw_lload_n d_M_divisor_14 rfl ?_
    refine cw_lstore d_M_divisor_15 rfl ?_
    rw [hx]
    have hy : ¬ nL b = 0 := fun z => by have := (nL_0 (by omega)).mp z; omega
    have hr2 : a % b < b := Nat.mod_lt a hb0
    have hg : gcdJ 100 (nL a) (nL b) = gcdJ 99 (nL b) (nL (a % b)) := (if_neg hy).trans (by rw [nL_rem (by omega) (by omega)])
    refine cw_lload d_M_divisor_17 rfl ?_
    refine cw_lconst (v := 0) d_M_divisor_19 (by decide) ?_
    refine cw_lcmp d_M_divisor_20 ?_
    refine cw_if_eq 42 d_M_divisor_21 (by decide) (fun c_21 => ?_) (fun c_21 => ?_)
    · exact absurd ((nL_c0 (by omega)).mp c_21) (by omega)
    · refine cw_lload d_M_divisor_24 rfl ?_
      refine cw_lload d_M_divisor_26 rfl ?_
      refine cw_lrem d_M_divisor_28 hy ?_
      refine cw_topJ (nL_rem (by omega) (by omega)) ?_
      refine cw_lstore d_M_divisor_29 rfl ?_
      refine cw_lload d_M_divisor_31 rfl ?_
      refine cw_lstore d_M_divisor_33 rfl ?_
      refine cw_lload d_M_divisor_35 rfl ?_
      refine cw_lstore d_M_divisor_37 rfl ?_
      refine cw_goto 17 d_M_divisor_39 (by decide) ?_
      rw [hg]
      exact l_M_divisor 99 b (a % b) _ (by omega) (by omega) (by omega) (Nat.lt_of_le_of_lt (Nat.mul_le_mul_left b (Nat.le_of_lt hr2)) (Nat.lt_of_lt_of_le (Nat.mul_lt_mul_of_lt_of_lt hb hb) (by decide)))
  · refine cw_if_ge 11 d_M_divisor_3 (by decide) (fun c_3 => ?_) (fun c_3 => ?_)
    · refine cw_lload_n d_M_divisor_11 rfl ?_
      exact k_3 _ (by rw [← hx]; unfold absJ; rw [if_pos (lgc_ge.mp c_3)])
    · refine cw_lload_n d_M_divisor_6 rfl ?_
      refine cw_lneg d_M_divisor_7 ?_
      refine cw_goto 12 d_M_divisor_8 (by decide) ?_
      exact k_3 _ (by rw [← hx]; unfold absJ; rw [if_neg (fun z => c_3 (lgc_ge.mpr z))])
theorem gc_p : ∀ (n x y : Nat), 0 < x → x < 2 ^ 63 → y < 2 ^ 63 → ∃ g, gcdJ n (nL x) (nL y) = nL g ∧ 0 < g ∧ g < 2 ^ 63 := by
  intro n
  induction n with
  | zero => exact fun x y h1 h2 h3 => ⟨x, rfl, h1, h2⟩
  | succ n ih =>
    intro x y h1 h2 h3
    by_cases hy : y = 0
    · exact ⟨x, if_pos ((nL_0 h3).mpr hy), h1, h2⟩
    · have := Nat.mod_lt x (show 0 < y by omega)
      obtain ⟨g, e, h⟩ := ih y (x % y) (by omega) h3 (by omega)
      exact ⟨g, ((if_neg (fun z => hy ((nL_0 h3).mp z))).trans (by rw [nL_rem h2 h3])).trans e, h⟩
theorem gc_nz {x : Int64} {a b : Nat} (hx : absJ x = nL a) (ha : a < 2 ^ 63) (hb0 : 0 < b) (hb : b < 2 ^ 49) : ¬ gcdJ 100 (absJ x) (nL b) = 0 := by
  have hy : ¬ nL b = 0 := fun z => by have := (nL_0 (by omega)).mp z; omega
  have := Nat.mod_lt a hb0
  have hg : gcdJ 100 (nL a) (nL b) = gcdJ 99 (nL b) (nL (a % b)) := (if_neg hy).trans (by rw [nL_rem (by omega) (by omega)])
  rw [hx, hg]
  obtain ⟨g, e, h1, h2⟩ := gc_p 99 b (a % b) hb0 (by omega) (by omega)
  rw [e]
  intro z
  have := (nL_0 h2).mp z
  omega
set_option maxRecDepth 100000 in
theorem s_M_part {M : Mem} {x : Int64} {a b : Nat} {w : Int32} (hx : absJ x = nL a) (ha : a < 2 ^ 63) (hb0 : 0 < b) (hb : b < 2 ^ 49)  : CS u_M_part [.long x, .long (nL b), .int w] M (pJ (finJ x (nL b) w (gcdJ 100 (absJ x) (nL b))) M) := by
  have hz := gc_nz hx ha hb0 hb
  refine cs_introF (L := [some (.long x), none, some (.long (nL b)), none, some (.int w)]) (by decide +kernel) (fun ad q h => h) (fun ad => Nat.le_of_ble_eq_true rfl) ?_
  refine cw_iload d_M_part_0 rfl ?_
  refine cw_if_ne 9 d_M_part_2 (by decide) (fun c_2 => ?_) (fun c_2 => ?_)
  · refine cw_lload_n d_M_part_9 rfl ?_
    refine cw_lload_n d_M_part_10 rfl ?_
    refine cw_lload_n d_M_part_11 rfl ?_
    refine cw_staticPJ (s_M_divisor hx ha hb0 hb) rfl ml_M_207 rfl rfl d_M_part_12 ?_
    refine cw_ldiv d_M_part_15 hz ?_
    refine cw_lret rfl d_M_part_16 ?_
    exact ⟨by unfold finJ; rw [if_neg hz]; exact (if_neg c_2).symm, rfl⟩
  · refine cw_lload_n d_M_part_5 rfl ?_
    refine cw_goto 10 d_M_part_6 (by decide) ?_
    refine cw_lload_n d_M_part_10 rfl ?_
    refine cw_lload_n d_M_part_11 rfl ?_
    refine cw_staticPJ (s_M_divisor hx ha hb0 hb) rfl ml_M_207 rfl rfl d_M_part_12 ?_
    refine cw_ldiv d_M_part_15 hz ?_
    refine cw_lret rfl d_M_part_16 ?_
    exact ⟨by unfold finJ; rw [if_neg hz]; exact (if_pos c_2).symm, rfl⟩
