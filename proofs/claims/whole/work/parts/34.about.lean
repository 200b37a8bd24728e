/-! ===== the class: from, ages, whose, about ===== -/
def rK (e : Int32) (σ : Sg) (M : Mem) : Option Value → Mem → Prop := retI (fun r M2 => r = e ∧ kp σ M M2)
def fromUp (hd dist : Nat → Int32) (H : Int32) : Nat → Int32 × Int32
  | 0 => (-1, 0)
  | i + 1 => if hd i = H then (if (fromUp hd dist H i).1 = -1 ∨ dist i < (fromUp hd dist H i).2 then (nI i, dist i) else fromUp hd dist H i) else fromUp hd dist H i
def fromD (σ : Sg) (d i : Nat) : Int32 := distS (σ.2 4 2 0) (σ.2 9 i) (σ.2 9 d)
def fromS (σ : Sg) (d : Nat) : Int32 := (fromUp (fun i => σ.2 5 i 0) (fromD σ d) (σ.2 5 d 0) d).1
theorem fromUp_in (hd dist : Nat → Int32) (H : Int32) (n : Nat) : (fromUp hd dist H n).1 = -1 ∨ ∃ j, j < n ∧ (fromUp hd dist H n).1 = nI j := by
  induction n with
  | zero => exact Or.inl rfl
  | succ n ih =>
    have ih' : (fromUp hd dist H n).1 = -1 ∨ ∃ j, j < n + 1 ∧ (fromUp hd dist H n).1 = nI j := ih.imp id (fun ⟨j, h1, h2⟩ => ⟨j, by omega, h2⟩)
    simp only [fromUp]
    split
    · split
      · exact Or.inr ⟨n, by omega, rfl⟩
      · exact ih'
    · exact ih'
theorem fromS_in (σ : Sg) (d : Nat) : fromS σ d = -1 ∨ ∃ j, j < d ∧ fromS σ d = nI j := fromUp_in _ _ _ d
set_option maxRecDepth 100000 in
theorem l_C_fromOf {M : Mem} {σ : Sg} (hR : RC M σ) (hI : Iv σ) {d : Nat} (hd : d < σ.1.2.1)  : ∀ i, i ≤ d → ∀ o5, CW u_C_fromOf (pI (fromS σ d) M) 7 [some (.ref 0), some (.int (nI d)), some (.int (fromUp (fun i => σ.2 5 i 0) (fromD σ d) (σ.2 5 d 0) i).1), some (.int (fromUp (fun i => σ.2 5 i 0) (fromD σ d) (σ.2 5 d 0) i).2), some (.int (nI i)), o5] [] M := by
  obtain ⟨hn1, hn2, hn3⟩ := hI.n
  refine up_ind (fun i hi ih o5 => ?_)
  refine cw_iload d_C_fromOf_7 rfl ?_
  refine cw_iload_n d_C_fromOf_9 rfl ?_
  refine cw_icmp_geN (i) (d) 80 rfl rfl (by omega) d_C_fromOf_10 (by decide) (fun c_10 => ?_) (fun c_10 => ?_)
  · refine cw_iload_n d_C_fromOf_80 rfl ?_
    refine cw_iret rfl d_C_fromOf_81 ?_
    have ei : i = d := by omega
    subst ei
    exact ⟨rfl, rfl⟩
  · refine cw_aload_n d_C_fromOf_13 rfl ?_
    refine cw_getR fl_C_23 so_C rfl d_C_fromOf_14 ?_
    refine cw_iload d_C_fromOf_17 rfl ?_
    refine cw_aaldN (i := i) sr_3 rfl (by omega) (by decide) d_C_fromOf_19 ?_
    refine cw_getI fl_C_160 (so_Sk (d := i) (by omega)) rfl d_C_fromOf_20 ?_
    refine cw_top (hR.dh (by omega)) ?_
    refine cw_aload_n d_C_fromOf_23 rfl ?_
    refine cw_getR fl_C_23 so_C rfl d_C_fromOf_24 ?_
    refine cw_iload_n d_C_fromOf_27 rfl ?_
    refine cw_aaldN (i := d) sr_3 rfl (by omega) (by decide) d_C_fromOf_28 ?_
    refine cw_getI fl_C_160 (so_Sk (d := d) (by omega)) rfl d_C_fromOf_29 ?_
    refine cw_top (hR.dh (by omega)) ?_
    refine cw_icmp_ne 74 d_C_fromOf_32 (by decide) (fun c_32 => ?_) (fun c_32 => ?_)
    · have hs : fromUp (fun i => σ.2 5 i 0) (fromD σ d) (σ.2 5 d 0) (i + 1) = (fromUp (fun i => σ.2 5 i 0) (fromD σ d) (σ.2 5 d 0) i) := if_neg c_32
      refine cw_iincN (x := i) d_C_fromOf_74 rfl rfl ?_
      refine cw_goto 7 d_C_fromOf_77 (by decide) ?_
      exact cw_cast (by simp only [lset1, kl, hs]; rfl) rfl rfl (ih c_10 _)
    · have hs0 : fromUp (fun i => σ.2 5 i 0) (fromD σ d) (σ.2 5 d 0) (i + 1) = _ := if_pos c_32
      refine cw_aload_n d_C_fromOf_35 rfl ?_
      refine cw_getR fl_C_23 so_C rfl d_C_fromOf_36 ?_
      refine cw_iload d_C_fromOf_39 rfl ?_
      refine cw_aaldN (i := i) sr_3 rfl (by omega) (by decide) d_C_fromOf_41 ?_
      refine cw_aload_n d_C_fromOf_42 rfl ?_
      refine cw_getR fl_C_23 so_C rfl d_C_fromOf_43 ?_
      refine cw_iload_n d_C_fromOf_46 rfl ?_
      refine cw_aaldN (i := d) sr_3 rfl (by omega) (by decide) d_C_fromOf_47 ?_
      refine cw_aload_n d_C_fromOf_48 rfl ?_
      refine cw_getI fl_C_46 so_C rfl d_C_fromOf_49 ?_
      refine cw_virtP (s_Sk_dist (d := i) (e := d) (by omega) (by omega)) rfl ml_C_201 (so_Sk (d := i) (by omega)) rfl rfl d_C_fromOf_52 ?_
      refine cw_top (y := fromD σ d i) (dist_RC hR (by omega) hd) ?_
      refine cw_istore d_C_fromOf_55 rfl ?_
      refine cw_iload_n d_C_fromOf_57 rfl ?_
      refine cw_iconst (v := (-1)) d_C_fromOf_58 (by decide) ?_
      refine cw_icmp_eq 68 d_C_fromOf_59 (by decide) (fun c_59 => ?_) (fun c_59 => ?_)
      · have hs : fromUp (fun i => σ.2 5 i 0) (fromD σ d) (σ.2 5 d 0) (i + 1) = (nI i, fromD σ d i) := hs0.trans (if_pos (Or.inl c_59))
        refine cw_iload d_C_fromOf_68 rfl ?_
        refine cw_istore_n d_C_fromOf_70 rfl ?_
        refine cw_iload d_C_fromOf_71 rfl ?_
        refine cw_istore_n d_C_fromOf_73 rfl ?_
        refine cw_iincN (x := i) d_C_fromOf_74 rfl rfl ?_
        refine cw_goto 7 d_C_fromOf_77 (by decide) ?_
        exact cw_cast (by simp only [lset1, kl, hs]; rfl) rfl rfl (ih c_10 _)
      · refine cw_iload d_C_fromOf_62 rfl ?_
        refine cw_iload_n d_C_fromOf_64 rfl ?_
        refine cw_icmp_ge 74 d_C_fromOf_65 (by decide) (fun c_65 => ?_) (fun c_65 => ?_)
        · have hs : fromUp (fun i => σ.2 5 i 0) (fromD σ d) (σ.2 5 d 0) (i + 1) = (fromUp (fun i => σ.2 5 i 0) (fromD σ d) (σ.2 5 d 0) i) := hs0.trans (if_neg (fun q => q.elim c_59 (fun z => absurd c_65 (i32_nle.mpr z))))
          refine cw_iincN (x := i) d_C_fromOf_74 rfl rfl ?_
          refine cw_goto 7 d_C_fromOf_77 (by decide) ?_
          exact cw_cast (by simp only [lset1, kl, hs]; rfl) rfl rfl (ih c_10 _)
        · have hs : fromUp (fun i => σ.2 5 i 0) (fromD σ d) (σ.2 5 d 0) (i + 1) = (nI i, fromD σ d i) := hs0.trans (if_pos (Or.inr (i32_nle.mp c_65)))
          refine cw_iload d_C_fromOf_68 rfl ?_
          refine cw_istore_n d_C_fromOf_70 rfl ?_
          refine cw_iload d_C_fromOf_71 rfl ?_
          refine cw_istore_n d_C_fromOf_73 rfl ?_
          refine cw_iincN (x := i) d_C_fromOf_74 rfl rfl ?_
          refine cw_goto 7 d_C_fromOf_77 (by decide) ?_
          exact cw_cast (by simp only [lset1, kl, hs]; rfl) rfl rfl (ih c_10 _)
set_option maxRecDepth 100000 in
theorem s_C_fromOf {M : Mem} {σ : Sg} (hR : RC M σ) (hI : Iv σ) {d : Nat} (hd : d < σ.1.2.1)  : CS u_C_fromOf [.ref 0, .int (nI d)] M (pI (fromS σ d) M) := by
  refine cs_introF (L := [some (.ref 0), some (.int (nI d)), none, none, none, none]) (by decide +kernel) (fun ad q h => h) (fun ad => Nat.le_of_ble_eq_true rfl) ?_
  refine cw_iconst (v := (-1)) d_C_fromOf_0 (by decide) ?_
  refine cw_istore_n d_C_fromOf_1 rfl ?_
  refine cw_iconst (v := 0) d_C_fromOf_2 (by decide) ?_
  refine cw_istore_n d_C_fromOf_3 rfl ?_
  refine cw_iconst (v := 0) d_C_fromOf_4 (by decide) ?_
  refine cw_istore d_C_fromOf_5 rfl ?_
  exact l_C_fromOf hR hI hd 0 (by omega) _
def ageN (σ : Sg) : Nat → Int32 → Nat
  | 0, _ => 0
  | n + 1, x => if x = -1 then 0 else 1 + ageN σ n (fromS σ (ix x))
def agesS (σ : Sg) (d : Nat) : Int32 := nI (ageN σ 30 (fromS σ d))
set_option maxRecDepth 100000 in
theorem l_C_agesOf {M : Mem} {σ : Sg} (hR : RC M σ) (hI : Iv σ) {d : Nat} (hd : d < σ.1.2.1) : ∀ (n c : Nat) (x : Int32), (x = -1 ∨ ∃ j, j < n ∧ j < σ.1.2.1 ∧ x = nI j) → c + n ≤ 30 → CW u_C_agesOf (pI (nI (c + ageN σ n x)) M) 8 [some (.ref 0), some (.int (nI d)), some (.int (nI c)), some (.int x)] [] M := by
  obtain ⟨hn1, hn2, hn3⟩ := hI.n
  intro n
  induction n with
  | zero =>
    intro c x hx hc
    refine cw_iload_n d_C_agesOf_8 rfl ?_
    refine cw_iconst (v := (-1)) d_C_agesOf_9 (by decide) ?_
    refine cw_icmp_eq 31 d_C_agesOf_10 (by decide) (fun c_10 => ?_) (fun c_10 => ?_)
    · have ha : c + ageN σ 0 x = c := rfl
      rw [ha]
      refine cw_iload_n d_C_agesOf_31 rfl ?_
      refine cw_iret rfl d_C_agesOf_32 ?_
      exact ⟨rfl, rfl⟩
    · exact absurd ((hx).elim id (fun ⟨j, hj, _⟩ => absurd hj (by omega))) c_10
  | succ n ih =>
    intro c x hx hc
    refine cw_iload_n d_C_agesOf_8 rfl ?_
    refine cw_iconst (v := (-1)) d_C_agesOf_9 (by decide) ?_
    refine cw_icmp_eq 31 d_C_agesOf_10 (by decide) (fun c_10 => ?_) (fun c_10 => ?_)
    · have ha : c + ageN σ (n + 1) x = c := by simp only [ageN, if_pos c_10, Nat.add_zero]
      rw [ha]
      refine cw_iload_n d_C_agesOf_31 rfl ?_
      refine cw_iret rfl d_C_agesOf_32 ?_
      exact ⟨rfl, rfl⟩
    · obtain ⟨j, hj1, hj2, ej⟩ : ∃ j, j < n + 1 ∧ j < σ.1.2.1 ∧ x = nI j := hx.resolve_left c_10
      subst ej
      have ha : c + ageN σ (n + 1) (nI j) = c + 1 + ageN σ n (fromS σ j) := by simp only [ageN, if_neg c_10, ix_nI (show j < 2 ^ 31 by omega)]; omega
      rw [ha]
      refine cw_iload_n d_C_agesOf_13 rfl ?_
      refine cw_bipush (v := 30) d_C_agesOf_14 (by decide) ?_
      refine cw_icmp_geN (c) (30) 31 rfl rfl (by omega) d_C_agesOf_16 (by decide) (fun c_16 => ?_) (fun c_16 => ?_)
      · exact absurd c_16 (by omega)
      · refine cw_iincN (x := c) d_C_agesOf_19 rfl rfl ?_
        refine cw_aload_n d_C_agesOf_22 rfl ?_
        refine cw_iload_n d_C_agesOf_23 rfl ?_
        refine cw_virtP (s_C_fromOf hR hI (d := j) (by omega)) rfl ml_C_191 so_C rfl rfl d_C_agesOf_24 ?_
        refine cw_istore_n d_C_agesOf_27 rfl ?_
        refine cw_goto 8 d_C_agesOf_28 (by decide) ?_
        exact ih (c + 1) (fromS σ j) ((fromS_in σ j).imp id (fun ⟨z, z1, z2⟩ => ⟨z, by omega, by omega, z2⟩)) (by omega)
set_option maxRecDepth 100000 in
theorem s_C_agesOf {M : Mem} {σ : Sg} (hR : RC M σ) (hI : Iv σ) {d : Nat} (hd : d < σ.1.2.1)  : CS u_C_agesOf [.ref 0, .int (nI d)] M (pI (agesS σ d) M) := by
  obtain ⟨hn1, hn2, hn3⟩ := hI.n
  refine cs_introF (L := [some (.ref 0), some (.int (nI d)), none, none]) (by decide +kernel) (fun ad q h => h) (fun ad => Nat.le_of_ble_eq_true rfl) ?_
  refine cw_iconst (v := 0) d_C_agesOf_0 (by decide) ?_
  refine cw_istore_n d_C_agesOf_1 rfl ?_
  refine cw_aload_n d_C_agesOf_2 rfl ?_
  refine cw_iload_n d_C_agesOf_3 rfl ?_
  refine cw_virtP (s_C_fromOf hR hI hd) rfl ml_C_191 so_C rfl rfl d_C_agesOf_4 ?_
  refine cw_istore_n d_C_agesOf_7 rfl ?_
  have hh := l_C_agesOf hR hI hd 30 0 (fromS σ d) ((fromS_in σ d).imp id (fun ⟨z, z1, z2⟩ => ⟨z, by omega, by omega, z2⟩)) (by omega)
  rw [Nat.zero_add] at hh
  exact hh
def whUp (f : Nat → Int32) : Nat → Int32 × Int32
  | 0 => (0, 0)
  | i + 1 => if i = 0 ∨ f i < (whUp f i).2 then (nI i, f i) else whUp f i
def whLn (σ : Sg) (d a p : Nat) : Int32 := drawnS (σ.2 10 d p) (σ.2 1 (ix (σ.2 5 d 0)) p) ((hPar σ a).2 p)
def whD (σ : Sg) (d a : Nat) : Int32 := distS (σ.2 4 2 0) (whLn σ d a) (σ.2 9 d)
def whoseS (σ : Sg) (d : Nat) : Int32 := (whUp (whD σ d) 4).1
theorem distS_c {x : Int32} {a b a' b' : Nat → Int32} (h1 : ∀ p, p < 8 → a p = a' p) (h2 : ∀ p, p < 8 → b p = b' p) : distS x a b = distS x a' b' := sumUp_congr (fun p hp => by rw [h1 p hp, h2 p hp])
theorem dh_ok {σ : Sg} (hI : Iv σ) {d : Nat} (hd : d < σ.1.2.1) : σ.2 5 d 0 = nI (ix (σ.2 5 d 0)) ∧ ix (σ.2 5 d 0) < σ.1.1 := by
  have h := (hI.2.2.2.2.2.2.2.1 d hd).1
  unfold rD at h
  have := hI.1
  unfold ix
  exact ⟨nI_ofInt (by omega) (by omega), by omega⟩
set_option maxRecDepth 100000 in
theorem l_C_whoseIs {M : Mem} {σ : Sg} (hR : RC M σ) (hI : Iv σ) {d : Nat} (hd : d < σ.1.2.1)  : ∀ i, i ≤ 4 → ∀ (M' : Mem) (o5 : Option Value), kp σ M M' → (∀ p, p < 8 → mG M' 230 p = σ.2 10 d p) → CW u_C_whoseIs (rK (whoseS σ d) σ M) 25 [some (.ref 0), some (.ref (100 + d)), some (.int (whUp (whD σ d) i).1), some (.int (whUp (whD σ d) i).2), some (.int (nI i)), o5] [] M' := by
  obtain ⟨hn1, hn2, hn3⟩ := hI.n
  obtain ⟨hq1, hq2⟩ := dh_ok hI hd
  have hl330 : ¬ live σ 330 := by unfold live; omega
  refine up_ind (fun i hi ih M' o5 hk hb => ?_)
  have hR2 := hR.kp hI hk
  refine cw_iload d_C_whoseIs_25 rfl ?_
  refine cw_iconst (v := 4) d_C_whoseIs_27 (by decide) ?_
  refine cw_icmp_geN (i) (4) 94 rfl rfl (by omega) d_C_whoseIs_28 (by decide) (fun c_28 => ?_) (fun c_28 => ?_)
  · refine cw_iload_n d_C_whoseIs_94 rfl ?_
    refine cw_iret rfl d_C_whoseIs_95 ?_
    have ei : i = 4 := by omega
    subst ei
    exact ⟨rfl, hk⟩
  · refine cw_aload_n d_C_whoseIs_31 rfl ?_
    refine cw_getR fl_C_50 so_C rfl d_C_whoseIs_32 ?_
    refine cw_aload_n d_C_whoseIs_35 rfl ?_
    refine cw_getR fl_C_11 so_C rfl d_C_whoseIs_36 ?_
    refine cw_aload_n d_C_whoseIs_39 rfl ?_
    refine cw_getI fl_C_160 (so_Sk (d := d) (by omega)) rfl d_C_whoseIs_40 ?_
    refine cw_aaldN (i := ix (σ.2 5 d 0)) sr_1 ((hR2.dh hd).trans hq1) (by omega) (by decide) d_C_whoseIs_43 ?_
    refine cw_getR fl_C_88 (so_He (h := ix (σ.2 5 d 0)) (by omega)) rfl d_C_whoseIs_44 ?_
    refine cw_aload_n d_C_whoseIs_47 rfl ?_
    refine cw_getR fl_C_17 so_C rfl d_C_whoseIs_48 ?_
    refine cw_iload d_C_whoseIs_51 rfl ?_
    refine cw_aaldN (i := i) sr_2 rfl (by omega) (by decide) d_C_whoseIs_53 ?_
    refine cw_staticV (s_C_outline (d := 30) (r := 20 + ix (σ.2 5 d 0)) (a := i) (by omega) (sa_pl (by omega)) (by omega) (by omega)) rfl ml_C_156 rfl rfl d_C_whoseIs_54 (fun M_54 q_54 => ?_)
    subst q_54
    have hk3 : kp σ M (mRow M' 330 8 (fun p => drawnS (mG M' 230 p) (mG M' (20 + ix (σ.2 5 d 0)) p) (mG M' (50 + i) p))) := hk.tr (mRow_kp hl330)
    have hR3 := hR.kp hI hk3
    refine cw_aload_n d_C_whoseIs_57 rfl ?_
    refine cw_getR fl_C_50 so_C rfl d_C_whoseIs_58 ?_
    refine cw_aload_n d_C_whoseIs_61 rfl ?_
    refine cw_aload_n d_C_whoseIs_62 rfl ?_
    refine cw_getI fl_C_46 so_C rfl d_C_whoseIs_63 ?_
    refine cw_virtP (s_Sk_dist (d := 30) (e := d) (by omega) (by omega)) rfl ml_C_201 so_tr rfl rfl d_C_whoseIs_66 ?_
    refine cw_top (y := whD σ d i) (by
      unfold whD
      rw [hR3.od]
      exact distS_c (fun p hp => by rw [show (300 + 30 : Nat) = 330 from rfl, mRow_in hp, hb p hp, hR2.pl (by omega) hp, hR2.tn (by omega) hp]; rfl) (fun p hp => hR3.li hd hp)) ?_
    refine cw_istore d_C_whoseIs_69 rfl ?_
    refine cw_iload d_C_whoseIs_71 rfl ?_
    refine cw_if_eq 82 d_C_whoseIs_73 (by decide) (fun c_73 => ?_) (fun c_73 => ?_)
    · have h0 : i = 0 := (nI_eq (b := 0) (by omega) (by decide)).mp c_73
      have hs : whUp (whD σ d) (i + 1) = (nI i, whD σ d i) := if_pos (Or.inl h0)
      refine cw_iload d_C_whoseIs_82 rfl ?_
      refine cw_istore_n d_C_whoseIs_84 rfl ?_
      refine cw_iload d_C_whoseIs_85 rfl ?_
      refine cw_istore_n d_C_whoseIs_87 rfl ?_
      refine cw_iincN (x := i) d_C_whoseIs_88 rfl rfl ?_
      refine cw_goto 25 d_C_whoseIs_91 (by decide) ?_
      refine cw_cast (by simp only [lset1, kl, hs]; rfl) rfl rfl (ih c_28 _ _ hk3 (fun p hp => (mRow_out (by omega)).trans (hb p hp)))
    · have h0 : ¬ i = 0 := fun q => c_73 (by rw [q]; rfl)
      refine cw_iload d_C_whoseIs_76 rfl ?_
      refine cw_iload_n d_C_whoseIs_78 rfl ?_
      refine cw_icmp_ge 88 d_C_whoseIs_79 (by decide) (fun c_79 => ?_) (fun c_79 => ?_)
      · have hs : whUp (whD σ d) (i + 1) = (whUp (whD σ d) i) := if_neg (fun q => q.elim h0 (fun z => absurd c_79 (i32_nle.mpr z)))
        refine cw_iincN (x := i) d_C_whoseIs_88 rfl rfl ?_
        refine cw_goto 25 d_C_whoseIs_91 (by decide) ?_
        refine cw_cast (by simp only [lset1, kl, hs]; rfl) rfl rfl (ih c_28 _ _ hk3 (fun p hp => (mRow_out (by omega)).trans (hb p hp)))
      · have hs : whUp (whD σ d) (i + 1) = (nI i, whD σ d i) := if_pos (Or.inr (i32_nle.mp c_79))
        refine cw_iload d_C_whoseIs_82 rfl ?_
        refine cw_istore_n d_C_whoseIs_84 rfl ?_
        refine cw_iload d_C_whoseIs_85 rfl ?_
        refine cw_istore_n d_C_whoseIs_87 rfl ?_
        refine cw_iincN (x := i) d_C_whoseIs_88 rfl rfl ?_
        refine cw_goto 25 d_C_whoseIs_91 (by decide) ?_
        refine cw_cast (by simp only [lset1, kl, hs]; rfl) rfl rfl (ih c_28 _ _ hk3 (fun p hp => (mRow_out (by omega)).trans (hb p hp)))
set_option maxRecDepth 100000 in
theorem s_C_whoseIs {M : Mem} {σ : Sg} (hR : RC M σ) (hI : Iv σ) {d : Nat} (hd : d < σ.1.2.1)  : CS u_C_whoseIs [.ref 0, .ref (100 + d)] M (rK (whoseS σ d) σ M) := by
  obtain ⟨hn1, hn2, hn3⟩ := hI.n
  refine cs_introF (L := [some (.ref 0), some (.ref (100 + d)), none, none, none, none]) (by decide +kernel) (fun ad q h => h) (fun ad => Nat.le_of_ble_eq_true rfl) ?_
  refine cw_aload_n d_C_whoseIs_0 rfl ?_
  refine cw_getR fl_C_149 (so_Sk (d := d) (by omega)) rfl d_C_whoseIs_1 ?_
  refine cw_iconst (v := 0) d_C_whoseIs_4 (by decide) ?_
  refine cw_aload_n d_C_whoseIs_5 rfl ?_
  refine cw_getR fl_C_50 so_C rfl d_C_whoseIs_6 ?_
  refine cw_getR fl_C_149 so_tr rfl d_C_whoseIs_9 ?_
  refine cw_iconst (v := 0) d_C_whoseIs_12 (by decide) ?_
  refine cw_bipush (v := 8) d_C_whoseIs_13 (by decide) ?_
  refine cw_copy (sp := 0) (dp := 0) (n := 8) ml_C_179 (sa_ba (d := d) (by omega)) sa_tb rfl rfl rfl (by omega) (by omega) (by decide) rfl rfl d_C_whoseIs_15 ?_
  refine cw_iconst (v := 0) d_C_whoseIs_18 (by decide) ?_
  refine cw_istore_n d_C_whoseIs_19 rfl ?_
  refine cw_iconst (v := 0) d_C_whoseIs_20 (by decide) ?_
  refine cw_istore_n d_C_whoseIs_21 rfl ?_
  refine cw_iconst (v := 0) d_C_whoseIs_22 (by decide) ?_
  refine cw_istore d_C_whoseIs_23 rfl ?_
  exact l_C_whoseIs hR hI hd 0 (by omega) _ _ (mCpy_kp (by unfold live; omega)) (fun p hp => (mCpy_in hp).trans (hR.me hd hp))
def ans_about (σ : Sg) (d w : Int32) : Int32 := if (ixB d σ.1.2.1 && ixB w 8) = true then (match ix w with
  | 0 => σ.2 5 (ix d) 0
  | 1 => σ.2 6 (ix d) 0
  | 2 => σ.2 7 (ix d) 0
  | 3 => b2 (offB (σ.2 4 0 0) (σ.2 9 (ix d)) (σ.2 10 (ix d)))
  | 4 => fromS σ (ix d)
  | 5 => agesS σ (ix d)
  | 6 => whoseS σ (ix d)
  | _ => σ.2 8 (ix d) 0) else -2
theorem offB_c {x : Int32} {a b a' b' : Nat → Int32} (h1 : ∀ p, p < 8 → a p = a' p) (h2 : ∀ p, p < 8 → b p = b' p) : offB x a b = offB x a' b' := anyUp_congr (fun p hp => by unfold offP; rw [h1 p hp, h2 p hp])
theorem off_RC {M : Mem} {σ : Sg} (hR : RC M σ) {d : Nat} (hd : d < σ.1.2.1) : offB (mG M 0 8) (mG M (300 + d)) (mG M (200 + d)) = offB (σ.2 4 0 0) (σ.2 9 d) (σ.2 10 d) := by
  rw [hR.ru]
  exact offB_c (fun p hp => hR.li hd hp) (fun p hp => hR.me hd hp)
set_option maxRecDepth 100000 in
theorem c_about {M : Mem} {σ : Sg} (hR : RC M σ) (hI : Iv σ) {x y : Int32} : CS u_C_about [.ref 0, .int x, .int y] M (rC (ans_about σ x y) σ M) := by
  obtain ⟨hn1, hn2, hn3⟩ := hI.n
  refine cs_introF (L := [some (.ref 0), some (.int x), some (.int y), none]) (by decide +kernel) (fun ad q h => h) (fun ad => Nat.le_of_ble_eq_true rfl) ?_
  refine cw_aload_n d_C_about_0 rfl ?_
  refine cw_iload_n d_C_about_1 rfl ?_
  refine cw_virtP (s_C_isDrawing hR hI) rfl ml_C_176 so_C rfl rfl d_C_about_2 ?_
  refine cw_bif_ne 11 d_C_about_5 (by decide) (fun c_5 => ?_) (fun c_5 => ?_)
  · obtain ⟨d, hhd, e_d⟩ := ixB_t c_5 (by omega)
    subst e_d
    refine cw_aload_n d_C_about_11 rfl ?_
    refine cw_getR fl_C_23 so_C rfl d_C_about_12 ?_
    refine cw_iload_n d_C_about_15 rfl ?_
    refine cw_aaldN (i := d) sr_3 rfl (by omega) (by decide) d_C_about_16 ?_
    refine cw_astore_n d_C_about_17 rfl ?_
    refine cw_iload_n d_C_about_18 rfl ?_
    by_cases hw : ixB y 8 = true
    · obtain ⟨k, hk, e_k⟩ := ixB_t hw (by decide)
      subst e_k
      rcases (show k = 0 ∨ k = 1 ∨ k = 2 ∨ k = 3 ∨ k = 4 ∨ k = 5 ∨ k = 6 ∨ k = 7 by omega) with rfl | rfl | rfl | rfl | rfl | rfl | rfl | rfl
      · refine cw_swIn 64 d_C_about_19 (by decide) (by decide) rfl (by decide) ?_
        refine cw_aload_n d_C_about_64 rfl ?_
        refine cw_getI fl_C_160 (so_Sk (d := d) (by omega)) rfl d_C_about_65 ?_
        refine cw_iret rfl d_C_about_68 ?_
        exact ⟨by simp [ans_about, c_5, hw, ix_nI (show d < 2 ^ 31 by omega)]; exact hR.dh (by omega), hR, kC.rf⟩
      · refine cw_swIn 69 d_C_about_19 (by decide) (by decide) rfl (by decide) ?_
        refine cw_aload_n d_C_about_69 rfl ?_
        refine cw_getI fl_C_163 (so_Sk (d := d) (by omega)) rfl d_C_about_70 ?_
        refine cw_iret rfl d_C_about_73 ?_
        exact ⟨by simp [ans_about, c_5, hw, ix_nI (show d < 2 ^ 31 by omega)]; exact hR.dy (by omega), hR, kC.rf⟩
      · refine cw_swIn 74 d_C_about_19 (by decide) (by decide) rfl (by decide) ?_
        refine cw_aload_n d_C_about_74 rfl ?_
        refine cw_getI fl_C_173 (so_Sk (d := d) (by omega)) rfl d_C_about_75 ?_
        refine cw_iret rfl d_C_about_78 ?_
        exact ⟨by simp [ans_about, c_5, hw, ix_nI (show d < 2 ^ 31 by omega)]; exact hR.dk (by omega), hR, kC.rf⟩
      · refine cw_swIn 79 d_C_about_19 (by decide) (by decide) rfl (by decide) ?_
        refine cw_aload_n d_C_about_79 rfl ?_
        refine cw_aload_n d_C_about_80 rfl ?_
        refine cw_getI fl_C_39 so_C rfl d_C_about_81 ?_
        refine cw_virtP (s_Sk_off (d := d) (by omega)) rfl ml_C_188 (so_Sk (d := d) (by omega)) rfl rfl d_C_about_84 ?_
        refine cw_bif_eq 94 d_C_about_87 (by decide) (fun c_87 => ?_) (fun c_87 => ?_)
        · refine cw_iconst (v := 0) d_C_about_94 (by decide) ?_
          refine cw_iret rfl d_C_about_95 ?_
          have hoff := off_RC hR (d := d) (by omega)
          exact ⟨by simp only [ans_about, c_5, hw, Bool.and_self, if_true, ix_nI (show d < 2 ^ 31 by omega)]; show _ = b2 _; rw [← hoff, c_87]; rfl, hR, kC.rf⟩
        · refine cw_iconst (v := 1) d_C_about_90 (by decide) ?_
          refine cw_goto 95 d_C_about_91 (by decide) ?_
          refine cw_iret rfl d_C_about_95 ?_
          have hoff := off_RC hR (d := d) (by omega)
          exact ⟨by simp only [ans_about, c_5, hw, Bool.and_self, if_true, ix_nI (show d < 2 ^ 31 by omega)]; show _ = b2 _; rw [← hoff, c_87]; rfl, hR, kC.rf⟩
      · refine cw_swIn 96 d_C_about_19 (by decide) (by decide) rfl (by decide) ?_
        refine cw_aload_n d_C_about_96 rfl ?_
        refine cw_iload_n d_C_about_97 rfl ?_
        refine cw_virtP (s_C_fromOf hR hI (d := d) (by omega)) rfl ml_C_191 so_C rfl rfl d_C_about_98 ?_
        refine cw_iret rfl d_C_about_101 ?_
        exact ⟨by simp [ans_about, c_5, hw, ix_nI (show d < 2 ^ 31 by omega)]; rfl, hR, kC.rf⟩
      · refine cw_swIn 102 d_C_about_19 (by decide) (by decide) rfl (by decide) ?_
        refine cw_aload_n d_C_about_102 rfl ?_
        refine cw_iload_n d_C_about_103 rfl ?_
        refine cw_virtP (s_C_agesOf hR hI (d := d) (by omega)) rfl ml_C_194 so_C rfl rfl d_C_about_104 ?_
        refine cw_iret rfl d_C_about_107 ?_
        exact ⟨by simp [ans_about, c_5, hw, ix_nI (show d < 2 ^ 31 by omega)]; rfl, hR, kC.rf⟩
      · refine cw_swIn 108 d_C_about_19 (by decide) (by decide) rfl (by decide) ?_
        refine cw_aload_n d_C_about_108 rfl ?_
        refine cw_aload_n d_C_about_109 rfl ?_
        refine cw_virtI (s_C_whoseIs hR hI (d := d) (by omega)) rfl ml_C_197 so_C rfl rfl d_C_about_110 (fun r_110 M_110 q_110 => ?_)
        obtain ⟨e_110, k_110⟩ := q_110
        refine cw_iret rfl d_C_about_113 ?_
        exact ⟨by simp [ans_about, c_5, hw, ix_nI (show d < 2 ^ 31 by omega)]; exact e_110, hR.kp hI k_110, k_110.kC⟩
      · refine cw_swIn 114 d_C_about_19 (by decide) (by decide) rfl (by decide) ?_
        refine cw_aload_n d_C_about_114 rfl ?_
        refine cw_getI fl_C_166 (so_Sk (d := d) (by omega)) rfl d_C_about_115 ?_
        refine cw_iret rfl d_C_about_118 ?_
        exact ⟨by simp [ans_about, c_5, hw, ix_nI (show d < 2 ^ 31 by omega)]; exact hR.df (by omega), hR, kC.rf⟩
    · have hw : ixB y 8 = false := Bool.eq_false_iff.mpr hw
      refine cw_swOut 119 d_C_about_19 (by have := of_decide_eq_false hw; omega) (by decide) ?_
      refine cw_bipush (v := (-2)) d_C_about_119 (by decide) ?_
      refine cw_iret rfl d_C_about_121 ?_
      exact ⟨by simp [ans_about, c_5, hw], hR, kC.rf⟩
  · refine cw_bipush (v := (-2)) d_C_about_8 (by decide) ?_
    refine cw_iret rfl d_C_about_10 ?_
    exact ⟨by simp [ans_about, c_5], hR, kC.rf⟩
