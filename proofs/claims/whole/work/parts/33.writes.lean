/-! ===== the class: calls that write ===== -/
theorem mS_kp {σ : Sg} {M : Mem} {k j : Nat} {v : Int32} (h : ¬ live σ k) : kp σ M (mS M k j v) := by
  intro a ha
  have : a ≠ k := fun e => h (e ▸ ha)
  exact ⟨by funext b; simp [mS, this], rfl⟩
theorem kindS_c {l1 m1 p1 t1 l2 m2 p2 t2 : Nat → Int32} (h1 : ∀ p, p < 8 → l1 p = l2 p) (h2 : ∀ p, p < 8 → m1 p = m2 p) (h3 : ∀ p, p < 8 → p1 p = p2 p) (h4 : ∀ p, p < 8 → t1 p = t2 p) : kindS l1 m1 p1 t1 = kindS l2 m2 p2 t2 := by
  unfold kindS
  rw [anyUp_congr (f := fun p => decide (l1 p = LO)) (g := fun p => decide (l2 p = LO)) (fun i hi => by simp only [h1 i hi]), anyUp_congr (f := fun p => decide (¬ l1 p = p1 p)) (g := fun p => decide (¬ l2 p = p2 p)) (fun i hi => by simp only [h1 i hi, h3 i hi]), anyUp_congr (f := oppP m1 p1 t1) (g := oppP m2 p2 t2) (fun i hi => by simp only [oppP, h2 i hi, h3 i hi, h4 i hi])]
def okDraw (σ : Sg) (a h s y : Int32) : Bool := ixB a 4 && ixB h σ.1.1 && setB s σ.1.1 && lateB σ y
def lnDraw (σ : Sg) (a h : Nat) (s : Int32) (p : Nat) : Int32 := drawnS (meanS σ s p) (σ.2 1 h p) ((hPar σ a).2 p)
def ans_draw (σ : Sg) (a h s y : Int32) : Int32 := if okDraw σ a h s y = true then (if σ.1.2.1 = 30 then -4 else nI σ.1.2.1) else -2
def aft_draw (σ : Sg) (a h s y : Int32) : Sg := if okDraw σ a h s y = true then (if σ.1.2.1 = 30 then σ else aftD σ h y (kindS (lnDraw σ (ix a) (ix h) s) (meanS σ s) (σ.2 1 (ix h)) (hPar σ (ix a)).2) (-1) (lnDraw σ (ix a) (ix h) s) (meanS σ s)) else σ
def okCopied (σ : Sg) (a d y : Int32) : Bool := ixB a 4 && ixB d σ.1.2.1 && lateB σ y
def ans_copied (σ : Sg) (a d y : Int32) : Int32 := if okCopied σ a d y = true then (if σ.1.2.1 = 30 then -4 else nI σ.1.2.1) else -2
def aft_copied (σ : Sg) (a d y : Int32) : Sg := if okCopied σ a d y = true then (if σ.1.2.1 = 30 then σ else aftD σ (σ.2 5 (ix d) 0) y 4 d (fun p => drawnS (σ.2 10 (ix d) p) (σ.2 9 (ix d) p) ((hPar σ (ix a)).2 p)) (σ.2 10 (ix d))) else σ
def okKnower (σ : Sg) (s kn : Int32) : Bool := setB s σ.1.1 && (decide (kn = 0) || setB kn σ.1.1)
def ans_knower (σ : Sg) (s kn : Int32) : Int32 := if okKnower σ s kn = true then (if σ.1.2.2 = 4 then -4 else nI σ.1.2.2) else -2
def aft_knower (σ : Sg) (s kn : Int32) : Sg := if okKnower σ s kn = true then (if σ.1.2.2 = 4 then σ else aftK σ kn (meanS σ s)) else σ
def okLook (σ : Sg) (k d m : Int32) : Bool := ixB k σ.1.2.2 && ixB d σ.1.2.1 && ixB m 61
def ans_look (σ : Sg) (k d m : Int32) : Int32 := if okLook σ k d m = true then 1 else -2
def aft_look (σ : Sg) (k d m : Int32) : Sg := if okLook σ k d m = true then aftR σ 12 (ix k) 8 (fun p => gazeP (σ.2 9 (ix d) p) (σ.2 12 (ix k) p) m (σ.2 4 1 0)) else σ
theorem ixB_le {x : Int32} {n : Nat} (h0 : ¬ x < 0) (h : x ≤ nI n) (hn : n < 2 ^ 31) : ixB x (n + 1) = true := decide_eq_true (by
  have h1 := i32_le.mp h
  have h2 := i32_le.mp (i32_nlt.mp h0)
  have := i0
  rw [nI_toInt hn] at h1
  omega)
theorem ixB_gt {x : Int32} {n : Nat} (h : ¬ x ≤ nI n) (hn : n < 2 ^ 31) : ixB x (n + 1) = false := decide_eq_false (by
  have h1 := i32_lt.mp (i32_nle.mp h)
  rw [nI_toInt hn] at h1
  omega)
theorem ixB_lt {x : Int32} {n : Nat} (h : x < 0) : ixB x n = false := decide_eq_false (by
  have h1 := i32_lt.mp h
  have := i0
  omega)
theorem type_RC {M : Mem} {σ : Sg} (hI : Iv σ) (hR : RC M σ) {a : Nat} {b : Int32} (ha : a < 4) (hl : hLen σ a < 40) : RC (finH (mS (mS M (40 + a) (hLen σ a) b) (30 + a) 2 (nI (hLen σ a + 1))) a (txP (mG (mS (mS M (40 + a) (hLen σ a) b) (30 + a) 2 (nI (hLen σ a + 1))) (40 + a)) (hLen σ a + 1))) (su (su σ 2 a (hLen σ a) b) 3 a 0 (nI (hLen σ a + 1))) := by
  have e2 : ∀ j, j < 40 → mG (mS (mS M (40 + a) (hLen σ a) b) (30 + a) 2 (nI (hLen σ a + 1))) (40 + a) j = (su (su σ 2 a (hLen σ a) b) 3 a 0 (nI (hLen σ a + 1))).2 2 a j := by
    intro j hj
    rw [mS_k (by omega), su_ne (by omega)]
    by_cases q : j = hLen σ a
    · subst q; rw [mS_at, su_at]
    · rw [mS_j q, su_ne (by omega)]; exact hR.tx ha hj
  have e3 : hLen (su (su σ 2 a (hLen σ a) b) 3 a 0 (nI (hLen σ a + 1))) a = hLen σ a + 1 := by
    show (Int32.toInt _).toNat = _
    rw [su_at, nI_toInt (by omega)]
    rfl
  refine RC.hand hR ha (fun k s q1 q2 => (mS_k q1).trans (mS_k q2)) e2 (by rw [mS_at, su_at]) rfl (fun t i j q1 q2 => ?_) ?_
  · rw [su_ne (fun q => q2 ⟨q.1, q.2.1⟩), su_ne (fun q => q1 ⟨q.1, q.2.1⟩)]
  · unfold hPar
    rw [e3]
    exact txP_e (fun j hj => e2 j (by omega))
theorem finH_kC {M : Mem} {a : Nat} {r : Int32 × (Nat → Int32)} (ha : a < 4) : kC M (finH M a r) := (mRow_kC (by omega)).tr (mS_kC (by omega))
set_option maxRecDepth 100000 in
theorem c_type {M : Mem} {σ : Sg} (hR : RC M σ) (hI : Iv σ) {x b : Int32} : CS u_C_type [.ref 0, .int x, .int b] M (rC (ans_type σ x b) (aft_type σ x b) M) := by
  obtain ⟨hn1, hn2, hn3⟩ := hI.n
  refine cs_introF (L := [some (.ref 0), some (.int x), some (.int b)]) (by decide +kernel) (fun ad q h => h) (fun ad => Nat.le_of_ble_eq_true rfl) ?_
  refine cw_iload_n d_C_type_0 rfl ?_
  refine cw_staticP (s_C_isHand) rfl ml_C_120 rfl rfl d_C_type_1 ?_
  refine cw_bif_eq 18 d_C_type_4 (by decide) (fun c_4 => ?_) (fun c_4 => ?_)
  · refine cw_bipush (v := (-2)) d_C_type_18 (by decide) ?_
    refine cw_iret rfl d_C_type_20 ?_
    exact ⟨by simp [ans_type, c_4], by simp [aft_type, c_4]; exact hR, kC.rf⟩
  · obtain ⟨a, hha, e_a⟩ := ixB_t c_4 (by omega)
    subst e_a
    refine cw_iload_n d_C_type_7 rfl ?_
    refine cw_if_lt 18 d_C_type_8 (by decide) (fun c_8 => ?_) (fun c_8 => ?_)
    · have hb : ixB b 256 = false := ixB_lt c_8
      refine cw_bipush (v := (-2)) d_C_type_18 (by decide) ?_
      refine cw_iret rfl d_C_type_20 ?_
      exact ⟨by simp [ans_type, c_4, hb], by simp [aft_type, c_4, hb]; exact hR, kC.rf⟩
    · refine cw_iload_n d_C_type_11 rfl ?_
      refine cw_sipush (v := 255) d_C_type_12 (by decide) ?_
      refine cw_icmp_le 21 d_C_type_15 (by decide) (fun c_15 => ?_) (fun c_15 => ?_)
      · have hb : ixB b 256 = true := ixB_le (n := 255) c_8 c_15 (by decide)
        have hL1 := (hLen_ok hI a).1
        have hL2 := (hLen_ok hI a).2
        have hty := (hR.ty (i := a) (by omega)).trans hL1
        refine cw_aload_n d_C_type_21 rfl ?_
        refine cw_getR fl_C_17 so_C rfl d_C_type_22 ?_
        refine cw_iload_n d_C_type_25 rfl ?_
        refine cw_aaldN (i := a) sr_2 rfl (by omega) (by decide) d_C_type_26 ?_
        refine cw_getI fl_C_123 (so_Ha (h := a) (by omega)) rfl d_C_type_27 ?_
        refine cw_top hty ?_
        refine cw_bipush (v := 40) d_C_type_30 (by decide) ?_
        refine cw_icmp_lt 38 d_C_type_32 (by decide) (fun c_32 => ?_) (fun c_32 => ?_)
        · have hlt : hLen σ a < 40 := (nI_ltI (by omega) (by decide)).mp c_32
          refine cw_aload_n d_C_type_38 rfl ?_
          refine cw_getR fl_C_17 so_C rfl d_C_type_39 ?_
          refine cw_iload_n d_C_type_42 rfl ?_
          refine cw_aaldN (i := a) sr_2 rfl (by omega) (by decide) d_C_type_43 ?_
          refine cw_iload_n d_C_type_44 rfl ?_
          refine cw_virtV (s_Ha_append (len := hLen σ a) (by omega) hty (by omega)) rfl ml_C_126 (so_Ha (h := a) (by omega)) rfl rfl d_C_type_45 (fun M_45 q_45 => ?_)
          subst q_45
          refine cw_aload_n d_C_type_48 rfl ?_
          refine cw_getR fl_C_17 so_C rfl d_C_type_49 ?_
          refine cw_iload_n d_C_type_52 rfl ?_
          refine cw_aaldN (i := a) sr_2 rfl (by omega) (by decide) d_C_type_53 ?_
          refine cw_getI fl_C_123 (so_Ha (h := a) (by omega)) rfl d_C_type_54 ?_
          refine cw_top ((finH_n).trans mS_at) ?_
          refine cw_iret rfl d_C_type_57 ?_
          exact ⟨by simp [ans_type, c_4, hb, ix_nI (show a < 2 ^ 31 by omega), show ¬ hLen σ a = 40 by omega], by simp [aft_type, c_4, hb, ix_nI (show a < 2 ^ 31 by omega), show ¬ hLen σ a = 40 by omega]; exact type_RC hI hR (by omega) hlt, ((mS_kC (by omega)).tr (mS_kC (by omega))).tr (finH_kC (by omega))⟩
        · have hlt : hLen σ a = 40 := by
            have : ¬ hLen σ a < 40 := fun q => c_32 (nI_lt (b := 40) q (by decide))
            omega
          refine cw_bipush (v := (-4)) d_C_type_35 (by decide) ?_
          refine cw_iret rfl d_C_type_37 ?_
          exact ⟨by simp [ans_type, c_4, hb, ix_nI (show a < 2 ^ 31 by omega), hlt], by simp [aft_type, c_4, hb, ix_nI (show a < 2 ^ 31 by omega), hlt]; exact hR, kC.rf⟩
      · have hb : ixB b 256 = false := ixB_gt (n := 255) c_15 (by decide)
        refine cw_bipush (v := (-2)) d_C_type_18 (by decide) ?_
        refine cw_iret rfl d_C_type_20 ?_
        exact ⟨by simp [ans_type, c_4, hb], by simp [aft_type, c_4, hb]; exact hR, kC.rf⟩
theorem wipe_RC {M : Mem} {σ : Sg} (hR : RC M σ) {a : Nat} (ha : a < 4) : RC (finH (mS M (30 + a) 2 0) a (-1, tx10)) (su σ 3 a 0 0) := by
  refine RC.hand hR ha (fun k s q1 q2 => mS_k q1) (fun j hj => ?_) (by rw [mS_at, su_at]) rfl (fun t i j q1 q2 => su_ne (fun q => q2 ⟨q.1, q.2.1⟩)) ?_
  · rw [mS_k (by omega), su_ne (by omega)]; exact hR.tx ha hj
  · have e3 : hLen (su σ 3 a 0 0) a = 0 := by
      show (Int32.toInt _).toNat = _
      rw [su_at]
      rfl
    unfold hPar
    rw [e3]
    rfl
set_option maxRecDepth 100000 in
theorem c_wipe {M : Mem} {σ : Sg} (hR : RC M σ) (hI : Iv σ) {x : Int32} : CS u_C_wipe [.ref 0, .int x] M (rC (ans_wipe σ x) (aft_wipe σ x) M) := by
  obtain ⟨hn1, hn2, hn3⟩ := hI.n
  refine cs_introF (L := [some (.ref 0), some (.int x), none]) (by decide +kernel) (fun ad q h => h) (fun ad => Nat.le_of_ble_eq_true rfl) ?_
  refine cw_iload_n d_C_wipe_0 rfl ?_
  refine cw_staticP (s_C_isHand) rfl ml_C_120 rfl rfl d_C_wipe_1 ?_
  refine cw_bif_ne 10 d_C_wipe_4 (by decide) (fun c_4 => ?_) (fun c_4 => ?_)
  · obtain ⟨a, hha, e_a⟩ := ixB_t c_4 (by omega)
    subst e_a
    refine cw_aload_n d_C_wipe_10 rfl ?_
    refine cw_getR fl_C_17 so_C rfl d_C_wipe_11 ?_
    refine cw_iload_n d_C_wipe_14 rfl ?_
    refine cw_aaldN (i := a) sr_2 rfl (by omega) (by decide) d_C_wipe_15 ?_
    refine cw_getI fl_C_123 (so_Ha (h := a) (by omega)) rfl d_C_wipe_16 ?_
    refine cw_istore_n d_C_wipe_19 rfl ?_
    refine cw_aload_n d_C_wipe_20 rfl ?_
    refine cw_getR fl_C_17 so_C rfl d_C_wipe_21 ?_
    refine cw_iload_n d_C_wipe_24 rfl ?_
    refine cw_aaldN (i := a) sr_2 rfl (by omega) (by decide) d_C_wipe_25 ?_
    refine cw_virtV (s_Ha_clear (by omega)) rfl ml_C_130 (so_Ha (h := a) (by omega)) rfl rfl d_C_wipe_26 (fun M_26 q_26 => ?_)
    subst q_26
    refine cw_iload_n d_C_wipe_29 rfl ?_
    refine cw_iret rfl d_C_wipe_30 ?_
    exact ⟨by simp [ans_wipe, c_4, ix_nI (show a < 2 ^ 31 by omega)]; exact hR.ty (by omega), by simp [aft_wipe, c_4, ix_nI (show a < 2 ^ 31 by omega)]; exact wipe_RC hR (by omega), (mS_kC (by omega)).tr (finH_kC (by omega))⟩
  · refine cw_bipush (v := (-2)) d_C_wipe_7 (by decide) ?_
    refine cw_iret rfl d_C_wipe_9 ?_
    exact ⟨by simp [ans_wipe, c_4], by simp [aft_wipe, c_4]; exact hR, kC.rf⟩
theorem set_f {w v : Int32} (h : ¬ ((w = 0 ∧ 1 ≤ v.toInt ∧ v.toInt ≤ 99) ∨ (w = 1 ∧ 1 ≤ v.toInt ∧ v.toInt ≤ 60) ∨ (w = 2 ∧ 0 ≤ v.toInt ∧ v.toInt ≤ 99))) : setOk w v = false := decide_eq_false h
set_option maxRecDepth 100000 in
theorem c_set {M : Mem} {σ : Sg} (hR : RC M σ) (hI : Iv σ) {x v : Int32} : CS u_C_set [.ref 0, .int x, .int v] M (rC (ans_set σ x v) (aft_set σ x v) M) := by
  obtain ⟨hn1, hn2, hn3⟩ := hI.n
  refine cs_introF (L := [some (.ref 0), some (.int x), some (.int v), none]) (by decide +kernel) (fun ad q h => h) (fun ad => Nat.le_of_ble_eq_true rfl) ?_
  refine cw_iload_n d_C_set_0 rfl ?_
  refine cw_if_ne 27 d_C_set_1 (by decide) (fun c_1 => ?_) (fun c_1 => ?_)
  · refine cw_iload_n d_C_set_27 rfl ?_
    refine cw_iconst (v := 1) d_C_set_28 (by decide) ?_
    refine cw_icmp_ne 55 d_C_set_29 (by decide) (fun c_29 => ?_) (fun c_29 => ?_)
    · refine cw_iload_n d_C_set_55 rfl ?_
      refine cw_iconst (v := 2) d_C_set_56 (by decide) ?_
      refine cw_icmp_ne 82 d_C_set_57 (by decide) (fun c_57 => ?_) (fun c_57 => ?_)
      · refine cw_bipush (v := (-2)) d_C_set_82 (by decide) ?_
        refine cw_iret rfl d_C_set_84 ?_
        have hz : setOk x v = false := set_f (by
          have := i0
          have := i1
          have := i60
          have := i99
          try simp only [i32_lt, i32_le] at c_1 c_29 c_57
          rintro (⟨q1, q2, q3⟩ | ⟨q1, q2, q3⟩ | ⟨q1, q2, q3⟩) <;> first | omega | (subst q1; simp_all) | simp_all)
        exact ⟨by simp [ans_set, hz], by simp [aft_set, hz]; exact hR, kC.rf⟩
      · refine cw_iload_n d_C_set_60 rfl ?_
        refine cw_if_lt 82 d_C_set_61 (by decide) (fun c_61 => ?_) (fun c_61 => ?_)
        · refine cw_bipush (v := (-2)) d_C_set_82 (by decide) ?_
          refine cw_iret rfl d_C_set_84 ?_
          have hz : setOk x v = false := set_f (by
            have := i0
            have := i1
            have := i60
            have := i99
            try simp only [i32_lt, i32_le] at c_1 c_29 c_57 c_61
            rintro (⟨q1, q2, q3⟩ | ⟨q1, q2, q3⟩ | ⟨q1, q2, q3⟩) <;> first | omega | (subst q1; simp_all) | simp_all)
          exact ⟨by simp [ans_set, hz], by simp [aft_set, hz]; exact hR, kC.rf⟩
        · refine cw_iload_n d_C_set_64 rfl ?_
          refine cw_bipush (v := 99) d_C_set_65 (by decide) ?_
          refine cw_icmp_gt 82 d_C_set_67 (by decide) (fun c_67 => ?_) (fun c_67 => ?_)
          · refine cw_bipush (v := (-2)) d_C_set_82 (by decide) ?_
            refine cw_iret rfl d_C_set_84 ?_
            have hz : setOk x v = false := set_f (by
              have := i0
              have := i1
              have := i60
              have := i99
              try simp only [i32_lt, i32_le] at c_1 c_29 c_57 c_61 c_67
              rintro (⟨q1, q2, q3⟩ | ⟨q1, q2, q3⟩ | ⟨q1, q2, q3⟩) <;> first | omega | (subst q1; simp_all) | simp_all)
            exact ⟨by simp [ans_set, hz], by simp [aft_set, hz]; exact hR, kC.rf⟩
          · refine cw_aload_n d_C_set_70 rfl ?_
            refine cw_getI fl_C_46 so_C rfl d_C_set_71 ?_
            refine cw_istore_n d_C_set_74 rfl ?_
            refine cw_aload_n d_C_set_75 rfl ?_
            refine cw_iload_n d_C_set_76 rfl ?_
            refine cw_putI fp_C_46 so_C rfl d_C_set_77 ?_
            refine cw_iload_n d_C_set_80 rfl ?_
            refine cw_iret rfl d_C_set_81 ?_
            have hx : ix x = 2 := by rw [c_57]; rfl
            have hz : setOk x v = true := decide_eq_true (by
              have := i0
              have := i1
              have := i60
              have := i99
              have h1 := c_61
              have h2 := c_67
              rw [i32_lt] at h1 h2
              refine Or.inr <| Or.inr ⟨c_57, by omega, by omega⟩)
            exact ⟨by simp [ans_set, hz, hx]; exact hR.od, by simp [aft_set, hz, hx]; exact hR.su hI (t := 4) (i := 2) ⟨by decide, rfl⟩ (by decide), mS_kC (by omega)⟩
    · refine cw_iload_n d_C_set_32 rfl ?_
      refine cw_iconst (v := 1) d_C_set_33 (by decide) ?_
      refine cw_icmp_lt 55 d_C_set_34 (by decide) (fun c_34 => ?_) (fun c_34 => ?_)
      · refine cw_iload_n d_C_set_55 rfl ?_
        refine cw_iconst (v := 2) d_C_set_56 (by decide) ?_
        refine cw_icmp_ne 82 d_C_set_57 (by decide) (fun c_57 => ?_) (fun c_57 => ?_)
        · refine cw_bipush (v := (-2)) d_C_set_82 (by decide) ?_
          refine cw_iret rfl d_C_set_84 ?_
          have hz : setOk x v = false := set_f (by
            have := i0
            have := i1
            have := i60
            have := i99
            try simp only [i32_lt, i32_le] at c_1 c_29 c_34 c_57
            rintro (⟨q1, q2, q3⟩ | ⟨q1, q2, q3⟩ | ⟨q1, q2, q3⟩) <;> first | omega | (subst q1; simp_all) | simp_all)
          exact ⟨by simp [ans_set, hz], by simp [aft_set, hz]; exact hR, kC.rf⟩
        · refine cw_iload_n d_C_set_60 rfl ?_
          refine cw_if_lt 82 d_C_set_61 (by decide) (fun c_61 => ?_) (fun c_61 => ?_)
          · refine cw_bipush (v := (-2)) d_C_set_82 (by decide) ?_
            refine cw_iret rfl d_C_set_84 ?_
            have hz : setOk x v = false := set_f (by
              have := i0
              have := i1
              have := i60
              have := i99
              try simp only [i32_lt, i32_le] at c_1 c_29 c_34 c_57 c_61
              rintro (⟨q1, q2, q3⟩ | ⟨q1, q2, q3⟩ | ⟨q1, q2, q3⟩) <;> first | omega | (subst q1; simp_all) | simp_all)
            exact ⟨by simp [ans_set, hz], by simp [aft_set, hz]; exact hR, kC.rf⟩
          · refine cw_iload_n d_C_set_64 rfl ?_
            refine cw_bipush (v := 99) d_C_set_65 (by decide) ?_
            refine cw_icmp_gt 82 d_C_set_67 (by decide) (fun c_67 => ?_) (fun c_67 => ?_)
            · refine cw_bipush (v := (-2)) d_C_set_82 (by decide) ?_
              refine cw_iret rfl d_C_set_84 ?_
              have hz : setOk x v = false := set_f (by
                have := i0
                have := i1
                have := i60
                have := i99
                try simp only [i32_lt, i32_le] at c_1 c_29 c_34 c_57 c_61 c_67
                rintro (⟨q1, q2, q3⟩ | ⟨q1, q2, q3⟩ | ⟨q1, q2, q3⟩) <;> first | omega | (subst q1; simp_all) | simp_all)
              exact ⟨by simp [ans_set, hz], by simp [aft_set, hz]; exact hR, kC.rf⟩
            · refine cw_aload_n d_C_set_70 rfl ?_
              refine cw_getI fl_C_46 so_C rfl d_C_set_71 ?_
              refine cw_istore_n d_C_set_74 rfl ?_
              refine cw_aload_n d_C_set_75 rfl ?_
              refine cw_iload_n d_C_set_76 rfl ?_
              refine cw_putI fp_C_46 so_C rfl d_C_set_77 ?_
              refine cw_iload_n d_C_set_80 rfl ?_
              refine cw_iret rfl d_C_set_81 ?_
              have hx : ix x = 2 := by rw [c_57]; rfl
              have hz : setOk x v = true := decide_eq_true (by
                have := i0
                have := i1
                have := i60
                have := i99
                have h1 := c_61
                have h2 := c_67
                rw [i32_lt] at h1 h2
                refine Or.inr <| Or.inr ⟨c_57, by omega, by omega⟩)
              exact ⟨by simp [ans_set, hz, hx]; exact hR.od, by simp [aft_set, hz, hx]; exact hR.su hI (t := 4) (i := 2) ⟨by decide, rfl⟩ (by decide), mS_kC (by omega)⟩
      · refine cw_iload_n d_C_set_37 rfl ?_
        refine cw_bipush (v := 60) d_C_set_38 (by decide) ?_
        refine cw_icmp_gt 55 d_C_set_40 (by decide) (fun c_40 => ?_) (fun c_40 => ?_)
        · refine cw_iload_n d_C_set_55 rfl ?_
          refine cw_iconst (v := 2) d_C_set_56 (by decide) ?_
          refine cw_icmp_ne 82 d_C_set_57 (by decide) (fun c_57 => ?_) (fun c_57 => ?_)
          · refine cw_bipush (v := (-2)) d_C_set_82 (by decide) ?_
            refine cw_iret rfl d_C_set_84 ?_
            have hz : setOk x v = false := set_f (by
              have := i0
              have := i1
              have := i60
              have := i99
              try simp only [i32_lt, i32_le] at c_1 c_29 c_34 c_40 c_57
              rintro (⟨q1, q2, q3⟩ | ⟨q1, q2, q3⟩ | ⟨q1, q2, q3⟩) <;> first | omega | (subst q1; simp_all) | simp_all)
            exact ⟨by simp [ans_set, hz], by simp [aft_set, hz]; exact hR, kC.rf⟩
          · refine cw_iload_n d_C_set_60 rfl ?_
            refine cw_if_lt 82 d_C_set_61 (by decide) (fun c_61 => ?_) (fun c_61 => ?_)
            · refine cw_bipush (v := (-2)) d_C_set_82 (by decide) ?_
              refine cw_iret rfl d_C_set_84 ?_
              have hz : setOk x v = false := set_f (by
                have := i0
                have := i1
                have := i60
                have := i99
                try simp only [i32_lt, i32_le] at c_1 c_29 c_34 c_40 c_57 c_61
                rintro (⟨q1, q2, q3⟩ | ⟨q1, q2, q3⟩ | ⟨q1, q2, q3⟩) <;> first | omega | (subst q1; simp_all) | simp_all)
              exact ⟨by simp [ans_set, hz], by simp [aft_set, hz]; exact hR, kC.rf⟩
            · refine cw_iload_n d_C_set_64 rfl ?_
              refine cw_bipush (v := 99) d_C_set_65 (by decide) ?_
              refine cw_icmp_gt 82 d_C_set_67 (by decide) (fun c_67 => ?_) (fun c_67 => ?_)
              · refine cw_bipush (v := (-2)) d_C_set_82 (by decide) ?_
                refine cw_iret rfl d_C_set_84 ?_
                have hz : setOk x v = false := set_f (by
                  have := i0
                  have := i1
                  have := i60
                  have := i99
                  try simp only [i32_lt, i32_le] at c_1 c_29 c_34 c_40 c_57 c_61 c_67
                  rintro (⟨q1, q2, q3⟩ | ⟨q1, q2, q3⟩ | ⟨q1, q2, q3⟩) <;> first | omega | (subst q1; simp_all) | simp_all)
                exact ⟨by simp [ans_set, hz], by simp [aft_set, hz]; exact hR, kC.rf⟩
              · refine cw_aload_n d_C_set_70 rfl ?_
                refine cw_getI fl_C_46 so_C rfl d_C_set_71 ?_
                refine cw_istore_n d_C_set_74 rfl ?_
                refine cw_aload_n d_C_set_75 rfl ?_
                refine cw_iload_n d_C_set_76 rfl ?_
                refine cw_putI fp_C_46 so_C rfl d_C_set_77 ?_
                refine cw_iload_n d_C_set_80 rfl ?_
                refine cw_iret rfl d_C_set_81 ?_
                have hx : ix x = 2 := by rw [c_57]; rfl
                have hz : setOk x v = true := decide_eq_true (by
                  have := i0
                  have := i1
                  have := i60
                  have := i99
                  have h1 := c_61
                  have h2 := c_67
                  rw [i32_lt] at h1 h2
                  refine Or.inr <| Or.inr ⟨c_57, by omega, by omega⟩)
                exact ⟨by simp [ans_set, hz, hx]; exact hR.od, by simp [aft_set, hz, hx]; exact hR.su hI (t := 4) (i := 2) ⟨by decide, rfl⟩ (by decide), mS_kC (by omega)⟩
        · refine cw_aload_n d_C_set_43 rfl ?_
          refine cw_getI fl_C_43 so_C rfl d_C_set_44 ?_
          refine cw_istore_n d_C_set_47 rfl ?_
          refine cw_aload_n d_C_set_48 rfl ?_
          refine cw_iload_n d_C_set_49 rfl ?_
          refine cw_putI fp_C_43 so_C rfl d_C_set_50 ?_
          refine cw_iload_n d_C_set_53 rfl ?_
          refine cw_iret rfl d_C_set_54 ?_
          have hx : ix x = 1 := by rw [c_29]; rfl
          have hz : setOk x v = true := decide_eq_true (by
            have := i0
            have := i1
            have := i60
            have := i99
            have h1 := c_34
            have h2 := c_40
            rw [i32_lt] at h1 h2
            refine Or.inr <| Or.inl ⟨c_29, by omega, by omega⟩)
          exact ⟨by simp [ans_set, hz, hx]; exact hR.la, by simp [aft_set, hz, hx]; exact hR.su hI (t := 4) (i := 1) ⟨by decide, rfl⟩ (by decide), mS_kC (by omega)⟩
  · refine cw_iload_n d_C_set_4 rfl ?_
    refine cw_iconst (v := 1) d_C_set_5 (by decide) ?_
    refine cw_icmp_lt 27 d_C_set_6 (by decide) (fun c_6 => ?_) (fun c_6 => ?_)
    · refine cw_iload_n d_C_set_27 rfl ?_
      refine cw_iconst (v := 1) d_C_set_28 (by decide) ?_
      refine cw_icmp_ne 55 d_C_set_29 (by decide) (fun c_29 => ?_) (fun c_29 => ?_)
      · refine cw_iload_n d_C_set_55 rfl ?_
        refine cw_iconst (v := 2) d_C_set_56 (by decide) ?_
        refine cw_icmp_ne 82 d_C_set_57 (by decide) (fun c_57 => ?_) (fun c_57 => ?_)
        · refine cw_bipush (v := (-2)) d_C_set_82 (by decide) ?_
          refine cw_iret rfl d_C_set_84 ?_
          have hz : setOk x v = false := set_f (by
            have := i0
            have := i1
            have := i60
            have := i99
            try simp only [i32_lt, i32_le] at c_1 c_6 c_29 c_57
            rintro (⟨q1, q2, q3⟩ | ⟨q1, q2, q3⟩ | ⟨q1, q2, q3⟩) <;> first | omega | (subst q1; simp_all) | simp_all)
          exact ⟨by simp [ans_set, hz], by simp [aft_set, hz]; exact hR, kC.rf⟩
        · refine cw_iload_n d_C_set_60 rfl ?_
          refine cw_if_lt 82 d_C_set_61 (by decide) (fun c_61 => ?_) (fun c_61 => ?_)
          · refine cw_bipush (v := (-2)) d_C_set_82 (by decide) ?_
            refine cw_iret rfl d_C_set_84 ?_
            have hz : setOk x v = false := set_f (by
              have := i0
              have := i1
              have := i60
              have := i99
              try simp only [i32_lt, i32_le] at c_1 c_6 c_29 c_57 c_61
              rintro (⟨q1, q2, q3⟩ | ⟨q1, q2, q3⟩ | ⟨q1, q2, q3⟩) <;> first | omega | (subst q1; simp_all) | simp_all)
            exact ⟨by simp [ans_set, hz], by simp [aft_set, hz]; exact hR, kC.rf⟩
          · refine cw_iload_n d_C_set_64 rfl ?_
            refine cw_bipush (v := 99) d_C_set_65 (by decide) ?_
            refine cw_icmp_gt 82 d_C_set_67 (by decide) (fun c_67 => ?_) (fun c_67 => ?_)
            · refine cw_bipush (v := (-2)) d_C_set_82 (by decide) ?_
              refine cw_iret rfl d_C_set_84 ?_
              have hz : setOk x v = false := set_f (by
                have := i0
                have := i1
                have := i60
                have := i99
                try simp only [i32_lt, i32_le] at c_1 c_6 c_29 c_57 c_61 c_67
                rintro (⟨q1, q2, q3⟩ | ⟨q1, q2, q3⟩ | ⟨q1, q2, q3⟩) <;> first | omega | (subst q1; simp_all) | simp_all)
              exact ⟨by simp [ans_set, hz], by simp [aft_set, hz]; exact hR, kC.rf⟩
            · refine cw_aload_n d_C_set_70 rfl ?_
              refine cw_getI fl_C_46 so_C rfl d_C_set_71 ?_
              refine cw_istore_n d_C_set_74 rfl ?_
              refine cw_aload_n d_C_set_75 rfl ?_
              refine cw_iload_n d_C_set_76 rfl ?_
              refine cw_putI fp_C_46 so_C rfl d_C_set_77 ?_
              refine cw_iload_n d_C_set_80 rfl ?_
              refine cw_iret rfl d_C_set_81 ?_
              have hx : ix x = 2 := by rw [c_57]; rfl
              have hz : setOk x v = true := decide_eq_true (by
                have := i0
                have := i1
                have := i60
                have := i99
                have h1 := c_61
                have h2 := c_67
                rw [i32_lt] at h1 h2
                refine Or.inr <| Or.inr ⟨c_57, by omega, by omega⟩)
              exact ⟨by simp [ans_set, hz, hx]; exact hR.od, by simp [aft_set, hz, hx]; exact hR.su hI (t := 4) (i := 2) ⟨by decide, rfl⟩ (by decide), mS_kC (by omega)⟩
      · refine cw_iload_n d_C_set_32 rfl ?_
        refine cw_iconst (v := 1) d_C_set_33 (by decide) ?_
        refine cw_icmp_lt 55 d_C_set_34 (by decide) (fun c_34 => ?_) (fun c_34 => ?_)
        · refine cw_iload_n d_C_set_55 rfl ?_
          refine cw_iconst (v := 2) d_C_set_56 (by decide) ?_
          refine cw_icmp_ne 82 d_C_set_57 (by decide) (fun c_57 => ?_) (fun c_57 => ?_)
          · refine cw_bipush (v := (-2)) d_C_set_82 (by decide) ?_
            refine cw_iret rfl d_C_set_84 ?_
            have hz : setOk x v = false := set_f (by
              have := i0
              have := i1
              have := i60
              have := i99
              try simp only [i32_lt, i32_le] at c_1 c_6 c_29 c_34 c_57
              rintro (⟨q1, q2, q3⟩ | ⟨q1, q2, q3⟩ | ⟨q1, q2, q3⟩) <;> first | omega | (subst q1; simp_all) | simp_all)
            exact ⟨by simp [ans_set, hz], by simp [aft_set, hz]; exact hR, kC.rf⟩
          · refine cw_iload_n d_C_set_60 rfl ?_
            refine cw_if_lt 82 d_C_set_61 (by decide) (fun c_61 => ?_) (fun c_61 => ?_)
            · refine cw_bipush (v := (-2)) d_C_set_82 (by decide) ?_
              refine cw_iret rfl d_C_set_84 ?_
              have hz : setOk x v = false := set_f (by
                have := i0
                have := i1
                have := i60
                have := i99
                try simp only [i32_lt, i32_le] at c_1 c_6 c_29 c_34 c_57 c_61
                rintro (⟨q1, q2, q3⟩ | ⟨q1, q2, q3⟩ | ⟨q1, q2, q3⟩) <;> first | omega | (subst q1; simp_all) | simp_all)
              exact ⟨by simp [ans_set, hz], by simp [aft_set, hz]; exact hR, kC.rf⟩
            · refine cw_iload_n d_C_set_64 rfl ?_
              refine cw_bipush (v := 99) d_C_set_65 (by decide) ?_
              refine cw_icmp_gt 82 d_C_set_67 (by decide) (fun c_67 => ?_) (fun c_67 => ?_)
              · refine cw_bipush (v := (-2)) d_C_set_82 (by decide) ?_
                refine cw_iret rfl d_C_set_84 ?_
                have hz : setOk x v = false := set_f (by
                  have := i0
                  have := i1
                  have := i60
                  have := i99
                  try simp only [i32_lt, i32_le] at c_1 c_6 c_29 c_34 c_57 c_61 c_67
                  rintro (⟨q1, q2, q3⟩ | ⟨q1, q2, q3⟩ | ⟨q1, q2, q3⟩) <;> first | omega | (subst q1; simp_all) | simp_all)
                exact ⟨by simp [ans_set, hz], by simp [aft_set, hz]; exact hR, kC.rf⟩
              · refine cw_aload_n d_C_set_70 rfl ?_
                refine cw_getI fl_C_46 so_C rfl d_C_set_71 ?_
                refine cw_istore_n d_C_set_74 rfl ?_
                refine cw_aload_n d_C_set_75 rfl ?_
                refine cw_iload_n d_C_set_76 rfl ?_
                refine cw_putI fp_C_46 so_C rfl d_C_set_77 ?_
                refine cw_iload_n d_C_set_80 rfl ?_
                refine cw_iret rfl d_C_set_81 ?_
                have hx : ix x = 2 := by rw [c_57]; rfl
                have hz : setOk x v = true := decide_eq_true (by
                  have := i0
                  have := i1
                  have := i60
                  have := i99
                  have h1 := c_61
                  have h2 := c_67
                  rw [i32_lt] at h1 h2
                  refine Or.inr <| Or.inr ⟨c_57, by omega, by omega⟩)
                exact ⟨by simp [ans_set, hz, hx]; exact hR.od, by simp [aft_set, hz, hx]; exact hR.su hI (t := 4) (i := 2) ⟨by decide, rfl⟩ (by decide), mS_kC (by omega)⟩
        · refine cw_iload_n d_C_set_37 rfl ?_
          refine cw_bipush (v := 60) d_C_set_38 (by decide) ?_
          refine cw_icmp_gt 55 d_C_set_40 (by decide) (fun c_40 => ?_) (fun c_40 => ?_)
          · refine cw_iload_n d_C_set_55 rfl ?_
            refine cw_iconst (v := 2) d_C_set_56 (by decide) ?_
            refine cw_icmp_ne 82 d_C_set_57 (by decide) (fun c_57 => ?_) (fun c_57 => ?_)
            · refine cw_bipush (v := (-2)) d_C_set_82 (by decide) ?_
              refine cw_iret rfl d_C_set_84 ?_
              have hz : setOk x v = false := set_f (by
                have := i0
                have := i1
                have := i60
                have := i99
                try simp only [i32_lt, i32_le] at c_1 c_6 c_29 c_34 c_40 c_57
                rintro (⟨q1, q2, q3⟩ | ⟨q1, q2, q3⟩ | ⟨q1, q2, q3⟩) <;> first | omega | (subst q1; simp_all) | simp_all)
              exact ⟨by simp [ans_set, hz], by simp [aft_set, hz]; exact hR, kC.rf⟩
            · refine cw_iload_n d_C_set_60 rfl ?_
              refine cw_if_lt 82 d_C_set_61 (by decide) (fun c_61 => ?_) (fun c_61 => ?_)
              · refine cw_bipush (v := (-2)) d_C_set_82 (by decide) ?_
                refine cw_iret rfl d_C_set_84 ?_
                have hz : setOk x v = false := set_f (by
                  have := i0
                  have := i1
                  have := i60
                  have := i99
                  try simp only [i32_lt, i32_le] at c_1 c_6 c_29 c_34 c_40 c_57 c_61
                  rintro (⟨q1, q2, q3⟩ | ⟨q1, q2, q3⟩ | ⟨q1, q2, q3⟩) <;> first | omega | (subst q1; simp_all) | simp_all)
                exact ⟨by simp [ans_set, hz], by simp [aft_set, hz]; exact hR, kC.rf⟩
              · refine cw_iload_n d_C_set_64 rfl ?_
                refine cw_bipush (v := 99) d_C_set_65 (by decide) ?_
                refine cw_icmp_gt 82 d_C_set_67 (by decide) (fun c_67 => ?_) (fun c_67 => ?_)
                · refine cw_bipush (v := (-2)) d_C_set_82 (by decide) ?_
                  refine cw_iret rfl d_C_set_84 ?_
                  have hz : setOk x v = false := set_f (by
                    have := i0
                    have := i1
                    have := i60
                    have := i99
                    try simp only [i32_lt, i32_le] at c_1 c_6 c_29 c_34 c_40 c_57 c_61 c_67
                    rintro (⟨q1, q2, q3⟩ | ⟨q1, q2, q3⟩ | ⟨q1, q2, q3⟩) <;> first | omega | (subst q1; simp_all) | simp_all)
                  exact ⟨by simp [ans_set, hz], by simp [aft_set, hz]; exact hR, kC.rf⟩
                · refine cw_aload_n d_C_set_70 rfl ?_
                  refine cw_getI fl_C_46 so_C rfl d_C_set_71 ?_
                  refine cw_istore_n d_C_set_74 rfl ?_
                  refine cw_aload_n d_C_set_75 rfl ?_
                  refine cw_iload_n d_C_set_76 rfl ?_
                  refine cw_putI fp_C_46 so_C rfl d_C_set_77 ?_
                  refine cw_iload_n d_C_set_80 rfl ?_
                  refine cw_iret rfl d_C_set_81 ?_
                  have hx : ix x = 2 := by rw [c_57]; rfl
                  have hz : setOk x v = true := decide_eq_true (by
                    have := i0
                    have := i1
                    have := i60
                    have := i99
                    have h1 := c_61
                    have h2 := c_67
                    rw [i32_lt] at h1 h2
                    refine Or.inr <| Or.inr ⟨c_57, by omega, by omega⟩)
                  exact ⟨by simp [ans_set, hz, hx]; exact hR.od, by simp [aft_set, hz, hx]; exact hR.su hI (t := 4) (i := 2) ⟨by decide, rfl⟩ (by decide), mS_kC (by omega)⟩
          · refine cw_aload_n d_C_set_43 rfl ?_
            refine cw_getI fl_C_43 so_C rfl d_C_set_44 ?_
            refine cw_istore_n d_C_set_47 rfl ?_
            refine cw_aload_n d_C_set_48 rfl ?_
            refine cw_iload_n d_C_set_49 rfl ?_
            refine cw_putI fp_C_43 so_C rfl d_C_set_50 ?_
            refine cw_iload_n d_C_set_53 rfl ?_
            refine cw_iret rfl d_C_set_54 ?_
            have hx : ix x = 1 := by rw [c_29]; rfl
            have hz : setOk x v = true := decide_eq_true (by
              have := i0
              have := i1
              have := i60
              have := i99
              have h1 := c_34
              have h2 := c_40
              rw [i32_lt] at h1 h2
              refine Or.inr <| Or.inl ⟨c_29, by omega, by omega⟩)
            exact ⟨by simp [ans_set, hz, hx]; exact hR.la, by simp [aft_set, hz, hx]; exact hR.su hI (t := 4) (i := 1) ⟨by decide, rfl⟩ (by decide), mS_kC (by omega)⟩
    · refine cw_iload_n d_C_set_9 rfl ?_
      refine cw_bipush (v := 99) d_C_set_10 (by decide) ?_
      refine cw_icmp_gt 27 d_C_set_12 (by decide) (fun c_12 => ?_) (fun c_12 => ?_)
      · refine cw_iload_n d_C_set_27 rfl ?_
        refine cw_iconst (v := 1) d_C_set_28 (by decide) ?_
        refine cw_icmp_ne 55 d_C_set_29 (by decide) (fun c_29 => ?_) (fun c_29 => ?_)
        · refine cw_iload_n d_C_set_55 rfl ?_
          refine cw_iconst (v := 2) d_C_set_56 (by decide) ?_
          refine cw_icmp_ne 82 d_C_set_57 (by decide) (fun c_57 => ?_) (fun c_57 => ?_)
          · refine cw_bipush (v := (-2)) d_C_set_82 (by decide) ?_
            refine cw_iret rfl d_C_set_84 ?_
            have hz : setOk x v = false := set_f (by
              have := i0
              have := i1
              have := i60
              have := i99
              try simp only [i32_lt, i32_le] at c_1 c_6 c_12 c_29 c_57
              rintro (⟨q1, q2, q3⟩ | ⟨q1, q2, q3⟩ | ⟨q1, q2, q3⟩) <;> first | omega | (subst q1; simp_all) | simp_all)
            exact ⟨by simp [ans_set, hz], by simp [aft_set, hz]; exact hR, kC.rf⟩
          · refine cw_iload_n d_C_set_60 rfl ?_
            refine cw_if_lt 82 d_C_set_61 (by decide) (fun c_61 => ?_) (fun c_61 => ?_)
            · refine cw_bipush (v := (-2)) d_C_set_82 (by decide) ?_
              refine cw_iret rfl d_C_set_84 ?_
              have hz : setOk x v = false := set_f (by
                have := i0
                have := i1
                have := i60
                have := i99
                try simp only [i32_lt, i32_le] at c_1 c_6 c_12 c_29 c_57 c_61
                rintro (⟨q1, q2, q3⟩ | ⟨q1, q2, q3⟩ | ⟨q1, q2, q3⟩) <;> first | omega | (subst q1; simp_all) | simp_all)
              exact ⟨by simp [ans_set, hz], by simp [aft_set, hz]; exact hR, kC.rf⟩
            · refine cw_iload_n d_C_set_64 rfl ?_
              refine cw_bipush (v := 99) d_C_set_65 (by decide) ?_
              refine cw_icmp_gt 82 d_C_set_67 (by decide) (fun c_67 => ?_) (fun c_67 => ?_)
              · refine cw_bipush (v := (-2)) d_C_set_82 (by decide) ?_
                refine cw_iret rfl d_C_set_84 ?_
                have hz : setOk x v = false := set_f (by
                  have := i0
                  have := i1
                  have := i60
                  have := i99
                  try simp only [i32_lt, i32_le] at c_1 c_6 c_12 c_29 c_57 c_61 c_67
                  rintro (⟨q1, q2, q3⟩ | ⟨q1, q2, q3⟩ | ⟨q1, q2, q3⟩) <;> first | omega | (subst q1; simp_all) | simp_all)
                exact ⟨by simp [ans_set, hz], by simp [aft_set, hz]; exact hR, kC.rf⟩
              · refine cw_aload_n d_C_set_70 rfl ?_
                refine cw_getI fl_C_46 so_C rfl d_C_set_71 ?_
                refine cw_istore_n d_C_set_74 rfl ?_
                refine cw_aload_n d_C_set_75 rfl ?_
                refine cw_iload_n d_C_set_76 rfl ?_
                refine cw_putI fp_C_46 so_C rfl d_C_set_77 ?_
                refine cw_iload_n d_C_set_80 rfl ?_
                refine cw_iret rfl d_C_set_81 ?_
                have hx : ix x = 2 := by rw [c_57]; rfl
                have hz : setOk x v = true := decide_eq_true (by
                  have := i0
                  have := i1
                  have := i60
                  have := i99
                  have h1 := c_61
                  have h2 := c_67
                  rw [i32_lt] at h1 h2
                  refine Or.inr <| Or.inr ⟨c_57, by omega, by omega⟩)
                exact ⟨by simp [ans_set, hz, hx]; exact hR.od, by simp [aft_set, hz, hx]; exact hR.su hI (t := 4) (i := 2) ⟨by decide, rfl⟩ (by decide), mS_kC (by omega)⟩
        · refine cw_iload_n d_C_set_32 rfl ?_
          refine cw_iconst (v := 1) d_C_set_33 (by decide) ?_
          refine cw_icmp_lt 55 d_C_set_34 (by decide) (fun c_34 => ?_) (fun c_34 => ?_)
          · refine cw_iload_n d_C_set_55 rfl ?_
            refine cw_iconst (v := 2) d_C_set_56 (by decide) ?_
            refine cw_icmp_ne 82 d_C_set_57 (by decide) (fun c_57 => ?_) (fun c_57 => ?_)
            · refine cw_bipush (v := (-2)) d_C_set_82 (by decide) ?_
              refine cw_iret rfl d_C_set_84 ?_
              have hz : setOk x v = false := set_f (by
                have := i0
                have := i1
                have := i60
                have := i99
                try simp only [i32_lt, i32_le] at c_1 c_6 c_12 c_29 c_34 c_57
                rintro (⟨q1, q2, q3⟩ | ⟨q1, q2, q3⟩ | ⟨q1, q2, q3⟩) <;> first | omega | (subst q1; simp_all) | simp_all)
              exact ⟨by simp [ans_set, hz], by simp [aft_set, hz]; exact hR, kC.rf⟩
            · refine cw_iload_n d_C_set_60 rfl ?_
              refine cw_if_lt 82 d_C_set_61 (by decide) (fun c_61 => ?_) (fun c_61 => ?_)
              · refine cw_bipush (v := (-2)) d_C_set_82 (by decide) ?_
                refine cw_iret rfl d_C_set_84 ?_
                have hz : setOk x v = false := set_f (by
                  have := i0
                  have := i1
                  have := i60
                  have := i99
                  try simp only [i32_lt, i32_le] at c_1 c_6 c_12 c_29 c_34 c_57 c_61
                  rintro (⟨q1, q2, q3⟩ | ⟨q1, q2, q3⟩ | ⟨q1, q2, q3⟩) <;> first | omega | (subst q1; simp_all) | simp_all)
                exact ⟨by simp [ans_set, hz], by simp [aft_set, hz]; exact hR, kC.rf⟩
              · refine cw_iload_n d_C_set_64 rfl ?_
                refine cw_bipush (v := 99) d_C_set_65 (by decide) ?_
                refine cw_icmp_gt 82 d_C_set_67 (by decide) (fun c_67 => ?_) (fun c_67 => ?_)
                · refine cw_bipush (v := (-2)) d_C_set_82 (by decide) ?_
                  refine cw_iret rfl d_C_set_84 ?_
                  have hz : setOk x v = false := set_f (by
                    have := i0
                    have := i1
                    have := i60
                    have := i99
                    try simp only [i32_lt, i32_le] at c_1 c_6 c_12 c_29 c_34 c_57 c_61 c_67
                    rintro (⟨q1, q2, q3⟩ | ⟨q1, q2, q3⟩ | ⟨q1, q2, q3⟩) <;> first | omega | (subst q1; simp_all) | simp_all)
                  exact ⟨by simp [ans_set, hz], by simp [aft_set, hz]; exact hR, kC.rf⟩
                · refine cw_aload_n d_C_set_70 rfl ?_
                  refine cw_getI fl_C_46 so_C rfl d_C_set_71 ?_
                  refine cw_istore_n d_C_set_74 rfl ?_
                  refine cw_aload_n d_C_set_75 rfl ?_
                  refine cw_iload_n d_C_set_76 rfl ?_
                  refine cw_putI fp_C_46 so_C rfl d_C_set_77 ?_
                  refine cw_iload_n d_C_set_80 rfl ?_
                  refine cw_iret rfl d_C_set_81 ?_
                  have hx : ix x = 2 := by rw [c_57]; rfl
                  have hz : setOk x v = true := decide_eq_true (by
                    have := i0
                    have := i1
                    have := i60
                    have := i99
                    have h1 := c_61
                    have h2 := c_67
                    rw [i32_lt] at h1 h2
                    refine Or.inr <| Or.inr ⟨c_57, by omega, by omega⟩)
                  exact ⟨by simp [ans_set, hz, hx]; exact hR.od, by simp [aft_set, hz, hx]; exact hR.su hI (t := 4) (i := 2) ⟨by decide, rfl⟩ (by decide), mS_kC (by omega)⟩
          · refine cw_iload_n d_C_set_37 rfl ?_
            refine cw_bipush (v := 60) d_C_set_38 (by decide) ?_
            refine cw_icmp_gt 55 d_C_set_40 (by decide) (fun c_40 => ?_) (fun c_40 => ?_)
            · refine cw_iload_n d_C_set_55 rfl ?_
              refine cw_iconst (v := 2) d_C_set_56 (by decide) ?_
              refine cw_icmp_ne 82 d_C_set_57 (by decide) (fun c_57 => ?_) (fun c_57 => ?_)
              · refine cw_bipush (v := (-2)) d_C_set_82 (by decide) ?_
                refine cw_iret rfl d_C_set_84 ?_
                have hz : setOk x v = false := set_f (by
                  have := i0
                  have := i1
                  have := i60
                  have := i99
                  try simp only [i32_lt, i32_le] at c_1 c_6 c_12 c_29 c_34 c_40 c_57
                  rintro (⟨q1, q2, q3⟩ | ⟨q1, q2, q3⟩ | ⟨q1, q2, q3⟩) <;> first | omega | (subst q1; simp_all) | simp_all)
                exact ⟨by simp [ans_set, hz], by simp [aft_set, hz]; exact hR, kC.rf⟩
              · refine cw_iload_n d_C_set_60 rfl ?_
                refine cw_if_lt 82 d_C_set_61 (by decide) (fun c_61 => ?_) (fun c_61 => ?_)
                · refine cw_bipush (v := (-2)) d_C_set_82 (by decide) ?_
                  refine cw_iret rfl d_C_set_84 ?_
                  have hz : setOk x v = false := set_f (by
                    have := i0
                    have := i1
                    have := i60
                    have := i99
                    try simp only [i32_lt, i32_le] at c_1 c_6 c_12 c_29 c_34 c_40 c_57 c_61
                    rintro (⟨q1, q2, q3⟩ | ⟨q1, q2, q3⟩ | ⟨q1, q2, q3⟩) <;> first | omega | (subst q1; simp_all) | simp_all)
                  exact ⟨by simp [ans_set, hz], by simp [aft_set, hz]; exact hR, kC.rf⟩
                · refine cw_iload_n d_C_set_64 rfl ?_
                  refine cw_bipush (v := 99) d_C_set_65 (by decide) ?_
                  refine cw_icmp_gt 82 d_C_set_67 (by decide) (fun c_67 => ?_) (fun c_67 => ?_)
                  · refine cw_bipush (v := (-2)) d_C_set_82 (by decide) ?_
                    refine cw_iret rfl d_C_set_84 ?_
                    have hz : setOk x v = false := set_f (by
                      have := i0
                      have := i1
                      have := i60
                      have := i99
                      try simp only [i32_lt, i32_le] at c_1 c_6 c_12 c_29 c_34 c_40 c_57 c_61 c_67
                      rintro (⟨q1, q2, q3⟩ | ⟨q1, q2, q3⟩ | ⟨q1, q2, q3⟩) <;> first | omega | (subst q1; simp_all) | simp_all)
                    exact ⟨by simp [ans_set, hz], by simp [aft_set, hz]; exact hR, kC.rf⟩
                  · refine cw_aload_n d_C_set_70 rfl ?_
                    refine cw_getI fl_C_46 so_C rfl d_C_set_71 ?_
                    refine cw_istore_n d_C_set_74 rfl ?_
                    refine cw_aload_n d_C_set_75 rfl ?_
                    refine cw_iload_n d_C_set_76 rfl ?_
                    refine cw_putI fp_C_46 so_C rfl d_C_set_77 ?_
                    refine cw_iload_n d_C_set_80 rfl ?_
                    refine cw_iret rfl d_C_set_81 ?_
                    have hx : ix x = 2 := by rw [c_57]; rfl
                    have hz : setOk x v = true := decide_eq_true (by
                      have := i0
                      have := i1
                      have := i60
                      have := i99
                      have h1 := c_61
                      have h2 := c_67
                      rw [i32_lt] at h1 h2
                      refine Or.inr <| Or.inr ⟨c_57, by omega, by omega⟩)
                    exact ⟨by simp [ans_set, hz, hx]; exact hR.od, by simp [aft_set, hz, hx]; exact hR.su hI (t := 4) (i := 2) ⟨by decide, rfl⟩ (by decide), mS_kC (by omega)⟩
            · refine cw_aload_n d_C_set_43 rfl ?_
              refine cw_getI fl_C_43 so_C rfl d_C_set_44 ?_
              refine cw_istore_n d_C_set_47 rfl ?_
              refine cw_aload_n d_C_set_48 rfl ?_
              refine cw_iload_n d_C_set_49 rfl ?_
              refine cw_putI fp_C_43 so_C rfl d_C_set_50 ?_
              refine cw_iload_n d_C_set_53 rfl ?_
              refine cw_iret rfl d_C_set_54 ?_
              have hx : ix x = 1 := by rw [c_29]; rfl
              have hz : setOk x v = true := decide_eq_true (by
                have := i0
                have := i1
                have := i60
                have := i99
                have h1 := c_34
                have h2 := c_40
                rw [i32_lt] at h1 h2
                refine Or.inr <| Or.inl ⟨c_29, by omega, by omega⟩)
              exact ⟨by simp [ans_set, hz, hx]; exact hR.la, by simp [aft_set, hz, hx]; exact hR.su hI (t := 4) (i := 1) ⟨by decide, rfl⟩ (by decide), mS_kC (by omega)⟩
      · refine cw_aload_n d_C_set_15 rfl ?_
        refine cw_getI fl_C_39 so_C rfl d_C_set_16 ?_
        refine cw_istore_n d_C_set_19 rfl ?_
        refine cw_aload_n d_C_set_20 rfl ?_
        refine cw_iload_n d_C_set_21 rfl ?_
        refine cw_putI fp_C_39 so_C rfl d_C_set_22 ?_
        refine cw_iload_n d_C_set_25 rfl ?_
        refine cw_iret rfl d_C_set_26 ?_
        have hx : ix x = 0 := by rw [c_1]; rfl
        have hz : setOk x v = true := decide_eq_true (by
          have := i0
          have := i1
          have := i60
          have := i99
          have h1 := c_6
          have h2 := c_12
          rw [i32_lt] at h1 h2
          refine Or.inl ⟨c_1, by omega, by omega⟩)
        exact ⟨by simp [ans_set, hz, hx]; exact hR.ru, by simp [aft_set, hz, hx]; exact hR.su hI (t := 4) (i := 0) ⟨by decide, rfl⟩ (by decide), mS_kC (by omega)⟩
set_option maxHeartbeats 4000000 in
set_option maxRecDepth 100000 in
theorem c_draw {M : Mem} {σ : Sg} (hR : RC M σ) (hI : Iv σ) {x z s y : Int32} : CS u_C_draw [.ref 0, .int x, .int z, .int s, .int y] M (rC (ans_draw σ x z s y) (aft_draw σ x z s y) M) := by
  obtain ⟨hn1, hn2, hn3⟩ := hI.n
  refine cs_introF (L := [some (.ref 0), some (.int x), some (.int z), some (.int s), some (.int y), none]) (by decide +kernel) (fun ad q h => h) (fun ad => Nat.le_of_ble_eq_true rfl) ?_
  refine cw_iload_n d_C_draw_0 rfl ?_
  refine cw_staticP (s_C_isHand) rfl ml_C_120 rfl rfl d_C_draw_1 ?_
  refine cw_bif_eq 32 d_C_draw_4 (by decide) (fun c_4 => ?_) (fun c_4 => ?_)
  · refine cw_bipush (v := (-2)) d_C_draw_32 (by decide) ?_
    refine cw_iret rfl d_C_draw_34 ?_
    exact ⟨by simp [ans_draw, okDraw, c_4], by simp [aft_draw, okDraw, c_4]; exact hR, kC.rf⟩
  · obtain ⟨a, hha, e_a⟩ := ixB_t c_4 (by omega)
    subst e_a
    refine cw_aload_n d_C_draw_7 rfl ?_
    refine cw_iload_n d_C_draw_8 rfl ?_
    refine cw_virtP (s_C_isHead hR hI) rfl ml_C_78 so_C rfl rfl d_C_draw_9 ?_
    refine cw_bif_eq 32 d_C_draw_12 (by decide) (fun c_12 => ?_) (fun c_12 => ?_)
    · refine cw_bipush (v := (-2)) d_C_draw_32 (by decide) ?_
      refine cw_iret rfl d_C_draw_34 ?_
      exact ⟨by simp [ans_draw, okDraw, c_4, c_12], by simp [aft_draw, okDraw, c_4, c_12]; exact hR, kC.rf⟩
    · obtain ⟨h, hhh, e_h⟩ := ixB_t c_12 (by omega)
      subst e_h
      refine cw_aload_n d_C_draw_15 rfl ?_
      refine cw_iload_n d_C_draw_16 rfl ?_
      refine cw_virtP (s_C_isSet hR hI) rfl ml_C_114 so_C rfl rfl d_C_draw_17 ?_
      refine cw_bif_eq 32 d_C_draw_20 (by decide) (fun c_20 => ?_) (fun c_20 => ?_)
      · refine cw_bipush (v := (-2)) d_C_draw_32 (by decide) ?_
        refine cw_iret rfl d_C_draw_34 ?_
        exact ⟨by simp [ans_draw, okDraw, c_4, c_12, c_20], by simp [aft_draw, okDraw, c_4, c_12, c_20]; exact hR, kC.rf⟩
      · refine cw_aload_n d_C_draw_23 rfl ?_
        refine cw_iload d_C_draw_24 rfl ?_
        refine cw_virtP (s_C_isNextYear hR hI) rfl ml_C_143 so_C rfl rfl d_C_draw_26 ?_
        refine cw_bif_ne 35 d_C_draw_29 (by decide) (fun c_29 => ?_) (fun c_29 => ?_)
        · refine cw_aload_n d_C_draw_35 rfl ?_
          refine cw_getI fl_C_146 so_C rfl d_C_draw_36 ?_
          refine cw_top rfl ?_
          refine cw_bipush (v := 30) d_C_draw_39 (by decide) ?_
          refine cw_icmp_lt 47 d_C_draw_41 (by decide) (fun c_41 => ?_) (fun c_41 => ?_)
          · have h30 : σ.1.2.1 < 30 := (nI_ltI (by omega) (by decide)).mp (hR.n2 ▸ c_41)
            have hnl1 : ¬ live σ (100 + σ.1.2.1) := by unfold live; omega
            have hnl2 : ¬ live σ (200 + σ.1.2.1) := by unfold live; omega
            have hnl3 : ¬ live σ (300 + σ.1.2.1) := by unfold live; omega
            refine cw_aload_n d_C_draw_47 rfl ?_
            refine cw_getR fl_C_23 so_C rfl d_C_draw_48 ?_
            refine cw_aload_n d_C_draw_51 rfl ?_
            refine cw_getI fl_C_146 so_C rfl d_C_draw_52 ?_
            refine cw_aaldN (i := σ.1.2.1) sr_3 hR.n2 (by omega) (by decide) d_C_draw_55 ?_
            refine cw_astore d_C_draw_56 rfl ?_
            refine cw_aload_n d_C_draw_58 rfl ?_
            refine cw_iload_n d_C_draw_59 rfl ?_
            refine cw_aload d_C_draw_60 rfl ?_
            refine cw_getR fl_C_149 (so_Sk (d := σ.1.2.1) (by omega)) rfl d_C_draw_62 ?_
            refine cw_virtV (s_C_fillMean hR hI c_20 (sa_ba (d := σ.1.2.1) (by omega)) hnl2) rfl ml_C_152 so_C rfl rfl d_C_draw_65 (fun M_65 q_65 => ?_)
            subst q_65
            refine cw_aload d_C_draw_68 rfl ?_
            refine cw_aload_n d_C_draw_70 rfl ?_
            refine cw_getR fl_C_11 so_C rfl d_C_draw_71 ?_
            refine cw_iload_n d_C_draw_74 rfl ?_
            refine cw_aaldN (i := h) sr_1 rfl (by omega) (by decide) d_C_draw_75 ?_
            refine cw_getR fl_C_88 (so_He (h := h) (by omega)) rfl d_C_draw_76 ?_
            refine cw_aload_n d_C_draw_79 rfl ?_
            refine cw_getR fl_C_17 so_C rfl d_C_draw_80 ?_
            refine cw_iload_n d_C_draw_83 rfl ?_
            refine cw_aaldN (i := a) sr_2 rfl (by omega) (by decide) d_C_draw_84 ?_
            refine cw_staticV (s_C_outline (d := σ.1.2.1) (r := 20 + h) (a := a) (by omega) (sa_pl (by omega)) (by omega) (by omega)) rfl ml_C_156 rfl rfl d_C_draw_85 (fun M_85 q_85 => ?_)
            subst q_85
            have e2 : ∀ p, p < 8 → mG (mRow M (200 + σ.1.2.1) 8 (meanS σ s)) (200 + σ.1.2.1) p = meanS σ s p := fun p hp => mRow_in hp
            have e3 : ∀ p, p < 8 → (fun p => drawnS (mG (mRow M (200 + σ.1.2.1) 8 (meanS σ s)) (200 + σ.1.2.1) p) (mG (mRow M (200 + σ.1.2.1) 8 (meanS σ s)) (20 + h) p) (mG (mRow M (200 + σ.1.2.1) 8 (meanS σ s)) (50 + a) p)) p = lnDraw σ a h s p := fun p hp => by
              show drawnS _ _ _ = _
              rw [e2 p hp, mRow_out (by omega), mRow_out (by omega), hR.pl (by omega) hp, hR.tn (by omega) hp]
              rfl
            have e4 : ∀ k j, k ≠ 100 + σ.1.2.1 → mG (mS (mS (mS (mRow (mRow M (200 + σ.1.2.1) 8 (meanS σ s)) (300 + σ.1.2.1) 8 (fun p => drawnS (mG (mRow M (200 + σ.1.2.1) 8 (meanS σ s)) (200 + σ.1.2.1) p) (mG (mRow M (200 + σ.1.2.1) 8 (meanS σ s)) (20 + h) p) (mG (mRow M (200 + σ.1.2.1) 8 (meanS σ s)) (50 + a) p))) (100 + σ.1.2.1) 2 (nI h)) (100 + σ.1.2.1) 3 y) (100 + σ.1.2.1) 5 (-1)) k j = mG (mRow (mRow M (200 + σ.1.2.1) 8 (meanS σ s)) (300 + σ.1.2.1) 8 (fun p => drawnS (mG (mRow M (200 + σ.1.2.1) 8 (meanS σ s)) (200 + σ.1.2.1) p) (mG (mRow M (200 + σ.1.2.1) 8 (meanS σ s)) (20 + h) p) (mG (mRow M (200 + σ.1.2.1) 8 (meanS σ s)) (50 + a) p))) k j := fun k j hk => ((mS_k hk).trans (mS_k hk)).trans (mS_k hk)
            have e5 : ∀ p, p < 8 → mG (mS (mS (mS (mRow (mRow M (200 + σ.1.2.1) 8 (meanS σ s)) (300 + σ.1.2.1) 8 (fun p => drawnS (mG (mRow M (200 + σ.1.2.1) 8 (meanS σ s)) (200 + σ.1.2.1) p) (mG (mRow M (200 + σ.1.2.1) 8 (meanS σ s)) (20 + h) p) (mG (mRow M (200 + σ.1.2.1) 8 (meanS σ s)) (50 + a) p))) (100 + σ.1.2.1) 2 (nI h)) (100 + σ.1.2.1) 3 y) (100 + σ.1.2.1) 5 (-1)) (300 + σ.1.2.1) p = lnDraw σ a h s p := fun p hp => by rw [e4 _ _ (by omega), mRow_in hp]; exact e3 p hp
            have e6 : ∀ p, p < 8 → mG (mS (mS (mS (mRow (mRow M (200 + σ.1.2.1) 8 (meanS σ s)) (300 + σ.1.2.1) 8 (fun p => drawnS (mG (mRow M (200 + σ.1.2.1) 8 (meanS σ s)) (200 + σ.1.2.1) p) (mG (mRow M (200 + σ.1.2.1) 8 (meanS σ s)) (20 + h) p) (mG (mRow M (200 + σ.1.2.1) 8 (meanS σ s)) (50 + a) p))) (100 + σ.1.2.1) 2 (nI h)) (100 + σ.1.2.1) 3 y) (100 + σ.1.2.1) 5 (-1)) (200 + σ.1.2.1) p = meanS σ s p := fun p hp => by rw [e4 _ _ (by omega), mRow_out (by omega)]; exact e2 p hp
            have ek : kindS (mG (mS (mS (mS (mRow (mRow M (200 + σ.1.2.1) 8 (meanS σ s)) (300 + σ.1.2.1) 8 (fun p => drawnS (mG (mRow M (200 + σ.1.2.1) 8 (meanS σ s)) (200 + σ.1.2.1) p) (mG (mRow M (200 + σ.1.2.1) 8 (meanS σ s)) (20 + h) p) (mG (mRow M (200 + σ.1.2.1) 8 (meanS σ s)) (50 + a) p))) (100 + σ.1.2.1) 2 (nI h)) (100 + σ.1.2.1) 3 y) (100 + σ.1.2.1) 5 (-1)) (300 + σ.1.2.1)) (mG (mS (mS (mS (mRow (mRow M (200 + σ.1.2.1) 8 (meanS σ s)) (300 + σ.1.2.1) 8 (fun p => drawnS (mG (mRow M (200 + σ.1.2.1) 8 (meanS σ s)) (200 + σ.1.2.1) p) (mG (mRow M (200 + σ.1.2.1) 8 (meanS σ s)) (20 + h) p) (mG (mRow M (200 + σ.1.2.1) 8 (meanS σ s)) (50 + a) p))) (100 + σ.1.2.1) 2 (nI h)) (100 + σ.1.2.1) 3 y) (100 + σ.1.2.1) 5 (-1)) (200 + σ.1.2.1)) (mG (mS (mS (mS (mRow (mRow M (200 + σ.1.2.1) 8 (meanS σ s)) (300 + σ.1.2.1) 8 (fun p => drawnS (mG (mRow M (200 + σ.1.2.1) 8 (meanS σ s)) (200 + σ.1.2.1) p) (mG (mRow M (200 + σ.1.2.1) 8 (meanS σ s)) (20 + h) p) (mG (mRow M (200 + σ.1.2.1) 8 (meanS σ s)) (50 + a) p))) (100 + σ.1.2.1) 2 (nI h)) (100 + σ.1.2.1) 3 y) (100 + σ.1.2.1) 5 (-1)) (20 + h)) (mG (mS (mS (mS (mRow (mRow M (200 + σ.1.2.1) 8 (meanS σ s)) (300 + σ.1.2.1) 8 (fun p => drawnS (mG (mRow M (200 + σ.1.2.1) 8 (meanS σ s)) (200 + σ.1.2.1) p) (mG (mRow M (200 + σ.1.2.1) 8 (meanS σ s)) (20 + h) p) (mG (mRow M (200 + σ.1.2.1) 8 (meanS σ s)) (50 + a) p))) (100 + σ.1.2.1) 2 (nI h)) (100 + σ.1.2.1) 3 y) (100 + σ.1.2.1) 5 (-1)) (50 + a)) = kindS (lnDraw σ a h s) (meanS σ s) (σ.2 1 h) (hPar σ a).2 := kindS_c e5 e6 (fun p hp => by rw [e4 _ _ (by omega), mRow_out (by omega), mRow_out (by omega)]; exact hR.pl (by omega) hp) (fun p hp => by rw [e4 _ _ (by omega), mRow_out (by omega), mRow_out (by omega)]; exact hR.tn (by omega) hp)
            have hkp : kp σ M (mS (mS (mS (mRow (mRow M (200 + σ.1.2.1) 8 (meanS σ s)) (300 + σ.1.2.1) 8 (fun p => drawnS (mG (mRow M (200 + σ.1.2.1) 8 (meanS σ s)) (200 + σ.1.2.1) p) (mG (mRow M (200 + σ.1.2.1) 8 (meanS σ s)) (20 + h) p) (mG (mRow M (200 + σ.1.2.1) 8 (meanS σ s)) (50 + a) p))) (100 + σ.1.2.1) 2 (nI h)) (100 + σ.1.2.1) 3 y) (100 + σ.1.2.1) 5 (-1)) := ((((mRow_kp hnl2).tr (mRow_kp hnl3)).tr (mS_kp hnl1)).tr (mS_kp hnl1)).tr (mS_kp hnl1)
            have hok : okDraw σ (nI a) (nI h) s y = true := by simp [okDraw, c_4, c_12, c_20, c_29]
            refine cw_aload d_C_draw_88 rfl ?_
            refine cw_iload_n d_C_draw_90 rfl ?_
            refine cw_putI fp_C_160 (so_Sk (d := σ.1.2.1) (by omega)) rfl d_C_draw_91 ?_
            refine cw_aload d_C_draw_94 rfl ?_
            refine cw_iload d_C_draw_96 rfl ?_
            refine cw_putI fp_C_163 (so_Sk (d := σ.1.2.1) (by omega)) rfl d_C_draw_98 ?_
            refine cw_aload d_C_draw_101 rfl ?_
            refine cw_iconst (v := (-1)) d_C_draw_103 (by decide) ?_
            refine cw_putI fp_C_166 (so_Sk (d := σ.1.2.1) (by omega)) rfl d_C_draw_104 ?_
            refine cw_aload d_C_draw_107 rfl ?_
            refine cw_aload d_C_draw_109 rfl ?_
            refine cw_aload_n d_C_draw_111 rfl ?_
            refine cw_getR fl_C_11 so_C rfl d_C_draw_112 ?_
            refine cw_iload_n d_C_draw_115 rfl ?_
            refine cw_aaldN (i := h) sr_1 rfl (by omega) (by decide) d_C_draw_116 ?_
            refine cw_getR fl_C_88 (so_He (h := h) (by omega)) rfl d_C_draw_117 ?_
            refine cw_aload_n d_C_draw_120 rfl ?_
            refine cw_getR fl_C_17 so_C rfl d_C_draw_121 ?_
            refine cw_iload_n d_C_draw_124 rfl ?_
            refine cw_aaldN (i := a) sr_2 rfl (by omega) (by decide) d_C_draw_125 ?_
            refine cw_staticP (s_C_kindOf (d := σ.1.2.1) (r := 20 + h) (a := a) (by omega) (sa_pl (by omega)) (by omega)) rfl ml_C_169 rfl rfl d_C_draw_126 ?_
            refine cw_top ek ?_
            refine cw_putI fp_C_173 (so_Sk (d := σ.1.2.1) (by omega)) rfl d_C_draw_129 ?_
            refine cw_aload_n d_C_draw_132 rfl ?_
            refine cw_dup_ref d_C_draw_133 ?_
            refine cw_getI fl_C_146 so_C rfl d_C_draw_134 ?_
            refine cw_top ((mS_k (by omega)).trans ((e4 0 6 (by omega)).trans ((mRow_out (by omega)).trans ((mRow_out (by omega)).trans hR.n2)))) ?_
            refine cw_iconst (v := 1) d_C_draw_137 (by decide) ?_
            refine cw_iadd d_C_draw_138 ?_
            refine cw_top (nI_1 σ.1.2.1) ?_
            refine cw_putI fp_C_146 so_C rfl d_C_draw_139 ?_
            refine cw_aload_n d_C_draw_142 rfl ?_
            refine cw_getI fl_C_146 so_C rfl d_C_draw_143 ?_
            refine cw_top mS_at ?_
            refine cw_iconst (v := 1) d_C_draw_146 (by decide) ?_
            refine cw_isub d_C_draw_147 ?_
            refine cw_iret rfl d_C_draw_148 ?_
            exact ⟨by simp [ans_draw, hok, show ¬ σ.1.2.1 = 30 by omega]; rw [← nI_1]; exact Int32.add_sub_cancel _ _, by simp [aft_draw, hok, show ¬ σ.1.2.1 = 30 by omega, ix_nI (show a < 2 ^ 31 by omega), ix_nI (show h < 2 ^ 31 by omega)]; exact RC_drw hI hR h30 (hkp.tr (mS_kp hnl1)) (by simp [mS, mG]) (by simp [mS, mG]) mS_at (by simp [mS, mG]) (fun p hp => (mS_k (by omega)).trans (e5 p hp)) (fun p hp => (mS_k (by omega)).trans (e6 p hp)), (hkp.kC.tr (mS_kC (by omega))).tr (mS_kC (by omega))⟩
          · have h30 : σ.1.2.1 = 30 := by
              have : ¬ σ.1.2.1 < 30 := fun q => c_41 (by rw [hR.n2]; exact nI_lt (b := 30) q (by decide))
              omega
            refine cw_bipush (v := (-4)) d_C_draw_44 (by decide) ?_
            refine cw_iret rfl d_C_draw_46 ?_
            have hok : okDraw σ (nI a) (nI h) s y = true := by simp [okDraw, c_4, c_12, c_20, c_29]
            exact ⟨by simp [ans_draw, hok, h30], by simp [aft_draw, hok, h30]; exact hR, kC.rf⟩
        · refine cw_bipush (v := (-2)) d_C_draw_32 (by decide) ?_
          refine cw_iret rfl d_C_draw_34 ?_
          exact ⟨by simp [ans_draw, okDraw, c_4, c_12, c_20, c_29], by simp [aft_draw, okDraw, c_4, c_12, c_20, c_29]; exact hR, kC.rf⟩
theorem mCpy_out {M : Mem} {a b s d n k j : Nat} (h : k ≠ b) : mG (mCpy M a b s d n) k j = mG M k j := by simp [mCpy, mG, h]
theorem mCpy_in {M : Mem} {a b n j : Nat} (h : j < n) : mG (mCpy M a b 0 0 n) b j = mG M a j := by simp [mCpy, mG, va_cpy, h]
theorem mCpy_kp {σ : Sg} {M : Mem} {a b s d n : Nat} (h : ¬ live σ b) : kp σ M (mCpy M a b s d n) := by
  intro k hk
  have : k ≠ b := fun e => h (e ▸ hk)
  exact ⟨by funext j; simp [mCpy, this], rfl⟩
set_option maxHeartbeats 4000000 in
set_option maxRecDepth 100000 in
theorem c_copied {M : Mem} {σ : Sg} (hR : RC M σ) (hI : Iv σ) {x z y : Int32} : CS u_C_copied [.ref 0, .int x, .int z, .int y] M (rC (ans_copied σ x z y) (aft_copied σ x z y) M) := by
  obtain ⟨hn1, hn2, hn3⟩ := hI.n
  refine cs_introF (L := [some (.ref 0), some (.int x), some (.int z), some (.int y), none, none]) (by decide +kernel) (fun ad q h => h) (fun ad => Nat.le_of_ble_eq_true rfl) ?_
  refine cw_iload_n d_C_copied_0 rfl ?_
  refine cw_staticP (s_C_isHand) rfl ml_C_120 rfl rfl d_C_copied_1 ?_
  refine cw_bif_eq 23 d_C_copied_4 (by decide) (fun c_4 => ?_) (fun c_4 => ?_)
  · refine cw_bipush (v := (-2)) d_C_copied_23 (by decide) ?_
    refine cw_iret rfl d_C_copied_25 ?_
    exact ⟨by simp [ans_copied, okCopied, c_4], by simp [aft_copied, okCopied, c_4]; exact hR, kC.rf⟩
  · obtain ⟨a, hha, e_a⟩ := ixB_t c_4 (by omega)
    subst e_a
    refine cw_aload_n d_C_copied_7 rfl ?_
    refine cw_iload_n d_C_copied_8 rfl ?_
    refine cw_virtP (s_C_isDrawing hR hI) rfl ml_C_176 so_C rfl rfl d_C_copied_9 ?_
    refine cw_bif_eq 23 d_C_copied_12 (by decide) (fun c_12 => ?_) (fun c_12 => ?_)
    · refine cw_bipush (v := (-2)) d_C_copied_23 (by decide) ?_
      refine cw_iret rfl d_C_copied_25 ?_
      exact ⟨by simp [ans_copied, okCopied, c_4, c_12], by simp [aft_copied, okCopied, c_4, c_12]; exact hR, kC.rf⟩
    · obtain ⟨d, hhd, e_d⟩ := ixB_t c_12 (by omega)
      subst e_d
      refine cw_aload_n d_C_copied_15 rfl ?_
      refine cw_iload_n d_C_copied_16 rfl ?_
      refine cw_virtP (s_C_isNextYear hR hI) rfl ml_C_143 so_C rfl rfl d_C_copied_17 ?_
      refine cw_bif_ne 26 d_C_copied_20 (by decide) (fun c_20 => ?_) (fun c_20 => ?_)
      · refine cw_aload_n d_C_copied_26 rfl ?_
        refine cw_getI fl_C_146 so_C rfl d_C_copied_27 ?_
        refine cw_top rfl ?_
        refine cw_bipush (v := 30) d_C_copied_30 (by decide) ?_
        refine cw_icmp_lt 38 d_C_copied_32 (by decide) (fun c_32 => ?_) (fun c_32 => ?_)
        · have h30 : σ.1.2.1 < 30 := (nI_ltI (by omega) (by decide)).mp (hR.n2 ▸ c_32)
          have hnl1 : ¬ live σ (100 + σ.1.2.1) := by unfold live; omega
          have hnl2 : ¬ live σ (200 + σ.1.2.1) := by unfold live; omega
          have hnl3 : ¬ live σ (300 + σ.1.2.1) := by unfold live; omega
          refine cw_aload_n d_C_copied_38 rfl ?_
          refine cw_getR fl_C_23 so_C rfl d_C_copied_39 ?_
          refine cw_iload_n d_C_copied_42 rfl ?_
          refine cw_aaldN (i := d) sr_3 rfl (by omega) (by decide) d_C_copied_43 ?_
          refine cw_astore d_C_copied_44 rfl ?_
          refine cw_aload_n d_C_copied_46 rfl ?_
          refine cw_getR fl_C_23 so_C rfl d_C_copied_47 ?_
          refine cw_aload_n d_C_copied_50 rfl ?_
          refine cw_getI fl_C_146 so_C rfl d_C_copied_51 ?_
          refine cw_aaldN (i := σ.1.2.1) sr_3 hR.n2 (by omega) (by decide) d_C_copied_54 ?_
          refine cw_astore d_C_copied_55 rfl ?_
          refine cw_aload d_C_copied_57 rfl ?_
          refine cw_getR fl_C_149 (so_Sk (d := d) (by omega)) rfl d_C_copied_59 ?_
          refine cw_iconst (v := 0) d_C_copied_62 (by decide) ?_
          refine cw_aload d_C_copied_63 rfl ?_
          refine cw_getR fl_C_149 (so_Sk (d := σ.1.2.1) (by omega)) rfl d_C_copied_65 ?_
          refine cw_iconst (v := 0) d_C_copied_68 (by decide) ?_
          refine cw_bipush (v := 8) d_C_copied_69 (by decide) ?_
          refine cw_copy (sp := 0) (dp := 0) (n := 8) ml_C_179 (sa_ba (d := d) (by omega)) (sa_ba (d := σ.1.2.1) (by omega)) rfl rfl rfl (by omega) (by omega) (by decide) rfl rfl d_C_copied_71 ?_
          refine cw_aload d_C_copied_74 rfl ?_
          refine cw_aload d_C_copied_76 rfl ?_
          refine cw_getR fl_C_185 (so_Sk (d := d) (by omega)) rfl d_C_copied_78 ?_
          refine cw_aload_n d_C_copied_81 rfl ?_
          refine cw_getR fl_C_17 so_C rfl d_C_copied_82 ?_
          refine cw_iload_n d_C_copied_85 rfl ?_
          refine cw_aaldN (i := a) sr_2 rfl (by omega) (by decide) d_C_copied_86 ?_
          refine cw_staticV (s_C_outline (d := σ.1.2.1) (r := 300 + d) (a := a) (by omega) (sa_li (by omega)) (by omega) (by omega)) rfl ml_C_156 rfl rfl d_C_copied_87 (fun M_87 q_87 => ?_)
          subst q_87
          have e2 : ∀ p, p < 8 → mG (mCpy M (200 + d) (200 + σ.1.2.1) 0 0 8) (200 + σ.1.2.1) p = σ.2 10 d p := fun p hp => (mCpy_in hp).trans (hR.me (by omega) hp)
          have e3 : ∀ p, p < 8 → (fun p => drawnS (mG (mCpy M (200 + d) (200 + σ.1.2.1) 0 0 8) (200 + σ.1.2.1) p) (mG (mCpy M (200 + d) (200 + σ.1.2.1) 0 0 8) (300 + d) p) (mG (mCpy M (200 + d) (200 + σ.1.2.1) 0 0 8) (50 + a) p)) p = drawnS (σ.2 10 d p) (σ.2 9 d p) ((hPar σ a).2 p) := fun p hp => by
            show drawnS _ _ _ = _
            rw [e2 p hp, mCpy_out (by omega), mCpy_out (by omega), hR.li (by omega) hp, hR.tn (by omega) hp]
          have hkp : kp σ M (mRow (mCpy M (200 + d) (200 + σ.1.2.1) 0 0 8) (300 + σ.1.2.1) 8 (fun p => drawnS (mG (mCpy M (200 + d) (200 + σ.1.2.1) 0 0 8) (200 + σ.1.2.1) p) (mG (mCpy M (200 + d) (200 + σ.1.2.1) 0 0 8) (300 + d) p) (mG (mCpy M (200 + d) (200 + σ.1.2.1) 0 0 8) (50 + a) p))) := (mCpy_kp hnl2).tr (mRow_kp hnl3)
          have eof : mG (mRow (mCpy M (200 + d) (200 + σ.1.2.1) 0 0 8) (300 + σ.1.2.1) 8 (fun p => drawnS (mG (mCpy M (200 + d) (200 + σ.1.2.1) 0 0 8) (200 + σ.1.2.1) p) (mG (mCpy M (200 + d) (200 + σ.1.2.1) 0 0 8) (300 + d) p) (mG (mCpy M (200 + d) (200 + σ.1.2.1) 0 0 8) (50 + a) p))) (100 + d) 2 = mG M (100 + d) 2 := (mRow_out (by omega)).trans (mCpy_out (by omega))
          have hok : okCopied σ (nI a) (nI d) y = true := by simp [okCopied, c_4, c_12, c_20]
          refine cw_aload d_C_copied_90 rfl ?_
          refine cw_aload d_C_copied_92 rfl ?_
          refine cw_getI fl_C_160 (so_Sk (d := d) (by omega)) rfl d_C_copied_94 ?_
          refine cw_top eof ?_
          refine cw_putI fp_C_160 (so_Sk (d := σ.1.2.1) (by omega)) rfl d_C_copied_97 ?_
          refine cw_aload d_C_copied_100 rfl ?_
          refine cw_iload_n d_C_copied_102 rfl ?_
          refine cw_putI fp_C_163 (so_Sk (d := σ.1.2.1) (by omega)) rfl d_C_copied_103 ?_
          refine cw_aload d_C_copied_106 rfl ?_
          refine cw_iload_n d_C_copied_108 rfl ?_
          refine cw_putI fp_C_166 (so_Sk (d := σ.1.2.1) (by omega)) rfl d_C_copied_109 ?_
          refine cw_aload d_C_copied_112 rfl ?_
          refine cw_iconst (v := 4) d_C_copied_114 (by decide) ?_
          refine cw_putI fp_C_173 (so_Sk (d := σ.1.2.1) (by omega)) rfl d_C_copied_115 ?_
          have e4 : ∀ k j, k ≠ 100 + σ.1.2.1 → mG (mS (mS (mS (mS (mRow (mCpy M (200 + d) (200 + σ.1.2.1) 0 0 8) (300 + σ.1.2.1) 8 (fun p => drawnS (mG (mCpy M (200 + d) (200 + σ.1.2.1) 0 0 8) (200 + σ.1.2.1) p) (mG (mCpy M (200 + d) (200 + σ.1.2.1) 0 0 8) (300 + d) p) (mG (mCpy M (200 + d) (200 + σ.1.2.1) 0 0 8) (50 + a) p))) (100 + σ.1.2.1) 2 (mG M (100 + d) 2)) (100 + σ.1.2.1) 3 y) (100 + σ.1.2.1) 5 (nI d)) (100 + σ.1.2.1) 4 4) k j = mG (mRow (mCpy M (200 + d) (200 + σ.1.2.1) 0 0 8) (300 + σ.1.2.1) 8 (fun p => drawnS (mG (mCpy M (200 + d) (200 + σ.1.2.1) 0 0 8) (200 + σ.1.2.1) p) (mG (mCpy M (200 + d) (200 + σ.1.2.1) 0 0 8) (300 + d) p) (mG (mCpy M (200 + d) (200 + σ.1.2.1) 0 0 8) (50 + a) p))) k j := fun k j hk => (((mS_k hk).trans (mS_k hk)).trans (mS_k hk)).trans (mS_k hk)
          refine cw_aload_n d_C_copied_118 rfl ?_
          refine cw_dup_ref d_C_copied_119 ?_
          refine cw_getI fl_C_146 so_C rfl d_C_copied_120 ?_
          refine cw_top ((e4 0 6 (by omega)).trans ((mRow_out (by omega)).trans ((mCpy_out (by omega)).trans hR.n2))) ?_
          refine cw_iconst (v := 1) d_C_copied_123 (by decide) ?_
          refine cw_iadd d_C_copied_124 ?_
          refine cw_top (nI_1 σ.1.2.1) ?_
          refine cw_putI fp_C_146 so_C rfl d_C_copied_125 ?_
          refine cw_aload_n d_C_copied_128 rfl ?_
          refine cw_getI fl_C_146 so_C rfl d_C_copied_129 ?_
          refine cw_top mS_at ?_
          refine cw_iconst (v := 1) d_C_copied_132 (by decide) ?_
          refine cw_isub d_C_copied_133 ?_
          refine cw_iret rfl d_C_copied_134 ?_
          exact ⟨by simp [ans_copied, hok, show ¬ σ.1.2.1 = 30 by omega]; rw [← nI_1]; exact Int32.add_sub_cancel _ _, by simp [aft_copied, hok, show ¬ σ.1.2.1 = 30 by omega, ix_nI (show a < 2 ^ 31 by omega), ix_nI (show d < 2 ^ 31 by omega)]; exact RC_drw hI hR h30 ((((hkp.tr (mS_kp hnl1)).tr (mS_kp hnl1)).tr (mS_kp hnl1)).tr (mS_kp hnl1)) (by simp [mS, mG]; exact hR.dh (by omega)) (by simp [mS, mG]) mS_at (by simp [mS, mG]) (fun p hp => (e4 _ _ (by omega)).trans ((mRow_in hp).trans (e3 p hp))) (fun p hp => (e4 _ _ (by omega)).trans ((mRow_out (by omega)).trans (e2 p hp))), ((((hkp.kC.tr (mS_kC (by omega))).tr (mS_kC (by omega))).tr (mS_kC (by omega))).tr (mS_kC (by omega))).tr (mS_kC (by omega))⟩
        · have h30 : σ.1.2.1 = 30 := by
            have : ¬ σ.1.2.1 < 30 := fun q => c_32 (by rw [hR.n2]; exact nI_lt (b := 30) q (by decide))
            omega
          refine cw_bipush (v := (-4)) d_C_copied_35 (by decide) ?_
          refine cw_iret rfl d_C_copied_37 ?_
          have hok : okCopied σ (nI a) (nI d) y = true := by simp [okCopied, c_4, c_12, c_20]
          exact ⟨by simp [ans_copied, hok, h30], by simp [aft_copied, hok, h30]; exact hR, kC.rf⟩
      · refine cw_bipush (v := (-2)) d_C_copied_23 (by decide) ?_
        refine cw_iret rfl d_C_copied_25 ?_
        exact ⟨by simp [ans_copied, okCopied, c_4, c_12, c_20], by simp [aft_copied, okCopied, c_4, c_12, c_20]; exact hR, kC.rf⟩
set_option maxRecDepth 100000 in
theorem c_knower {M : Mem} {σ : Sg} (hR : RC M σ) (hI : Iv σ) {s z : Int32} : CS u_C_knower [.ref 0, .int s, .int z] M (rC (ans_knower σ s z) (aft_knower σ s z) M) := by
  obtain ⟨hn1, hn2, hn3⟩ := hI.n
  refine cs_introF (L := [some (.ref 0), some (.int s), some (.int z), none]) (by decide +kernel) (fun ad q h => h) (fun ad => Nat.le_of_ble_eq_true rfl) ?_
  refine cw_aload_n d_C_knower_0 rfl ?_
  refine cw_iload_n d_C_knower_1 rfl ?_
  refine cw_virtP (s_C_isSet hR hI) rfl ml_C_114 so_C rfl rfl d_C_knower_2 ?_
  refine cw_bif_eq 20 d_C_knower_5 (by decide) (fun c_5 => ?_) (fun c_5 => ?_)
  · refine cw_bipush (v := (-2)) d_C_knower_20 (by decide) ?_
    refine cw_iret rfl d_C_knower_22 ?_
    exact ⟨by simp [ans_knower, okKnower, c_5], by simp [aft_knower, okKnower, c_5]; exact hR, kC.rf⟩
  · refine cw_iload_n d_C_knower_8 rfl ?_
    refine cw_if_eq 23 d_C_knower_9 (by decide) (fun c_9 => ?_) (fun c_9 => ?_)
    · refine cw_aload_n d_C_knower_23 rfl ?_
      refine cw_getI fl_C_205 so_C rfl d_C_knower_24 ?_
      refine cw_top rfl ?_
      refine cw_iconst (v := 4) d_C_knower_27 (by decide) ?_
      refine cw_icmp_lt 34 d_C_knower_28 (by decide) (fun c_28 => ?_) (fun c_28 => ?_)
      · have h4 : σ.1.2.2 < 4 := (nI_ltI (by omega) (by decide)).mp (hR.n3 ▸ c_28)
        have hnl1 : ¬ live σ (60 + σ.1.2.2) := by unfold live; omega
        have hnl2 : ¬ live σ (70 + σ.1.2.2) := by unfold live; omega
        have hR2 : RC (mS M (60 + σ.1.2.2) 1 z) σ := hR.kp hI (mS_kp hnl1)
        refine cw_aload_n d_C_knower_34 rfl ?_
        refine cw_getR fl_C_29 so_C rfl d_C_knower_35 ?_
        refine cw_aload_n d_C_knower_38 rfl ?_
        refine cw_getI fl_C_205 so_C rfl d_C_knower_39 ?_
        refine cw_aaldN (i := σ.1.2.2) sr_4 hR.n3 (by omega) (by decide) d_C_knower_42 ?_
        refine cw_astore_n d_C_knower_43 rfl ?_
        refine cw_aload_n d_C_knower_44 rfl ?_
        refine cw_iload_n d_C_knower_45 rfl ?_
        refine cw_putI fp_C_208 (so_Kn (h := σ.1.2.2) (by omega)) rfl d_C_knower_46 ?_
        refine cw_aload_n d_C_knower_49 rfl ?_
        refine cw_iload_n d_C_knower_50 rfl ?_
        refine cw_aload_n d_C_knower_51 rfl ?_
        refine cw_getR fl_C_211 (so_Kn (h := σ.1.2.2) (by omega)) rfl d_C_knower_52 ?_
        refine cw_virtV (s_C_fillMean hR2 hI c_5 (sa_km (h := σ.1.2.2) (by omega)) hnl2) rfl ml_C_152 so_C rfl rfl d_C_knower_55 (fun M_55 q_55 => ?_)
        subst q_55
        refine cw_aload_n d_C_knower_58 rfl ?_
        refine cw_dup_ref d_C_knower_59 ?_
        refine cw_getI fl_C_205 so_C rfl d_C_knower_60 ?_
        refine cw_top ((mRow_out (by omega)).trans ((mS_k (by omega)).trans hR.n3)) ?_
        refine cw_iconst (v := 1) d_C_knower_63 (by decide) ?_
        refine cw_iadd d_C_knower_64 ?_
        refine cw_top (nI_1 σ.1.2.2) ?_
        refine cw_putI fp_C_205 so_C rfl d_C_knower_65 ?_
        refine cw_aload_n d_C_knower_68 rfl ?_
        refine cw_getI fl_C_205 so_C rfl d_C_knower_69 ?_
        refine cw_top mS_at ?_
        refine cw_iconst (v := 1) d_C_knower_72 (by decide) ?_
        refine cw_isub d_C_knower_73 ?_
        refine cw_iret rfl d_C_knower_74 ?_
        have hok : okKnower σ s z = true := by simp [okKnower, c_5, c_9]
        exact ⟨by simp [ans_knower, hok, show ¬ σ.1.2.2 = 4 by omega]; rw [← nI_1]; exact Int32.add_sub_cancel _ _, by simp [aft_knower, hok, show ¬ σ.1.2.2 = 4 by omega]; exact RC_knw hI hR h4 ((mS_kp hnl1).tr (mRow_kp hnl2)) ((mRow_out (by omega)).trans mS_at) (fun p hp => mRow_in hp), (((mS_kp hnl1).tr (mRow_kp hnl2)).kC).tr (mS_kC (by omega))⟩
      · have h4 : σ.1.2.2 = 4 := by
          have : ¬ σ.1.2.2 < 4 := fun q => c_28 (by rw [hR.n3]; exact nI_lt (b := 4) q (by decide))
          omega
        refine cw_bipush (v := (-4)) d_C_knower_31 (by decide) ?_
        refine cw_iret rfl d_C_knower_33 ?_
        have hok : okKnower σ s z = true := by simp [okKnower, c_5, c_9]
        exact ⟨by simp [ans_knower, hok, h4], by simp [aft_knower, hok, h4]; exact hR, kC.rf⟩
    · refine cw_aload_n d_C_knower_12 rfl ?_
      refine cw_iload_n d_C_knower_13 rfl ?_
      refine cw_virtP (s_C_isSet hR hI) rfl ml_C_114 so_C rfl rfl d_C_knower_14 ?_
      refine cw_bif_ne 23 d_C_knower_17 (by decide) (fun c_17 => ?_) (fun c_17 => ?_)
      · refine cw_aload_n d_C_knower_23 rfl ?_
        refine cw_getI fl_C_205 so_C rfl d_C_knower_24 ?_
        refine cw_top rfl ?_
        refine cw_iconst (v := 4) d_C_knower_27 (by decide) ?_
        refine cw_icmp_lt 34 d_C_knower_28 (by decide) (fun c_28 => ?_) (fun c_28 => ?_)
        · have h4 : σ.1.2.2 < 4 := (nI_ltI (by omega) (by decide)).mp (hR.n3 ▸ c_28)
          have hnl1 : ¬ live σ (60 + σ.1.2.2) := by unfold live; omega
          have hnl2 : ¬ live σ (70 + σ.1.2.2) := by unfold live; omega
          have hR2 : RC (mS M (60 + σ.1.2.2) 1 z) σ := hR.kp hI (mS_kp hnl1)
          refine cw_aload_n d_C_knower_34 rfl ?_
          refine cw_getR fl_C_29 so_C rfl d_C_knower_35 ?_
          refine cw_aload_n d_C_knower_38 rfl ?_
          refine cw_getI fl_C_205 so_C rfl d_C_knower_39 ?_
          refine cw_aaldN (i := σ.1.2.2) sr_4 hR.n3 (by omega) (by decide) d_C_knower_42 ?_
          refine cw_astore_n d_C_knower_43 rfl ?_
          refine cw_aload_n d_C_knower_44 rfl ?_
          refine cw_iload_n d_C_knower_45 rfl ?_
          refine cw_putI fp_C_208 (so_Kn (h := σ.1.2.2) (by omega)) rfl d_C_knower_46 ?_
          refine cw_aload_n d_C_knower_49 rfl ?_
          refine cw_iload_n d_C_knower_50 rfl ?_
          refine cw_aload_n d_C_knower_51 rfl ?_
          refine cw_getR fl_C_211 (so_Kn (h := σ.1.2.2) (by omega)) rfl d_C_knower_52 ?_
          refine cw_virtV (s_C_fillMean hR2 hI c_5 (sa_km (h := σ.1.2.2) (by omega)) hnl2) rfl ml_C_152 so_C rfl rfl d_C_knower_55 (fun M_55 q_55 => ?_)
          subst q_55
          refine cw_aload_n d_C_knower_58 rfl ?_
          refine cw_dup_ref d_C_knower_59 ?_
          refine cw_getI fl_C_205 so_C rfl d_C_knower_60 ?_
          refine cw_top ((mRow_out (by omega)).trans ((mS_k (by omega)).trans hR.n3)) ?_
          refine cw_iconst (v := 1) d_C_knower_63 (by decide) ?_
          refine cw_iadd d_C_knower_64 ?_
          refine cw_top (nI_1 σ.1.2.2) ?_
          refine cw_putI fp_C_205 so_C rfl d_C_knower_65 ?_
          refine cw_aload_n d_C_knower_68 rfl ?_
          refine cw_getI fl_C_205 so_C rfl d_C_knower_69 ?_
          refine cw_top mS_at ?_
          refine cw_iconst (v := 1) d_C_knower_72 (by decide) ?_
          refine cw_isub d_C_knower_73 ?_
          refine cw_iret rfl d_C_knower_74 ?_
          have hok : okKnower σ s z = true := by simp [okKnower, c_5, c_9, c_17]
          exact ⟨by simp [ans_knower, hok, show ¬ σ.1.2.2 = 4 by omega]; rw [← nI_1]; exact Int32.add_sub_cancel _ _, by simp [aft_knower, hok, show ¬ σ.1.2.2 = 4 by omega]; exact RC_knw hI hR h4 ((mS_kp hnl1).tr (mRow_kp hnl2)) ((mRow_out (by omega)).trans mS_at) (fun p hp => mRow_in hp), (((mS_kp hnl1).tr (mRow_kp hnl2)).kC).tr (mS_kC (by omega))⟩
        · have h4 : σ.1.2.2 = 4 := by
            have : ¬ σ.1.2.2 < 4 := fun q => c_28 (by rw [hR.n3]; exact nI_lt (b := 4) q (by decide))
            omega
          refine cw_bipush (v := (-4)) d_C_knower_31 (by decide) ?_
          refine cw_iret rfl d_C_knower_33 ?_
          have hok : okKnower σ s z = true := by simp [okKnower, c_5, c_9, c_17]
          exact ⟨by simp [ans_knower, hok, h4], by simp [aft_knower, hok, h4]; exact hR, kC.rf⟩
      · refine cw_bipush (v := (-2)) d_C_knower_20 (by decide) ?_
        refine cw_iret rfl d_C_knower_22 ?_
        exact ⟨by simp [ans_knower, okKnower, c_5, c_9, c_17], by simp [aft_knower, okKnower, c_5, c_9, c_17]; exact hR, kC.rf⟩
theorem look_RC {M : Mem} {σ : Sg} (hI : Iv σ) (hR : RC M σ) {k : Nat} {f : Nat → Int32} (hk : k < σ.1.2.2) : RC (mRow M (70 + k) 8 f) (aftR σ 12 k 8 f) := by
  obtain ⟨hn1, hn2, hn3⟩ := hI.n
  refine RC.row hI hR (70 + k) (fun j hj => ⟨⟨hk, hj⟩, rfl⟩) (by decide) (by omega) (fun a b c hd e1 e2 => ?_)
  have h2 : dLC (LC a b c).1 (LC a b c).2 = (a, b, c) := dLC_ok hn2 hn3 hd
  rw [e1] at h2
  unfold dLC at h2
  rw [if_neg (by omega), if_neg (by omega), if_neg (by omega), if_neg (by omega), if_neg (by omega), if_pos (by omega)] at h2
  simp only [Prod.mk.injEq] at h2
  omega
set_option maxRecDepth 100000 in
theorem c_look {M : Mem} {σ : Sg} (hR : RC M σ) (hI : Iv σ) {x z m : Int32} : CS u_C_look [.ref 0, .int x, .int z, .int m] M (rC (ans_look σ x z m) (aft_look σ x z m) M) := by
  obtain ⟨hn1, hn2, hn3⟩ := hI.n
  refine cs_introF (L := [some (.ref 0), some (.int x), some (.int z), some (.int m)]) (by decide +kernel) (fun ad q h => h) (fun ad => Nat.le_of_ble_eq_true rfl) ?_
  refine cw_aload_n d_C_look_0 rfl ?_
  refine cw_iload_n d_C_look_1 rfl ?_
  refine cw_virtP (s_C_isKnower hR hI) rfl ml_C_214 so_C rfl rfl d_C_look_2 ?_
  refine cw_bif_eq 26 d_C_look_5 (by decide) (fun c_5 => ?_) (fun c_5 => ?_)
  · refine cw_bipush (v := (-2)) d_C_look_26 (by decide) ?_
    refine cw_iret rfl d_C_look_28 ?_
    exact ⟨by simp [ans_look, okLook, c_5], by simp [aft_look, okLook, c_5]; exact hR, kC.rf⟩
  · obtain ⟨k, hhk, e_k⟩ := ixB_t c_5 (by omega)
    subst e_k
    refine cw_aload_n d_C_look_8 rfl ?_
    refine cw_iload_n d_C_look_9 rfl ?_
    refine cw_virtP (s_C_isDrawing hR hI) rfl ml_C_176 so_C rfl rfl d_C_look_10 ?_
    refine cw_bif_eq 26 d_C_look_13 (by decide) (fun c_13 => ?_) (fun c_13 => ?_)
    · refine cw_bipush (v := (-2)) d_C_look_26 (by decide) ?_
      refine cw_iret rfl d_C_look_28 ?_
      exact ⟨by simp [ans_look, okLook, c_5, c_13], by simp [aft_look, okLook, c_5, c_13]; exact hR, kC.rf⟩
    · obtain ⟨d, hhd, e_d⟩ := ixB_t c_13 (by omega)
      subst e_d
      refine cw_iload_n d_C_look_16 rfl ?_
      refine cw_if_lt 26 d_C_look_17 (by decide) (fun c_17 => ?_) (fun c_17 => ?_)
      · have hb : ixB m 61 = false := ixB_lt c_17
        refine cw_bipush (v := (-2)) d_C_look_26 (by decide) ?_
        refine cw_iret rfl d_C_look_28 ?_
        exact ⟨by simp [ans_look, okLook, c_5, c_13, hb], by simp [aft_look, okLook, c_5, c_13, hb]; exact hR, kC.rf⟩
      · refine cw_iload_n d_C_look_20 rfl ?_
        refine cw_bipush (v := 60) d_C_look_21 (by decide) ?_
        refine cw_icmp_le 29 d_C_look_23 (by decide) (fun c_23 => ?_) (fun c_23 => ?_)
        · have hb : ixB m 61 = true := ixB_le (n := 60) c_17 c_23 (by decide)
          have hsp : ¬ m + mG M 0 9 ≤ 0 := by
            rw [hR.la, i32_le, Int32.toInt_add]
            have h1 := of_decide_eq_true hb
            have h2 := hI.2.2.2.2.2.2.1.2.1
            unfold rD at h2
            have := i0
            rw [Int.bmod_eq_of_le] <;> omega
          refine cw_aload_n d_C_look_29 rfl ?_
          refine cw_getR fl_C_29 so_C rfl d_C_look_30 ?_
          refine cw_iload_n d_C_look_33 rfl ?_
          refine cw_aaldN (i := k) sr_4 rfl (by omega) (by decide) d_C_look_34 ?_
          refine cw_aload_n d_C_look_35 rfl ?_
          refine cw_getR fl_C_23 so_C rfl d_C_look_36 ?_
          refine cw_iload_n d_C_look_39 rfl ?_
          refine cw_aaldN (i := d) sr_3 rfl (by omega) (by decide) d_C_look_40 ?_
          refine cw_iload_n d_C_look_41 rfl ?_
          refine cw_aload_n d_C_look_42 rfl ?_
          refine cw_getI fl_C_43 so_C rfl d_C_look_43 ?_
          refine cw_virtV (s_Kn_gaze (k := k) (d := d) (by omega) (by omega) hsp) rfl ml_C_217 (so_Kn (h := k) (by omega)) rfl rfl d_C_look_46 (fun M_46 q_46 => ?_)
          subst q_46
          refine cw_iconst (v := 1) d_C_look_49 (by decide) ?_
          refine cw_iret rfl d_C_look_50 ?_
          have hok : okLook σ (nI k) (nI d) m = true := by simp [okLook, c_5, c_13, hb]
          refine ⟨by simp [ans_look, hok], ?_, mRow_kC (by omega)⟩
          simp [aft_look, hok, ix_nI (show k < 2 ^ 31 by omega), ix_nI (show d < 2 ^ 31 by omega)]
          rw [mRow_congr (g := fun p => gazeP (σ.2 9 d p) (σ.2 12 k p) m (σ.2 4 1 0)) (fun j hj => by rw [hR.li (by omega) hj, hR.ow (by omega) hj, hR.la])]
          exact look_RC hI hR (by omega)
        · have hb : ixB m 61 = false := ixB_gt (n := 60) c_23 (by decide)
          refine cw_bipush (v := (-2)) d_C_look_26 (by decide) ?_
          refine cw_iret rfl d_C_look_28 ?_
          exact ⟨by simp [ans_look, okLook, c_5, c_13, hb], by simp [aft_look, okLook, c_5, c_13, hb]; exact hR, kC.rf⟩
