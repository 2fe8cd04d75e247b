section RTE
variable {G : pm_G} {z : pm_z} {h : pm_h} {g : pm_g}
theorem c_isBetter {f1 f2 : Int32} {a b : Nat} (ha : a < 2 ^ 63) (hb : b < 2 ^ 63) : pm_Met G mX4_isBetter [.int f1, .long (lN a), .int f2, .long (lN b)] z z h g (pm_q (.int (if f1.toInt < f2.toInt ∨ (f1.toInt = f2.toInt ∧ b < a) then 1 else 0)) h g) := by
  refine enX4_isBetter pm_le.rf ?_
  refine px_iload_n (i := 0) (pc' := 1) dX4_isBetter_0 rfl rfl rfl ?_
  refine px_iload_n (i := 3) (pc' := 2) dX4_isBetter_1 rfl rfl rfl ?_
  refine px_icmp_lt (tgt := 17) (pc' := 5) dX4_isBetter_2 (by decide) rfl (fun q => ?_) (fun q => ?_)
  · rw [i_lt] at q
    refine px_iconst (v := 1) (pc' := 18) dX4_isBetter_17 rfl (by decide) ?_
    refine px_goto (tgt := 22) dX4_isBetter_18 (by decide) ?_
    exact px_zret (ty := .boolean) dX4_isBetter_22 rfl (rfl) rfl (⟨by rw [if_pos (Or.inl q)], rfl, rfl⟩)
  rw [i_lt] at q
  by_cases q2 : f1 = f2
  · have q2' := (i_eq _ _).mp q2
    refine px_iload_n (i := 0) (pc' := 6) dX4_isBetter_5 rfl rfl rfl ?_
    refine px_iload_n (i := 3) (pc' := 7) dX4_isBetter_6 rfl rfl rfl ?_
    refine px_icmp_ne (tgt := 21) (pc' := 10) dX4_isBetter_7 (by decide) rfl (fun q_ => absurd (q2) q_) (fun _ => ?_)
    refine px_lload_n (i := 1) (pc' := 11) dX4_isBetter_10 rfl rfl rfl ?_
    refine px_lload (i := 4) (pc' := 13) dX4_isBetter_11 rfl rfl ?_
    refine px_lcmp (pc' := 14) dX4_isBetter_13 rfl ?_
    refine px_if_le (tgt := 21) (pc' := 17) dX4_isBetter_14 (by decide) rfl (fun q3 => ?_) (fun q3 => ?_)
    · rw [lc_le ha hb] at q3
      refine px_iconst (v := 0) (pc' := 22) dX4_isBetter_21 rfl (by decide) ?_
      exact px_zret (ty := .boolean) dX4_isBetter_22 rfl (rfl) rfl (⟨by rw [if_neg (by omega)], rfl, rfl⟩)
    · rw [lc_le ha hb] at q3
      refine px_iconst (v := 1) (pc' := 18) dX4_isBetter_17 rfl (by decide) ?_
      refine px_goto (tgt := 22) dX4_isBetter_18 (by decide) ?_
      exact px_zret (ty := .boolean) dX4_isBetter_22 rfl (rfl) rfl (⟨by rw [if_pos (Or.inr ⟨q2', by omega⟩)], rfl, rfl⟩)
  · have q2' := fun hh => q2 ((i_eq _ _).mpr hh)
    refine px_iload_n (i := 0) (pc' := 6) dX4_isBetter_5 rfl rfl rfl ?_
    refine px_iload_n (i := 3) (pc' := 7) dX4_isBetter_6 rfl rfl rfl ?_
    refine px_icmp_ne (tgt := 21) (pc' := 10) dX4_isBetter_7 (by decide) rfl (fun _ => ?_) (fun q_ => absurd q_ (q2))
    refine px_iconst (v := 0) (pc' := 22) dX4_isBetter_21 rfl (by decide) ?_
    exact px_zret (ty := .boolean) dX4_isBetter_22 rfl (rfl) rfl (⟨by rw [if_neg (fun hh => hh.elim q (fun hh => q2' hh.1))], rfl, rfl⟩)
/-- a cell leads on better than what was found so far -/
theorem c_leads {t : Int} {v c : Nat} {lf cf : Nat → Int32} {LW CW : Nat → Nat} (I : pm_I h g) (ht : -1 ≤ t ∧ t < 144) (hv : v ≤ 9) (hc : c < 144) (e1 : h 21 = pm_ia 0 144 lf) (e2 : h 22 = pm_la 144 (m_L LW)) (e3 : h 19 = pm_ia 0 144 cf) (e4 : h 20 = pm_la 144 (m_L CW)) (hW : ∀ j, j < 144 → LW j * v < 2 ^ 63) (hC : ∀ j, j < 144 → CW j < 2 ^ 63) :
    pm_Met G mX4_leads [.ref 18, .int (iZ t), .int (nI v), .int (nI c)] z z h g (pm_q (.int (if 0 ≤ t ∧ 0 < v ∧ ¬ lf t.toNat = -1 ∧ (cf c = -1 ∨ (lf t.toNat).toInt < (cf c).toInt ∨ ((lf t.toNat).toInt = (cf c).toInt ∧ CW c < LW t.toNat * v)) then 1 else 0)) h g) := by
  have tt : (iZ t).toInt = t := iZ_t (by omega) (by omega)
  have hcl : (nI c).toNatClampNeg = c := nI_clamp (by omega)
  have hci : (nI c).toInt = c := nI_toInt (by omega)
  refine enX4_leads pm_le.rf ?_
  refine px_iload_n (i := 1) (pc' := 1) dX4_leads_0 rfl rfl rfl ?_
  refine px_if_lt (tgt := 22) (pc' := 4) dX4_leads_1 (by decide) rfl (fun q1 => ?_) (fun q1 => ?_)
  · rw [i_lt, tt, i_0] at q1
    refine px_iconst (v := 0) (pc' := 23) dX4_leads_22 rfl (by decide) ?_
    exact px_zret (ty := .boolean) dX4_leads_23 rfl (rfl) rfl (⟨by rw [if_neg (fun hh => by omega)], rfl, rfl⟩)
  rw [i_lt, tt, i_0] at q1
  obtain ⟨n, rfl⟩ : ∃ n : Nat, t = n := ⟨t.toNat, by omega⟩
  rw [Int.toNat_natCast]
  have hnl : (iZ (n : Int)).toNatClampNeg = n := iZ_clamp (by omega)
  refine px_iload_n (i := 1) (pc' := 5) dX4_leads_4 rfl rfl rfl ?_
  refine px_sipush (v := 144) (pc' := 8) dX4_leads_5 rfl (by decide) ?_
  refine px_icmp_ge (tgt := 22) (pc' := 11) dX4_leads_8 (by decide) rfl (fun q_ => absurd q_ (by rw [i_le, l_144, tt]; omega)) (fun _ => ?_)
  refine px_iload_n (i := 3) (pc' := 12) dX4_leads_11 rfl rfl rfl ?_
  refine px_if_lt (tgt := 22) (pc' := 15) dX4_leads_12 (by decide) rfl (fun q_ => absurd q_ (by rw [i_lt, hci, i_0]; omega)) (fun _ => ?_)
  refine px_iload_n (i := 3) (pc' := 16) dX4_leads_15 rfl rfl rfl ?_
  refine px_sipush (v := 144) (pc' := 19) dX4_leads_16 rfl (by decide) ?_
  refine px_icmp_lt (tgt := 24) (pc' := 22) dX4_leads_19 (by decide) rfl (fun _ => ?_) (fun q_ => absurd (by rw [i_lt, l_144, hci]; omega) q_)
  refine px_iload_n (i := 2) (pc' := 25) dX4_leads_24 rfl rfl rfl ?_
  by_cases v0 : v = 0
  · subst v0
    refine px_if_eq (tgt := 38) (pc' := 28) dX4_leads_25 (by decide) rfl (fun _ => ?_) (fun q_ => absurd (rfl) q_)
    refine px_iconst (v := 0) (pc' := 39) dX4_leads_38 rfl (by decide) ?_
    exact px_zret (ty := .boolean) dX4_leads_39 rfl (rfl) rfl (⟨by rw [if_neg (fun hh => by omega)], rfl, rfl⟩)
  have v0' : ¬ nI v = 0 := fun q => by
    have := congrArg Int32.toInt q
    rw [nI_toInt (by omega), i_0] at this
    omega
  refine px_if_eq (tgt := 38) (pc' := 28) dX4_leads_25 (by decide) rfl (fun q_ => absurd q_ (v0')) (fun _ => ?_)
  refine px_aload_n (i := 0) (pc' := 29) dX4_leads_28 rfl rfl rfl ?_
  refine pi_getr (pc' := 32) fl_4_19 dX4_leads_29 rfl (by repeat (first | assumption | refine pm_I.up ?_ rfl | refine pm_I.uf ?_ rfl)) rfl rfl ?_
  refine px_iload_n (i := 1) (pc' := 33) dX4_leads_32 rfl rfl rfl ?_
  refine px_iald (pc' := 34) dX4_leads_33 rfl (by first | assumption | (repeat (first | exact pm_up_e rfl | refine pm_up_o (by decide) ?_ | apply pm_up_o (by decide))) <;> assumption) (i_in (by omega) (by omega)) ?_
  rw [hnl]
  by_cases q2 : lf n = -1
  · refine px_iconst (v := -1) (pc' := 35) dX4_leads_34 rfl (by decide) ?_
    refine px_icmp_ne (tgt := 40) (pc' := 38) dX4_leads_35 (by decide) rfl (fun q_ => absurd (q2) q_) (fun _ => ?_)
    refine px_iconst (v := 0) (pc' := 39) dX4_leads_38 rfl (by decide) ?_
    exact px_zret (ty := .boolean) dX4_leads_39 rfl (rfl) rfl (⟨by rw [if_neg (fun hh => hh.2.2.1 q2)], rfl, rfl⟩)
  refine px_iconst (v := -1) (pc' := 35) dX4_leads_34 rfl (by decide) ?_
  refine px_icmp_ne (tgt := 40) (pc' := 38) dX4_leads_35 (by decide) rfl (fun _ => ?_) (fun q_ => absurd q_ (q2))
  refine px_aload_n (i := 0) (pc' := 41) dX4_leads_40 rfl rfl rfl ?_
  refine pi_getr (pc' := 44) fl_4_9 dX4_leads_41 rfl (by repeat (first | assumption | refine pm_I.up ?_ rfl | refine pm_I.uf ?_ rfl)) rfl rfl ?_
  refine px_iload_n (i := 3) (pc' := 45) dX4_leads_44 rfl rfl rfl ?_
  refine px_iald (pc' := 46) dX4_leads_45 rfl (by first | assumption | (repeat (first | exact pm_up_e rfl | refine pm_up_o (by decide) ?_ | apply pm_up_o (by decide))) <;> assumption) (vp_in_nI (by omega) (by omega)) ?_
  rw [hcl]
  by_cases q3 : cf c = -1
  · refine px_iconst (v := -1) (pc' := 47) dX4_leads_46 rfl (by decide) ?_
    refine px_icmp_eq (tgt := 83) (pc' := 50) dX4_leads_47 (by decide) rfl (fun _ => ?_) (fun q_ => absurd (q3) q_)
    refine px_iconst (v := 1) (pc' := 84) dX4_leads_83 rfl (by decide) ?_
    refine px_goto (tgt := 88) dX4_leads_84 (by decide) ?_
    exact px_zret (ty := .boolean) dX4_leads_88 rfl (rfl) rfl (⟨by rw [if_pos ⟨by omega, by omega, q2, Or.inl q3⟩], rfl, rfl⟩)
  refine px_iconst (v := -1) (pc' := 47) dX4_leads_46 rfl (by decide) ?_
  refine px_icmp_eq (tgt := 83) (pc' := 50) dX4_leads_47 (by decide) rfl (fun q_ => absurd q_ (q3)) (fun _ => ?_)
  refine px_aload_n (i := 0) (pc' := 51) dX4_leads_50 rfl rfl rfl ?_
  refine pi_getr (pc' := 54) fl_4_19 dX4_leads_51 rfl (by repeat (first | assumption | refine pm_I.up ?_ rfl | refine pm_I.uf ?_ rfl)) rfl rfl ?_
  refine px_iload_n (i := 1) (pc' := 55) dX4_leads_54 rfl rfl rfl ?_
  refine px_iald (pc' := 56) dX4_leads_55 rfl (by first | assumption | (repeat (first | exact pm_up_e rfl | refine pm_up_o (by decide) ?_ | apply pm_up_o (by decide))) <;> assumption) (i_in (by omega) (by omega)) ?_
  refine px_aload_n (i := 0) (pc' := 57) dX4_leads_56 rfl rfl rfl ?_
  refine pi_getr (pc' := 60) fl_4_22 dX4_leads_57 rfl (by repeat (first | assumption | refine pm_I.up ?_ rfl | refine pm_I.uf ?_ rfl)) rfl rfl ?_
  refine px_iload_n (i := 1) (pc' := 61) dX4_leads_60 rfl rfl rfl ?_
  refine px_lald (pc' := 62) dX4_leads_61 rfl (by first | assumption | (repeat (first | exact pm_up_e rfl | refine pm_up_o (by decide) ?_ | apply pm_up_o (by decide))) <;> assumption) (i_in (by omega) (by omega)) ?_
  refine px_iload_n (i := 2) (pc' := 63) dX4_leads_62 rfl rfl rfl ?_
  refine px_i2l (pc' := 64) dX4_leads_63 rfl ?_
  rw [hnl, nI_l (by omega), show m_L LW n = lN (LW n) from rfl]
  refine px_lmul (pc' := 65) dX4_leads_64 rfl ?_
  refine px_aload_n (i := 0) (pc' := 66) dX4_leads_65 rfl rfl rfl ?_
  refine pi_getr (pc' := 69) fl_4_9 dX4_leads_66 rfl (by repeat (first | assumption | refine pm_I.up ?_ rfl | refine pm_I.uf ?_ rfl)) rfl rfl ?_
  refine px_iload_n (i := 3) (pc' := 70) dX4_leads_69 rfl rfl rfl ?_
  refine px_iald (pc' := 71) dX4_leads_70 rfl (by first | assumption | (repeat (first | exact pm_up_e rfl | refine pm_up_o (by decide) ?_ | apply pm_up_o (by decide))) <;> assumption) (vp_in_nI (by omega) (by omega)) ?_
  refine px_aload_n (i := 0) (pc' := 72) dX4_leads_71 rfl rfl rfl ?_
  refine pi_getr (pc' := 75) fl_4_15 dX4_leads_72 rfl (by repeat (first | assumption | refine pm_I.up ?_ rfl | refine pm_I.uf ?_ rfl)) rfl rfl ?_
  refine px_iload_n (i := 3) (pc' := 76) dX4_leads_75 rfl rfl rfl ?_
  refine px_lald (pc' := 77) dX4_leads_76 rfl (by first | assumption | (repeat (first | exact pm_up_e rfl | refine pm_up_o (by decide) ?_ | apply pm_up_o (by decide))) <;> assumption) (vp_in_nI (by omega) (by omega)) ?_
  rw [hcl, lN_mul, show m_L CW c = lN (CW c) from rfl]
  refine px_callS (pc' := 80) (c_isBetter (hW n (by omega)) (hC c hc)) okX4_isBetter stX4_isBetter ml_X4_114 ⟨Nat.le_of_ble_eq_true rfl, Nat.le_of_ble_eq_true rfl⟩ dX4_leads_77 rfl rfl rfl (Nat.le_of_ble_eq_true rfl) pm_le.rf pm_le.rf ?_
  rintro _ _ _ ⟨rfl, rfl, rfl⟩
  refine px_if_eq (tgt := 87) (pc' := 83) dX4_leads_80 (by decide) rfl (fun q4 => ?_) (fun q4 => ?_)
  · have q4 := b_0.mp q4
    refine px_iconst (v := 0) (pc' := 88) dX4_leads_87 rfl (by decide) ?_
    exact px_zret (ty := .boolean) dX4_leads_88 rfl (rfl) rfl (⟨by rw [if_neg (fun hh => hh.2.2.2.elim q3 q4)], rfl, rfl⟩)
  · have q4 := b_n0.mp q4
    refine px_iconst (v := 1) (pc' := 84) dX4_leads_83 rfl (by decide) ?_
    refine px_goto (tgt := 88) dX4_leads_84 (by decide) ?_
    exact px_zret (ty := .boolean) dX4_leads_88 rfl (rfl) rfl (⟨by rw [if_pos ⟨by omega, by omega, q2, Or.inr q4⟩], rfl, rfl⟩)
end RTE
theorem m_off_mono {w d : Nat} {X Y a b a' b' : Int} (h : 0 ≤ m_off w d (X + a) (Y + b)) (h' : 0 ≤ m_off w d (X + a') (Y + b')) (q : b' < b ∨ (b' = b ∧ a' < a)) : m_off w d (X + a') (Y + b') < m_off w d (X + a) (Y + b) := by
  unfold m_off at *
  split at h
  · split at h'
    · rename_i q1 q2
      rw [if_pos q1, if_pos q2]
      rcases q with q | ⟨rfl, q⟩
      · have : (w : Int) * (Y + b' + 1) ≤ w * (Y + b) := Int.mul_le_mul_of_nonneg_left (by omega) (by omega)
        rw [Int.mul_add, Int.mul_one] at this
        omega
      · omega
    · omega
  · omega
/-- what the nine winds have brought so far -/
def b_inv (w d a0 a1 : Nat) (lx ly : Nat → Int32) (s i : Nat) (lf : Nat → Int32) (LW : Nat → Nat) (P : Int → Int → Prop) (cf : Int32) (cw : Nat) (cl : Int32) : Prop :=
  (cf = -1 ∧ cw = 0 ∧ cl = -1 ∧ ∀ a b, P a b → ∀ j : Nat, m_off w d (((i % w : Nat) + (lx s).toInt) + a) (((i / w : Nat) + (ly s).toInt) + b) = j → 0 < b_V w a0 a1 lx ly s i j → lf j = -1) ∨
  ∃ j : Nat, j < w * d ∧ 0 < b_V w a0 a1 lx ly s i j ∧ ¬ lf j = -1 ∧ cf = lf j ∧ cw = LW j * b_V w a0 a1 lx ly s i j ∧ cl = nI j ∧ (∃ a b, P a b ∧ m_off w d (((i % w : Nat) + (lx s).toInt) + a) (((i / w : Nat) + (ly s).toInt) + b) = j) ∧
    ∀ a b, P a b → ∀ j' : Nat, m_off w d (((i % w : Nat) + (lx s).toInt) + a) (((i / w : Nat) + (ly s).toInt) + b) = j' → 0 < b_V w a0 a1 lx ly s i j' → ¬ lf j' = -1 → (lf j).toInt < (lf j').toInt ∨ ((lf j).toInt = (lf j').toInt ∧ (LW j' * b_V w a0 a1 lx ly s i j' < LW j * b_V w a0 a1 lx ly s i j ∨ (LW j * b_V w a0 a1 lx ly s i j = LW j' * b_V w a0 a1 lx ly s i j' ∧ j ≤ j')))
def b_bef (a b a' b' : Int) : Prop := (-1 ≤ a' ∧ a' ≤ 1) ∧ (-1 ≤ b' ∧ b' ≤ 1) ∧ (b' < b ∨ (b' = b ∧ a' < a))
/-- one wind more -/
theorem b_inv_s {w d a0 a1 s i cw : Nat} {lx ly lf : Nat → Int32} {LW : Nat → Nat} {a b t : Int} {cf cl : Int32} (ha : -1 ≤ a ∧ a ≤ 1) (hb : -1 ≤ b ∧ b ≤ 1) (ht : m_off w d (((i % w : Nat) + (lx s).toInt) + a) (((i / w : Nat) + (ly s).toInt) + b) = t)
    (h : b_inv w d a0 a1 lx ly s i lf LW (b_bef a b) cf cw cl) :
    if 0 ≤ t ∧ 0 < m_wt a0 a1 a b ∧ ¬ lf t.toNat = -1 ∧ (cf = -1 ∨ (lf t.toNat).toInt < cf.toInt ∨ ((lf t.toNat).toInt = cf.toInt ∧ cw < LW t.toNat * m_wt a0 a1 a b)) then b_inv w d a0 a1 lx ly s i lf LW (b_bef (a + 1) b) (lf t.toNat) (LW t.toNat * m_wt a0 a1 a b) (iZ t) else b_inv w d a0 a1 lx ly s i lf LW (b_bef (a + 1) b) cf cw cl := by
  have split' : ∀ a' b', b_bef (a + 1) b a' b' → b_bef a b a' b' ∨ (a' = a ∧ b' = b) := fun a' b' q => by
    unfold b_bef at q ⊢
    omega
  have emb : ∀ a' b', b_bef a b a' b' → b_bef (a + 1) b a' b' := fun a' b' q => by
    unfold b_bef at q ⊢
    omega
  have here : b_bef (a + 1) b a b := by unfold b_bef; omega
  by_cases q : 0 ≤ t ∧ 0 < m_wt a0 a1 a b ∧ ¬ lf t.toNat = -1 ∧ (cf = -1 ∨ (lf t.toNat).toInt < cf.toInt ∨ ((lf t.toNat).toInt = cf.toInt ∧ cw < LW t.toNat * m_wt a0 a1 a b))
  · rw [if_pos q]
    obtain ⟨q1, q2, q3, q4⟩ := q
    obtain ⟨n, rfl⟩ : ∃ n : Nat, t = n := ⟨t.toNat, by omega⟩
    rw [Int.toNat_natCast] at q3 q4 ⊢
    obtain ⟨v1, v2⟩ := b_V_off (a0 := a0) (a1 := a1) ha hb ht
    refine Or.inr ⟨n, v2, by rw [v1]; exact q2, q3, rfl, by rw [v1], iZ_n n, ⟨a, b, here, ht⟩, fun a' b' hP j' hj' hv' hl' => ?_⟩
    rw [v1]
    rcases split' a' b' hP with hP | ⟨rfl, rfl⟩
    · rcases h with ⟨h1, h2, h3, h4⟩ | ⟨j, j1, j2, j3, rfl, rfl, rfl, -, j4⟩
      · exact absurd (h4 a' b' hP j' hj' hv') hl'
      · have := j4 a' b' hP j' hj' hv' hl'
        rcases q4 with q4 | q4 | q4
        · exact absurd q4 j3
        · rcases this with this | this <;> exact Or.inl (by omega)
        · rcases this with this | ⟨e, this⟩
          · exact Or.inl (by omega)
          · refine Or.inr ⟨by omega, Or.inl ?_⟩
            rcases this with this | this <;> omega
    · have : (n : Int) = j' := ht.symm.trans hj'
      obtain rfl : n = j' := by omega
      exact Or.inr ⟨rfl, Or.inr ⟨by rw [v1], Nat.le_refl _⟩⟩
  · rw [if_neg q]
    rcases h with ⟨h1, h2, h3, h4⟩ | ⟨j, j1, j2, j3, rfl, rfl, rfl, ⟨a2, b2, j5, j6⟩, j4⟩
    · refine Or.inl ⟨h1, h2, h3, fun a' b' hP j' hj' hv' => ?_⟩
      rcases split' a' b' hP with hP | ⟨rfl, rfl⟩
      · exact h4 a' b' hP j' hj' hv'
      · obtain rfl : t = j' := ht.symm.trans hj'
        obtain ⟨v1, v2⟩ := b_V_off (a0 := a0) (a1 := a1) ha hb hj'
        rw [v1] at hv'
        by_cases hl : lf j' = -1
        · exact hl
        · exact absurd ⟨by omega, hv', by rw [Int.toNat_natCast]; exact hl, Or.inl h1⟩ q
    · refine Or.inr ⟨j, j1, j2, j3, rfl, rfl, rfl, ⟨a2, b2, emb _ _ j5, j6⟩, fun a' b' hP j' hj' hv' hl' => ?_⟩
      rcases split' a' b' hP with hP | ⟨rfl, rfl⟩
      · exact j4 a' b' hP j' hj' hv' hl'
      · obtain rfl : t = j' := ht.symm.trans hj'
        obtain ⟨v1, v2⟩ := b_V_off (a0 := a0) (a1 := a1) ha hb hj'
        rw [v1] at hv' ⊢
        have mono := m_off_mono (w := w) (d := d) (X := ((i % w : Nat) : Int) + (lx s).toInt) (Y := ((i / w : Nat) : Int) + (ly s).toInt) (a := a') (b := b') (a' := a2) (b' := b2) (by rw [hj']; omega) (by rw [j6]; omega) j5.2.2
        rw [hj', j6] at mono
        rw [Int.toNat_natCast] at q
        by_cases z1 : (lf j).toInt < (lf j').toInt
        · exact Or.inl z1
        · by_cases z2 : (lf j').toInt < (lf j).toInt
          · exact absurd ⟨by omega, hv', hl', Or.inr (Or.inl z2)⟩ q
          · refine Or.inr ⟨by omega, ?_⟩
            by_cases z3 : LW j * b_V w a0 a1 lx ly s i j < LW j' * m_wt a0 a1 a' b'
            · exact absurd ⟨by omega, hv', hl', Or.inr (Or.inr ⟨by omega, z3⟩)⟩ q
            · by_cases z4 : LW j' * m_wt a0 a1 a' b' < LW j * b_V w a0 a1 lx ly s i j
              · exact Or.inl z4
              · exact Or.inr ⟨by omega, by omega⟩
