theorem m_byte_ge {x : Int32} : 0 ≤ (x &&& 255).toInt := by
  have h : (x &&& 255).toBitVec.toNat ≤ 255 := by
    show (x.toBitVec &&& (255 : Int32).toBitVec).toNat ≤ 255
    rw [BitVec.toNat_and]
    exact Nat.and_le_right
  show 0 ≤ (x &&& 255).toBitVec.toInt
  rw [BitVec.toInt_eq_toNat_of_lt (by omega)]
  omega
section OPS4
variable {G : pm_G}
theorem o_map {a b : Int32} : pm_op G mX8_map mX9_map [.int a, .int b] := by
  intro z h g j
  obtain ⟨I, ⟨n, T, q1⟩, ⟨w, d, η, q2, q3, q4⟩, q5, q6, q7, q8⟩ := id j
  obtain ⟨hn, t1, t2, t3, t4⟩ := id q1
  obtain ⟨m1, m2, m3, m4, m5, m6, m7, m8, m9, mA, mB⟩ := id q2
  obtain ⟨S, legs, reads, lost, lx, ly, rv, ra, start, f17, f38, fp, s1, s2, s3, s4, s5, s6, s7, s8, s9, sA, sB, sC, sD, sE, sF, sG, sH, sI, sJ, sK⟩ := id q4
  obtain ⟨st, f1, f2, sd, sp, n1, n2, mm, x1, x2, x3, x4, x5, x6, x7, x8, x9, xA⟩ := id q3
  have en : (nI n).toInt = n := nI_toInt (by omega)
  have h0 : 0 ≤ (0 : Int32).toInt ∧ (0 : Int32).toInt ≤ n := by rw [i_0]; omega
  by_cases ok : m_tell a b n T
  · have tell := ok
    obtain ⟨k1, k2, k3, k4, k5, k6⟩ := ok
    obtain ⟨w', hw', rfl⟩ : ∃ k : Nat, (2 ≤ k ∧ k ≤ 12) ∧ a = nI k := ⟨a.toInt.toNat, by omega, by rw [← iZ_n, Int.toNat_of_nonneg (by omega), iZ_i]⟩
    obtain ⟨d', hd', rfl⟩ : ∃ k : Nat, (2 ≤ k ∧ k ≤ 12) ∧ b = nI k := ⟨b.toInt.toNat, by omega, by rw [← iZ_n, Int.toNat_of_nonneg (by omega), iZ_i]⟩
    have ew : (nI w').toInt = w' := nI_toInt (by omega)
    have ed : (nI d').toInt = d' := nI_toInt (by omega)
    have hwd := m_wd hw'.2 hd'.2
    have w4 : 2 * 2 ≤ w' * d' := Nat.mul_le_mul hw'.1 hd'.1
    have enw : n = w' * d' := by rw [ew, ed] at k5; exact_mod_cast k5
    subst enw
    have eh : (fun j => if j < w' * d' then m_hb T j else m_hc η j) = m_hc (fun j => if j < w' * d' then T j &&& 255 else η j) := by
      funext i
      by_cases hi : i < w' * d'
      · simp only [if_pos hi, m_hb, m_hc]
      · simp only [if_neg hi, m_hc]
    have hbok : ∀ c, c < 144 → m_bok (if c < w' * d' then T c &&& 255 else η c) := by
      intro c hc
      split
      · exact k6 c (by assumption)
      · exact m5 c hc
    refine ⟨1, ?_⟩
    refine enX8_map pm_le.rf ?_
    refine px_aload_n (i := 0) (pc' := 1) dX8_map_0 rfl rfl rfl ?_
    refine pi_getr (pc' := 4) fl_8_19 dX8_map_1 rfl (by repeat (first | assumption | refine pm_I.up ?_ rfl | refine pm_I.uf ?_ rfl)) rfl rfl ?_
    refine px_iload_n (i := 1) (pc' := 5) dX8_map_4 rfl rfl rfl ?_
    refine px_iload_n (i := 2) (pc' := 6) dX8_map_5 rfl rfl rfl ?_
    refine px_aload_n (i := 0) (pc' := 7) dX8_map_6 rfl rfl rfl ?_
    refine pi_getr (pc' := 10) fl_8_10 dX8_map_7 rfl (by repeat (first | assumption | refine pm_I.up ?_ rfl | refine pm_I.uf ?_ rfl)) rfl rfl ?_
    refine pi_callV (pc' := 13) (c_tell_t I t1 hn t2 m8 tell hw'.2 hd'.2) okX3_tell ivX3_tell ml_X8_86 ⟨Nat.le_of_ble_eq_true rfl, Nat.le_of_ble_eq_true rfl⟩ dX8_map_10 rfl rfl rfl (Nat.le_of_ble_eq_true rfl) (by repeat (first | assumption | refine pm_I.up ?_ rfl | refine pm_I.uf ?_ rfl)) rfl cl_3 pm_le.rf pm_le.rf ?_
    rintro _ _ _ ⟨rfl, rfl, rfl⟩
    refine sx_i_n_4_3 (pc' := 14) dX8_map_13 rfl rfl rfl rfl ?_
    refine px_aload_n (i := 0) (pc' := 15) dX8_map_14 rfl rfl rfl ?_
    refine pi_getr (pc' := 18) fl_8_10 dX8_map_15 rfl (by repeat (first | assumption | refine pm_I.up ?_ rfl | refine pm_I.uf ?_ rfl)) rfl rfl ?_
    refine px_iconst (v := 0) (pc' := 19) dX8_map_18 rfl (by decide) ?_
    refine pi_callV (pc' := 22) (c_cut_t (by repeat (first | assumption | refine pm_I.up ?_ rfl | refine pm_I.uf ?_ rfl)) (n := w' * d') (by first | assumption | (repeat (first | exact pm_uf_e rfl | refine pm_uf_o (by decide) ?_ | apply pm_uf_o (by decide))) <;> assumption) hn h0) okX6_cut ivX6_cut ml_X8_82 ⟨Nat.le_of_ble_eq_true rfl, Nat.le_of_ble_eq_true rfl⟩ dX8_map_19 rfl rfl rfl (Nat.le_of_ble_eq_true rfl) (by repeat (first | assumption | refine pm_I.up ?_ rfl | refine pm_I.uf ?_ rfl)) rfl cl_6 pm_le.rf pm_le.rf ?_
    rintro _ _ _ ⟨rfl, rfl, rfl⟩
    refine px_pop (pc' := 23) dX8_map_22 rfl rfl ?_
    refine px_iload_n (i := 3) (pc' := 24) dX8_map_23 rfl rfl rfl ?_
    refine px_if_eq (tgt := 49) (pc' := 27) dX8_map_24 (by decide) rfl (fun q_ => absurd q_ (by decide)) (fun _ => ?_)
    refine px_aload_n (i := 0) (pc' := 28) dX8_map_27 rfl rfl rfl ?_
    refine pi_getr (pc' := 31) fl_8_42 dX8_map_28 rfl (by repeat (first | assumption | refine pm_I.up ?_ rfl | refine pm_I.uf ?_ rfl)) rfl rfl ?_
    refine pi_callV (pc' := 34) (c_forget (by repeat (first | assumption | refine pm_I.up ?_ rfl | refine pm_I.uf ?_ rfl)) (by first | assumption | (repeat (first | exact pm_up_e rfl | refine pm_up_o (by decide) ?_ | apply pm_up_o (by decide))) <;> assumption)) okX0_forget ivX0_forget ml_X8_90 ⟨Nat.le_of_ble_eq_true rfl, Nat.le_of_ble_eq_true rfl⟩ dX8_map_31 rfl rfl rfl (Nat.le_of_ble_eq_true rfl) (by repeat (first | assumption | refine pm_I.up ?_ rfl | refine pm_I.uf ?_ rfl)) rfl cl_0 pm_le.rf pm_le.rf ?_
    rintro _ _ _ ⟨st', hst', rfl, rfl, rfl⟩
    refine px_aload_n (i := 0) (pc' := 35) dX8_map_34 rfl rfl rfl ?_
    refine pi_getr (pc' := 38) fl_8_51 dX8_map_35 rfl (by repeat (first | assumption | refine pm_I.up ?_ rfl | refine pm_I.uf ?_ rfl)) rfl rfl ?_
    refine px_iconst (v := -1) (pc' := 39) dX8_map_38 rfl (by decide) ?_
    refine pi_callV (pc' := 42) (c_start (by repeat (first | assumption | refine pm_I.up ?_ rfl | refine pm_I.uf ?_ rfl)) (w := w') (d := d') (by first | assumption | (repeat (first | exact pm_uf_e rfl | refine pm_uf_o (by decide) ?_ | apply pm_uf_o (by decide))) <;> assumption) (by first | assumption | (repeat (first | exact pm_uf_e rfl | refine pm_uf_o (by decide) ?_ | apply pm_uf_o (by decide))) <;> assumption) hw'.2 hd'.2 (by first | assumption | (repeat (first | exact pm_up_e rfl | refine pm_up_o (by decide) ?_ | apply pm_up_o (by decide))) <;> assumption)) okX1_start ivX1_start ml_X8_71 ⟨Nat.le_of_ble_eq_true rfl, Nat.le_of_ble_eq_true rfl⟩ dX8_map_39 rfl rfl rfl (Nat.le_of_ble_eq_true rfl) (by repeat (first | assumption | refine pm_I.up ?_ rfl | refine pm_I.uf ?_ rfl)) rfl cl_1 pm_le.rf pm_le.rf ?_
    rintro _ _ _ ⟨rfl, rfl, rfl⟩
    refine px_aload_n (i := 0) (pc' := 43) dX8_map_42 rfl rfl rfl ?_
    refine pi_getr (pc' := 46) fl_8_51 dX8_map_43 rfl (by repeat (first | assumption | refine pm_I.up ?_ rfl | refine pm_I.uf ?_ rfl)) rfl rfl ?_
    refine pi_callV (pc' := 49) (c_forgetLosses (by repeat (first | assumption | refine pm_I.up ?_ rfl | refine pm_I.uf ?_ rfl))) okX1_forgetLosses ivX1_forgetLosses ml_X8_93 ⟨Nat.le_of_ble_eq_true rfl, Nat.le_of_ble_eq_true rfl⟩ dX8_map_46 rfl rfl rfl (Nat.le_of_ble_eq_true rfl) (by repeat (first | assumption | refine pm_I.up ?_ rfl | refine pm_I.uf ?_ rfl)) rfl cl_1 pm_le.rf pm_le.rf ?_
    rintro _ _ _ ⟨rfl, rfl, rfl⟩
    refine px_iload_n (i := 3) (pc' := 50) dX8_map_49 rfl rfl rfl ?_
    refine px_zret (ty := .boolean) dX8_map_50 rfl (rfl) rfl (⟨rfl, (by repeat (first | assumption | refine pm_I.up ?_ rfl | refine pm_I.uf ?_ rfl)), ?_⟩)
    rw [eh]
    have fp' : J_Fp (w' * d') (m_init (w' * d') (-1)) 0 0 lx ly rv ra (-1) := by
      refine ⟨by omega, by omega, fun i hi => by omega, fun i hi => by omega, fun j => by unfold m_init; split <;> simp, fun j hj => by unfold m_init; rw [if_neg (by omega)], ?_, Or.inl rfl⟩
      exact ⟨0, by omega, by unfold m_init; rw [if_pos ⟨by omega, Or.inl rfl⟩]; omega⟩
    refine enX9_map pm_le.rf ?_
    refine px_aload_n (i := 0) (pc' := 1) dX9_map_0 rfl rfl rfl ?_
    refine px_iconst (v := 0) (pc' := 2) dX9_map_1 rfl (by decide) ?_
    refine pi_puti (pc' := 5) fi_9_1 dX9_map_2 rfl (by repeat (first | assumption | refine pm_I.up ?_ rfl | refine pm_I.uf ?_ rfl)) rfl ?_
    refine px_aload_n (i := 0) (pc' := 6) dX9_map_5 rfl rfl rfl ?_
    refine pi_callV (pc' := 9) (d_taken (by repeat (first | assumption | refine pm_I.up ?_ rfl | refine pm_I.uf ?_ rfl)) (by first | assumption | (repeat (first | exact pm_uf_e rfl | refine pm_uf_o (by decide) ?_ | apply pm_uf_o (by decide))) <;> assumption)) okX9_taken ivX9_taken ml_X9_112 ⟨Nat.le_of_ble_eq_true rfl, Nat.le_of_ble_eq_true rfl⟩ dX9_map_6 rfl rfl rfl (Nat.le_of_ble_eq_true rfl) (by repeat (first | assumption | refine pm_I.up ?_ rfl | refine pm_I.uf ?_ rfl)) rfl cl_9 pm_le.rf pm_le.rf ?_
    rintro _ _ _ ⟨rfl, rfl, rfl⟩
    refine px_iload_n (i := 1) (pc' := 10) dX9_map_9 rfl rfl rfl ?_
    refine px_iconst (v := 2) (pc' := 11) dX9_map_10 rfl (by decide) ?_
    refine px_icmp_lt (tgt := 41) (pc' := 14) dX9_map_11 (by decide) rfl (fun q_ => absurd q_ (by rw [i_lt, ew]; show ¬ _ < (2 : Int); omega)) (fun _ => ?_)
    refine px_iload_n (i := 1) (pc' := 15) dX9_map_14 rfl rfl rfl ?_
    refine px_bipush (v := 12) (pc' := 17) dX9_map_15 rfl (by decide) ?_
    refine px_icmp_gt (tgt := 41) (pc' := 20) dX9_map_17 (by decide) rfl (fun q_ => absurd q_ (by rw [i_lt, ew]; show ¬ (12 : Int) < _; omega)) (fun _ => ?_)
    refine px_iload_n (i := 2) (pc' := 21) dX9_map_20 rfl rfl rfl ?_
    refine px_iconst (v := 2) (pc' := 22) dX9_map_21 rfl (by decide) ?_
    refine px_icmp_lt (tgt := 41) (pc' := 25) dX9_map_22 (by decide) rfl (fun q_ => absurd q_ (by rw [i_lt, ed]; show ¬ _ < (2 : Int); omega)) (fun _ => ?_)
    refine px_iload_n (i := 2) (pc' := 26) dX9_map_25 rfl rfl rfl ?_
    refine px_bipush (v := 12) (pc' := 28) dX9_map_26 rfl (by decide) ?_
    refine px_icmp_gt (tgt := 41) (pc' := 31) dX9_map_28 (by decide) rfl (fun q_ => absurd q_ (by rw [i_lt, ed]; show ¬ (12 : Int) < _; omega)) (fun _ => ?_)
    refine px_aload_n (i := 0) (pc' := 32) dX9_map_31 rfl rfl rfl ?_
    refine pi_geti (pc' := 35) fl_9_18 dX9_map_32 rfl (by repeat (first | assumption | refine pm_I.up ?_ rfl | refine pm_I.uf ?_ rfl)) rfl (by first | assumption | (repeat (first | exact pm_uf_e rfl | refine pm_uf_o (by decide) ?_ | apply pm_uf_o (by decide))) <;> assumption) ?_
    refine px_iload_n (i := 1) (pc' := 36) dX9_map_35 rfl rfl rfl ?_
    refine px_iload_n (i := 2) (pc' := 37) dX9_map_36 rfl rfl rfl ?_
    refine px_imul (pc' := 38) dX9_map_37 rfl ?_
    refine px_icmp_eq (tgt := 43) (pc' := 41) dX9_map_38 (by decide) rfl (fun _ => ?_) (fun q_ => absurd (by rw [pk_mul]) q_)
    refine px_iconst (v := 0) (pc' := 44) dX9_map_43 rfl (by decide) ?_
    refine sx_i_n_4_3 (pc' := 45) dX9_map_44 rfl rfl rfl rfl ?_
    have loop : ∀ k i : Nat, i + k = w' * d' → ∀ (h1 : pm_h) (g1 : pm_g), pm_I h1 g1 → h1 31 = pm_ia 1 160 T → g1 30 3 = .int (nI (w' * d')) → pm_W G mX9_map z (pm_Φ G z (fun r' h2 g2 => r' = some (.int 1) ∧ J h2 g2)) 93 [.ref 30, .int (nI w'), .int (nI d'), .int (nI (w' * d'))] [] z h1 g1 → pm_W G mX9_map z (pm_Φ G z (fun r' h2 g2 => r' = some (.int 1) ∧ J h2 g2)) 45 [.ref 30, .int (nI w'), .int (nI d'), .int (nI i)] [] z h1 g1 := by
      intro k
      induction k with
      | zero =>
        intro i hi h1 g1 I b1 b2 W
        obtain rfl : i = w' * d' := by omega
        refine px_iload_n (i := 3) (pc' := 46) dX9_map_45 rfl rfl rfl ?_
        refine px_aload_n (i := 0) (pc' := 47) dX9_map_46 rfl rfl rfl ?_
        refine pi_geti (pc' := 50) fl_9_18 dX9_map_47 rfl (by repeat (first | assumption | refine pm_I.up ?_ rfl | refine pm_I.uf ?_ rfl)) rfl (by first | assumption | (repeat (first | exact pm_uf_e rfl | refine pm_uf_o (by decide) ?_ | apply pm_uf_o (by decide))) <;> assumption) ?_
        refine px_icmp_ge (tgt := 93) (pc' := 53) dX9_map_50 (by decide) rfl (fun _ => ?_) (fun q_ => absurd (nI_le (by omega) (by omega)) q_)
        exact W
      | succ k ih =>
        intro i hi h1 g1 I b1 b2 W
        have hc : (nI i).toNatClampNeg = i := nI_clamp (by omega)
        refine px_iload_n (i := 3) (pc' := 46) dX9_map_45 rfl rfl rfl ?_
        refine px_aload_n (i := 0) (pc' := 47) dX9_map_46 rfl rfl rfl ?_
        refine pi_geti (pc' := 50) fl_9_18 dX9_map_47 rfl (by repeat (first | assumption | refine pm_I.up ?_ rfl | refine pm_I.uf ?_ rfl)) rfl (by first | assumption | (repeat (first | exact pm_uf_e rfl | refine pm_uf_o (by decide) ?_ | apply pm_uf_o (by decide))) <;> assumption) ?_
        refine px_icmp_ge (tgt := 93) (pc' := 53) dX9_map_50 (by decide) rfl (fun q_ => absurd q_ (nI_ge (by omega) (by omega))) (fun _ => ?_)
        refine px_aload_n (i := 0) (pc' := 54) dX9_map_53 rfl rfl rfl ?_
        refine pi_getr (pc' := 57) fl_9_14 dX9_map_54 rfl (by repeat (first | assumption | refine pm_I.up ?_ rfl | refine pm_I.uf ?_ rfl)) rfl rfl ?_
        refine px_iload_n (i := 3) (pc' := 58) dX9_map_57 rfl rfl rfl ?_
        first | refine px_bald (pc' := 59) dX9_map_58 rfl (by first | assumption | (repeat (first | exact pm_up_e rfl | refine pm_up_o (by decide) ?_ | apply pm_up_o (by decide))) <;> assumption) (vp_in_nI (by omega) (by omega)) ?_ | refine px_zald (pc' := 59) dX9_map_58 rfl (by first | assumption | (repeat (first | exact pm_up_e rfl | refine pm_up_o (by decide) ?_ | apply pm_up_o (by decide))) <;> assumption) (vp_in_nI (by omega) (by omega)) ?_
        refine px_sipush (v := 255) (pc' := 62) dX9_map_59 rfl (by decide) ?_
        refine px_iand (pc' := 63) dX9_map_62 rfl ?_
        refine px_sipush (v := 250) (pc' := 66) dX9_map_63 rfl (by decide) ?_
        rw [hc]
        by_cases hb : (T i &&& 255).toInt ≤ 250
        · refine px_icmp_le (tgt := 87) (pc' := 69) dX9_map_66 (by decide) rfl (fun _ => ?_) (fun q_ => absurd (by rw [i_le, l_250]; exact hb) q_)
          refine sx_inc_4_3 (w := 1) (pc' := 90) dX9_map_87 rfl rfl (by decide) rfl ?_
          refine px_goto (tgt := 45) dX9_map_90 (by decide) ?_
          rw [nI_1]
          exact ih (i + 1) (by omega) h1 g1 I b1 b2 W
        · refine px_icmp_le (tgt := 87) (pc' := 69) dX9_map_66 (by decide) rfl (fun q_ => absurd q_ (by rw [i_le, l_250]; exact hb)) (fun _ => ?_)
          refine px_aload_n (i := 0) (pc' := 70) dX9_map_69 rfl rfl rfl ?_
          refine pi_getr (pc' := 73) fl_9_14 dX9_map_70 rfl (by repeat (first | assumption | refine pm_I.up ?_ rfl | refine pm_I.uf ?_ rfl)) rfl rfl ?_
          refine px_iload_n (i := 3) (pc' := 74) dX9_map_73 rfl rfl rfl ?_
          first | refine px_bald (pc' := 75) dX9_map_74 rfl (by first | assumption | (repeat (first | exact pm_up_e rfl | refine pm_up_o (by decide) ?_ | apply pm_up_o (by decide))) <;> assumption) (vp_in_nI (by omega) (by omega)) ?_ | refine px_zald (pc' := 75) dX9_map_74 rfl (by first | assumption | (repeat (first | exact pm_up_e rfl | refine pm_up_o (by decide) ?_ | apply pm_up_o (by decide))) <;> assumption) (vp_in_nI (by omega) (by omega)) ?_
          refine px_sipush (v := 255) (pc' := 78) dX9_map_75 rfl (by decide) ?_
          refine px_iand (pc' := 79) dX9_map_78 rfl ?_
          refine px_sipush (v := 255) (pc' := 82) dX9_map_79 rfl (by decide) ?_
          rw [hc]
          refine px_icmp_eq (tgt := 87) (pc' := 85) dX9_map_82 (by decide) rfl (fun _ => ?_) (fun q_ => absurd (by rw [i_eq, l_255]; exact (k6 i (by omega)).resolve_left (fun q => hb q.2)) q_)
          refine sx_inc_4_3 (w := 1) (pc' := 90) dX9_map_87 rfl rfl (by decide) rfl ?_
          refine px_goto (tgt := 45) dX9_map_90 (by decide) ?_
          rw [nI_1]
          exact ih (i + 1) (by omega) h1 g1 I b1 b2 W
    refine loop (w' * d') 0 (by omega) _ _ (by repeat (first | assumption | refine pm_I.up ?_ rfl | refine pm_I.uf ?_ rfl)) (by first | assumption | (repeat (first | exact pm_up_e rfl | refine pm_up_o (by decide) ?_ | apply pm_up_o (by decide))) <;> assumption) (by first | assumption | (repeat (first | exact pm_uf_e rfl | refine pm_uf_o (by decide) ?_ | apply pm_uf_o (by decide))) <;> assumption) ?_
    refine px_aload_n (i := 0) (pc' := 94) dX9_map_93 rfl rfl rfl ?_
    refine px_iload_n (i := 1) (pc' := 95) dX9_map_94 rfl rfl rfl ?_
    refine pi_puti (pc' := 98) fi_9_43 dX9_map_95 rfl (by repeat (first | assumption | refine pm_I.up ?_ rfl | refine pm_I.uf ?_ rfl)) rfl ?_
    refine px_aload_n (i := 0) (pc' := 99) dX9_map_98 rfl rfl rfl ?_
    refine px_iload_n (i := 2) (pc' := 100) dX9_map_99 rfl rfl rfl ?_
    refine pi_puti (pc' := 103) fi_9_46 dX9_map_100 rfl (by repeat (first | assumption | refine pm_I.up ?_ rfl | refine pm_I.uf ?_ rfl)) rfl ?_
    refine px_iconst (v := 0) (pc' := 104) dX9_map_103 rfl (by decide) ?_
    refine sx_i_n_4_3 (pc' := 105) dX9_map_104 rfl rfl rfl rfl ?_
    have fill : ∀ k i : Nat, i + k = w' * d' → ∀ (h1 : pm_h) (g1 : pm_g), pm_I h1 g1 → h1 31 = pm_ia 1 160 T → g1 30 3 = .int (nI (w' * d')) → pm_W G mX9_map z (pm_Φ G z (fun r' h2 g2 => r' = some (.int 1) ∧ J h2 g2)) 142 [.ref 30, .int (nI w'), .int (nI d'), .int (nI (w' * d'))] [] z (pm_up (pm_up h1 32 (pm_ia 0 144 (fun j => if j < w' * d' then T j &&& 255 else η j))) 34 (pm_ia 0 144 (fun j => if j < w' * d' then 0 else sp j))) g1 →
        pm_W G mX9_map z (pm_Φ G z (fun r' h2 g2 => r' = some (.int 1) ∧ J h2 g2)) 105 [.ref 30, .int (nI w'), .int (nI d'), .int (nI i)] [] z (pm_up (pm_up h1 32 (pm_ia 0 144 (fun j => if j < i then T j &&& 255 else η j))) 34 (pm_ia 0 144 (fun j => if j < i then 0 else sp j))) g1 := by
      intro k
      induction k with
      | zero =>
        intro i hi h1 g1 I b1 b2 W
        obtain rfl : i = w' * d' := by omega
        refine px_iload_n (i := 3) (pc' := 106) dX9_map_105 rfl rfl rfl ?_
        refine px_aload_n (i := 0) (pc' := 107) dX9_map_106 rfl rfl rfl ?_
        refine pi_geti (pc' := 110) fl_9_18 dX9_map_107 rfl (by repeat (first | assumption | refine pm_I.up ?_ rfl | refine pm_I.uf ?_ rfl)) rfl (by first | assumption | (repeat (first | exact pm_uf_e rfl | refine pm_uf_o (by decide) ?_ | apply pm_uf_o (by decide))) <;> assumption) ?_
        refine px_icmp_ge (tgt := 142) (pc' := 113) dX9_map_110 (by decide) rfl (fun _ => ?_) (fun q_ => absurd (nI_le (by omega) (by omega)) q_)
        exact W
      | succ k ih =>
        intro i hi h1 g1 I b1 b2 W
        have hc : (nI i).toNatClampNeg = i := nI_clamp (by omega)
        refine px_iload_n (i := 3) (pc' := 106) dX9_map_105 rfl rfl rfl ?_
        refine px_aload_n (i := 0) (pc' := 107) dX9_map_106 rfl rfl rfl ?_
        refine pi_geti (pc' := 110) fl_9_18 dX9_map_107 rfl (by repeat (first | assumption | refine pm_I.up ?_ rfl | refine pm_I.uf ?_ rfl)) rfl (by first | assumption | (repeat (first | exact pm_uf_e rfl | refine pm_uf_o (by decide) ?_ | apply pm_uf_o (by decide))) <;> assumption) ?_
        refine px_icmp_ge (tgt := 142) (pc' := 113) dX9_map_110 (by decide) rfl (fun q_ => absurd q_ (nI_ge (by omega) (by omega))) (fun _ => ?_)
        refine px_aload_n (i := 0) (pc' := 114) dX9_map_113 rfl rfl rfl ?_
        refine pi_getr (pc' := 117) fl_9_27 dX9_map_114 rfl (by repeat (first | assumption | refine pm_I.up ?_ rfl | refine pm_I.uf ?_ rfl)) rfl rfl ?_
        refine px_iload_n (i := 3) (pc' := 118) dX9_map_117 rfl rfl rfl ?_
        refine px_aload_n (i := 0) (pc' := 119) dX9_map_118 rfl rfl rfl ?_
        refine pi_getr (pc' := 122) fl_9_14 dX9_map_119 rfl (by repeat (first | assumption | refine pm_I.up ?_ rfl | refine pm_I.uf ?_ rfl)) rfl rfl ?_
        refine px_iload_n (i := 3) (pc' := 123) dX9_map_122 rfl rfl rfl ?_
        first | refine px_bald (pc' := 124) dX9_map_123 rfl (by first | assumption | (repeat (first | exact pm_up_e rfl | refine pm_up_o (by decide) ?_ | apply pm_up_o (by decide))) <;> assumption) (vp_in_nI (by omega) (by omega)) ?_ | refine px_zald (pc' := 124) dX9_map_123 rfl (by first | assumption | (repeat (first | exact pm_up_e rfl | refine pm_up_o (by decide) ?_ | apply pm_up_o (by decide))) <;> assumption) (vp_in_nI (by omega) (by omega)) ?_
        refine px_sipush (v := 255) (pc' := 127) dX9_map_124 rfl (by decide) ?_
        refine px_iand (pc' := 128) dX9_map_127 rfl ?_
        refine px_iast (pc' := 129) dX9_map_128 rfl (by first | assumption | (repeat (first | exact pm_up_e rfl | refine pm_up_o (by decide) ?_ | apply pm_up_o (by decide))) <;> assumption) (vp_in_nI (by omega) (by omega)) ?_
        refine px_aload_n (i := 0) (pc' := 130) dX9_map_129 rfl rfl rfl ?_
        refine pi_getr (pc' := 133) fl_9_34 dX9_map_130 rfl (by repeat (first | assumption | refine pm_I.up ?_ rfl | refine pm_I.uf ?_ rfl)) rfl rfl ?_
        refine px_iload_n (i := 3) (pc' := 134) dX9_map_133 rfl rfl rfl ?_
        refine px_iconst (v := 0) (pc' := 135) dX9_map_134 rfl (by decide) ?_
        refine px_iast (pc' := 136) dX9_map_135 rfl (by first | assumption | (repeat (first | exact pm_up_e rfl | refine pm_up_o (by decide) ?_ | apply pm_up_o (by decide))) <;> assumption) (vp_in_nI (by omega) (by omega)) ?_
        refine sx_inc_4_3 (w := 1) (pc' := 139) dX9_map_136 rfl rfl (by decide) rfl ?_
        refine px_goto (tgt := 105) dX9_map_139 (by decide) ?_
        rw [hc, nI_1, upd_fill rfl, upd_fill rfl, pm_up_comm (a := 34) (b := 32) _ _ _ (by decide), pm_up_up, pm_up_up]
        exact ih (i + 1) (by omega) h1 g1 I b1 b2 W
    have go : ∀ (h1 : pm_h) (g1 : pm_g), pm_I h1 g1 → h1 31 = pm_ia 1 160 T → g1 30 3 = .int (nI (w' * d')) → h1 32 = pm_ia 0 144 η → h1 34 = pm_ia 0 144 sp → pm_W G mX9_map z (pm_Φ G z (fun r' h2 g2 => r' = some (.int 1) ∧ J h2 g2)) 142 [.ref 30, .int (nI w'), .int (nI d'), .int (nI (w' * d'))] [] z (pm_up (pm_up h1 32 (pm_ia 0 144 (fun j => if j < w' * d' then T j &&& 255 else η j))) 34 (pm_ia 0 144 (fun j => if j < w' * d' then 0 else sp j))) g1 → pm_W G mX9_map z (pm_Φ G z (fun r' h2 g2 => r' = some (.int 1) ∧ J h2 g2)) 105 [.ref 30, .int (nI w'), .int (nI d'), .int (nI 0)] [] z h1 g1 := by
      intro h1 g1 I b1 b2 b3 b4 W
      have := fill (w' * d') 0 (by omega) h1 g1 I b1 b2 W
      rw [fill_0, fill_0, pm_up_self b3, pm_up_self b4] at this
      exact this
    refine go _ _ (by repeat (first | assumption | refine pm_I.up ?_ rfl | refine pm_I.uf ?_ rfl)) (by first | assumption | (repeat (first | exact pm_up_e rfl | refine pm_up_o (by decide) ?_ | apply pm_up_o (by decide))) <;> assumption) (by first | assumption | (repeat (first | exact pm_uf_e rfl | refine pm_uf_o (by decide) ?_ | apply pm_uf_o (by decide))) <;> assumption) (by first | assumption | (repeat (first | exact pm_up_e rfl | refine pm_up_o (by decide) ?_ | apply pm_up_o (by decide))) <;> assumption) (by first | assumption | (repeat (first | exact pm_up_e rfl | refine pm_up_o (by decide) ?_ | apply pm_up_o (by decide))) <;> assumption) ?_
    refine px_aload_n (i := 0) (pc' := 143) dX9_map_142 rfl rfl rfl ?_
    refine px_iconst (v := 0) (pc' := 144) dX9_map_143 rfl (by decide) ?_
    refine pi_puti (pc' := 147) fi_9_115 dX9_map_144 rfl (by repeat (first | assumption | refine pm_I.up ?_ rfl | refine pm_I.uf ?_ rfl)) rfl ?_
    refine px_aload_n (i := 0) (pc' := 148) dX9_map_147 rfl rfl rfl ?_
    refine px_iconst (v := 0) (pc' := 149) dX9_map_148 rfl (by decide) ?_
    refine pi_puti (pc' := 152) fi_9_118 dX9_map_149 rfl (by repeat (first | assumption | refine pm_I.up ?_ rfl | refine pm_I.uf ?_ rfl)) rfl ?_
    refine px_aload_n (i := 0) (pc' := 153) dX9_map_152 rfl rfl rfl ?_
    refine px_iconst (v := -1) (pc' := 154) dX9_map_153 rfl (by decide) ?_
    refine pi_callV (pc' := 157) (d_fly (by repeat (first | assumption | refine pm_I.up ?_ rfl | refine pm_I.uf ?_ rfl)) (w := w') (d := d') (by first | assumption | (repeat (first | exact pm_uf_e rfl | refine pm_uf_o (by decide) ?_ | apply pm_uf_o (by decide))) <;> assumption) (by first | assumption | (repeat (first | exact pm_uf_e rfl | refine pm_uf_o (by decide) ?_ | apply pm_uf_o (by decide))) <;> assumption) hw'.2 hd'.2 (by first | assumption | (repeat (first | exact pm_up_e rfl | refine pm_up_o (by decide) ?_ | apply pm_up_o (by decide))) <;> assumption)) okX9_fly ivX9_fly ml_X9_105 ⟨Nat.le_of_ble_eq_true rfl, Nat.le_of_ble_eq_true rfl⟩ dX9_map_154 rfl rfl rfl (Nat.le_of_ble_eq_true rfl) (by repeat (first | assumption | refine pm_I.up ?_ rfl | refine pm_I.uf ?_ rfl)) rfl cl_9 pm_le.rf pm_le.rf ?_
    rintro _ _ _ ⟨rfl, rfl, rfl⟩
    refine px_iconst (v := 1) (pc' := 158) dX9_map_157 rfl (by decide) ?_
    exact px_zret (ty := .boolean) dX9_map_158 rfl (rfl) rfl (⟨rfl, (by repeat (first | assumption | refine pm_I.up ?_ rfl | refine pm_I.uf ?_ rfl)), ⟨0, T, by omega, rfl, t2, rfl, t4⟩, ⟨w', d', (fun j => if j < w' * d' then T j &&& 255 else η j), ⟨hw'.1, hw'.2, hd'.1, hd'.2, hbok, rfl, rfl, (by first | assumption | (repeat (first | exact pm_up_e rfl | refine pm_up_o (by decide) ?_ | apply pm_up_o (by decide))) <;> assumption), rfl, rfl, (by first | assumption | (repeat (first | exact pm_up_e rfl | refine pm_up_o (by decide) ?_ | apply pm_up_o (by decide))) <;> assumption)⟩, ⟨st', f1, f2, sd, (fun j => if j < w' * d' then 0 else sp j), n1, n2, 0, (fun c hc => Or.inl ⟨if_pos hc, hst' c (by omega)⟩), (by first | assumption | (repeat (first | exact pm_up_e rfl | refine pm_up_o (by decide) ?_ | apply pm_up_o (by decide))) <;> assumption), (by first | assumption | (repeat (first | exact pm_up_e rfl | refine pm_up_o (by decide) ?_ | apply pm_up_o (by decide))) <;> assumption), (by first | assumption | (repeat (first | exact pm_up_e rfl | refine pm_up_o (by decide) ?_ | apply pm_up_o (by decide))) <;> assumption), rfl, (by first | assumption | (repeat (first | exact pm_up_e rfl | refine pm_up_o (by decide) ?_ | apply pm_up_o (by decide))) <;> assumption), (by first | assumption | (repeat (first | exact pm_up_e rfl | refine pm_up_o (by decide) ?_ | apply pm_up_o (by decide))) <;> assumption), (by first | assumption | (repeat (first | exact pm_up_e rfl | refine pm_up_o (by decide) ?_ | apply pm_up_o (by decide))) <;> assumption), (by first | assumption | (repeat (first | exact pm_up_e rfl | refine pm_up_o (by decide) ?_ | apply pm_up_o (by decide))) <;> assumption), rfl⟩, ⟨m_init (w' * d') (-1), 0, 0, 0, lx, ly, rv, ra, -1, f17, f38, fp', (by first | assumption | (repeat (first | exact pm_up_e rfl | refine pm_up_o (by decide) ?_ | apply pm_up_o (by decide))) <;> assumption), (by first | assumption | (repeat (first | exact pm_up_e rfl | refine pm_up_o (by decide) ?_ | apply pm_up_o (by decide))) <;> assumption), (by first | assumption | (repeat (first | exact pm_up_e rfl | refine pm_up_o (by decide) ?_ | apply pm_up_o (by decide))) <;> assumption), (by first | assumption | (repeat (first | exact pm_up_e rfl | refine pm_up_o (by decide) ?_ | apply pm_up_o (by decide))) <;> assumption), (by first | assumption | (repeat (first | exact pm_up_e rfl | refine pm_up_o (by decide) ?_ | apply pm_up_o (by decide))) <;> assumption), (by first | assumption | (repeat (first | exact pm_up_e rfl | refine pm_up_o (by decide) ?_ | apply pm_up_o (by decide))) <;> assumption), rfl, rfl, rfl, rfl, (by first | assumption | (repeat (first | exact pm_up_e rfl | refine pm_up_o (by decide) ?_ | apply pm_up_o (by decide))) <;> assumption), (by first | assumption | (repeat (first | exact pm_up_e rfl | refine pm_up_o (by decide) ?_ | apply pm_up_o (by decide))) <;> assumption), (by first | assumption | (repeat (first | exact pm_up_e rfl | refine pm_up_o (by decide) ?_ | apply pm_up_o (by decide))) <;> assumption), (by first | assumption | (repeat (first | exact pm_up_e rfl | refine pm_up_o (by decide) ?_ | apply pm_up_o (by decide))) <;> assumption), (by first | assumption | (repeat (first | exact pm_up_e rfl | refine pm_up_o (by decide) ?_ | apply pm_up_o (by decide))) <;> assumption), (by first | assumption | (repeat (first | exact pm_up_e rfl | refine pm_up_o (by decide) ?_ | apply pm_up_o (by decide))) <;> assumption), rfl, rfl, rfl, rfl⟩⟩, q5.imp fun _ q => q.imp fun _ q => q.imp fun _ q => q.keep rfl rfl rfl rfl rfl rfl, q6.keep rfl rfl rfl rfl rfl rfl rfl rfl rfl rfl rfl rfl rfl rfl rfl, q7.keep rfl rfl rfl rfl rfl rfl rfl rfl rfl, q8⟩)
  · refine ⟨0, ?_⟩
    refine enX8_map pm_le.rf ?_
    refine px_aload_n (i := 0) (pc' := 1) dX8_map_0 rfl rfl rfl ?_
    refine pi_getr (pc' := 4) fl_8_19 dX8_map_1 rfl (by repeat (first | assumption | refine pm_I.up ?_ rfl | refine pm_I.uf ?_ rfl)) rfl rfl ?_
    refine px_iload_n (i := 1) (pc' := 5) dX8_map_4 rfl rfl rfl ?_
    refine px_iload_n (i := 2) (pc' := 6) dX8_map_5 rfl rfl rfl ?_
    refine px_aload_n (i := 0) (pc' := 7) dX8_map_6 rfl rfl rfl ?_
    refine pi_getr (pc' := 10) fl_8_10 dX8_map_7 rfl (by repeat (first | assumption | refine pm_I.up ?_ rfl | refine pm_I.uf ?_ rfl)) rfl rfl ?_
    refine pi_callV (pc' := 13) (c_tell_f I t1 hn t2 ok) okX3_tell ivX3_tell ml_X8_86 ⟨Nat.le_of_ble_eq_true rfl, Nat.le_of_ble_eq_true rfl⟩ dX8_map_10 rfl rfl rfl (Nat.le_of_ble_eq_true rfl) (by repeat (first | assumption | refine pm_I.up ?_ rfl | refine pm_I.uf ?_ rfl)) rfl cl_3 pm_le.rf pm_le.rf ?_
    rintro _ _ _ ⟨rfl, rfl, rfl⟩
    refine sx_i_n_4_3 (pc' := 14) dX8_map_13 rfl rfl rfl rfl ?_
    refine px_aload_n (i := 0) (pc' := 15) dX8_map_14 rfl rfl rfl ?_
    refine pi_getr (pc' := 18) fl_8_10 dX8_map_15 rfl (by repeat (first | assumption | refine pm_I.up ?_ rfl | refine pm_I.uf ?_ rfl)) rfl rfl ?_
    refine px_iconst (v := 0) (pc' := 19) dX8_map_18 rfl (by decide) ?_
    refine pi_callV (pc' := 22) (c_cut_t I t1 hn h0) okX6_cut ivX6_cut ml_X8_82 ⟨Nat.le_of_ble_eq_true rfl, Nat.le_of_ble_eq_true rfl⟩ dX8_map_19 rfl rfl rfl (Nat.le_of_ble_eq_true rfl) (by repeat (first | assumption | refine pm_I.up ?_ rfl | refine pm_I.uf ?_ rfl)) rfl cl_6 pm_le.rf pm_le.rf ?_
    rintro _ _ _ ⟨rfl, rfl, rfl⟩
    refine px_pop (pc' := 23) dX8_map_22 rfl rfl ?_
    refine px_iload_n (i := 3) (pc' := 24) dX8_map_23 rfl rfl rfl ?_
    refine px_if_eq (tgt := 49) (pc' := 27) dX8_map_24 (by decide) rfl (fun _ => ?_) (fun q_ => absurd (rfl) q_)
    refine px_iload_n (i := 3) (pc' := 50) dX8_map_49 rfl rfl rfl ?_
    refine px_zret (ty := .boolean) dX8_map_50 rfl (rfl) rfl (⟨rfl, (by repeat (first | assumption | refine pm_I.up ?_ rfl | refine pm_I.uf ?_ rfl)), ?_⟩)
    refine enX9_map pm_le.rf ?_
    have fin : ∀ x : Value, x.category = 1 → pm_W G mX9_map z (pm_Φ G z (fun r' h2 g2 => r' = some (.int 0) ∧ J h2 g2)) 42 [.ref 30, .int a, .int b, x] [.int 0] z h (pm_uf (pm_uf (pm_uf (pm_uf g 1 1 (.int 0)) 30 0 (.int 0)) 30 3 (.int (nI n))) 30 2 (.int 0)) := by
      intro x hx
      exact px_zret (ty := .boolean) dX9_map_42 rfl (rfl) rfl (⟨rfl, (by repeat (first | assumption | refine pm_I.up ?_ rfl | refine pm_I.uf ?_ rfl)), ⟨0, T, by omega, rfl, t2, rfl, t4⟩, ⟨w, d, η, q2.keep rfl rfl rfl rfl rfl rfl, q3.keep rfl rfl rfl rfl rfl rfl rfl rfl rfl, q4.keep rfl rfl rfl rfl rfl rfl rfl rfl rfl rfl rfl rfl rfl rfl rfl rfl rfl rfl rfl rfl⟩, q5.imp fun _ q => q.imp fun _ q => q.imp fun _ q => q.keep rfl rfl rfl rfl rfl rfl, q6.keep rfl rfl rfl rfl rfl rfl rfl rfl rfl rfl rfl rfl rfl rfl rfl, q7.keep rfl rfl rfl rfl rfl rfl rfl rfl rfl, q8⟩)
    unfold m_tell at ok
    refine px_aload_n (i := 0) (pc' := 1) dX9_map_0 rfl rfl rfl ?_
    refine px_iconst (v := 0) (pc' := 2) dX9_map_1 rfl (by decide) ?_
    refine pi_puti (pc' := 5) fi_9_1 dX9_map_2 rfl (by repeat (first | assumption | refine pm_I.up ?_ rfl | refine pm_I.uf ?_ rfl)) rfl ?_
    refine px_aload_n (i := 0) (pc' := 6) dX9_map_5 rfl rfl rfl ?_
    refine pi_callV (pc' := 9) (d_taken (by repeat (first | assumption | refine pm_I.up ?_ rfl | refine pm_I.uf ?_ rfl)) (by first | assumption | (repeat (first | exact pm_uf_e rfl | refine pm_uf_o (by decide) ?_ | apply pm_uf_o (by decide))) <;> assumption)) okX9_taken ivX9_taken ml_X9_112 ⟨Nat.le_of_ble_eq_true rfl, Nat.le_of_ble_eq_true rfl⟩ dX9_map_6 rfl rfl rfl (Nat.le_of_ble_eq_true rfl) (by repeat (first | assumption | refine pm_I.up ?_ rfl | refine pm_I.uf ?_ rfl)) rfl cl_9 pm_le.rf pm_le.rf ?_
    rintro _ _ _ ⟨rfl, rfl, rfl⟩
    refine px_iload_n (i := 1) (pc' := 10) dX9_map_9 rfl rfl rfl ?_
    refine px_iconst (v := 2) (pc' := 11) dX9_map_10 rfl (by decide) ?_
    refine px_icmp_lt (tgt := 41) (pc' := 14) dX9_map_11 (by decide) rfl (fun p1 => ?_) (fun p1 => ?_)
    · refine px_iconst (v := 0) (pc' := 42) dX9_map_41 rfl (by decide) ?_
      exact fin _ rfl
    refine px_iload_n (i := 1) (pc' := 15) dX9_map_14 rfl rfl rfl ?_
    refine px_bipush (v := 12) (pc' := 17) dX9_map_15 rfl (by decide) ?_
    refine px_icmp_gt (tgt := 41) (pc' := 20) dX9_map_17 (by decide) rfl (fun p2 => ?_) (fun p2 => ?_)
    · refine px_iconst (v := 0) (pc' := 42) dX9_map_41 rfl (by decide) ?_
      exact fin _ rfl
    refine px_iload_n (i := 2) (pc' := 21) dX9_map_20 rfl rfl rfl ?_
    refine px_iconst (v := 2) (pc' := 22) dX9_map_21 rfl (by decide) ?_
    refine px_icmp_lt (tgt := 41) (pc' := 25) dX9_map_22 (by decide) rfl (fun p3 => ?_) (fun p3 => ?_)
    · refine px_iconst (v := 0) (pc' := 42) dX9_map_41 rfl (by decide) ?_
      exact fin _ rfl
    refine px_iload_n (i := 2) (pc' := 26) dX9_map_25 rfl rfl rfl ?_
    refine px_bipush (v := 12) (pc' := 28) dX9_map_26 rfl (by decide) ?_
    refine px_icmp_gt (tgt := 41) (pc' := 31) dX9_map_28 (by decide) rfl (fun p4 => ?_) (fun p4 => ?_)
    · refine px_iconst (v := 0) (pc' := 42) dX9_map_41 rfl (by decide) ?_
      exact fin _ rfl
    rw [i_lt, l_2] at p1 p3
    rw [i_lt, l_12] at p2 p4
    obtain ⟨y1, y2, y3⟩ := i_mul12 (w := a) (d := b) ⟨by omega, by omega⟩ ⟨by omega, by omega⟩
    refine px_aload_n (i := 0) (pc' := 32) dX9_map_31 rfl rfl rfl ?_
    refine pi_geti (pc' := 35) fl_9_18 dX9_map_32 rfl (by repeat (first | assumption | refine pm_I.up ?_ rfl | refine pm_I.uf ?_ rfl)) rfl (by first | assumption | (repeat (first | exact pm_uf_e rfl | refine pm_uf_o (by decide) ?_ | apply pm_uf_o (by decide))) <;> assumption) ?_
    refine px_iload_n (i := 1) (pc' := 36) dX9_map_35 rfl rfl rfl ?_
    refine px_iload_n (i := 2) (pc' := 37) dX9_map_36 rfl rfl rfl ?_
    refine px_imul (pc' := 38) dX9_map_37 rfl ?_
    refine px_icmp_eq (tgt := 43) (pc' := 41) dX9_map_38 (by decide) rfl (fun p5 => ?_) (fun p5 => ?_)
    rotate_left
    · refine px_iconst (v := 0) (pc' := 42) dX9_map_41 rfl (by decide) ?_
      exact fin _ rfl
    rw [i_eq, en, y1] at p5
    have hn2 : n ≤ 144 := by omega
    refine px_iconst (v := 0) (pc' := 44) dX9_map_43 rfl (by decide) ?_
    refine sx_i_n_4_3 (pc' := 45) dX9_map_44 rfl rfl rfl rfl ?_
    have loop : ∀ k i : Nat, i + k = n → (∀ j, j < i → m_bok (T j &&& 255)) → pm_W G mX9_map z (pm_Φ G z (fun r' h2 g2 => r' = some (.int 0) ∧ J h2 g2)) 45 [.ref 30, .int a, .int b, .int (nI i)] [] z h (pm_uf (pm_uf (pm_uf (pm_uf g 1 1 (.int 0)) 30 0 (.int 0)) 30 3 (.int (nI n))) 30 2 (.int 0)) := by
      intro k
      induction k with
      | zero =>
        intro i hi hj
        exact absurd ⟨by omega, by omega, by omega, by omega, p5, fun j hh => hj j (by omega)⟩ ok
      | succ k ih =>
        intro i hi hj
        have hc : (nI i).toNatClampNeg = i := nI_clamp (by omega)
        refine px_iload_n (i := 3) (pc' := 46) dX9_map_45 rfl rfl rfl ?_
        refine px_aload_n (i := 0) (pc' := 47) dX9_map_46 rfl rfl rfl ?_
        refine pi_geti (pc' := 50) fl_9_18 dX9_map_47 rfl (by repeat (first | assumption | refine pm_I.up ?_ rfl | refine pm_I.uf ?_ rfl)) rfl (by first | assumption | (repeat (first | exact pm_uf_e rfl | refine pm_uf_o (by decide) ?_ | apply pm_uf_o (by decide))) <;> assumption) ?_
        refine px_icmp_ge (tgt := 93) (pc' := 53) dX9_map_50 (by decide) rfl (fun q_ => absurd q_ (nI_ge (by omega) (by omega))) (fun _ => ?_)
        refine px_aload_n (i := 0) (pc' := 54) dX9_map_53 rfl rfl rfl ?_
        refine pi_getr (pc' := 57) fl_9_14 dX9_map_54 rfl (by repeat (first | assumption | refine pm_I.up ?_ rfl | refine pm_I.uf ?_ rfl)) rfl rfl ?_
        refine px_iload_n (i := 3) (pc' := 58) dX9_map_57 rfl rfl rfl ?_
        first | refine px_bald (pc' := 59) dX9_map_58 rfl (by first | assumption | (repeat (first | exact pm_up_e rfl | refine pm_up_o (by decide) ?_ | apply pm_up_o (by decide))) <;> assumption) (vp_in_nI (by omega) (by omega)) ?_ | refine px_zald (pc' := 59) dX9_map_58 rfl (by first | assumption | (repeat (first | exact pm_up_e rfl | refine pm_up_o (by decide) ?_ | apply pm_up_o (by decide))) <;> assumption) (vp_in_nI (by omega) (by omega)) ?_
        refine px_sipush (v := 255) (pc' := 62) dX9_map_59 rfl (by decide) ?_
        refine px_iand (pc' := 63) dX9_map_62 rfl ?_
        refine px_sipush (v := 250) (pc' := 66) dX9_map_63 rfl (by decide) ?_
        rw [hc]
        by_cases hb : (T i &&& 255).toInt ≤ 250
        · refine px_icmp_le (tgt := 87) (pc' := 69) dX9_map_66 (by decide) rfl (fun _ => ?_) (fun q_ => absurd (by rw [i_le, l_250]; exact hb) q_)
          refine sx_inc_4_3 (w := 1) (pc' := 90) dX9_map_87 rfl rfl (by decide) rfl ?_
          refine px_goto (tgt := 45) dX9_map_90 (by decide) ?_
          rw [nI_1]
          exact ih (i + 1) (by omega) (fun j hh => if h : j = i then h ▸ Or.inl ⟨m_byte_ge, hb⟩ else hj j (by omega))
        · refine px_icmp_le (tgt := 87) (pc' := 69) dX9_map_66 (by decide) rfl (fun q_ => absurd q_ (by rw [i_le, l_250]; exact hb)) (fun _ => ?_)
          refine px_aload_n (i := 0) (pc' := 70) dX9_map_69 rfl rfl rfl ?_
          refine pi_getr (pc' := 73) fl_9_14 dX9_map_70 rfl (by repeat (first | assumption | refine pm_I.up ?_ rfl | refine pm_I.uf ?_ rfl)) rfl rfl ?_
          refine px_iload_n (i := 3) (pc' := 74) dX9_map_73 rfl rfl rfl ?_
          first | refine px_bald (pc' := 75) dX9_map_74 rfl (by first | assumption | (repeat (first | exact pm_up_e rfl | refine pm_up_o (by decide) ?_ | apply pm_up_o (by decide))) <;> assumption) (vp_in_nI (by omega) (by omega)) ?_ | refine px_zald (pc' := 75) dX9_map_74 rfl (by first | assumption | (repeat (first | exact pm_up_e rfl | refine pm_up_o (by decide) ?_ | apply pm_up_o (by decide))) <;> assumption) (vp_in_nI (by omega) (by omega)) ?_
          refine px_sipush (v := 255) (pc' := 78) dX9_map_75 rfl (by decide) ?_
          refine px_iand (pc' := 79) dX9_map_78 rfl ?_
          refine px_sipush (v := 255) (pc' := 82) dX9_map_79 rfl (by decide) ?_
          rw [hc]
          refine px_icmp_eq (tgt := 87) (pc' := 85) dX9_map_82 (by decide) rfl (fun hb2 => ?_) (fun hb2 => ?_)
          · rw [i_eq, l_255] at hb2
            refine sx_inc_4_3 (w := 1) (pc' := 90) dX9_map_87 rfl rfl (by decide) rfl ?_
            refine px_goto (tgt := 45) dX9_map_90 (by decide) ?_
            rw [nI_1]
            exact ih (i + 1) (by omega) (fun j hh => if h : j = i then h ▸ Or.inr hb2 else hj j (by omega))
          · refine px_iconst (v := 0) (pc' := 86) dX9_map_85 rfl (by decide) ?_
            exact px_zret (ty := .boolean) dX9_map_86 rfl (rfl) rfl (⟨rfl, (by repeat (first | assumption | refine pm_I.up ?_ rfl | refine pm_I.uf ?_ rfl)), ⟨0, T, by omega, rfl, t2, rfl, t4⟩, ⟨w, d, η, q2.keep rfl rfl rfl rfl rfl rfl, q3.keep rfl rfl rfl rfl rfl rfl rfl rfl rfl, q4.keep rfl rfl rfl rfl rfl rfl rfl rfl rfl rfl rfl rfl rfl rfl rfl rfl rfl rfl rfl rfl⟩, q5.imp fun _ q => q.imp fun _ q => q.imp fun _ q => q.keep rfl rfl rfl rfl rfl rfl, q6.keep rfl rfl rfl rfl rfl rfl rfl rfl rfl rfl rfl rfl rfl rfl rfl, q7.keep rfl rfl rfl rfl rfl rfl rfl rfl rfl, q8⟩)
    exact loop n 0 (by omega) (fun j hj => absurd hj (by omega))
end OPS4
