/-! the calls, one by one: both answer alike, and J holds behind them -/
section OPS2
variable {G : pm_G}
theorem o_end {c : Int32} : pm_op G mX8_end mX9_end [.int c] := by
  intro z h g j
  obtain ⟨I, ⟨n, T, q1⟩, ⟨w, d, η, q2, q3, q4⟩, q5, q6, q7, q8⟩ := id j
  obtain ⟨hn, t1, t2, t3, t4⟩ := id q1
  have en : (nI n).toInt = n := nI_toInt (by omega)
  by_cases hc : 0 ≤ c.toInt ∧ c.toInt ≤ n
  · refine ⟨1, ?_⟩
    refine enX8_end pm_le.rf ?_
    refine px_aload_n (i := 0) (pc' := 1) dX8_end_0 rfl rfl rfl ?_
    refine pi_getr (pc' := 4) fl_8_10 dX8_end_1 rfl (by repeat (first | assumption | refine pm_I.up ?_ rfl | refine pm_I.uf ?_ rfl)) rfl rfl ?_
    refine px_iload_n (i := 1) (pc' := 5) dX8_end_4 rfl rfl rfl ?_
    refine pi_callV (pc' := 8) (c_cut_t I t1 hn hc) okX6_cut ivX6_cut ml_X8_82 ⟨Nat.le_of_ble_eq_true rfl, Nat.le_of_ble_eq_true rfl⟩ dX8_end_5 rfl rfl rfl (Nat.le_of_ble_eq_true rfl) (by repeat (first | assumption | refine pm_I.up ?_ rfl | refine pm_I.uf ?_ rfl)) rfl cl_6 pm_le.rf pm_le.rf ?_
    rintro _ _ _ ⟨rfl, rfl, rfl⟩
    refine px_zret (ty := .boolean) dX8_end_8 rfl (rfl) rfl (⟨rfl, (by repeat (first | assumption | refine pm_I.up ?_ rfl | refine pm_I.uf ?_ rfl)), ?_⟩)
    refine enX9_end pm_le.rf ?_
    refine px_aload_n (i := 0) (pc' := 1) dX9_end_0 rfl rfl rfl ?_
    refine px_iconst (v := 0) (pc' := 2) dX9_end_1 rfl (by decide) ?_
    refine pi_puti (pc' := 5) fi_9_1 dX9_end_2 rfl (by repeat (first | assumption | refine pm_I.up ?_ rfl | refine pm_I.uf ?_ rfl)) rfl ?_
    refine px_iload_n (i := 1) (pc' := 6) dX9_end_5 rfl rfl rfl ?_
    refine px_if_lt (tgt := 17) (pc' := 9) dX9_end_6 (by decide) rfl (fun q_ => absurd q_ (by rw [i_lt, i_0]; omega)) (fun _ => ?_)
    refine px_iload_n (i := 1) (pc' := 10) dX9_end_9 rfl rfl rfl ?_
    refine px_aload_n (i := 0) (pc' := 11) dX9_end_10 rfl rfl rfl ?_
    refine pi_geti (pc' := 14) fl_9_7 dX9_end_11 rfl (by repeat (first | assumption | refine pm_I.up ?_ rfl | refine pm_I.uf ?_ rfl)) rfl (by first | assumption | (repeat (first | exact pm_uf_e rfl | refine pm_uf_o (by decide) ?_)) <;> assumption) ?_
    refine px_icmp_le (tgt := 19) (pc' := 17) dX9_end_14 (by decide) rfl (fun _ => ?_) (fun q_ => absurd (by rw [i_le, en]; omega) q_)
    refine px_aload_n (i := 0) (pc' := 20) dX9_end_19 rfl rfl rfl ?_
    refine px_iload_n (i := 1) (pc' := 21) dX9_end_20 rfl rfl rfl ?_
    refine pi_puti (pc' := 24) fi_9_7 dX9_end_21 rfl (by repeat (first | assumption | refine pm_I.up ?_ rfl | refine pm_I.uf ?_ rfl)) rfl ?_
    refine px_iconst (v := 1) (pc' := 25) dX9_end_24 rfl (by decide) ?_
    obtain ⟨k, hk, rfl⟩ : ∃ k : Nat, k ≤ n ∧ c = nI k := ⟨c.toInt.toNat, by omega, by rw [← iZ_n, Int.toNat_of_nonneg (by omega), iZ_i]⟩
    exact px_zret (ty := .boolean) dX9_end_25 rfl (rfl) rfl (⟨rfl, (by repeat (first | assumption | refine pm_I.up ?_ rfl | refine pm_I.uf ?_ rfl)), ⟨k, T, by omega, (by first | assumption | (repeat (first | exact pm_uf_e rfl | refine pm_uf_o (by decide) ?_)) <;> assumption), (by first | assumption | (repeat (first | exact pm_up_e rfl | refine pm_up_o (by decide) ?_)) <;> assumption), (by first | assumption | (repeat (first | exact pm_uf_e rfl | refine pm_uf_o (by decide) ?_)) <;> assumption), (by first | assumption | (repeat (first | exact pm_up_e rfl | refine pm_up_o (by decide) ?_)) <;> assumption)⟩, ⟨w, d, η, q2.keep rfl rfl rfl rfl rfl rfl, q3.keep rfl rfl rfl rfl rfl rfl rfl rfl rfl, q4.keep rfl rfl rfl rfl rfl rfl rfl rfl rfl rfl rfl rfl rfl rfl rfl rfl rfl rfl rfl rfl⟩, q5.imp fun _ q => q.imp fun _ q => q.imp fun _ q => q.keep rfl rfl rfl rfl rfl rfl, q6.keep rfl rfl rfl rfl rfl rfl rfl rfl rfl rfl rfl rfl rfl rfl rfl, q7.keep rfl rfl rfl rfl rfl rfl rfl rfl rfl, q8⟩)
  · refine ⟨0, ?_⟩
    refine enX8_end pm_le.rf ?_
    refine px_aload_n (i := 0) (pc' := 1) dX8_end_0 rfl rfl rfl ?_
    refine pi_getr (pc' := 4) fl_8_10 dX8_end_1 rfl (by repeat (first | assumption | refine pm_I.up ?_ rfl | refine pm_I.uf ?_ rfl)) rfl rfl ?_
    refine px_iload_n (i := 1) (pc' := 5) dX8_end_4 rfl rfl rfl ?_
    refine pi_callV (pc' := 8) (c_cut_f I t1 hn hc) okX6_cut ivX6_cut ml_X8_82 ⟨Nat.le_of_ble_eq_true rfl, Nat.le_of_ble_eq_true rfl⟩ dX8_end_5 rfl rfl rfl (Nat.le_of_ble_eq_true rfl) (by repeat (first | assumption | refine pm_I.up ?_ rfl | refine pm_I.uf ?_ rfl)) rfl cl_6 pm_le.rf pm_le.rf ?_
    rintro _ _ _ ⟨rfl, rfl, rfl⟩
    refine px_zret (ty := .boolean) dX8_end_8 rfl (rfl) rfl (⟨rfl, I, ?_⟩)
    refine enX9_end pm_le.rf ?_
    refine px_aload_n (i := 0) (pc' := 1) dX9_end_0 rfl rfl rfl ?_
    refine px_iconst (v := 0) (pc' := 2) dX9_end_1 rfl (by decide) ?_
    refine pi_puti (pc' := 5) fi_9_1 dX9_end_2 rfl (by repeat (first | assumption | refine pm_I.up ?_ rfl | refine pm_I.uf ?_ rfl)) rfl ?_
    refine px_iload_n (i := 1) (pc' := 6) dX9_end_5 rfl rfl rfl ?_
    refine px_if_lt (tgt := 17) (pc' := 9) dX9_end_6 (by decide) rfl (fun q => ?_) (fun q => ?_)
    · refine px_iconst (v := 0) (pc' := 18) dX9_end_17 rfl (by decide) ?_
      exact px_zret (ty := .boolean) dX9_end_18 rfl (rfl) rfl (⟨rfl, j.thr⟩)
    · rw [i_lt, i_0] at q
      refine px_iload_n (i := 1) (pc' := 10) dX9_end_9 rfl rfl rfl ?_
      refine px_aload_n (i := 0) (pc' := 11) dX9_end_10 rfl rfl rfl ?_
      refine pi_geti (pc' := 14) fl_9_7 dX9_end_11 rfl (by repeat (first | assumption | refine pm_I.up ?_ rfl | refine pm_I.uf ?_ rfl)) rfl (by first | assumption | (repeat (first | exact pm_uf_e rfl | refine pm_uf_o (by decide) ?_)) <;> assumption) ?_
      refine px_icmp_le (tgt := 19) (pc' := 17) dX9_end_14 (by decide) rfl (fun q_ => absurd q_ (by rw [i_le, en]; omega)) (fun _ => ?_)
      refine px_iconst (v := 0) (pc' := 18) dX9_end_17 rfl (by decide) ?_
      exact px_zret (ty := .boolean) dX9_end_18 rfl (rfl) rfl (⟨rfl, j.thr⟩)
theorem o_meter {a b c : Int32} : pm_op G mX8_meter mX9_meter [.int a, .int b, .int c] := by
  intro z h g j
  obtain ⟨I, ⟨n, T, q1⟩, ⟨w, d, η, q2, q3, q4⟩, q5, q6, q7, q8⟩ := id j
  by_cases ok : m_setOk a b c
  · refine ⟨1, ?_⟩
    refine enX8_meter pm_le.rf ?_
    refine px_aload_n (i := 0) (pc' := 1) dX8_meter_0 rfl rfl rfl ?_
    refine pi_getr (pc' := 4) fl_8_26 dX8_meter_1 rfl (by repeat (first | assumption | refine pm_I.up ?_ rfl | refine pm_I.uf ?_ rfl)) rfl rfl ?_
    refine px_iload_n (i := 1) (pc' := 5) dX8_meter_4 rfl rfl rfl ?_
    refine px_iload_n (i := 2) (pc' := 6) dX8_meter_5 rfl rfl rfl ?_
    refine px_iload_n (i := 3) (pc' := 7) dX8_meter_6 rfl rfl rfl ?_
    refine pi_callV (pc' := 10) (c_set_t I ok) okX2_set ivX2_set ml_X8_96 ⟨Nat.le_of_ble_eq_true rfl, Nat.le_of_ble_eq_true rfl⟩ dX8_meter_7 rfl rfl rfl (Nat.le_of_ble_eq_true rfl) (by repeat (first | assumption | refine pm_I.up ?_ rfl | refine pm_I.uf ?_ rfl)) rfl cl_2 pm_le.rf pm_le.rf ?_
    rintro _ _ _ ⟨rfl, rfl, rfl⟩
    refine px_zret (ty := .boolean) dX8_meter_10 rfl (rfl) rfl (⟨rfl, (by repeat (first | assumption | refine pm_I.up ?_ rfl | refine pm_I.uf ?_ rfl)), ?_⟩)
    obtain ⟨k1, k2, k3, k4, k5, k6⟩ := ok
    refine enX9_meter pm_le.rf ?_
    refine px_aload_n (i := 0) (pc' := 1) dX9_meter_0 rfl rfl rfl ?_
    refine px_iconst (v := 0) (pc' := 2) dX9_meter_1 rfl (by decide) ?_
    refine pi_puti (pc' := 5) fi_9_1 dX9_meter_2 rfl (by repeat (first | assumption | refine pm_I.up ?_ rfl | refine pm_I.uf ?_ rfl)) rfl ?_
    refine px_iload_n (i := 1) (pc' := 6) dX9_meter_5 rfl rfl rfl ?_
    refine px_if_lt (tgt := 34) (pc' := 9) dX9_meter_6 (by decide) rfl (fun q_ => absurd q_ (by rw [i_lt, i_0]; omega)) (fun _ => ?_)
    refine px_iload_n (i := 1) (pc' := 10) dX9_meter_9 rfl rfl rfl ?_
    refine px_bipush (v := 20) (pc' := 12) dX9_meter_10 rfl (by decide) ?_
    refine px_icmp_gt (tgt := 34) (pc' := 15) dX9_meter_12 (by decide) rfl (fun q_ => absurd q_ (by rw [i_lt]; show ¬ (20 : Int) < _; omega)) (fun _ => ?_)
    refine px_iload_n (i := 2) (pc' := 16) dX9_meter_15 rfl rfl rfl ?_
    refine px_iconst (v := 1) (pc' := 17) dX9_meter_16 rfl (by decide) ?_
    refine px_icmp_lt (tgt := 34) (pc' := 20) dX9_meter_17 (by decide) rfl (fun q_ => absurd q_ (by rw [i_lt, l_1]; omega)) (fun _ => ?_)
    refine px_iload_n (i := 2) (pc' := 21) dX9_meter_20 rfl rfl rfl ?_
    refine px_iconst (v := 3) (pc' := 22) dX9_meter_21 rfl (by decide) ?_
    refine px_icmp_gt (tgt := 34) (pc' := 25) dX9_meter_22 (by decide) rfl (fun q_ => absurd q_ (by rw [i_lt, l_3]; omega)) (fun _ => ?_)
    refine px_iload_n (i := 3) (pc' := 26) dX9_meter_25 rfl rfl rfl ?_
    refine px_if_lt (tgt := 34) (pc' := 29) dX9_meter_26 (by decide) rfl (fun q_ => absurd q_ (by rw [i_lt, i_0]; omega)) (fun _ => ?_)
    refine px_iload_n (i := 3) (pc' := 30) dX9_meter_29 rfl rfl rfl ?_
    refine px_iconst (v := 1) (pc' := 31) dX9_meter_30 rfl (by decide) ?_
    refine px_icmp_le (tgt := 36) (pc' := 34) dX9_meter_31 (by decide) rfl (fun _ => ?_) (fun q_ => absurd (by rw [i_le, l_1]; omega) q_)
    refine px_aload_n (i := 0) (pc' := 37) dX9_meter_36 rfl rfl rfl ?_
    refine px_iload_n (i := 1) (pc' := 38) dX9_meter_37 rfl rfl rfl ?_
    refine pi_puti (pc' := 41) fi_9_121 dX9_meter_38 rfl (by repeat (first | assumption | refine pm_I.up ?_ rfl | refine pm_I.uf ?_ rfl)) rfl ?_
    refine px_aload_n (i := 0) (pc' := 42) dX9_meter_41 rfl rfl rfl ?_
    refine px_iload_n (i := 2) (pc' := 43) dX9_meter_42 rfl rfl rfl ?_
    refine pi_puti (pc' := 46) fi_9_49 dX9_meter_43 rfl (by repeat (first | assumption | refine pm_I.up ?_ rfl | refine pm_I.uf ?_ rfl)) rfl ?_
    refine px_aload_n (i := 0) (pc' := 47) dX9_meter_46 rfl rfl rfl ?_
    refine px_iload_n (i := 3) (pc' := 48) dX9_meter_47 rfl rfl rfl ?_
    refine pi_puti (pc' := 51) fi_9_124 dX9_meter_48 rfl (by repeat (first | assumption | refine pm_I.up ?_ rfl | refine pm_I.uf ?_ rfl)) rfl ?_
    refine px_iconst (v := 1) (pc' := 52) dX9_meter_51 rfl (by decide) ?_
    obtain ⟨k, hk, rfl⟩ : ∃ k : Nat, k ≤ 20 ∧ a = nI k := ⟨a.toInt.toNat, by omega, by rw [← iZ_n, Int.toNat_of_nonneg (by omega), iZ_i]⟩
    obtain ⟨k', hk', rfl⟩ : ∃ k : Nat, (1 ≤ k ∧ k ≤ 3) ∧ b = nI k := ⟨b.toInt.toNat, by omega, by rw [← iZ_n, Int.toNat_of_nonneg (by omega), iZ_i]⟩
    obtain ⟨k'', hk'', rfl⟩ : ∃ k : Nat, k ≤ 1 ∧ c = nI k := ⟨c.toInt.toNat, by omega, by rw [← iZ_n, Int.toNat_of_nonneg (by omega), iZ_i]⟩
    exact px_zret (ty := .boolean) dX9_meter_52 rfl (rfl) rfl (⟨rfl, (by repeat (first | assumption | refine pm_I.up ?_ rfl | refine pm_I.uf ?_ rfl)), ⟨n, T, q1.keep rfl rfl rfl rfl⟩, ⟨w, d, η, q2.keep rfl rfl rfl rfl rfl rfl, q3.keep rfl rfl rfl rfl rfl rfl rfl rfl rfl, q4.keep rfl rfl rfl rfl rfl rfl rfl rfl rfl rfl rfl rfl rfl rfl rfl rfl rfl rfl rfl rfl⟩, ⟨k, k', k'', hk, hk'.1, hk'.2, hk'', (by first | assumption | (repeat (first | exact pm_uf_e rfl | refine pm_uf_o (by decide) ?_)) <;> assumption), (by first | assumption | (repeat (first | exact pm_uf_e rfl | refine pm_uf_o (by decide) ?_)) <;> assumption), (by first | assumption | (repeat (first | exact pm_uf_e rfl | refine pm_uf_o (by decide) ?_)) <;> assumption), (by first | assumption | (repeat (first | exact pm_uf_e rfl | refine pm_uf_o (by decide) ?_)) <;> assumption), (by first | assumption | (repeat (first | exact pm_uf_e rfl | refine pm_uf_o (by decide) ?_)) <;> assumption), (by first | assumption | (repeat (first | exact pm_uf_e rfl | refine pm_uf_o (by decide) ?_)) <;> assumption)⟩, q6.keep rfl rfl rfl rfl rfl rfl rfl rfl rfl rfl rfl rfl rfl rfl rfl, q7.keep rfl rfl rfl rfl rfl rfl rfl rfl rfl, q8⟩)
  · refine ⟨0, ?_⟩
    refine enX8_meter pm_le.rf ?_
    refine px_aload_n (i := 0) (pc' := 1) dX8_meter_0 rfl rfl rfl ?_
    refine pi_getr (pc' := 4) fl_8_26 dX8_meter_1 rfl (by repeat (first | assumption | refine pm_I.up ?_ rfl | refine pm_I.uf ?_ rfl)) rfl rfl ?_
    refine px_iload_n (i := 1) (pc' := 5) dX8_meter_4 rfl rfl rfl ?_
    refine px_iload_n (i := 2) (pc' := 6) dX8_meter_5 rfl rfl rfl ?_
    refine px_iload_n (i := 3) (pc' := 7) dX8_meter_6 rfl rfl rfl ?_
    refine pi_callV (pc' := 10) (c_set_f I ok) okX2_set ivX2_set ml_X8_96 ⟨Nat.le_of_ble_eq_true rfl, Nat.le_of_ble_eq_true rfl⟩ dX8_meter_7 rfl rfl rfl (Nat.le_of_ble_eq_true rfl) (by repeat (first | assumption | refine pm_I.up ?_ rfl | refine pm_I.uf ?_ rfl)) rfl cl_2 pm_le.rf pm_le.rf ?_
    rintro _ _ _ ⟨rfl, rfl, rfl⟩
    refine px_zret (ty := .boolean) dX8_meter_10 rfl (rfl) rfl (⟨rfl, I, ?_⟩)
    unfold m_setOk at ok
    refine enX9_meter pm_le.rf ?_
    refine px_aload_n (i := 0) (pc' := 1) dX9_meter_0 rfl rfl rfl ?_
    refine px_iconst (v := 0) (pc' := 2) dX9_meter_1 rfl (by decide) ?_
    refine pi_puti (pc' := 5) fi_9_1 dX9_meter_2 rfl (by repeat (first | assumption | refine pm_I.up ?_ rfl | refine pm_I.uf ?_ rfl)) rfl ?_
    refine px_iload_n (i := 1) (pc' := 6) dX9_meter_5 rfl rfl rfl ?_
    refine px_if_lt (tgt := 34) (pc' := 9) dX9_meter_6 (by decide) rfl (fun q => ?_) (fun q => ?_)
    · refine px_iconst (v := 0) (pc' := 35) dX9_meter_34 rfl (by decide) ?_
      exact px_zret (ty := .boolean) dX9_meter_35 rfl (rfl) rfl (⟨rfl, j.thr⟩)
    refine px_iload_n (i := 1) (pc' := 10) dX9_meter_9 rfl rfl rfl ?_
    refine px_bipush (v := 20) (pc' := 12) dX9_meter_10 rfl (by decide) ?_
    refine px_icmp_gt (tgt := 34) (pc' := 15) dX9_meter_12 (by decide) rfl (fun q2 => ?_) (fun q2 => ?_)
    · refine px_iconst (v := 0) (pc' := 35) dX9_meter_34 rfl (by decide) ?_
      exact px_zret (ty := .boolean) dX9_meter_35 rfl (rfl) rfl (⟨rfl, j.thr⟩)
    refine px_iload_n (i := 2) (pc' := 16) dX9_meter_15 rfl rfl rfl ?_
    refine px_iconst (v := 1) (pc' := 17) dX9_meter_16 rfl (by decide) ?_
    refine px_icmp_lt (tgt := 34) (pc' := 20) dX9_meter_17 (by decide) rfl (fun q3 => ?_) (fun q3 => ?_)
    · refine px_iconst (v := 0) (pc' := 35) dX9_meter_34 rfl (by decide) ?_
      exact px_zret (ty := .boolean) dX9_meter_35 rfl (rfl) rfl (⟨rfl, j.thr⟩)
    refine px_iload_n (i := 2) (pc' := 21) dX9_meter_20 rfl rfl rfl ?_
    refine px_iconst (v := 3) (pc' := 22) dX9_meter_21 rfl (by decide) ?_
    refine px_icmp_gt (tgt := 34) (pc' := 25) dX9_meter_22 (by decide) rfl (fun q4' => ?_) (fun q4' => ?_)
    · refine px_iconst (v := 0) (pc' := 35) dX9_meter_34 rfl (by decide) ?_
      exact px_zret (ty := .boolean) dX9_meter_35 rfl (rfl) rfl (⟨rfl, j.thr⟩)
    refine px_iload_n (i := 3) (pc' := 26) dX9_meter_25 rfl rfl rfl ?_
    refine px_if_lt (tgt := 34) (pc' := 29) dX9_meter_26 (by decide) rfl (fun q5' => ?_) (fun q5' => ?_)
    · refine px_iconst (v := 0) (pc' := 35) dX9_meter_34 rfl (by decide) ?_
      exact px_zret (ty := .boolean) dX9_meter_35 rfl (rfl) rfl (⟨rfl, j.thr⟩)
    refine px_iload_n (i := 3) (pc' := 30) dX9_meter_29 rfl rfl rfl ?_
    refine px_iconst (v := 1) (pc' := 31) dX9_meter_30 rfl (by decide) ?_
    refine px_icmp_le (tgt := 36) (pc' := 34) dX9_meter_31 (by decide) rfl (fun q6' => ?_) (fun q6' => ?_)
    · rw [i_lt, i_0] at q q5'
      rw [i_lt] at q2 q3 q4'
      rw [i_le] at q6'
      have l1 : (20 : Int32).toInt = 20 := by decide
      rw [l1] at q2
      rw [l_1] at q3 q6'
      rw [l_3] at q4'
      exact absurd (by omega) ok
    · refine px_iconst (v := 0) (pc' := 35) dX9_meter_34 rfl (by decide) ?_
      exact px_zret (ty := .boolean) dX9_meter_35 rfl (rfl) rfl (⟨rfl, j.thr⟩)
theorem o_path {a : Int32} : pm_op G mX8_path mX9_path [.int a] := by
  intro z h g j
  obtain ⟨I, ⟨n, T, q1⟩, ⟨w, d, η, q2, q3, q4⟩, q5, q6, q7, q8⟩ := id j
  obtain ⟨many, pa, tl, b1, b3, b5, c1, c2, c3, c4, b2, b4, c5, c6, p1, p2, p3, p4, p5, p6, p7, p8, p9, pA, pB, -⟩ := id q6
  have em : (nI many).toInt = many := nI_toInt (by omega)
  by_cases hc : 0 ≤ a.toInt ∧ a.toInt < many
  · obtain ⟨k, hk, rfl⟩ : ∃ k : Nat, k < many ∧ a = nI k := ⟨a.toInt.toNat, by omega, by rw [← iZ_n, Int.toNat_of_nonneg (by omega), iZ_i]⟩
    have hkl : (nI k).toNatClampNeg = k := nI_clamp (by omega)
    refine ⟨pa k, ?_⟩
    refine enX8_path pm_le.rf ?_
    refine px_aload_n (i := 0) (pc' := 1) dX8_path_0 rfl rfl rfl ?_
    refine pi_getr (pc' := 4) fl_8_58 dX8_path_1 rfl (by repeat (first | assumption | refine pm_I.up ?_ rfl | refine pm_I.uf ?_ rfl)) rfl rfl ?_
    refine px_iload_n (i := 1) (pc' := 5) dX8_path_4 rfl rfl rfl ?_
    refine pi_callV (pc' := 8) (c_cellOfPath_t I p4 p1 hk p3) okX4_cellOfPath ivX4_cellOfPath ml_X8_150 ⟨Nat.le_of_ble_eq_true rfl, Nat.le_of_ble_eq_true rfl⟩ dX8_path_5 rfl rfl rfl (Nat.le_of_ble_eq_true rfl) (by repeat (first | assumption | refine pm_I.up ?_ rfl | refine pm_I.uf ?_ rfl)) rfl cl_4 pm_le.rf pm_le.rf ?_
    rintro _ _ _ ⟨rfl, rfl, rfl⟩
    refine px_iret dX8_path_8 rfl rfl (⟨rfl, I, ?_⟩)
    refine enX9_path pm_le.rf ?_
    refine px_aload_n (i := 0) (pc' := 1) dX9_path_0 rfl rfl rfl ?_
    refine px_iconst (v := 0) (pc' := 2) dX9_path_1 rfl (by decide) ?_
    refine pi_puti (pc' := 5) fi_9_1 dX9_path_2 rfl (by repeat (first | assumption | refine pm_I.up ?_ rfl | refine pm_I.uf ?_ rfl)) rfl ?_
    refine px_iload_n (i := 1) (pc' := 6) dX9_path_5 rfl rfl rfl ?_
    refine px_if_lt (tgt := 17) (pc' := 9) dX9_path_6 (by decide) rfl (fun q_ => absurd q_ (nI_pos (by omega))) (fun _ => ?_)
    refine px_iload_n (i := 1) (pc' := 10) dX9_path_9 rfl rfl rfl ?_
    refine px_aload_n (i := 0) (pc' := 11) dX9_path_10 rfl rfl rfl ?_
    refine pi_geti (pc' := 14) fl_9_176 dX9_path_11 rfl (by repeat (first | assumption | refine pm_I.up ?_ rfl | refine pm_I.uf ?_ rfl)) rfl (by first | assumption | (repeat (first | exact pm_uf_e rfl | refine pm_uf_o (by decide) ?_)) <;> assumption) ?_
    refine px_icmp_lt (tgt := 21) (pc' := 17) dX9_path_14 (by decide) rfl (fun _ => ?_) (fun q_ => absurd (nI_lt hk (by omega)) q_)
    refine px_aload_n (i := 0) (pc' := 22) dX9_path_21 rfl rfl rfl ?_
    refine pi_getr (pc' := 25) fl_9_83 dX9_path_22 rfl (by repeat (first | assumption | refine pm_I.up ?_ rfl | refine pm_I.uf ?_ rfl)) rfl rfl ?_
    refine px_iload_n (i := 1) (pc' := 26) dX9_path_25 rfl rfl rfl ?_
    refine px_iald (pc' := 27) dX9_path_26 rfl (by first | assumption | (repeat (first | exact pm_up_e rfl | refine pm_up_o (by decide) ?_)) <;> assumption) (vp_in_nI (by omega) (by omega)) ?_
    rw [hkl, ← p2 k hk]
    exact px_iret dX9_path_27 rfl rfl (⟨rfl, j.thr⟩)
  · refine ⟨-1, ?_⟩
    refine enX8_path pm_le.rf ?_
    refine px_aload_n (i := 0) (pc' := 1) dX8_path_0 rfl rfl rfl ?_
    refine pi_getr (pc' := 4) fl_8_58 dX8_path_1 rfl (by repeat (first | assumption | refine pm_I.up ?_ rfl | refine pm_I.uf ?_ rfl)) rfl rfl ?_
    refine px_iload_n (i := 1) (pc' := 5) dX8_path_4 rfl rfl rfl ?_
    refine pi_callV (pc' := 8) (c_cellOfPath_f I p4 p1 hc) okX4_cellOfPath ivX4_cellOfPath ml_X8_150 ⟨Nat.le_of_ble_eq_true rfl, Nat.le_of_ble_eq_true rfl⟩ dX8_path_5 rfl rfl rfl (Nat.le_of_ble_eq_true rfl) (by repeat (first | assumption | refine pm_I.up ?_ rfl | refine pm_I.uf ?_ rfl)) rfl cl_4 pm_le.rf pm_le.rf ?_
    rintro _ _ _ ⟨rfl, rfl, rfl⟩
    refine px_iret dX8_path_8 rfl rfl (⟨rfl, I, ?_⟩)
    refine enX9_path pm_le.rf ?_
    refine px_aload_n (i := 0) (pc' := 1) dX9_path_0 rfl rfl rfl ?_
    refine px_iconst (v := 0) (pc' := 2) dX9_path_1 rfl (by decide) ?_
    refine pi_puti (pc' := 5) fi_9_1 dX9_path_2 rfl (by repeat (first | assumption | refine pm_I.up ?_ rfl | refine pm_I.uf ?_ rfl)) rfl ?_
    refine px_iload_n (i := 1) (pc' := 6) dX9_path_5 rfl rfl rfl ?_
    refine px_if_lt (tgt := 17) (pc' := 9) dX9_path_6 (by decide) rfl (fun q => ?_) (fun q => ?_)
    · refine px_iconst (v := -1) (pc' := 18) dX9_path_17 rfl (by decide) ?_
      refine px_goto (tgt := 27) dX9_path_18 (by decide) ?_
      exact px_iret dX9_path_27 rfl rfl (⟨rfl, j.thr⟩)
    · rw [i_lt, i_0] at q
      refine px_iload_n (i := 1) (pc' := 10) dX9_path_9 rfl rfl rfl ?_
      refine px_aload_n (i := 0) (pc' := 11) dX9_path_10 rfl rfl rfl ?_
      refine pi_geti (pc' := 14) fl_9_176 dX9_path_11 rfl (by repeat (first | assumption | refine pm_I.up ?_ rfl | refine pm_I.uf ?_ rfl)) rfl (by first | assumption | (repeat (first | exact pm_uf_e rfl | refine pm_uf_o (by decide) ?_)) <;> assumption) ?_
      refine px_icmp_lt (tgt := 21) (pc' := 17) dX9_path_14 (by decide) rfl (fun q_ => absurd q_ (by rw [i_lt, em]; omega)) (fun _ => ?_)
      refine px_iconst (v := -1) (pc' := 18) dX9_path_17 rfl (by decide) ?_
      refine px_goto (tgt := 27) dX9_path_18 (by decide) ?_
      exact px_iret dX9_path_27 rfl rfl (⟨rfl, j.thr⟩)
theorem o_twin : pm_op G mX8_twin mX9_twin [] := by
  intro z h g j
  obtain ⟨I, ⟨n, T, q1⟩, ⟨w, d, η, q2, q3, q4⟩, q5, q6, q7, q8⟩ := id j
  obtain ⟨f1, f2, st, p, at_, fl, al, tw, w1, w2, w3, w4, w5, w6, w7, w8, w9, wA, wB⟩ := id q7
  refine ⟨tw, ?_⟩
  refine enX8_twin pm_le.rf ?_
  refine px_aload_n (i := 0) (pc' := 1) dX8_twin_0 rfl rfl rfl ?_
  refine pi_getr (pc' := 4) fl_8_67 dX8_twin_1 rfl (by repeat (first | assumption | refine pm_I.up ?_ rfl | refine pm_I.uf ?_ rfl)) rfl rfl ?_
  refine pi_callV (pc' := 7) (c_firstPair I w7) okX7_firstPair ivX7_firstPair ml_X8_156 ⟨Nat.le_of_ble_eq_true rfl, Nat.le_of_ble_eq_true rfl⟩ dX8_twin_4 rfl rfl rfl (Nat.le_of_ble_eq_true rfl) (by repeat (first | assumption | refine pm_I.up ?_ rfl | refine pm_I.uf ?_ rfl)) rfl cl_7 pm_le.rf pm_le.rf ?_
  rintro _ _ _ ⟨rfl, rfl, rfl⟩
  refine px_iret dX8_twin_7 rfl rfl (⟨rfl, I, ?_⟩)
  refine enX9_twin pm_le.rf ?_
  refine px_aload_n (i := 0) (pc' := 1) dX9_twin_0 rfl rfl rfl ?_
  refine px_iconst (v := 0) (pc' := 2) dX9_twin_1 rfl (by decide) ?_
  refine pi_puti (pc' := 5) fi_9_1 dX9_twin_2 rfl (by repeat (first | assumption | refine pm_I.up ?_ rfl | refine pm_I.uf ?_ rfl)) rfl ?_
  refine px_aload_n (i := 0) (pc' := 6) dX9_twin_5 rfl rfl rfl ?_
  refine pi_geti (pc' := 9) fl_9_102 dX9_twin_6 rfl (by repeat (first | assumption | refine pm_I.up ?_ rfl | refine pm_I.uf ?_ rfl)) rfl (by first | assumption | (repeat (first | exact pm_uf_e rfl | refine pm_uf_o (by decide) ?_)) <;> assumption) ?_
  exact px_iret dX9_twin_9 rfl rfl (⟨rfl, j.thr⟩)
theorem o_height {a : Int32} : pm_op G mX8_height mX9_height [.int a] := by
  intro z h g j
  obtain ⟨I, ⟨n, T, q1⟩, ⟨w, d, η, q2, q3, q4⟩, q5, q6, q7, q8⟩ := id j
  obtain ⟨m1, m2, m3, m4, m5, m6, m7, m8, m9, mA, mB⟩ := id q2
  have hwd := m_wd m2 m4
  by_cases hc : 0 ≤ a.toInt ∧ a.toInt < (w * d : Nat)
  · obtain ⟨k, hk, rfl⟩ : ∃ k : Nat, k < w * d ∧ a = nI k := ⟨a.toInt.toNat, by omega, by rw [← iZ_n, Int.toNat_of_nonneg (by omega), iZ_i]⟩
    have hkl : (nI k).toNatClampNeg = k := nI_clamp (by omega)
    have hkt : (nI k).toInt = k := nI_toInt (by omega)
    refine ⟨m_hc η k, ?_⟩
    refine enX8_height pm_le.rf ?_
    refine px_aload_n (i := 0) (pc' := 1) dX8_height_0 rfl rfl rfl ?_
    refine pi_getr (pc' := 4) fl_8_19 dX8_height_1 rfl (by repeat (first | assumption | refine pm_I.up ?_ rfl | refine pm_I.uf ?_ rfl)) rfl rfl ?_
    refine px_iload_n (i := 1) (pc' := 5) dX8_height_4 rfl rfl rfl ?_
    refine pi_callV (pc' := 8) (c_has I m6 m7 m2 m4) okX3_has ivX3_has ml_X8_100 ⟨Nat.le_of_ble_eq_true rfl, Nat.le_of_ble_eq_true rfl⟩ dX8_height_5 rfl rfl rfl (Nat.le_of_ble_eq_true rfl) (by repeat (first | assumption | refine pm_I.up ?_ rfl | refine pm_I.uf ?_ rfl)) rfl cl_3 pm_le.rf pm_le.rf ?_
    rintro _ _ _ ⟨rfl, rfl, rfl⟩
    refine px_if_eq (tgt := 22) (pc' := 11) dX8_height_8 (by decide) rfl (fun q_ => absurd q_ (b_n0.mpr hc)) (fun _ => ?_)
    refine px_aload_n (i := 0) (pc' := 12) dX8_height_11 rfl rfl rfl ?_
    refine pi_getr (pc' := 15) fl_8_19 dX8_height_12 rfl (by repeat (first | assumption | refine pm_I.up ?_ rfl | refine pm_I.uf ?_ rfl)) rfl rfl ?_
    refine px_iload_n (i := 1) (pc' := 16) dX8_height_15 rfl rfl rfl ?_
    refine pi_callV (pc' := 19) (c_heightOf I m6 m7 m8 m2 m4) okX3_heightOf ivX3_heightOf ml_X8_166 ⟨Nat.le_of_ble_eq_true rfl, Nat.le_of_ble_eq_true rfl⟩ dX8_height_16 rfl rfl rfl (Nat.le_of_ble_eq_true rfl) (by repeat (first | assumption | refine pm_I.up ?_ rfl | refine pm_I.uf ?_ rfl)) rfl cl_3 pm_le.rf pm_le.rf ?_
    rintro _ _ _ ⟨rfl, rfl, rfl⟩
    rw [if_pos hc, hkt, Int.toNat_natCast]
    refine px_goto (tgt := 24) dX8_height_19 (by decide) ?_
    refine px_iret dX8_height_24 rfl rfl (⟨rfl, I, ?_⟩)
    refine enX9_height pm_le.rf ?_
    refine px_aload_n (i := 0) (pc' := 1) dX9_height_0 rfl rfl rfl ?_
    refine px_iconst (v := 0) (pc' := 2) dX9_height_1 rfl (by decide) ?_
    refine pi_puti (pc' := 5) fi_9_1 dX9_height_2 rfl (by repeat (first | assumption | refine pm_I.up ?_ rfl | refine pm_I.uf ?_ rfl)) rfl ?_
    refine px_aload_n (i := 0) (pc' := 6) dX9_height_5 rfl rfl rfl ?_
    refine px_iload_n (i := 1) (pc' := 7) dX9_height_6 rfl rfl rfl ?_
    refine pi_callV (pc' := 10) (d_isCell (by repeat (first | assumption | refine pm_I.up ?_ rfl | refine pm_I.uf ?_ rfl)) (by first | assumption | (repeat (first | exact pm_uf_e rfl | refine pm_uf_o (by decide) ?_)) <;> assumption) (by first | assumption | (repeat (first | exact pm_uf_e rfl | refine pm_uf_o (by decide) ?_)) <;> assumption) m2 m4) okX9_isCell ivX9_isCell ml_X9_139 ⟨Nat.le_of_ble_eq_true rfl, Nat.le_of_ble_eq_true rfl⟩ dX9_height_7 rfl rfl rfl (Nat.le_of_ble_eq_true rfl) (by repeat (first | assumption | refine pm_I.up ?_ rfl | refine pm_I.uf ?_ rfl)) rfl cl_9 pm_le.rf pm_le.rf ?_
    rintro _ _ _ ⟨rfl, rfl, rfl⟩
    refine px_if_ne (tgt := 18) (pc' := 13) dX9_height_10 (by decide) rfl (fun _ => ?_) (fun q_ => absurd q_ (b_n0.mpr hc))
    refine px_aload_n (i := 0) (pc' := 19) dX9_height_18 rfl rfl rfl ?_
    refine pi_getr (pc' := 22) fl_9_27 dX9_height_19 rfl (by repeat (first | assumption | refine pm_I.up ?_ rfl | refine pm_I.uf ?_ rfl)) rfl rfl ?_
    refine px_iload_n (i := 1) (pc' := 23) dX9_height_22 rfl rfl rfl ?_
    refine px_iald (pc' := 24) dX9_height_23 rfl (by first | assumption | (repeat (first | exact pm_up_e rfl | refine pm_up_o (by decide) ?_)) <;> assumption) (vp_in_nI (by omega) (by omega)) ?_
    refine px_sipush (v := 255) (pc' := 27) dX9_height_24 rfl (by decide) ?_
    rw [hkl]
    refine px_icmp_ne (tgt := 34) (pc' := 30) dX9_height_27 (by decide) rfl (fun q => ?_) (fun q => ?_)
    · refine px_aload_n (i := 0) (pc' := 35) dX9_height_34 rfl rfl rfl ?_
      refine pi_getr (pc' := 38) fl_9_27 dX9_height_35 rfl (by repeat (first | assumption | refine pm_I.up ?_ rfl | refine pm_I.uf ?_ rfl)) rfl rfl ?_
      refine px_iload_n (i := 1) (pc' := 39) dX9_height_38 rfl rfl rfl ?_
      refine px_iald (pc' := 40) dX9_height_39 rfl (by first | assumption | (repeat (first | exact pm_up_e rfl | refine pm_up_o (by decide) ?_)) <;> assumption) (vp_in_nI (by omega) (by omega)) ?_
      rw [hkl]
      exact px_iret dX9_height_40 rfl rfl (⟨by rw [m_hc, if_neg q], j.thr⟩)
    · refine px_iconst (v := -1) (pc' := 31) dX9_height_30 rfl (by decide) ?_
      refine px_goto (tgt := 40) dX9_height_31 (by decide) ?_
      exact px_iret dX9_height_40 rfl rfl (⟨by rw [m_hc, if_pos q], j.thr⟩)
  · refine ⟨-2, ?_⟩
    refine enX8_height pm_le.rf ?_
    refine px_aload_n (i := 0) (pc' := 1) dX8_height_0 rfl rfl rfl ?_
    refine pi_getr (pc' := 4) fl_8_19 dX8_height_1 rfl (by repeat (first | assumption | refine pm_I.up ?_ rfl | refine pm_I.uf ?_ rfl)) rfl rfl ?_
    refine px_iload_n (i := 1) (pc' := 5) dX8_height_4 rfl rfl rfl ?_
    refine pi_callV (pc' := 8) (c_has I m6 m7 m2 m4) okX3_has ivX3_has ml_X8_100 ⟨Nat.le_of_ble_eq_true rfl, Nat.le_of_ble_eq_true rfl⟩ dX8_height_5 rfl rfl rfl (Nat.le_of_ble_eq_true rfl) (by repeat (first | assumption | refine pm_I.up ?_ rfl | refine pm_I.uf ?_ rfl)) rfl cl_3 pm_le.rf pm_le.rf ?_
    rintro _ _ _ ⟨rfl, rfl, rfl⟩
    refine px_if_eq (tgt := 22) (pc' := 11) dX8_height_8 (by decide) rfl (fun _ => ?_) (fun q_ => absurd (b_0.mpr hc) q_)
    refine px_bipush (v := -2) (pc' := 24) dX8_height_22 rfl (by decide) ?_
    refine px_iret dX8_height_24 rfl rfl (⟨rfl, I, ?_⟩)
    refine enX9_height pm_le.rf ?_
    refine px_aload_n (i := 0) (pc' := 1) dX9_height_0 rfl rfl rfl ?_
    refine px_iconst (v := 0) (pc' := 2) dX9_height_1 rfl (by decide) ?_
    refine pi_puti (pc' := 5) fi_9_1 dX9_height_2 rfl (by repeat (first | assumption | refine pm_I.up ?_ rfl | refine pm_I.uf ?_ rfl)) rfl ?_
    refine px_aload_n (i := 0) (pc' := 6) dX9_height_5 rfl rfl rfl ?_
    refine px_iload_n (i := 1) (pc' := 7) dX9_height_6 rfl rfl rfl ?_
    refine pi_callV (pc' := 10) (d_isCell (by repeat (first | assumption | refine pm_I.up ?_ rfl | refine pm_I.uf ?_ rfl)) (by first | assumption | (repeat (first | exact pm_uf_e rfl | refine pm_uf_o (by decide) ?_)) <;> assumption) (by first | assumption | (repeat (first | exact pm_uf_e rfl | refine pm_uf_o (by decide) ?_)) <;> assumption) m2 m4) okX9_isCell ivX9_isCell ml_X9_139 ⟨Nat.le_of_ble_eq_true rfl, Nat.le_of_ble_eq_true rfl⟩ dX9_height_7 rfl rfl rfl (Nat.le_of_ble_eq_true rfl) (by repeat (first | assumption | refine pm_I.up ?_ rfl | refine pm_I.uf ?_ rfl)) rfl cl_9 pm_le.rf pm_le.rf ?_
    rintro _ _ _ ⟨rfl, rfl, rfl⟩
    refine px_if_ne (tgt := 18) (pc' := 13) dX9_height_10 (by decide) rfl (fun q_ => absurd (b_0.mpr hc) q_) (fun _ => ?_)
    refine px_bipush (v := -2) (pc' := 15) dX9_height_13 rfl (by decide) ?_
    refine px_goto (tgt := 40) dX9_height_15 (by decide) ?_
    exact px_iret dX9_height_40 rfl rfl (⟨rfl, j.thr⟩)
theorem o_likely : pm_op G mX8_likely mX9_likely [] := by
  intro z h g j
  obtain ⟨I, ⟨n, T, q1⟩, ⟨w, d, η, q2, q3, q4⟩, q5, q6, q7, q8⟩ := id j
  obtain ⟨m1, m2, m3, m4, m5, m6, m7, m8, m9, mA, mB⟩ := id q2
  obtain ⟨S, legs, reads, lost, lx, ly, rv, ra, start, f17, f38, fp, s1, s2, s3, s4, s5, s6, s7, s8, s9, sA, sB, sC, sD, sE, sF, sG, sH, sI, sJ, sK⟩ := id q4
  have hwd := m_wd m2 m4
  have h63 : ∀ j, j < 144 → S j < 2 ^ 63 := fun j _ => by have := fp.S63 j; rw [p25] at this; omega
  have w4 : 2 * 2 ≤ w * d := Nat.mul_le_mul m1 m3
  have e0 := m_lk_hi (S := S) (n := w * d - 1) (fun j hj => fp.2.2.2.2.2.1 j (by omega)) (143 - (w * d - 1))
  rw [show w * d - 1 + (143 - (w * d - 1)) = 143 by omega] at e0
  refine ⟨nI (m_lk S 143), ?_⟩
  refine enX8_likely pm_le.rf ?_
  refine px_aload_n (i := 0) (pc' := 1) dX8_likely_0 rfl rfl rfl ?_
  refine pi_getr (pc' := 4) fl_8_51 dX8_likely_1 rfl (by repeat (first | assumption | refine pm_I.up ?_ rfl | refine pm_I.uf ?_ rfl)) rfl rfl ?_
  refine pi_callV (pc' := 7) (c_likeliest I s1 h63) okX1_likeliest ivX1_likeliest ml_X8_140 ⟨Nat.le_of_ble_eq_true rfl, Nat.le_of_ble_eq_true rfl⟩ dX8_likely_4 rfl rfl rfl (Nat.le_of_ble_eq_true rfl) (by repeat (first | assumption | refine pm_I.up ?_ rfl | refine pm_I.uf ?_ rfl)) rfl cl_1 pm_le.rf pm_le.rf ?_
  rintro _ _ _ ⟨rfl, rfl, rfl⟩
  refine px_iret dX8_likely_7 rfl rfl (⟨rfl, I, ?_⟩)
  rw [e0]
  refine enX9_likely pm_le.rf ?_
  refine px_aload_n (i := 0) (pc' := 1) dX9_likely_0 rfl rfl rfl ?_
  refine px_iconst (v := 0) (pc' := 2) dX9_likely_1 rfl (by decide) ?_
  refine pi_puti (pc' := 5) fi_9_1 dX9_likely_2 rfl (by repeat (first | assumption | refine pm_I.up ?_ rfl | refine pm_I.uf ?_ rfl)) rfl ?_
  refine px_iconst (v := 0) (pc' := 6) dX9_likely_5 rfl (by decide) ?_
  refine sx_i_n_3_1 (pc' := 7) dX9_likely_6 rfl rfl rfl rfl ?_
  refine px_iconst (v := 1) (pc' := 8) dX9_likely_7 rfl (by decide) ?_
  refine sx_i_n_3_2 (pc' := 9) dX9_likely_8 rfl rfl rfl rfl ?_
  have loop : ∀ k i : Nat, i + k = w * d - 1 → pm_W G mX9_likely z (pm_Φ G z (fun r' h2 g2 => r' = some (.int (nI (m_lk S (w * d - 1)))) ∧ J h2 g2)) 9 [.ref 30, .int (nI (m_lk S i)), .int (nI (i + 1))] [] z h (pm_uf g 30 0 (.int 0)) := by
    intro k
    induction k with
    | zero =>
      intro i hi
      have : i = w * d - 1 := by omega
      subst this
      refine px_iload_n (i := 2) (pc' := 10) dX9_likely_9 rfl rfl rfl ?_
      refine px_aload_n (i := 0) (pc' := 11) dX9_likely_10 rfl rfl rfl ?_
      refine pi_callV (pc' := 14) (d_cells (by repeat (first | assumption | refine pm_I.up ?_ rfl | refine pm_I.uf ?_ rfl)) (by first | assumption | (repeat (first | exact pm_uf_e rfl | refine pm_uf_o (by decide) ?_)) <;> assumption) (by first | assumption | (repeat (first | exact pm_uf_e rfl | refine pm_uf_o (by decide) ?_)) <;> assumption)) okX9_cells ivX9_cells ml_X9_108 ⟨Nat.le_of_ble_eq_true rfl, Nat.le_of_ble_eq_true rfl⟩ dX9_likely_11 rfl rfl rfl (Nat.le_of_ble_eq_true rfl) (by repeat (first | assumption | refine pm_I.up ?_ rfl | refine pm_I.uf ?_ rfl)) rfl cl_9 pm_le.rf pm_le.rf ?_
      rintro _ _ _ ⟨rfl, rfl, rfl⟩
      refine px_icmp_ge (tgt := 41) (pc' := 17) dX9_likely_14 (by decide) rfl (fun _ => ?_) (fun q_ => absurd (nI_le (by omega) (by omega)) q_)
      refine px_iload_n (i := 1) (pc' := 42) dX9_likely_41 rfl rfl rfl ?_
      exact px_iret dX9_likely_42 rfl rfl (⟨rfl, j.thr⟩)
    | succ k ih =>
      intro i hi
      have hc : (nI (i + 1)).toNatClampNeg = i + 1 := nI_clamp (by omega)
      have hle := m_lk_le S i
      have hc2 : (nI (m_lk S i)).toNatClampNeg = m_lk S i := nI_clamp (by omega)
      have nx := ih (i + 1) (by omega)
      refine px_iload_n (i := 2) (pc' := 10) dX9_likely_9 rfl rfl rfl ?_
      refine px_aload_n (i := 0) (pc' := 11) dX9_likely_10 rfl rfl rfl ?_
      refine pi_callV (pc' := 14) (d_cells (by repeat (first | assumption | refine pm_I.up ?_ rfl | refine pm_I.uf ?_ rfl)) (by first | assumption | (repeat (first | exact pm_uf_e rfl | refine pm_uf_o (by decide) ?_)) <;> assumption) (by first | assumption | (repeat (first | exact pm_uf_e rfl | refine pm_uf_o (by decide) ?_)) <;> assumption)) okX9_cells ivX9_cells ml_X9_108 ⟨Nat.le_of_ble_eq_true rfl, Nat.le_of_ble_eq_true rfl⟩ dX9_likely_11 rfl rfl rfl (Nat.le_of_ble_eq_true rfl) (by repeat (first | assumption | refine pm_I.up ?_ rfl | refine pm_I.uf ?_ rfl)) rfl cl_9 pm_le.rf pm_le.rf ?_
      rintro _ _ _ ⟨rfl, rfl, rfl⟩
      refine px_icmp_ge (tgt := 41) (pc' := 17) dX9_likely_14 (by decide) rfl (fun q_ => absurd q_ (nI_ge (by omega) (by omega))) (fun _ => ?_)
      refine px_aload_n (i := 0) (pc' := 18) dX9_likely_17 rfl rfl rfl ?_
      refine pi_getr (pc' := 21) fl_9_52 dX9_likely_18 rfl (by repeat (first | assumption | refine pm_I.up ?_ rfl | refine pm_I.uf ?_ rfl)) rfl rfl ?_
      refine px_iload_n (i := 2) (pc' := 22) dX9_likely_21 rfl rfl rfl ?_
      refine px_lald (pc' := 23) dX9_likely_22 rfl (by first | assumption | (repeat (first | exact pm_up_e rfl | refine pm_up_o (by decide) ?_)) <;> assumption) (vp_in_nI (by omega) (by omega)) ?_
      refine px_aload_n (i := 0) (pc' := 24) dX9_likely_23 rfl rfl rfl ?_
      refine pi_getr (pc' := 27) fl_9_52 dX9_likely_24 rfl (by repeat (first | assumption | refine pm_I.up ?_ rfl | refine pm_I.uf ?_ rfl)) rfl rfl ?_
      refine px_iload_n (i := 1) (pc' := 28) dX9_likely_27 rfl rfl rfl ?_
      refine px_lald (pc' := 29) dX9_likely_28 rfl (by first | assumption | (repeat (first | exact pm_up_e rfl | refine pm_up_o (by decide) ?_)) <;> assumption) (vp_in_nI (by omega) (by omega)) ?_
      refine px_lcmp (pc' := 30) dX9_likely_29 rfl ?_
      rw [hc, hc2]
      refine px_if_le (tgt := 35) (pc' := 33) dX9_likely_30 (by decide) rfl (fun q => ?_) (fun q => ?_)
      · have q := (lc_le (h63 _ (by omega)) (h63 _ (by omega))).mp q
        rw [m_lk_s S i, if_neg (by omega)] at nx
        refine sx_inc_3_2 (w := 1) (pc' := 38) dX9_likely_35 rfl rfl (by decide) rfl ?_
        refine px_goto (tgt := 9) dX9_likely_38 (by decide) ?_
        rw [nI_1]
        exact nx
      · have q : ¬ S (i + 1) ≤ S (m_lk S i) := fun hh => q ((lc_le (h63 _ (by omega)) (h63 _ (by omega))).mpr hh)
        rw [m_lk_s S i, if_pos (by omega)] at nx
        refine px_iload_n (i := 2) (pc' := 34) dX9_likely_33 rfl rfl rfl ?_
        refine sx_i_n_3_1 (pc' := 35) dX9_likely_34 rfl rfl rfl rfl ?_
        refine sx_inc_3_2 (w := 1) (pc' := 38) dX9_likely_35 rfl rfl (by decide) rfl ?_
        refine px_goto (tgt := 9) dX9_likely_38 (by decide) ?_
        rw [nI_1]
        exact nx
  exact loop (w * d - 1) 0 (by omega)
theorem o_begin {a : Int32} : pm_op G mX8_begin mX9_begin [.int a] := by
  intro z h g j
  obtain ⟨I, ⟨n, T, q1⟩, ⟨w, d, η, q2, q3, q4⟩, q5, q6, q7, q8⟩ := id j
  obtain ⟨m1, m2, m3, m4, m5, m6, m7, m8, m9, mA, mB⟩ := id q2
  obtain ⟨S, legs, reads, lost, lx, ly, rv, ra, start, f17, f38, fp, s1, s2, s3, s4, s5, s6, s7, s8, s9, sA, sB, sC, sD, sE, sF, sG, sH, sI, sJ, sK⟩ := id q4
  have hwd := m_wd m2 m4
  have w4 : 2 * 2 ≤ w * d := Nat.mul_le_mul m1 m3
  by_cases hc : a = -1 ∨ (0 ≤ a.toInt ∧ a.toInt < (w * d : Nat))
  · refine ⟨1, ?_⟩
    have fin : pm_W G mX8_begin z (pm_Φ G z (fun r h1 g1 => r = some (.int 1) ∧ pm_I h1 g1 ∧ pm_Met G mX9_begin [.ref 30, .int a] z z h1 g1 (fun r' h2 g2 => r' = some (.int 1) ∧ J h2 g2))) 18 [.ref 0, .int a] [] z h g := by
      refine px_aload_n (i := 0) (pc' := 19) dX8_begin_18 rfl rfl rfl ?_
      refine pi_getr (pc' := 22) fl_8_51 dX8_begin_19 rfl (by repeat (first | assumption | refine pm_I.up ?_ rfl | refine pm_I.uf ?_ rfl)) rfl rfl ?_
      refine px_iload_n (i := 1) (pc' := 23) dX8_begin_22 rfl rfl rfl ?_
      refine pi_callV (pc' := 26) (c_start I m6 m7 m2 m4 s1) okX1_start ivX1_start ml_X8_71 ⟨Nat.le_of_ble_eq_true rfl, Nat.le_of_ble_eq_true rfl⟩ dX8_begin_23 rfl rfl rfl (Nat.le_of_ble_eq_true rfl) (by repeat (first | assumption | refine pm_I.up ?_ rfl | refine pm_I.uf ?_ rfl)) rfl cl_1 pm_le.rf pm_le.rf ?_
      rintro _ _ _ ⟨rfl, rfl, rfl⟩
      refine px_iconst (v := 1) (pc' := 27) dX8_begin_26 rfl (by decide) ?_
      refine px_zret (ty := .boolean) dX8_begin_27 rfl (rfl) rfl (⟨rfl, (by repeat (first | assumption | refine pm_I.up ?_ rfl | refine pm_I.uf ?_ rfl)), ?_⟩)
      refine enX9_begin pm_le.rf ?_
      have fin2 : pm_W G mX9_begin z (pm_Φ G z (fun r' h2 g2 => r' = some (.int 1) ∧ J h2 g2)) 20 [.ref 30, .int a] [] z (pm_up h 16 (pm_la 144 (m_L (m_init (w * d) a)))) (pm_uf (m_rst g a) 30 0 (.int 0)) := by
        refine px_aload_n (i := 0) (pc' := 21) dX9_begin_20 rfl rfl rfl ?_
        refine px_iload_n (i := 1) (pc' := 22) dX9_begin_21 rfl rfl rfl ?_
        refine pi_callV (pc' := 25) (d_fly (by repeat (first | assumption | refine pm_I.up ?_ rfl | refine pm_I.uf ?_ rfl)) (by first | assumption | (repeat (first | exact pm_uf_e rfl | refine pm_uf_o (by decide) ?_)) <;> assumption) (by first | assumption | (repeat (first | exact pm_uf_e rfl | refine pm_uf_o (by decide) ?_)) <;> assumption) m2 m4 (by first | assumption | (repeat (first | exact pm_up_e rfl | refine pm_up_o (by decide) ?_)) <;> assumption)) okX9_fly ivX9_fly ml_X9_105 ⟨Nat.le_of_ble_eq_true rfl, Nat.le_of_ble_eq_true rfl⟩ dX9_begin_22 rfl rfl rfl (Nat.le_of_ble_eq_true rfl) (by repeat (first | assumption | refine pm_I.up ?_ rfl | refine pm_I.uf ?_ rfl)) rfl cl_9 pm_le.rf pm_le.rf ?_
        rintro _ _ _ ⟨rfl, rfl, rfl⟩
        refine px_iconst (v := 1) (pc' := 26) dX9_begin_25 rfl (by decide) ?_
        have fp' : J_Fp (w * d) (m_init (w * d) a) 0 0 lx ly rv ra a := by
          refine ⟨by omega, by omega, fun i hi => by omega, fun i hi => by omega, fun j => by unfold m_init; split <;> simp, fun j hj => by unfold m_init; rw [if_neg (by omega)], ?_, hc⟩
          rcases hc with hc | hc
          · exact ⟨0, by omega, by unfold m_init; rw [if_pos ⟨by omega, Or.inl hc⟩]; omega⟩
          · exact ⟨a.toInt.toNat, by omega, by unfold m_init; rw [if_pos ⟨by omega, Or.inr (by rw [← iZ_n, Int.toNat_of_nonneg (by omega), iZ_i])⟩]; omega⟩
        exact px_zret (ty := .boolean) dX9_begin_26 rfl (rfl) rfl (⟨rfl, (by repeat (first | assumption | refine pm_I.up ?_ rfl | refine pm_I.uf ?_ rfl)), ⟨n, T, q1.keep rfl rfl rfl rfl⟩, ⟨w, d, η, q2.keep rfl rfl rfl rfl rfl rfl, q3.keep rfl rfl rfl rfl rfl rfl rfl rfl rfl, ⟨m_init (w * d) a, 0, 0, lost, lx, ly, rv, ra, a, f17, f38, fp', (by first | assumption | (repeat (first | exact pm_up_e rfl | refine pm_up_o (by decide) ?_)) <;> assumption), (by first | assumption | (repeat (first | exact pm_up_e rfl | refine pm_up_o (by decide) ?_)) <;> assumption), (by first | assumption | (repeat (first | exact pm_up_e rfl | refine pm_up_o (by decide) ?_)) <;> assumption), (by first | assumption | (repeat (first | exact pm_up_e rfl | refine pm_up_o (by decide) ?_)) <;> assumption), (by first | assumption | (repeat (first | exact pm_up_e rfl | refine pm_up_o (by decide) ?_)) <;> assumption), (by first | assumption | (repeat (first | exact pm_up_e rfl | refine pm_up_o (by decide) ?_)) <;> assumption), rfl, rfl, rfl, sA, (by first | assumption | (repeat (first | exact pm_up_e rfl | refine pm_up_o (by decide) ?_)) <;> assumption), (by first | assumption | (repeat (first | exact pm_up_e rfl | refine pm_up_o (by decide) ?_)) <;> assumption), (by first | assumption | (repeat (first | exact pm_up_e rfl | refine pm_up_o (by decide) ?_)) <;> assumption), (by first | assumption | (repeat (first | exact pm_up_e rfl | refine pm_up_o (by decide) ?_)) <;> assumption), (by first | assumption | (repeat (first | exact pm_up_e rfl | refine pm_up_o (by decide) ?_)) <;> assumption), (by first | assumption | (repeat (first | exact pm_up_e rfl | refine pm_up_o (by decide) ?_)) <;> assumption), rfl, rfl, rfl, sK⟩⟩, q5.imp fun _ q => q.imp fun _ q => q.imp fun _ q => q.keep rfl rfl rfl rfl rfl rfl, q6.keep rfl rfl rfl rfl rfl rfl rfl rfl rfl rfl rfl rfl rfl rfl rfl, q7.keep rfl rfl rfl rfl rfl rfl rfl rfl rfl, q8⟩)
      by_cases h1 : a = -1
      · refine px_aload_n (i := 0) (pc' := 1) dX9_begin_0 rfl rfl rfl ?_
        refine px_iconst (v := 0) (pc' := 2) dX9_begin_1 rfl (by decide) ?_
        refine pi_puti (pc' := 5) fi_9_1 dX9_begin_2 rfl (by repeat (first | assumption | refine pm_I.up ?_ rfl | refine pm_I.uf ?_ rfl)) rfl ?_
        refine px_iload_n (i := 1) (pc' := 6) dX9_begin_5 rfl rfl rfl ?_
        refine px_iconst (v := -1) (pc' := 7) dX9_begin_6 rfl (by decide) ?_
        refine px_icmp_eq (tgt := 20) (pc' := 10) dX9_begin_7 (by decide) rfl (fun _ => ?_) (fun q_ => absurd (h1) q_)
        exact fin2
      · refine px_aload_n (i := 0) (pc' := 1) dX9_begin_0 rfl rfl rfl ?_
        refine px_iconst (v := 0) (pc' := 2) dX9_begin_1 rfl (by decide) ?_
        refine pi_puti (pc' := 5) fi_9_1 dX9_begin_2 rfl (by repeat (first | assumption | refine pm_I.up ?_ rfl | refine pm_I.uf ?_ rfl)) rfl ?_
        refine px_iload_n (i := 1) (pc' := 6) dX9_begin_5 rfl rfl rfl ?_
        refine px_iconst (v := -1) (pc' := 7) dX9_begin_6 rfl (by decide) ?_
        refine px_icmp_eq (tgt := 20) (pc' := 10) dX9_begin_7 (by decide) rfl (fun q_ => absurd q_ (h1)) (fun _ => ?_)
        refine px_aload_n (i := 0) (pc' := 11) dX9_begin_10 rfl rfl rfl ?_
        refine px_iload_n (i := 1) (pc' := 12) dX9_begin_11 rfl rfl rfl ?_
        refine pi_callV (pc' := 15) (d_isCell (by repeat (first | assumption | refine pm_I.up ?_ rfl | refine pm_I.uf ?_ rfl)) (by first | assumption | (repeat (first | exact pm_uf_e rfl | refine pm_uf_o (by decide) ?_)) <;> assumption) (by first | assumption | (repeat (first | exact pm_uf_e rfl | refine pm_uf_o (by decide) ?_)) <;> assumption) m2 m4) okX9_isCell ivX9_isCell ml_X9_139 ⟨Nat.le_of_ble_eq_true rfl, Nat.le_of_ble_eq_true rfl⟩ dX9_begin_12 rfl rfl rfl (Nat.le_of_ble_eq_true rfl) (by repeat (first | assumption | refine pm_I.up ?_ rfl | refine pm_I.uf ?_ rfl)) rfl cl_9 pm_le.rf pm_le.rf ?_
        rintro _ _ _ ⟨rfl, rfl, rfl⟩
        refine px_if_ne (tgt := 20) (pc' := 18) dX9_begin_15 (by decide) rfl (fun _ => ?_) (fun q_ => absurd q_ (b_n0.mpr (hc.resolve_left h1)))
        exact fin2
    by_cases h1 : a = -1
    · refine enX8_begin pm_le.rf ?_
      refine px_iload_n (i := 1) (pc' := 1) dX8_begin_0 rfl rfl rfl ?_
      refine px_iconst (v := -1) (pc' := 2) dX8_begin_1 rfl (by decide) ?_
      refine px_icmp_eq (tgt := 18) (pc' := 5) dX8_begin_2 (by decide) rfl (fun _ => ?_) (fun q_ => absurd (h1) q_)
      exact fin
    · refine enX8_begin pm_le.rf ?_
      refine px_iload_n (i := 1) (pc' := 1) dX8_begin_0 rfl rfl rfl ?_
      refine px_iconst (v := -1) (pc' := 2) dX8_begin_1 rfl (by decide) ?_
      refine px_icmp_eq (tgt := 18) (pc' := 5) dX8_begin_2 (by decide) rfl (fun q_ => absurd q_ (h1)) (fun _ => ?_)
      refine px_aload_n (i := 0) (pc' := 6) dX8_begin_5 rfl rfl rfl ?_
      refine pi_getr (pc' := 9) fl_8_19 dX8_begin_6 rfl (by repeat (first | assumption | refine pm_I.up ?_ rfl | refine pm_I.uf ?_ rfl)) rfl rfl ?_
      refine px_iload_n (i := 1) (pc' := 10) dX8_begin_9 rfl rfl rfl ?_
      refine pi_callV (pc' := 13) (c_has I m6 m7 m2 m4) okX3_has ivX3_has ml_X8_100 ⟨Nat.le_of_ble_eq_true rfl, Nat.le_of_ble_eq_true rfl⟩ dX8_begin_10 rfl rfl rfl (Nat.le_of_ble_eq_true rfl) (by repeat (first | assumption | refine pm_I.up ?_ rfl | refine pm_I.uf ?_ rfl)) rfl cl_3 pm_le.rf pm_le.rf ?_
      rintro _ _ _ ⟨rfl, rfl, rfl⟩
      refine px_if_ne (tgt := 18) (pc' := 16) dX8_begin_13 (by decide) rfl (fun _ => ?_) (fun q_ => absurd q_ (b_n0.mpr (hc.resolve_left h1)))
      exact fin
  · refine ⟨0, ?_⟩
    have h1 : ¬ a = -1 := fun q => hc (Or.inl q)
    have h2 := fun q => hc (Or.inr q)
    refine enX8_begin pm_le.rf ?_
    refine px_iload_n (i := 1) (pc' := 1) dX8_begin_0 rfl rfl rfl ?_
    refine px_iconst (v := -1) (pc' := 2) dX8_begin_1 rfl (by decide) ?_
    refine px_icmp_eq (tgt := 18) (pc' := 5) dX8_begin_2 (by decide) rfl (fun q_ => absurd q_ (h1)) (fun _ => ?_)
    refine px_aload_n (i := 0) (pc' := 6) dX8_begin_5 rfl rfl rfl ?_
    refine pi_getr (pc' := 9) fl_8_19 dX8_begin_6 rfl (by repeat (first | assumption | refine pm_I.up ?_ rfl | refine pm_I.uf ?_ rfl)) rfl rfl ?_
    refine px_iload_n (i := 1) (pc' := 10) dX8_begin_9 rfl rfl rfl ?_
    refine pi_callV (pc' := 13) (c_has I m6 m7 m2 m4) okX3_has ivX3_has ml_X8_100 ⟨Nat.le_of_ble_eq_true rfl, Nat.le_of_ble_eq_true rfl⟩ dX8_begin_10 rfl rfl rfl (Nat.le_of_ble_eq_true rfl) (by repeat (first | assumption | refine pm_I.up ?_ rfl | refine pm_I.uf ?_ rfl)) rfl cl_3 pm_le.rf pm_le.rf ?_
    rintro _ _ _ ⟨rfl, rfl, rfl⟩
    refine px_if_ne (tgt := 18) (pc' := 16) dX8_begin_13 (by decide) rfl (fun q_ => absurd (b_0.mpr h2) q_) (fun _ => ?_)
    refine px_iconst (v := 0) (pc' := 17) dX8_begin_16 rfl (by decide) ?_
    refine px_zret (ty := .boolean) dX8_begin_17 rfl (rfl) rfl (⟨rfl, I, ?_⟩)
    refine enX9_begin pm_le.rf ?_
    refine px_aload_n (i := 0) (pc' := 1) dX9_begin_0 rfl rfl rfl ?_
    refine px_iconst (v := 0) (pc' := 2) dX9_begin_1 rfl (by decide) ?_
    refine pi_puti (pc' := 5) fi_9_1 dX9_begin_2 rfl (by repeat (first | assumption | refine pm_I.up ?_ rfl | refine pm_I.uf ?_ rfl)) rfl ?_
    refine px_iload_n (i := 1) (pc' := 6) dX9_begin_5 rfl rfl rfl ?_
    refine px_iconst (v := -1) (pc' := 7) dX9_begin_6 rfl (by decide) ?_
    refine px_icmp_eq (tgt := 20) (pc' := 10) dX9_begin_7 (by decide) rfl (fun q_ => absurd q_ (h1)) (fun _ => ?_)
    refine px_aload_n (i := 0) (pc' := 11) dX9_begin_10 rfl rfl rfl ?_
    refine px_iload_n (i := 1) (pc' := 12) dX9_begin_11 rfl rfl rfl ?_
    refine pi_callV (pc' := 15) (d_isCell (by repeat (first | assumption | refine pm_I.up ?_ rfl | refine pm_I.uf ?_ rfl)) (by first | assumption | (repeat (first | exact pm_uf_e rfl | refine pm_uf_o (by decide) ?_)) <;> assumption) (by first | assumption | (repeat (first | exact pm_uf_e rfl | refine pm_uf_o (by decide) ?_)) <;> assumption) m2 m4) okX9_isCell ivX9_isCell ml_X9_139 ⟨Nat.le_of_ble_eq_true rfl, Nat.le_of_ble_eq_true rfl⟩ dX9_begin_12 rfl rfl rfl (Nat.le_of_ble_eq_true rfl) (by repeat (first | assumption | refine pm_I.up ?_ rfl | refine pm_I.uf ?_ rfl)) rfl cl_9 pm_le.rf pm_le.rf ?_
    rintro _ _ _ ⟨rfl, rfl, rfl⟩
    refine px_if_ne (tgt := 20) (pc' := 18) dX9_begin_15 (by decide) rfl (fun q_ => absurd (b_0.mpr h2) q_) (fun _ => ?_)
    refine px_iconst (v := 0) (pc' := 19) dX9_begin_18 rfl (by decide) ?_
    exact px_zret (ty := .boolean) dX9_begin_19 rfl (rfl) rfl (⟨rfl, j.thr⟩)
end OPS2
