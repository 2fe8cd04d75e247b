section OPS3
variable {G : pm_G}
theorem o_count {a : Int32} : pm_op G mX8_count mX9_count [.int a] := by
  intro z h g j
  obtain ⟨I, ⟨n, T, q1⟩, ⟨w, d, η, q2, q3, q4⟩, ⟨e, a0, a1, q5⟩, q6, q7, q8⟩ := id j
  obtain ⟨hn, t1, t2, t3, t4⟩ := id q1
  obtain ⟨m1, m2, m3, m4, m5, m6, m7, m8, m9, mA, mB⟩ := id q2
  obtain ⟨S, legs, reads, lost, lx, ly, rv, ra, start, f17, f38, fp, s1, s2, s3, s4, s5, s6, s7, s8, s9, sA, sB, sC, sD, sE, sF, sG, sH, sI, sJ, sK⟩ := id q4
  obtain ⟨st, f1, f2, sd, sp, n1, n2, mm, x1, x2, x3, x4, x5, x6, x7, x8, x9, xA⟩ := id q3
  obtain ⟨g1, g2, g3, g4, g5, g6, g7, g8, g9, gA⟩ := id q5
  by_cases hc : 0 ≤ a.toInt ∧ a.toInt ≤ 7
  · obtain ⟨k, hk, rfl⟩ : ∃ k : Nat, k ≤ 7 ∧ a = nI k := ⟨a.toInt.toNat, by omega, by rw [← iZ_n, Int.toNat_of_nonneg (by omega), iZ_i]⟩
    rcases (show k = 0 ∨ k = 1 ∨ k = 2 ∨ k = 3 ∨ k = 4 ∨ k = 5 ∨ k = 6 ∨ k = 7 by omega) with rfl | rfl | rfl | rfl | rfl | rfl | rfl | rfl
    · refine ⟨nI w, ?_⟩
      refine enX8_count pm_le.rf ?_
      refine px_iload_n (i := 1) (pc' := 1) dX8_count_0 rfl rfl rfl ?_
      refine px_tblIn (tgt := 48) dX8_count_1 (by decide) (by decide) (off := 47) (by decide) (by decide) ?_
      refine px_aload_n (i := 0) (pc' := 49) dX8_count_48 rfl rfl rfl ?_
      refine pi_getr (pc' := 52) fl_8_19 dX8_count_49 rfl (by repeat (first | assumption | refine pm_I.up ?_ rfl | refine pm_I.uf ?_ rfl)) rfl rfl ?_
      refine pi_callV (pc' := 55) (c_width (x := .null) I m6) okX3_width ivX3_width ml_X8_169 ⟨Nat.le_of_ble_eq_true rfl, Nat.le_of_ble_eq_true rfl⟩ dX8_count_52 rfl rfl rfl (Nat.le_of_ble_eq_true rfl) (by repeat (first | assumption | refine pm_I.up ?_ rfl | refine pm_I.uf ?_ rfl)) rfl cl_3 pm_le.rf pm_le.rf ?_
      rintro _ _ _ ⟨rfl, rfl, rfl⟩
      refine px_iret dX8_count_55 rfl rfl (⟨rfl, I, ?_⟩)
      refine enX9_count pm_le.rf ?_
      refine px_aload_n (i := 0) (pc' := 1) dX9_count_0 rfl rfl rfl ?_
      refine px_iconst (v := 0) (pc' := 2) dX9_count_1 rfl (by decide) ?_
      refine pi_puti (pc' := 5) fi_9_1 dX9_count_2 rfl (by repeat (first | assumption | refine pm_I.up ?_ rfl | refine pm_I.uf ?_ rfl)) rfl ?_
      refine px_iload_n (i := 1) (pc' := 6) dX9_count_5 rfl rfl rfl ?_
      refine px_tblIn (tgt := 52) dX9_count_6 (by decide) (by decide) (off := 46) (by decide) (by decide) ?_
      refine px_aload_n (i := 0) (pc' := 53) dX9_count_52 rfl rfl rfl ?_
      refine pi_geti (pc' := 56) fl_9_43 dX9_count_53 rfl (by repeat (first | assumption | refine pm_I.up ?_ rfl | refine pm_I.uf ?_ rfl)) rfl (by first | assumption | (repeat (first | exact pm_uf_e rfl | refine pm_uf_o (by decide) ?_)) <;> assumption) ?_
      exact px_iret dX9_count_56 rfl rfl (⟨rfl, j.thr⟩)
    · refine ⟨nI d, ?_⟩
      refine enX8_count pm_le.rf ?_
      refine px_iload_n (i := 1) (pc' := 1) dX8_count_0 rfl rfl rfl ?_
      refine px_tblIn (tgt := 56) dX8_count_1 (by decide) (by decide) (off := 55) (by decide) (by decide) ?_
      refine px_aload_n (i := 0) (pc' := 57) dX8_count_56 rfl rfl rfl ?_
      refine pi_getr (pc' := 60) fl_8_19 dX8_count_57 rfl (by repeat (first | assumption | refine pm_I.up ?_ rfl | refine pm_I.uf ?_ rfl)) rfl rfl ?_
      refine pi_callV (pc' := 63) (c_depth I m7) okX3_depth ivX3_depth ml_X8_172 ⟨Nat.le_of_ble_eq_true rfl, Nat.le_of_ble_eq_true rfl⟩ dX8_count_60 rfl rfl rfl (Nat.le_of_ble_eq_true rfl) (by repeat (first | assumption | refine pm_I.up ?_ rfl | refine pm_I.uf ?_ rfl)) rfl cl_3 pm_le.rf pm_le.rf ?_
      rintro _ _ _ ⟨rfl, rfl, rfl⟩
      refine px_iret dX8_count_63 rfl rfl (⟨rfl, I, ?_⟩)
      refine enX9_count pm_le.rf ?_
      refine px_aload_n (i := 0) (pc' := 1) dX9_count_0 rfl rfl rfl ?_
      refine px_iconst (v := 0) (pc' := 2) dX9_count_1 rfl (by decide) ?_
      refine pi_puti (pc' := 5) fi_9_1 dX9_count_2 rfl (by repeat (first | assumption | refine pm_I.up ?_ rfl | refine pm_I.uf ?_ rfl)) rfl ?_
      refine px_iload_n (i := 1) (pc' := 6) dX9_count_5 rfl rfl rfl ?_
      refine px_tblIn (tgt := 57) dX9_count_6 (by decide) (by decide) (off := 51) (by decide) (by decide) ?_
      refine px_aload_n (i := 0) (pc' := 58) dX9_count_57 rfl rfl rfl ?_
      refine pi_geti (pc' := 61) fl_9_46 dX9_count_58 rfl (by repeat (first | assumption | refine pm_I.up ?_ rfl | refine pm_I.uf ?_ rfl)) rfl (by first | assumption | (repeat (first | exact pm_uf_e rfl | refine pm_uf_o (by decide) ?_)) <;> assumption) ?_
      exact px_iret dX9_count_61 rfl rfl (⟨rfl, j.thr⟩)
    · refine ⟨nI e, ?_⟩
      refine enX8_count pm_le.rf ?_
      refine px_iload_n (i := 1) (pc' := 1) dX8_count_0 rfl rfl rfl ?_
      refine px_tblIn (tgt := 64) dX8_count_1 (by decide) (by decide) (off := 63) (by decide) (by decide) ?_
      refine px_aload_n (i := 0) (pc' := 65) dX8_count_64 rfl rfl rfl ?_
      refine pi_getr (pc' := 68) fl_8_26 dX8_count_65 rfl (by repeat (first | assumption | refine pm_I.up ?_ rfl | refine pm_I.uf ?_ rfl)) rfl rfl ?_
      refine pi_callV (pc' := 71) (c_err I g5) okX2_err ivX2_err ml_X8_175 ⟨Nat.le_of_ble_eq_true rfl, Nat.le_of_ble_eq_true rfl⟩ dX8_count_68 rfl rfl rfl (Nat.le_of_ble_eq_true rfl) (by repeat (first | assumption | refine pm_I.up ?_ rfl | refine pm_I.uf ?_ rfl)) rfl cl_2 pm_le.rf pm_le.rf ?_
      rintro _ _ _ ⟨rfl, rfl, rfl⟩
      refine px_iret dX8_count_71 rfl rfl (⟨rfl, I, ?_⟩)
      refine enX9_count pm_le.rf ?_
      refine px_aload_n (i := 0) (pc' := 1) dX9_count_0 rfl rfl rfl ?_
      refine px_iconst (v := 0) (pc' := 2) dX9_count_1 rfl (by decide) ?_
      refine pi_puti (pc' := 5) fi_9_1 dX9_count_2 rfl (by repeat (first | assumption | refine pm_I.up ?_ rfl | refine pm_I.uf ?_ rfl)) rfl ?_
      refine px_iload_n (i := 1) (pc' := 6) dX9_count_5 rfl rfl rfl ?_
      refine px_tblIn (tgt := 62) dX9_count_6 (by decide) (by decide) (off := 56) (by decide) (by decide) ?_
      refine px_aload_n (i := 0) (pc' := 63) dX9_count_62 rfl rfl rfl ?_
      refine pi_geti (pc' := 66) fl_9_121 dX9_count_63 rfl (by repeat (first | assumption | refine pm_I.up ?_ rfl | refine pm_I.uf ?_ rfl)) rfl (by first | assumption | (repeat (first | exact pm_uf_e rfl | refine pm_uf_o (by decide) ?_)) <;> assumption) ?_
      exact px_iret dX9_count_66 rfl rfl (⟨rfl, j.thr⟩)
    · refine ⟨nI legs, ?_⟩
      refine enX8_count pm_le.rf ?_
      refine px_iload_n (i := 1) (pc' := 1) dX8_count_0 rfl rfl rfl ?_
      refine px_tblIn (tgt := 72) dX8_count_1 (by decide) (by decide) (off := 71) (by decide) (by decide) ?_
      refine px_aload_n (i := 0) (pc' := 73) dX8_count_72 rfl rfl rfl ?_
      refine pi_getr (pc' := 76) fl_8_33 dX8_count_73 rfl (by repeat (first | assumption | refine pm_I.up ?_ rfl | refine pm_I.uf ?_ rfl)) rfl rfl ?_
      refine pi_callV (pc' := 79) (c_moves I s7) okX5_moves ivX5_moves ml_X8_107 ⟨Nat.le_of_ble_eq_true rfl, Nat.le_of_ble_eq_true rfl⟩ dX8_count_76 rfl rfl rfl (Nat.le_of_ble_eq_true rfl) (by repeat (first | assumption | refine pm_I.up ?_ rfl | refine pm_I.uf ?_ rfl)) rfl cl_5 pm_le.rf pm_le.rf ?_
      rintro _ _ _ ⟨rfl, rfl, rfl⟩
      refine px_iret dX8_count_79 rfl rfl (⟨rfl, I, ?_⟩)
      refine enX9_count pm_le.rf ?_
      refine px_aload_n (i := 0) (pc' := 1) dX9_count_0 rfl rfl rfl ?_
      refine px_iconst (v := 0) (pc' := 2) dX9_count_1 rfl (by decide) ?_
      refine pi_puti (pc' := 5) fi_9_1 dX9_count_2 rfl (by repeat (first | assumption | refine pm_I.up ?_ rfl | refine pm_I.uf ?_ rfl)) rfl ?_
      refine px_iload_n (i := 1) (pc' := 6) dX9_count_5 rfl rfl rfl ?_
      refine px_tblIn (tgt := 67) dX9_count_6 (by decide) (by decide) (off := 61) (by decide) (by decide) ?_
      refine px_aload_n (i := 0) (pc' := 68) dX9_count_67 rfl rfl rfl ?_
      refine pi_geti (pc' := 71) fl_9_130 dX9_count_68 rfl (by repeat (first | assumption | refine pm_I.up ?_ rfl | refine pm_I.uf ?_ rfl)) rfl (by first | assumption | (repeat (first | exact pm_uf_e rfl | refine pm_uf_o (by decide) ?_)) <;> assumption) ?_
      exact px_iret dX9_count_71 rfl rfl (⟨rfl, j.thr⟩)
    · refine ⟨nI reads, ?_⟩
      refine enX8_count pm_le.rf ?_
      refine px_iload_n (i := 1) (pc' := 1) dX8_count_0 rfl rfl rfl ?_
      refine px_tblIn (tgt := 80) dX8_count_1 (by decide) (by decide) (off := 79) (by decide) (by decide) ?_
      refine px_aload_n (i := 0) (pc' := 81) dX8_count_80 rfl rfl rfl ?_
      refine pi_getr (pc' := 84) fl_8_33 dX8_count_81 rfl (by repeat (first | assumption | refine pm_I.up ?_ rfl | refine pm_I.uf ?_ rfl)) rfl rfl ?_
      refine pi_callV (pc' := 87) (c_readings I s8) okX5_readings ivX5_readings ml_X8_119 ⟨Nat.le_of_ble_eq_true rfl, Nat.le_of_ble_eq_true rfl⟩ dX8_count_84 rfl rfl rfl (Nat.le_of_ble_eq_true rfl) (by repeat (first | assumption | refine pm_I.up ?_ rfl | refine pm_I.uf ?_ rfl)) rfl cl_5 pm_le.rf pm_le.rf ?_
      rintro _ _ _ ⟨rfl, rfl, rfl⟩
      refine px_iret dX8_count_87 rfl rfl (⟨rfl, I, ?_⟩)
      refine enX9_count pm_le.rf ?_
      refine px_aload_n (i := 0) (pc' := 1) dX9_count_0 rfl rfl rfl ?_
      refine px_iconst (v := 0) (pc' := 2) dX9_count_1 rfl (by decide) ?_
      refine pi_puti (pc' := 5) fi_9_1 dX9_count_2 rfl (by repeat (first | assumption | refine pm_I.up ?_ rfl | refine pm_I.uf ?_ rfl)) rfl ?_
      refine px_iload_n (i := 1) (pc' := 6) dX9_count_5 rfl rfl rfl ?_
      refine px_tblIn (tgt := 72) dX9_count_6 (by decide) (by decide) (off := 66) (by decide) (by decide) ?_
      refine px_aload_n (i := 0) (pc' := 73) dX9_count_72 rfl rfl rfl ?_
      refine pi_geti (pc' := 76) fl_9_133 dX9_count_73 rfl (by repeat (first | assumption | refine pm_I.up ?_ rfl | refine pm_I.uf ?_ rfl)) rfl (by first | assumption | (repeat (first | exact pm_uf_e rfl | refine pm_uf_o (by decide) ?_)) <;> assumption) ?_
      exact px_iret dX9_count_76 rfl rfl (⟨rfl, j.thr⟩)
    · refine ⟨nI lost, ?_⟩
      refine enX8_count pm_le.rf ?_
      refine px_iload_n (i := 1) (pc' := 1) dX8_count_0 rfl rfl rfl ?_
      refine px_tblIn (tgt := 88) dX8_count_1 (by decide) (by decide) (off := 87) (by decide) (by decide) ?_
      refine px_aload_n (i := 0) (pc' := 89) dX8_count_88 rfl rfl rfl ?_
      refine pi_getr (pc' := 92) fl_8_51 dX8_count_89 rfl (by repeat (first | assumption | refine pm_I.up ?_ rfl | refine pm_I.uf ?_ rfl)) rfl rfl ?_
      refine pi_callV (pc' := 95) (c_losses I sA) okX1_losses ivX1_losses ml_X8_178 ⟨Nat.le_of_ble_eq_true rfl, Nat.le_of_ble_eq_true rfl⟩ dX8_count_92 rfl rfl rfl (Nat.le_of_ble_eq_true rfl) (by repeat (first | assumption | refine pm_I.up ?_ rfl | refine pm_I.uf ?_ rfl)) rfl cl_1 pm_le.rf pm_le.rf ?_
      rintro _ _ _ ⟨rfl, rfl, rfl⟩
      refine px_iret dX8_count_95 rfl rfl (⟨rfl, I, ?_⟩)
      refine enX9_count pm_le.rf ?_
      refine px_aload_n (i := 0) (pc' := 1) dX9_count_0 rfl rfl rfl ?_
      refine px_iconst (v := 0) (pc' := 2) dX9_count_1 rfl (by decide) ?_
      refine pi_puti (pc' := 5) fi_9_1 dX9_count_2 rfl (by repeat (first | assumption | refine pm_I.up ?_ rfl | refine pm_I.uf ?_ rfl)) rfl ?_
      refine px_iload_n (i := 1) (pc' := 6) dX9_count_5 rfl rfl rfl ?_
      refine px_tblIn (tgt := 77) dX9_count_6 (by decide) (by decide) (off := 71) (by decide) (by decide) ?_
      refine px_aload_n (i := 0) (pc' := 78) dX9_count_77 rfl rfl rfl ?_
      refine pi_geti (pc' := 81) fl_9_115 dX9_count_78 rfl (by repeat (first | assumption | refine pm_I.up ?_ rfl | refine pm_I.uf ?_ rfl)) rfl (by first | assumption | (repeat (first | exact pm_uf_e rfl | refine pm_uf_o (by decide) ?_)) <;> assumption) ?_
      exact px_iret dX9_count_81 rfl rfl (⟨rfl, j.thr⟩)
    · refine ⟨nI mm, ?_⟩
      refine enX8_count pm_le.rf ?_
      refine px_iload_n (i := 1) (pc' := 1) dX8_count_0 rfl rfl rfl ?_
      refine px_tblIn (tgt := 96) dX8_count_1 (by decide) (by decide) (off := 95) (by decide) (by decide) ?_
      refine px_aload_n (i := 0) (pc' := 97) dX8_count_96 rfl rfl rfl ?_
      refine pi_getr (pc' := 100) fl_8_42 dX8_count_97 rfl (by repeat (first | assumption | refine pm_I.up ?_ rfl | refine pm_I.uf ?_ rfl)) rfl rfl ?_
      refine pi_callV (pc' := 103) (c_mendings I x5) okX0_mendings ivX0_mendings ml_X8_181 ⟨Nat.le_of_ble_eq_true rfl, Nat.le_of_ble_eq_true rfl⟩ dX8_count_100 rfl rfl rfl (Nat.le_of_ble_eq_true rfl) (by repeat (first | assumption | refine pm_I.up ?_ rfl | refine pm_I.uf ?_ rfl)) rfl cl_0 pm_le.rf pm_le.rf ?_
      rintro _ _ _ ⟨rfl, rfl, rfl⟩
      refine px_iret dX8_count_103 rfl rfl (⟨rfl, I, ?_⟩)
      refine enX9_count pm_le.rf ?_
      refine px_aload_n (i := 0) (pc' := 1) dX9_count_0 rfl rfl rfl ?_
      refine px_iconst (v := 0) (pc' := 2) dX9_count_1 rfl (by decide) ?_
      refine pi_puti (pc' := 5) fi_9_1 dX9_count_2 rfl (by repeat (first | assumption | refine pm_I.up ?_ rfl | refine pm_I.uf ?_ rfl)) rfl ?_
      refine px_iload_n (i := 1) (pc' := 6) dX9_count_5 rfl rfl rfl ?_
      refine px_tblIn (tgt := 82) dX9_count_6 (by decide) (by decide) (off := 76) (by decide) (by decide) ?_
      refine px_aload_n (i := 0) (pc' := 83) dX9_count_82 rfl rfl rfl ?_
      refine pi_geti (pc' := 86) fl_9_118 dX9_count_83 rfl (by repeat (first | assumption | refine pm_I.up ?_ rfl | refine pm_I.uf ?_ rfl)) rfl (by first | assumption | (repeat (first | exact pm_uf_e rfl | refine pm_uf_o (by decide) ?_)) <;> assumption) ?_
      exact px_iret dX9_count_86 rfl rfl (⟨rfl, j.thr⟩)
    · refine ⟨nI n, ?_⟩
      refine enX8_count pm_le.rf ?_
      refine px_iload_n (i := 1) (pc' := 1) dX8_count_0 rfl rfl rfl ?_
      refine px_tblIn (tgt := 104) dX8_count_1 (by decide) (by decide) (off := 103) (by decide) (by decide) ?_
      refine px_aload_n (i := 0) (pc' := 105) dX8_count_104 rfl rfl rfl ?_
      refine pi_getr (pc' := 108) fl_8_10 dX8_count_105 rfl (by repeat (first | assumption | refine pm_I.up ?_ rfl | refine pm_I.uf ?_ rfl)) rfl rfl ?_
      refine pi_callV (pc' := 111) (c_size I t1) okX6_size ivX6_size ml_X8_75 ⟨Nat.le_of_ble_eq_true rfl, Nat.le_of_ble_eq_true rfl⟩ dX8_count_108 rfl rfl rfl (Nat.le_of_ble_eq_true rfl) (by repeat (first | assumption | refine pm_I.up ?_ rfl | refine pm_I.uf ?_ rfl)) rfl cl_6 pm_le.rf pm_le.rf ?_
      rintro _ _ _ ⟨rfl, rfl, rfl⟩
      refine px_iret dX8_count_111 rfl rfl (⟨rfl, I, ?_⟩)
      refine enX9_count pm_le.rf ?_
      refine px_aload_n (i := 0) (pc' := 1) dX9_count_0 rfl rfl rfl ?_
      refine px_iconst (v := 0) (pc' := 2) dX9_count_1 rfl (by decide) ?_
      refine pi_puti (pc' := 5) fi_9_1 dX9_count_2 rfl (by repeat (first | assumption | refine pm_I.up ?_ rfl | refine pm_I.uf ?_ rfl)) rfl ?_
      refine px_iload_n (i := 1) (pc' := 6) dX9_count_5 rfl rfl rfl ?_
      refine px_tblIn (tgt := 87) dX9_count_6 (by decide) (by decide) (off := 81) (by decide) (by decide) ?_
      refine px_aload_n (i := 0) (pc' := 88) dX9_count_87 rfl rfl rfl ?_
      refine pi_geti (pc' := 91) fl_9_7 dX9_count_88 rfl (by repeat (first | assumption | refine pm_I.up ?_ rfl | refine pm_I.uf ?_ rfl)) rfl (by first | assumption | (repeat (first | exact pm_uf_e rfl | refine pm_uf_o (by decide) ?_)) <;> assumption) ?_
      exact px_iret dX9_count_91 rfl rfl (⟨rfl, j.thr⟩)
  · refine ⟨-1, ?_⟩
    refine enX8_count pm_le.rf ?_
    refine px_iload_n (i := 1) (pc' := 1) dX8_count_0 rfl rfl rfl ?_
    refine px_tblOut (tgt := 112) dX8_count_1 (by omega) (by decide) ?_
    refine px_iconst (v := -1) (pc' := 113) dX8_count_112 rfl (by decide) ?_
    refine px_iret dX8_count_113 rfl rfl (⟨rfl, I, ?_⟩)
    refine enX9_count pm_le.rf ?_
    refine px_aload_n (i := 0) (pc' := 1) dX9_count_0 rfl rfl rfl ?_
    refine px_iconst (v := 0) (pc' := 2) dX9_count_1 rfl (by decide) ?_
    refine pi_puti (pc' := 5) fi_9_1 dX9_count_2 rfl (by repeat (first | assumption | refine pm_I.up ?_ rfl | refine pm_I.uf ?_ rfl)) rfl ?_
    refine px_iload_n (i := 1) (pc' := 6) dX9_count_5 rfl rfl rfl ?_
    refine px_tblOut (tgt := 92) dX9_count_6 (by omega) (by decide) ?_
    refine px_iconst (v := -1) (pc' := 93) dX9_count_92 rfl (by decide) ?_
    exact px_iret dX9_count_93 rfl rfl (⟨rfl, j.thr⟩)
theorem o_span {a : Int32} : pm_op G mX8_span mX9_span [.int a] := by
  intro z h g j
  obtain ⟨I, ⟨n, T, q1⟩, ⟨w, d, η, q2, q3, q4⟩, q5, q6, q7, q8⟩ := id j
  obtain ⟨m1, m2, m3, m4, m5, m6, m7, m8, m9, mA, mB⟩ := id q2
  obtain ⟨S, legs, reads, lost, lx, ly, rv, ra, start, f17, f38, fp, s1, s2, s3, s4, s5, s6, s7, s8, s9, sA, sB, sC, sD, sE, sF, sG, sH, sI, sJ, sK⟩ := id q4
  have hwd := m_wd m2 m4
  have l4 : (4 : Int32).toInt = 4 := by decide
  have h63 : ∀ j, j < 144 → S j < 2 ^ 63 := fun j _ => by have := fp.S63 j; rw [p25] at this; omega
  have ec := m_cnt_hi (S := S) (n := w * d) fp.2.2.2.2.2.1 (144 - w * d)
  rw [show w * d + (144 - w * d) = 144 by omega] at ec
  by_cases h4 : a.toInt = 4
  · have e4 : a = 4 := by rw [i_eq, l4]; exact h4
    subst e4
    refine ⟨nI (m_cnt S 144), ?_⟩
    refine enX8_span pm_le.rf ?_
    refine px_iload_n (i := 1) (pc' := 1) dX8_span_0 rfl rfl rfl ?_
    refine px_iconst (v := 4) (pc' := 2) dX8_span_1 rfl (by decide) ?_
    refine px_icmp_ne (tgt := 13) (pc' := 5) dX8_span_2 (by decide) rfl (fun q_ => absurd (rfl) q_) (fun _ => ?_)
    refine px_aload_n (i := 0) (pc' := 6) dX8_span_5 rfl rfl rfl ?_
    refine pi_getr (pc' := 9) fl_8_51 dX8_span_6 rfl (by repeat (first | assumption | refine pm_I.up ?_ rfl | refine pm_I.uf ?_ rfl)) rfl rfl ?_
    refine pi_callV (pc' := 12) (c_holders I s1 h63) okX1_holders ivX1_holders ml_X8_113 ⟨Nat.le_of_ble_eq_true rfl, Nat.le_of_ble_eq_true rfl⟩ dX8_span_9 rfl rfl rfl (Nat.le_of_ble_eq_true rfl) (by repeat (first | assumption | refine pm_I.up ?_ rfl | refine pm_I.uf ?_ rfl)) rfl cl_1 pm_le.rf pm_le.rf ?_
    rintro _ _ _ ⟨rfl, rfl, rfl⟩
    refine px_iret dX8_span_12 rfl rfl (⟨rfl, I, ?_⟩)
    rw [ec]
    refine enX9_span pm_le.rf ?_
    refine px_aload_n (i := 0) (pc' := 1) dX9_span_0 rfl rfl rfl ?_
    refine px_iconst (v := 0) (pc' := 2) dX9_span_1 rfl (by decide) ?_
    refine pi_puti (pc' := 5) fi_9_1 dX9_span_2 rfl (by repeat (first | assumption | refine pm_I.up ?_ rfl | refine pm_I.uf ?_ rfl)) rfl ?_
    refine px_iload_n (i := 1) (pc' := 6) dX9_span_5 rfl rfl rfl ?_
    refine px_if_lt (tgt := 14) (pc' := 9) dX9_span_6 (by decide) rfl (fun q_ => absurd q_ (by decide)) (fun _ => ?_)
    refine px_iload_n (i := 1) (pc' := 10) dX9_span_9 rfl rfl rfl ?_
    refine px_iconst (v := 4) (pc' := 11) dX9_span_10 rfl (by decide) ?_
    refine px_icmp_le (tgt := 16) (pc' := 14) dX9_span_11 (by decide) rfl (fun _ => ?_) (fun q_ => absurd (by decide) q_)
    refine px_iload_n (i := 1) (pc' := 17) dX9_span_16 rfl rfl rfl ?_
    refine px_iconst (v := 4) (pc' := 18) dX9_span_17 rfl (by decide) ?_
    refine px_icmp_ne (tgt := 26) (pc' := 21) dX9_span_18 (by decide) rfl (fun q_ => absurd (rfl) q_) (fun _ => ?_)
    refine px_aload_n (i := 0) (pc' := 22) dX9_span_21 rfl rfl rfl ?_
    refine pi_callV (pc' := 25) (d_withShare (by repeat (first | assumption | refine pm_I.up ?_ rfl | refine pm_I.uf ?_ rfl)) (by first | assumption | (repeat (first | exact pm_uf_e rfl | refine pm_uf_o (by decide) ?_)) <;> assumption) (by first | assumption | (repeat (first | exact pm_uf_e rfl | refine pm_uf_o (by decide) ?_)) <;> assumption) m2 m4 (by first | assumption | (repeat (first | exact pm_up_e rfl | refine pm_up_o (by decide) ?_)) <;> assumption) h63) okX9_withShare ivX9_withShare ml_X9_150 ⟨Nat.le_of_ble_eq_true rfl, Nat.le_of_ble_eq_true rfl⟩ dX9_span_22 rfl rfl rfl (Nat.le_of_ble_eq_true rfl) (by repeat (first | assumption | refine pm_I.up ?_ rfl | refine pm_I.uf ?_ rfl)) rfl cl_9 pm_le.rf pm_le.rf ?_
    rintro _ _ _ ⟨rfl, rfl, rfl⟩
    exact px_iret dX9_span_25 rfl rfl (⟨rfl, j.thr⟩)
  · have n4 : ¬ a = 4 := fun q => h4 (by rw [q]; exact l4)
    by_cases hc : 0 ≤ a.toInt ∧ a.toInt ≤ 3
    · obtain ⟨k, hk, rfl⟩ : ∃ k : Nat, k ≤ 3 ∧ a = nI k := ⟨a.toInt.toNat, by omega, by rw [← iZ_n, Int.toNat_of_nonneg (by omega), iZ_i]⟩
      have hkt : (nI k).toInt = k := nI_toInt (by omega)
      refine ⟨iZ (m_ed w S k (w * d)), ?_⟩
      refine enX8_span pm_le.rf ?_
      refine px_iload_n (i := 1) (pc' := 1) dX8_span_0 rfl rfl rfl ?_
      refine px_iconst (v := 4) (pc' := 2) dX8_span_1 rfl (by decide) ?_
      refine px_icmp_ne (tgt := 13) (pc' := 5) dX8_span_2 (by decide) rfl (fun _ => ?_) (fun q_ => absurd q_ (n4))
      refine px_aload_n (i := 0) (pc' := 14) dX8_span_13 rfl rfl rfl ?_
      refine pi_getr (pc' := 17) fl_8_51 dX8_span_14 rfl (by repeat (first | assumption | refine pm_I.up ?_ rfl | refine pm_I.uf ?_ rfl)) rfl rfl ?_
      refine px_iload_n (i := 1) (pc' := 18) dX8_span_17 rfl rfl rfl ?_
      refine pi_callV (pc' := 21) (c_edge I m6 m7 m2 m4 s1 h63 hk) okX1_edge ivX1_edge ml_X8_143 ⟨Nat.le_of_ble_eq_true rfl, Nat.le_of_ble_eq_true rfl⟩ dX8_span_18 rfl rfl rfl (Nat.le_of_ble_eq_true rfl) (by repeat (first | assumption | refine pm_I.up ?_ rfl | refine pm_I.uf ?_ rfl)) rfl cl_1 pm_le.rf pm_le.rf ?_
      rintro _ _ _ ⟨rfl, rfl, rfl⟩
      refine px_iret dX8_span_21 rfl rfl (⟨rfl, I, ?_⟩)
      refine enX9_span pm_le.rf ?_
      refine px_aload_n (i := 0) (pc' := 1) dX9_span_0 rfl rfl rfl ?_
      refine px_iconst (v := 0) (pc' := 2) dX9_span_1 rfl (by decide) ?_
      refine pi_puti (pc' := 5) fi_9_1 dX9_span_2 rfl (by repeat (first | assumption | refine pm_I.up ?_ rfl | refine pm_I.uf ?_ rfl)) rfl ?_
      refine px_iload_n (i := 1) (pc' := 6) dX9_span_5 rfl rfl rfl ?_
      refine px_if_lt (tgt := 14) (pc' := 9) dX9_span_6 (by decide) rfl (fun q_ => absurd q_ (nI_pos (by omega))) (fun _ => ?_)
      refine px_iload_n (i := 1) (pc' := 10) dX9_span_9 rfl rfl rfl ?_
      refine px_iconst (v := 4) (pc' := 11) dX9_span_10 rfl (by decide) ?_
      refine px_icmp_le (tgt := 16) (pc' := 14) dX9_span_11 (by decide) rfl (fun _ => ?_) (fun q_ => absurd (by rw [i_le, l4, hkt]; omega) q_)
      refine px_iload_n (i := 1) (pc' := 17) dX9_span_16 rfl rfl rfl ?_
      refine px_iconst (v := 4) (pc' := 18) dX9_span_17 rfl (by decide) ?_
      refine px_icmp_ne (tgt := 26) (pc' := 21) dX9_span_18 (by decide) rfl (fun _ => ?_) (fun q_ => absurd q_ (n4))
      refine px_iconst (v := -1) (pc' := 27) dX9_span_26 rfl (by decide) ?_
      refine sx_i_n_5_2 (pc' := 28) dX9_span_27 rfl rfl rfl rfl ?_
      refine px_iconst (v := 0) (pc' := 29) dX9_span_28 rfl (by decide) ?_
      refine sx_i_n_5_3 (pc' := 30) dX9_span_29 rfl rfl rfl rfl ?_
      have loop : ∀ q i : Nat, i + q = w * d → ∀ v4 : Value, v4.category = 1 → pm_W G mX9_span z (pm_Φ G z (fun r' h2 g2 => r' = some (.int (iZ (m_ed w S k (w * d)))) ∧ J h2 g2)) 30 [.ref 30, .int (nI k), .int (iZ (m_ed w S k i)), .int (nI i), v4] [] z h (pm_uf g 30 0 (.int 0)) := by
        intro q
        induction q with
        | zero =>
          intro i hi v4 c4
          have : i = w * d := by omega
          subst this
          refine px_iload_n (i := 3) (pc' := 31) dX9_span_30 rfl rfl rfl ?_
          refine px_aload_n (i := 0) (pc' := 32) dX9_span_31 rfl rfl rfl ?_
          refine pi_callV (pc' := 35) (d_cells (by repeat (first | assumption | refine pm_I.up ?_ rfl | refine pm_I.uf ?_ rfl)) (by first | assumption | (repeat (first | exact pm_uf_e rfl | refine pm_uf_o (by decide) ?_)) <;> assumption) (by first | assumption | (repeat (first | exact pm_uf_e rfl | refine pm_uf_o (by decide) ?_)) <;> assumption)) okX9_cells ivX9_cells ml_X9_108 ⟨Nat.le_of_ble_eq_true rfl, Nat.le_of_ble_eq_true rfl⟩ dX9_span_32 rfl rfl rfl (Nat.le_of_ble_eq_true rfl) (by repeat (first | assumption | refine pm_I.up ?_ rfl | refine pm_I.uf ?_ rfl)) rfl cl_9 pm_le.rf pm_le.rf ?_
          rintro _ _ _ ⟨rfl, rfl, rfl⟩
          refine px_icmp_ge (tgt := 112) (pc' := 38) dX9_span_35 (by decide) rfl (fun _ => ?_) (fun q_ => absurd (nI_le (by omega) (by omega)) q_)
          refine px_iload_n (i := 2) (pc' := 113) dX9_span_112 rfl rfl rfl ?_
          exact px_iret dX9_span_113 rfl rfl (⟨rfl, j.thr⟩)
        | succ q ih =>
          intro i hi v4 c4
          have hil : (nI i).toNatClampNeg = i := nI_clamp (by omega)
          have nx := fun (v : Value) (hv : v.category = 1) => ih (i + 1) (by omega) v hv
          have hbd := m_ed_bd (w := w) (S := S) (what := k) i
          rw [m_ed_s] at nx
          generalize m_ed w S k i = fo at hbd nx ⊢
          have hft : (iZ fo).toInt = fo := iZ_t (by omega) (by omega)
          refine px_iload_n (i := 3) (pc' := 31) dX9_span_30 rfl rfl rfl ?_
          refine px_aload_n (i := 0) (pc' := 32) dX9_span_31 rfl rfl rfl ?_
          refine pi_callV (pc' := 35) (d_cells (by repeat (first | assumption | refine pm_I.up ?_ rfl | refine pm_I.uf ?_ rfl)) (by first | assumption | (repeat (first | exact pm_uf_e rfl | refine pm_uf_o (by decide) ?_)) <;> assumption) (by first | assumption | (repeat (first | exact pm_uf_e rfl | refine pm_uf_o (by decide) ?_)) <;> assumption)) okX9_cells ivX9_cells ml_X9_108 ⟨Nat.le_of_ble_eq_true rfl, Nat.le_of_ble_eq_true rfl⟩ dX9_span_32 rfl rfl rfl (Nat.le_of_ble_eq_true rfl) (by repeat (first | assumption | refine pm_I.up ?_ rfl | refine pm_I.uf ?_ rfl)) rfl cl_9 pm_le.rf pm_le.rf ?_
          rintro _ _ _ ⟨rfl, rfl, rfl⟩
          refine px_icmp_ge (tgt := 112) (pc' := 38) dX9_span_35 (by decide) rfl (fun q_ => absurd q_ (nI_ge (by omega) (by omega))) (fun _ => ?_)
          refine px_aload_n (i := 0) (pc' := 39) dX9_span_38 rfl rfl rfl ?_
          refine pi_getr (pc' := 42) fl_9_52 dX9_span_39 rfl (by repeat (first | assumption | refine pm_I.up ?_ rfl | refine pm_I.uf ?_ rfl)) rfl rfl ?_
          refine px_iload_n (i := 3) (pc' := 43) dX9_span_42 rfl rfl rfl ?_
          refine px_lald (pc' := 44) dX9_span_43 rfl (by first | assumption | (repeat (first | exact pm_up_e rfl | refine pm_up_o (by decide) ?_)) <;> assumption) (vp_in_nI (by omega) (by omega)) ?_
          refine px_lconst (v := 0) (pc' := 45) dX9_span_44 rfl (by decide) ?_
          refine px_lcmp (pc' := 46) dX9_span_45 rfl ?_
          rw [hil, show m_L S i = lN (S i) from rfl]
          refine px_if_ne (tgt := 52) (pc' := 49) dX9_span_46 (by decide) rfl (fun q2 => ?_) (fun q2 => ?_)
          rotate_left
          · rw [lg_cmp_eq, l64_0, pk_lEQ (h63 i (by omega)) (by omega)] at q2
            rw [if_neg (show ¬ 0 < S i by omega)] at nx
            refine px_goto (tgt := 106) dX9_span_49 (by decide) ?_
            refine sx_inc_5_3 (w := 1) (pc' := 109) dX9_span_106 rfl rfl (by decide) rfl ?_
            refine px_goto (tgt := 30) dX9_span_109 (by decide) ?_
            rw [nI_1]
            exact nx _ c4
          rw [lg_cmp_eq, l64_0, pk_lEQ (h63 i (by omega)) (by omega)] at q2
          rw [if_pos (show 0 < S i by omega)] at nx
          have hmod : i % w ≤ i := Nat.mod_le _ _
          have hdiv : i / w ≤ i := Nat.div_le_self _ _
          have mid : ∀ p : Nat, p ≤ 144 → p = (if k < 2 then i % w else i / w) → pm_W G mX9_span z (pm_Φ G z (fun r' h2 g2 => r' = some (.int (iZ (m_ed w S k (w * d)))) ∧ J h2 g2)) 72 [.ref 30, .int (nI k), .int (iZ fo), .int (nI i), v4] [.int (nI p)] z h (pm_uf g 30 0 (.int 0)) := by
            intro p hp1 hp
            rw [← hp] at nx
            have hpt : (nI p).toInt = p := nI_toInt (by omega)
            refine sx_i_5_4 (pc' := 74) dX9_span_72 rfl rfl rfl ?_
            refine px_iload_n (i := 2) (pc' := 75) dX9_span_74 rfl rfl rfl ?_
            refine px_if_lt (tgt := 99) (pc' := 78) dX9_span_75 (by decide) rfl (fun q3 => ?_) (fun q3 => ?_)
            · rw [i_lt, hft, i_0] at q3
              have en : (if fo = -1 ∨ (if k % 2 = 1 then fo < (p : Int) else (p : Int) < fo) then (p : Int) else fo) = p := if_pos (Or.inl (by omega))
              rw [en] at nx
              refine px_iload (i := 4) (pc' := 101) dX9_span_99 rfl rfl ?_
              refine px_goto (tgt := 105) dX9_span_101 (by decide) ?_
              refine sx_i_n_5_2 (pc' := 106) dX9_span_105 rfl rfl rfl rfl ?_
              refine sx_inc_5_3 (w := 1) (pc' := 109) dX9_span_106 rfl rfl (by decide) rfl ?_
              refine px_goto (tgt := 30) dX9_span_109 (by decide) ?_
              rw [nI_1, ← iZ_n p]
              exact nx _ rfl
            · rw [i_lt, hft, i_0] at q3
              have hn1 : ¬ fo = -1 := by omega
              refine px_iload_n (i := 1) (pc' := 79) dX9_span_78 rfl rfl rfl ?_
              refine px_iconst (v := 2) (pc' := 80) dX9_span_79 rfl (by decide) ?_
              refine px_irem (pc' := 81) dX9_span_80 rfl (by decide) ?_
              rw [show (2 : Int32) = nI 2 from rfl, pk_rem (by omega) (by omega) (by omega)]
              refine px_if_ne (tgt := 93) (pc' := 84) dX9_span_81 (by decide) rfl (fun q5' => ?_) (fun q5' => ?_)
              · rw [show (0 : Int32) = nI 0 from rfl, nI_eq (by omega) (by omega)] at q5'
                refine px_iload (i := 4) (pc' := 95) dX9_span_93 rfl rfl ?_
                refine px_iload_n (i := 2) (pc' := 96) dX9_span_95 rfl rfl rfl ?_
                refine px_icmp_le (tgt := 104) (pc' := 99) dX9_span_96 (by decide) rfl (fun q6' => ?_) (fun q6' => ?_)
                · rw [i_le, hft, hpt] at q6'
                  have en : (if fo = -1 ∨ (if k % 2 = 1 then fo < (p : Int) else (p : Int) < fo) then (p : Int) else fo) = fo := if_neg (fun hh => hh.elim hn1 (fun h2 => by rw [if_pos (by omega)] at h2; omega))
                  rw [en] at nx
                  refine px_iload_n (i := 2) (pc' := 105) dX9_span_104 rfl rfl rfl ?_
                  refine sx_i_n_5_2 (pc' := 106) dX9_span_105 rfl rfl rfl rfl ?_
                  refine sx_inc_5_3 (w := 1) (pc' := 109) dX9_span_106 rfl rfl (by decide) rfl ?_
                  refine px_goto (tgt := 30) dX9_span_109 (by decide) ?_
                  rw [nI_1]
                  exact nx _ rfl
                · rw [i_le, hft, hpt] at q6'
                  have en : (if fo = -1 ∨ (if k % 2 = 1 then fo < (p : Int) else (p : Int) < fo) then (p : Int) else fo) = p := if_pos (Or.inr (by rw [if_pos (by omega)]; omega))
                  rw [en] at nx
                  refine px_iload (i := 4) (pc' := 101) dX9_span_99 rfl rfl ?_
                  refine px_goto (tgt := 105) dX9_span_101 (by decide) ?_
                  refine sx_i_n_5_2 (pc' := 106) dX9_span_105 rfl rfl rfl rfl ?_
                  refine sx_inc_5_3 (w := 1) (pc' := 109) dX9_span_106 rfl rfl (by decide) rfl ?_
                  refine px_goto (tgt := 30) dX9_span_109 (by decide) ?_
                  rw [nI_1, ← iZ_n p]
                  exact nx _ rfl
              · rw [show (0 : Int32) = nI 0 from rfl, nI_eq (by omega) (by omega)] at q5'
                refine px_iload (i := 4) (pc' := 86) dX9_span_84 rfl rfl ?_
                refine px_iload_n (i := 2) (pc' := 87) dX9_span_86 rfl rfl rfl ?_
                refine px_icmp_ge (tgt := 104) (pc' := 90) dX9_span_87 (by decide) rfl (fun q6' => ?_) (fun q6' => ?_)
                · rw [i_le, hft, hpt] at q6'
                  have en : (if fo = -1 ∨ (if k % 2 = 1 then fo < (p : Int) else (p : Int) < fo) then (p : Int) else fo) = fo := if_neg (fun hh => hh.elim hn1 (fun h2 => by rw [if_neg (by omega)] at h2; omega))
                  rw [en] at nx
                  refine px_iload_n (i := 2) (pc' := 105) dX9_span_104 rfl rfl rfl ?_
                  refine sx_i_n_5_2 (pc' := 106) dX9_span_105 rfl rfl rfl rfl ?_
                  refine sx_inc_5_3 (w := 1) (pc' := 109) dX9_span_106 rfl rfl (by decide) rfl ?_
                  refine px_goto (tgt := 30) dX9_span_109 (by decide) ?_
                  rw [nI_1]
                  exact nx _ rfl
                · rw [i_le, hft, hpt] at q6'
                  have en : (if fo = -1 ∨ (if k % 2 = 1 then fo < (p : Int) else (p : Int) < fo) then (p : Int) else fo) = p := if_pos (Or.inr (by rw [if_neg (by omega)]; omega))
                  rw [en] at nx
                  refine px_goto (tgt := 99) dX9_span_90 (by decide) ?_
                  refine px_iload (i := 4) (pc' := 101) dX9_span_99 rfl rfl ?_
                  refine px_goto (tgt := 105) dX9_span_101 (by decide) ?_
                  refine sx_i_n_5_2 (pc' := 106) dX9_span_105 rfl rfl rfl rfl ?_
                  refine sx_inc_5_3 (w := 1) (pc' := 109) dX9_span_106 rfl rfl (by decide) rfl ?_
                  refine px_goto (tgt := 30) dX9_span_109 (by decide) ?_
                  rw [nI_1, ← iZ_n p]
                  exact nx _ rfl
          refine px_iload_n (i := 1) (pc' := 53) dX9_span_52 rfl rfl rfl ?_
          refine px_iconst (v := 2) (pc' := 54) dX9_span_53 rfl (by decide) ?_
          refine px_icmp_ge (tgt := 66) (pc' := 57) dX9_span_54 (by decide) rfl (fun q5' => ?_) (fun q5' => ?_)
          · rw [i_le, l_2, hkt] at q5'
            refine px_iload_n (i := 3) (pc' := 67) dX9_span_66 rfl rfl rfl ?_
            refine px_aload_n (i := 0) (pc' := 68) dX9_span_67 rfl rfl rfl ?_
            refine pi_geti (pc' := 71) fl_9_43 dX9_span_68 rfl (by repeat (first | assumption | refine pm_I.up ?_ rfl | refine pm_I.uf ?_ rfl)) rfl (by first | assumption | (repeat (first | exact pm_uf_e rfl | refine pm_uf_o (by decide) ?_)) <;> assumption) ?_
            refine px_idiv (pc' := 72) dX9_span_71 rfl (nI_ne0 (by omega) (by omega)) ?_
            rw [pk_div (by omega) (by omega) (by omega)]
            exact mid _ (by omega) (by rw [if_neg (by omega)])
          · rw [i_le, l_2, hkt] at q5'
            refine px_iload_n (i := 3) (pc' := 58) dX9_span_57 rfl rfl rfl ?_
            refine px_aload_n (i := 0) (pc' := 59) dX9_span_58 rfl rfl rfl ?_
            refine pi_geti (pc' := 62) fl_9_43 dX9_span_59 rfl (by repeat (first | assumption | refine pm_I.up ?_ rfl | refine pm_I.uf ?_ rfl)) rfl (by first | assumption | (repeat (first | exact pm_uf_e rfl | refine pm_uf_o (by decide) ?_)) <;> assumption) ?_
            refine px_irem (pc' := 63) dX9_span_62 rfl (nI_ne0 (by omega) (by omega)) ?_
            rw [pk_rem (by omega) (by omega) (by omega)]
            refine px_goto (tgt := 72) dX9_span_63 (by decide) ?_
            exact mid _ (by omega) (by rw [if_pos (by omega)])
      exact loop (w * d) 0 (by omega) pm_u rfl
    · refine ⟨-1, ?_⟩
      refine enX8_span pm_le.rf ?_
      refine px_iload_n (i := 1) (pc' := 1) dX8_span_0 rfl rfl rfl ?_
      refine px_iconst (v := 4) (pc' := 2) dX8_span_1 rfl (by decide) ?_
      refine px_icmp_ne (tgt := 13) (pc' := 5) dX8_span_2 (by decide) rfl (fun _ => ?_) (fun q_ => absurd q_ (n4))
      refine px_aload_n (i := 0) (pc' := 14) dX8_span_13 rfl rfl rfl ?_
      refine pi_getr (pc' := 17) fl_8_51 dX8_span_14 rfl (by repeat (first | assumption | refine pm_I.up ?_ rfl | refine pm_I.uf ?_ rfl)) rfl rfl ?_
      refine px_iload_n (i := 1) (pc' := 18) dX8_span_17 rfl rfl rfl ?_
      refine pi_callV (pc' := 21) (c_edge_n hc) okX1_edge ivX1_edge ml_X8_143 ⟨Nat.le_of_ble_eq_true rfl, Nat.le_of_ble_eq_true rfl⟩ dX8_span_18 rfl rfl rfl (Nat.le_of_ble_eq_true rfl) (by repeat (first | assumption | refine pm_I.up ?_ rfl | refine pm_I.uf ?_ rfl)) rfl cl_1 pm_le.rf pm_le.rf ?_
      rintro _ _ _ ⟨rfl, rfl, rfl⟩
      refine px_iret dX8_span_21 rfl rfl (⟨rfl, I, ?_⟩)
      refine enX9_span pm_le.rf ?_
      refine px_aload_n (i := 0) (pc' := 1) dX9_span_0 rfl rfl rfl ?_
      refine px_iconst (v := 0) (pc' := 2) dX9_span_1 rfl (by decide) ?_
      refine pi_puti (pc' := 5) fi_9_1 dX9_span_2 rfl (by repeat (first | assumption | refine pm_I.up ?_ rfl | refine pm_I.uf ?_ rfl)) rfl ?_
      refine px_iload_n (i := 1) (pc' := 6) dX9_span_5 rfl rfl rfl ?_
      refine px_if_lt (tgt := 14) (pc' := 9) dX9_span_6 (by decide) rfl (fun q => ?_) (fun q => ?_)
      · refine px_iconst (v := -1) (pc' := 15) dX9_span_14 rfl (by decide) ?_
        exact px_iret dX9_span_15 rfl rfl (⟨rfl, j.thr⟩)
      · rw [i_lt, i_0] at q
        refine px_iload_n (i := 1) (pc' := 10) dX9_span_9 rfl rfl rfl ?_
        refine px_iconst (v := 4) (pc' := 11) dX9_span_10 rfl (by decide) ?_
        refine px_icmp_le (tgt := 16) (pc' := 14) dX9_span_11 (by decide) rfl (fun q_ => absurd q_ (by rw [i_le, l4]; omega)) (fun _ => ?_)
        refine px_iconst (v := -1) (pc' := 15) dX9_span_14 rfl (by decide) ?_
        exact px_iret dX9_span_15 rfl rfl (⟨rfl, j.thr⟩)
theorem o_check {c v : Int32} : pm_op G mX8_check mX9_check [.int c, .int v] := by
  intro z h g j
  obtain ⟨I, ⟨n, T, q1⟩, ⟨w, d, η, q2, q3, q4⟩, ⟨e, a0, a1, q5⟩, q6, q7, q8⟩ := id j
  obtain ⟨m1, m2, m3, m4, m5, m6, m7, m8, m9, mA, mB⟩ := id q2
  obtain ⟨st, f1, f2, sd, sp, n1, n2, mm, x1, x2, x3, x4, x5, x6, x7, x8, x9, xA⟩ := id q3
  obtain ⟨g1, g2, g3, g4, g5, g6, g7, g8, g9, gA⟩ := id q5
  have hwd := m_wd m2 m4
  by_cases hc : 0 ≤ c.toInt ∧ c.toInt < (w * d : Nat)
  rotate_left
  · refine ⟨-1, ?_⟩
    refine enX8_check pm_le.rf ?_
    refine px_aload_n (i := 0) (pc' := 1) dX8_check_0 rfl rfl rfl ?_
    refine pi_getr (pc' := 4) fl_8_19 dX8_check_1 rfl (by repeat (first | assumption | refine pm_I.up ?_ rfl | refine pm_I.uf ?_ rfl)) rfl rfl ?_
    refine px_iload_n (i := 1) (pc' := 5) dX8_check_4 rfl rfl rfl ?_
    refine pi_callV (pc' := 8) (c_has I m6 m7 m2 m4) okX3_has ivX3_has ml_X8_100 ⟨Nat.le_of_ble_eq_true rfl, Nat.le_of_ble_eq_true rfl⟩ dX8_check_5 rfl rfl rfl (Nat.le_of_ble_eq_true rfl) (by repeat (first | assumption | refine pm_I.up ?_ rfl | refine pm_I.uf ?_ rfl)) rfl cl_3 pm_le.rf pm_le.rf ?_
    rintro _ _ _ ⟨rfl, rfl, rfl⟩
    refine px_if_eq (tgt := 18) (pc' := 11) dX8_check_8 (by decide) rfl (fun _ => ?_) (fun q_ => absurd (b_0.mpr hc) q_)
    refine px_iconst (v := -1) (pc' := 19) dX8_check_18 rfl (by decide) ?_
    refine px_iret dX8_check_19 rfl rfl (⟨rfl, I, ?_⟩)
    refine enX9_check pm_le.rf ?_
    refine px_aload_n (i := 0) (pc' := 1) dX9_check_0 rfl rfl rfl ?_
    refine px_iconst (v := 0) (pc' := 2) dX9_check_1 rfl (by decide) ?_
    refine pi_puti (pc' := 5) fi_9_1 dX9_check_2 rfl (by repeat (first | assumption | refine pm_I.up ?_ rfl | refine pm_I.uf ?_ rfl)) rfl ?_
    refine px_aload_n (i := 0) (pc' := 6) dX9_check_5 rfl rfl rfl ?_
    refine px_iload_n (i := 1) (pc' := 7) dX9_check_6 rfl rfl rfl ?_
    refine pi_callV (pc' := 10) (d_isCell (by repeat (first | assumption | refine pm_I.up ?_ rfl | refine pm_I.uf ?_ rfl)) (by first | assumption | (repeat (first | exact pm_uf_e rfl | refine pm_uf_o (by decide) ?_)) <;> assumption) (by first | assumption | (repeat (first | exact pm_uf_e rfl | refine pm_uf_o (by decide) ?_)) <;> assumption) m2 m4) okX9_isCell ivX9_isCell ml_X9_139 ⟨Nat.le_of_ble_eq_true rfl, Nat.le_of_ble_eq_true rfl⟩ dX9_check_7 rfl rfl rfl (Nat.le_of_ble_eq_true rfl) (by repeat (first | assumption | refine pm_I.up ?_ rfl | refine pm_I.uf ?_ rfl)) rfl cl_9 pm_le.rf pm_le.rf ?_
    rintro _ _ _ ⟨rfl, rfl, rfl⟩
    refine px_if_eq (tgt := 24) (pc' := 13) dX9_check_10 (by decide) rfl (fun _ => ?_) (fun q_ => absurd (b_0.mpr hc) q_)
    refine px_iconst (v := -1) (pc' := 25) dX9_check_24 rfl (by decide) ?_
    exact px_iret dX9_check_25 rfl rfl (⟨rfl, j.thr⟩)
  by_cases hv : 0 ≤ v.toInt ∧ v.toInt ≤ 250
  rotate_left
  · refine ⟨-1, ?_⟩
    refine enX8_check pm_le.rf ?_
    refine px_aload_n (i := 0) (pc' := 1) dX8_check_0 rfl rfl rfl ?_
    refine pi_getr (pc' := 4) fl_8_19 dX8_check_1 rfl (by repeat (first | assumption | refine pm_I.up ?_ rfl | refine pm_I.uf ?_ rfl)) rfl rfl ?_
    refine px_iload_n (i := 1) (pc' := 5) dX8_check_4 rfl rfl rfl ?_
    refine pi_callV (pc' := 8) (c_has I m6 m7 m2 m4) okX3_has ivX3_has ml_X8_100 ⟨Nat.le_of_ble_eq_true rfl, Nat.le_of_ble_eq_true rfl⟩ dX8_check_5 rfl rfl rfl (Nat.le_of_ble_eq_true rfl) (by repeat (first | assumption | refine pm_I.up ?_ rfl | refine pm_I.uf ?_ rfl)) rfl cl_3 pm_le.rf pm_le.rf ?_
    rintro _ _ _ ⟨rfl, rfl, rfl⟩
    refine px_if_eq (tgt := 18) (pc' := 11) dX8_check_8 (by decide) rfl (fun q_ => absurd q_ (b_n0.mpr hc)) (fun _ => ?_)
    refine px_iload_n (i := 2) (pc' := 12) dX8_check_11 rfl rfl rfl ?_
    refine px_callS (pc' := 15) (c_isReading) okX8_isReading stX8_isReading ml_X8_116 ⟨Nat.le_of_ble_eq_true rfl, Nat.le_of_ble_eq_true rfl⟩ dX8_check_12 rfl rfl rfl (Nat.le_of_ble_eq_true rfl) pm_le.rf pm_le.rf ?_
    rintro _ _ _ ⟨rfl, rfl, rfl⟩
    refine px_if_ne (tgt := 20) (pc' := 18) dX8_check_15 (by decide) rfl (fun q_ => absurd (b_0.mpr hv) q_) (fun _ => ?_)
    refine px_iconst (v := -1) (pc' := 19) dX8_check_18 rfl (by decide) ?_
    refine px_iret dX8_check_19 rfl rfl (⟨rfl, I, ?_⟩)
    refine enX9_check pm_le.rf ?_
    refine px_aload_n (i := 0) (pc' := 1) dX9_check_0 rfl rfl rfl ?_
    refine px_iconst (v := 0) (pc' := 2) dX9_check_1 rfl (by decide) ?_
    refine pi_puti (pc' := 5) fi_9_1 dX9_check_2 rfl (by repeat (first | assumption | refine pm_I.up ?_ rfl | refine pm_I.uf ?_ rfl)) rfl ?_
    refine px_aload_n (i := 0) (pc' := 6) dX9_check_5 rfl rfl rfl ?_
    refine px_iload_n (i := 1) (pc' := 7) dX9_check_6 rfl rfl rfl ?_
    refine pi_callV (pc' := 10) (d_isCell (by repeat (first | assumption | refine pm_I.up ?_ rfl | refine pm_I.uf ?_ rfl)) (by first | assumption | (repeat (first | exact pm_uf_e rfl | refine pm_uf_o (by decide) ?_)) <;> assumption) (by first | assumption | (repeat (first | exact pm_uf_e rfl | refine pm_uf_o (by decide) ?_)) <;> assumption) m2 m4) okX9_isCell ivX9_isCell ml_X9_139 ⟨Nat.le_of_ble_eq_true rfl, Nat.le_of_ble_eq_true rfl⟩ dX9_check_7 rfl rfl rfl (Nat.le_of_ble_eq_true rfl) (by repeat (first | assumption | refine pm_I.up ?_ rfl | refine pm_I.uf ?_ rfl)) rfl cl_9 pm_le.rf pm_le.rf ?_
    rintro _ _ _ ⟨rfl, rfl, rfl⟩
    refine px_if_eq (tgt := 24) (pc' := 13) dX9_check_10 (by decide) rfl (fun q_ => absurd q_ (b_n0.mpr hc)) (fun _ => ?_)
    refine px_iload_n (i := 2) (pc' := 14) dX9_check_13 rfl rfl rfl ?_
    refine px_if_lt (tgt := 24) (pc' := 17) dX9_check_14 (by decide) rfl (fun q => ?_) (fun q => ?_)
    · refine px_iconst (v := -1) (pc' := 25) dX9_check_24 rfl (by decide) ?_
      exact px_iret dX9_check_25 rfl rfl (⟨rfl, j.thr⟩)
    · rw [i_lt, i_0] at q
      refine px_iload_n (i := 2) (pc' := 18) dX9_check_17 rfl rfl rfl ?_
      refine px_sipush (v := 250) (pc' := 21) dX9_check_18 rfl (by decide) ?_
      refine px_icmp_le (tgt := 26) (pc' := 24) dX9_check_21 (by decide) rfl (fun q_ => absurd q_ (by rw [i_le, l_250]; omega)) (fun _ => ?_)
      refine px_iconst (v := -1) (pc' := 25) dX9_check_24 rfl (by decide) ?_
      exact px_iret dX9_check_25 rfl rfl (⟨rfl, j.thr⟩)
  obtain ⟨k, hk, rfl⟩ : ∃ k : Nat, k < w * d ∧ c = nI k := ⟨c.toInt.toNat, by omega, by rw [← iZ_n, Int.toNat_of_nonneg (by omega), iZ_i]⟩
  have hkl : (nI k).toNatClampNeg = k := nI_clamp (by omega)
  have hbok := m5 k (by omega)
  have hbk := m_hc_bd hbok
  have hbok' : 0 ≤ (η k).toInt ∧ (η k).toInt ≤ 255 := by unfold m_bok at hbok; omega
  -- the class as far as hear, the reference as far as its third look
  have start : ∀ (r : Int32) (h1 : pm_h) (g1 : pm_g), pm_Met G mX0_hear [.ref 11, .int (nI k), .int v] z z h g (pm_q (.int r) h1 g1) → pm_I h1 g1 → pm_Met G mX9_check [.ref 30, .int (nI k), .int v] z z h1 g1 (fun r' h2 g2 => r' = some (.int r) ∧ J h2 g2) →
      pm_Met G mX8_check [.ref 0, .int (nI k), .int v] z z h g (fun r' h1 g1 => r' = some (.int r) ∧ pm_I h1 g1 ∧ pm_Met G mX9_check [.ref 30, .int (nI k), .int v] z z h1 g1 (fun r' h2 g2 => r' = some (.int r) ∧ J h2 g2)) := by
    intro r h1 g1 hM I1 M2
    refine enX8_check pm_le.rf ?_
    refine px_aload_n (i := 0) (pc' := 1) dX8_check_0 rfl rfl rfl ?_
    refine pi_getr (pc' := 4) fl_8_19 dX8_check_1 rfl (by repeat (first | assumption | refine pm_I.up ?_ rfl | refine pm_I.uf ?_ rfl)) rfl rfl ?_
    refine px_iload_n (i := 1) (pc' := 5) dX8_check_4 rfl rfl rfl ?_
    refine pi_callV (pc' := 8) (c_has I m6 m7 m2 m4) okX3_has ivX3_has ml_X8_100 ⟨Nat.le_of_ble_eq_true rfl, Nat.le_of_ble_eq_true rfl⟩ dX8_check_5 rfl rfl rfl (Nat.le_of_ble_eq_true rfl) (by repeat (first | assumption | refine pm_I.up ?_ rfl | refine pm_I.uf ?_ rfl)) rfl cl_3 pm_le.rf pm_le.rf ?_
    rintro _ _ _ ⟨rfl, rfl, rfl⟩
    refine px_if_eq (tgt := 18) (pc' := 11) dX8_check_8 (by decide) rfl (fun q_ => absurd q_ (b_n0.mpr hc)) (fun _ => ?_)
    refine px_iload_n (i := 2) (pc' := 12) dX8_check_11 rfl rfl rfl ?_
    refine px_callS (pc' := 15) (c_isReading) okX8_isReading stX8_isReading ml_X8_116 ⟨Nat.le_of_ble_eq_true rfl, Nat.le_of_ble_eq_true rfl⟩ dX8_check_12 rfl rfl rfl (Nat.le_of_ble_eq_true rfl) pm_le.rf pm_le.rf ?_
    rintro _ _ _ ⟨rfl, rfl, rfl⟩
    refine px_if_ne (tgt := 20) (pc' := 18) dX8_check_15 (by decide) rfl (fun _ => ?_) (fun q_ => absurd q_ (b_n0.mpr hv))
    refine px_aload_n (i := 0) (pc' := 21) dX8_check_20 rfl rfl rfl ?_
    refine pi_getr (pc' := 24) fl_8_42 dX8_check_21 rfl (by repeat (first | assumption | refine pm_I.up ?_ rfl | refine pm_I.uf ?_ rfl)) rfl rfl ?_
    refine px_iload_n (i := 1) (pc' := 25) dX8_check_24 rfl rfl rfl ?_
    refine px_iload_n (i := 2) (pc' := 26) dX8_check_25 rfl rfl rfl ?_
    refine pi_callV (pc' := 29) (hM) okX0_hear ivX0_hear ml_X8_162 ⟨Nat.le_of_ble_eq_true rfl, Nat.le_of_ble_eq_true rfl⟩ dX8_check_26 rfl rfl rfl (Nat.le_of_ble_eq_true rfl) (by repeat (first | assumption | refine pm_I.up ?_ rfl | refine pm_I.uf ?_ rfl)) rfl cl_0 pm_le.rf pm_le.rf ?_
    rintro _ _ _ ⟨rfl, rfl, rfl⟩
    exact px_iret dX8_check_29 rfl rfl (⟨rfl, I1, M2⟩)
  have mstart : ∀ (r : Int32) (h1 : pm_h) (g1 : pm_g), pm_I h1 g1 → g1 30 9 = .int (nI w) → g1 30 10 = .int (nI d) → h1 32 = pm_ia 0 144 η → pm_W G mX9_check z (pm_Φ G z (fun r' h2 g2 => r' = some (.int r) ∧ J h2 g2)) 35 [.ref 30, .int (nI k), .int v, pm_u] [.int 255, .int (η k)] z h1 (pm_uf g1 30 0 (.int 0)) →
      pm_Met G mX9_check [.ref 30, .int (nI k), .int v] z z h1 g1 (fun r' h2 g2 => r' = some (.int r) ∧ J h2 g2) := by
    intro r h1 g1 I1 b1 b2 b3 W1
    refine enX9_check pm_le.rf ?_
    refine px_aload_n (i := 0) (pc' := 1) dX9_check_0 rfl rfl rfl ?_
    refine px_iconst (v := 0) (pc' := 2) dX9_check_1 rfl (by decide) ?_
    refine pi_puti (pc' := 5) fi_9_1 dX9_check_2 rfl (by repeat (first | assumption | refine pm_I.up ?_ rfl | refine pm_I.uf ?_ rfl)) rfl ?_
    refine px_aload_n (i := 0) (pc' := 6) dX9_check_5 rfl rfl rfl ?_
    refine px_iload_n (i := 1) (pc' := 7) dX9_check_6 rfl rfl rfl ?_
    refine pi_callV (pc' := 10) (d_isCell (by repeat (first | assumption | refine pm_I.up ?_ rfl | refine pm_I.uf ?_ rfl)) (by first | assumption | (repeat (first | exact pm_uf_e rfl | refine pm_uf_o (by decide) ?_)) <;> assumption) (by first | assumption | (repeat (first | exact pm_uf_e rfl | refine pm_uf_o (by decide) ?_)) <;> assumption) m2 m4) okX9_isCell ivX9_isCell ml_X9_139 ⟨Nat.le_of_ble_eq_true rfl, Nat.le_of_ble_eq_true rfl⟩ dX9_check_7 rfl rfl rfl (Nat.le_of_ble_eq_true rfl) (by repeat (first | assumption | refine pm_I.up ?_ rfl | refine pm_I.uf ?_ rfl)) rfl cl_9 pm_le.rf pm_le.rf ?_
    rintro _ _ _ ⟨rfl, rfl, rfl⟩
    refine px_if_eq (tgt := 24) (pc' := 13) dX9_check_10 (by decide) rfl (fun q_ => absurd q_ (b_n0.mpr hc)) (fun _ => ?_)
    refine px_iload_n (i := 2) (pc' := 14) dX9_check_13 rfl rfl rfl ?_
    refine px_if_lt (tgt := 24) (pc' := 17) dX9_check_14 (by decide) rfl (fun q_ => absurd q_ (by rw [i_lt, i_0]; omega)) (fun _ => ?_)
    refine px_iload_n (i := 2) (pc' := 18) dX9_check_17 rfl rfl rfl ?_
    refine px_sipush (v := 250) (pc' := 21) dX9_check_18 rfl (by decide) ?_
    refine px_icmp_le (tgt := 26) (pc' := 24) dX9_check_21 (by decide) rfl (fun _ => ?_) (fun q_ => absurd (by rw [i_le, l_250]; omega) q_)
    refine px_aload_n (i := 0) (pc' := 27) dX9_check_26 rfl rfl rfl ?_
    refine pi_getr (pc' := 30) fl_9_27 dX9_check_27 rfl (by repeat (first | assumption | refine pm_I.up ?_ rfl | refine pm_I.uf ?_ rfl)) rfl rfl ?_
    refine px_iload_n (i := 1) (pc' := 31) dX9_check_30 rfl rfl rfl ?_
    refine px_iald (pc' := 32) dX9_check_31 rfl (by first | assumption | (repeat (first | exact pm_up_e rfl | refine pm_up_o (by decide) ?_)) <;> assumption) (vp_in_nI (by omega) (by omega)) ?_
    rw [hkl]
    refine px_sipush (v := 255) (pc' := 35) dX9_check_32 rfl (by decide) ?_
    exact W1
  have eup : ∀ x : Int32, ¬ x = 255 → upd (m_hc η) k x = m_hc (upd η k x) := by
    intro x hx
    funext i
    by_cases hi : i = k
    · simp [upd, m_hc, hi, hx]
    · simp [upd, m_hc, hi]
  have ebok : ∀ x : Int32, 0 ≤ x.toInt ∧ x.toInt ≤ 250 → ∀ i, i < 144 → m_bok (upd η k x i) := by
    intro x hx i hi
    unfold upd
    split
    · exact Or.inl hx
    · exact m5 i hi
  have eck : ∀ (s1 f1' f2' sd' sp' n1' n2' : Nat → Int32), (∀ i, i ≠ k → s1 i = st i ∧ f1' i = f1 i ∧ f2' i = f2 i ∧ sd' i = sd i ∧ sp' i = sp i ∧ n1' i = n1 i ∧ n2' i = n2 i) → m_ck (s1 k) (f1' k) (f2' k) (sd' k) (sp' k) (n1' k) (n2' k) → ∀ i, i < w * d → m_ck (s1 i) (f1' i) (f2' i) (sd' i) (sp' i) (n1' i) (n2' i) := by
    intro s1 f1' f2' sd' sp' n1' n2' hne hk' i hi
    by_cases hik : i = k
    · rw [hik]; exact hk'
    · obtain ⟨y1, y2, y3, y4, y5, y6, y7⟩ := hne i hik
      rw [y1, y2, y3, y4, y5, y6, y7]
      exact x1 i hi
  have us : ∀ (f : Nat → Int32) (x : Int32), upd f k x k = x := fun f x => if_pos rfl
  have un : ∀ (f : Nat → Int32) (x : Int32) (i : Nat), i ≠ k → upd f k x i = f i := fun f x i hi => if_neg hi
  have v255 : ¬ v = 255 := fun q => by rw [q, l_255] at hv; omega
  by_cases hu : (η k).toInt = 255
  · have hu' : m_hc η k = -1 := by rw [i_eq, l_m1]; exact (m_hc_u hbok).mpr hu
    have hu2 : η k = 255 := by rw [i_eq, l_255]; exact hu
    refine ⟨2, start _ _ _ (c_hear_u I m6 m7 m8 m2 m4 hk x2 x5 hu') (by repeat (first | assumption | refine pm_I.up ?_ rfl | refine pm_I.uf ?_ rfl)) (mstart _ _ _ (by repeat (first | assumption | refine pm_I.up ?_ rfl | refine pm_I.uf ?_ rfl)) (by first | assumption | (repeat (first | exact pm_uf_e rfl | refine pm_uf_o (by decide) ?_)) <;> assumption) (by first | assumption | (repeat (first | exact pm_uf_e rfl | refine pm_uf_o (by decide) ?_)) <;> assumption) (by first | assumption | (repeat (first | exact pm_up_e rfl | refine pm_up_o (by decide) ?_)) <;> assumption) ?_)⟩
    refine px_icmp_ne (tgt := 64) (pc' := 38) dX9_check_35 (by decide) rfl (fun q_ => absurd (hu2) q_) (fun _ => ?_)
    refine px_aload_n (i := 0) (pc' := 39) dX9_check_38 rfl rfl rfl ?_
    refine pi_getr (pc' := 42) fl_9_27 dX9_check_39 rfl (by repeat (first | assumption | refine pm_I.up ?_ rfl | refine pm_I.uf ?_ rfl)) rfl rfl ?_
    refine px_iload_n (i := 1) (pc' := 43) dX9_check_42 rfl rfl rfl ?_
    refine px_iload_n (i := 2) (pc' := 44) dX9_check_43 rfl rfl rfl ?_
    refine px_iast (pc' := 45) dX9_check_44 rfl (by first | assumption | (repeat (first | exact pm_up_e rfl | refine pm_up_o (by decide) ?_)) <;> assumption) (vp_in_nI (by omega) (by omega)) ?_
    refine px_aload_n (i := 0) (pc' := 46) dX9_check_45 rfl rfl rfl ?_
    refine pi_getr (pc' := 49) fl_9_34 dX9_check_46 rfl (by repeat (first | assumption | refine pm_I.up ?_ rfl | refine pm_I.uf ?_ rfl)) rfl rfl ?_
    refine px_iload_n (i := 1) (pc' := 50) dX9_check_49 rfl rfl rfl ?_
    refine px_iconst (v := 0) (pc' := 51) dX9_check_50 rfl (by decide) ?_
    refine px_iast (pc' := 52) dX9_check_51 rfl (by first | assumption | (repeat (first | exact pm_up_e rfl | refine pm_up_o (by decide) ?_)) <;> assumption) (vp_in_nI (by omega) (by omega)) ?_
    refine px_aload_n (i := 0) (pc' := 53) dX9_check_52 rfl rfl rfl ?_
    refine px_dup (pc' := 54) dX9_check_53 rfl rfl ?_
    refine pi_geti (pc' := 57) fl_9_118 dX9_check_54 rfl (by repeat (first | assumption | refine pm_I.up ?_ rfl | refine pm_I.uf ?_ rfl)) rfl (by first | assumption | (repeat (first | exact pm_uf_e rfl | refine pm_uf_o (by decide) ?_)) <;> assumption) ?_
    refine px_iconst (v := 1) (pc' := 58) dX9_check_57 rfl (by decide) ?_
    refine px_iadd (pc' := 59) dX9_check_58 rfl ?_
    refine pi_puti (pc' := 62) fi_9_118 dX9_check_59 rfl (by repeat (first | assumption | refine pm_I.up ?_ rfl | refine pm_I.uf ?_ rfl)) rfl ?_
    refine px_iconst (v := 2) (pc' := 63) dX9_check_62 rfl (by decide) ?_
    rw [hkl, nI_1]
    exact px_iret dX9_check_63 rfl rfl (⟨rfl, (by repeat (first | assumption | refine pm_I.up ?_ rfl | refine pm_I.uf ?_ rfl)), ⟨n, T, q1.keep rfl rfl rfl rfl⟩, ⟨w, d, upd η k v, ⟨m1, m2, m3, m4, ebok v hv, (by first | assumption | (repeat (first | exact pm_uf_e rfl | refine pm_uf_o (by decide) ?_)) <;> assumption), (by first | assumption | (repeat (first | exact pm_uf_e rfl | refine pm_uf_o (by decide) ?_)) <;> assumption), by rw [← eup v v255]; exact (by first | assumption | (repeat (first | exact pm_up_e rfl | refine pm_up_o (by decide) ?_)) <;> assumption), (by first | assumption | (repeat (first | exact pm_uf_e rfl | refine pm_uf_o (by decide) ?_)) <;> assumption), (by first | assumption | (repeat (first | exact pm_uf_e rfl | refine pm_uf_o (by decide) ?_)) <;> assumption), (by first | assumption | (repeat (first | exact pm_up_e rfl | refine pm_up_o (by decide) ?_)) <;> assumption)⟩, ⟨upd st k 0, f1, f2, sd, upd sp k 0, n1, n2, mm + 1, eck _ _ _ _ _ _ _ (fun i hi => ⟨un _ _ _ hi, rfl, rfl, rfl, un _ _ _ hi, rfl, rfl⟩) (Or.inl ⟨us _ _, us _ _⟩), (by first | assumption | (repeat (first | exact pm_up_e rfl | refine pm_up_o (by decide) ?_)) <;> assumption), (by first | assumption | (repeat (first | exact pm_up_e rfl | refine pm_up_o (by decide) ?_)) <;> assumption), (by first | assumption | (repeat (first | exact pm_up_e rfl | refine pm_up_o (by decide) ?_)) <;> assumption), (by first | assumption | (repeat (first | exact pm_uf_e rfl | refine pm_uf_o (by decide) ?_)) <;> assumption), (by first | assumption | (repeat (first | exact pm_up_e rfl | refine pm_up_o (by decide) ?_)) <;> assumption), (by first | assumption | (repeat (first | exact pm_up_e rfl | refine pm_up_o (by decide) ?_)) <;> assumption), (by first | assumption | (repeat (first | exact pm_up_e rfl | refine pm_up_o (by decide) ?_)) <;> assumption), (by first | assumption | (repeat (first | exact pm_up_e rfl | refine pm_up_o (by decide) ?_)) <;> assumption), (by first | assumption | (repeat (first | exact pm_uf_e rfl | refine pm_uf_o (by decide) ?_)) <;> assumption)⟩, q4.keep rfl rfl rfl rfl rfl rfl rfl rfl rfl rfl rfl rfl rfl rfl rfl rfl rfl rfl rfl rfl⟩, ⟨e, a0, a1, q5.keep rfl rfl rfl rfl rfl rfl⟩, q6.keep rfl rfl rfl rfl rfl rfl rfl rfl rfl rfl rfl rfl rfl rfl rfl, q7.keep rfl rfl rfl rfl rfl rfl rfl rfl rfl, q8⟩)
  have hk1 : m_hc η k = η k := m_hc_k hu
  have hu2 : ¬ η k = 255 := fun q => hu (by rw [q]; exact l_255)
  have ee : (nI e).toInt = e := nI_toInt (by omega)
  have hb1 : 0 ≤ (m_hc η k).toInt ∧ (m_hc η k).toInt ≤ 255 := by rw [hk1]; exact hbok'
  by_cases hf : (((η k).toInt - v.toInt).natAbs : Int) ≤ e
  · refine ⟨0, start _ _ _ (c_hear_t I m6 m7 m8 m2 m4 hk x2 g5 (by omega) hb1 (by rw [hk1, ee]; exact hf)) (by repeat (first | assumption | refine pm_I.up ?_ rfl | refine pm_I.uf ?_ rfl)) (mstart _ _ _ (by repeat (first | assumption | refine pm_I.up ?_ rfl | refine pm_I.uf ?_ rfl)) (by first | assumption | (repeat (first | exact pm_uf_e rfl | refine pm_uf_o (by decide) ?_)) <;> assumption) (by first | assumption | (repeat (first | exact pm_uf_e rfl | refine pm_uf_o (by decide) ?_)) <;> assumption) (by first | assumption | (repeat (first | exact pm_up_e rfl | refine pm_up_o (by decide) ?_)) <;> assumption) ?_)⟩
    refine px_icmp_ne (tgt := 64) (pc' := 38) dX9_check_35 (by decide) rfl (fun _ => ?_) (fun q_ => absurd q_ (hu2))
    refine px_aload_n (i := 0) (pc' := 65) dX9_check_64 rfl rfl rfl ?_
    refine px_iload_n (i := 1) (pc' := 66) dX9_check_65 rfl rfl rfl ?_
    refine px_iload_n (i := 2) (pc' := 67) dX9_check_66 rfl rfl rfl ?_
    refine pi_callV (pc' := 70) (d_fits (by repeat (first | assumption | refine pm_I.up ?_ rfl | refine pm_I.uf ?_ rfl)) (by first | assumption | (repeat (first | exact pm_uf_e rfl | refine pm_uf_o (by decide) ?_)) <;> assumption) g1 (by first | assumption | (repeat (first | exact pm_up_e rfl | refine pm_up_o (by decide) ?_)) <;> assumption) (by omega) (by omega) hbok') okX9_fits ivX9_fits ml_X9_153 ⟨Nat.le_of_ble_eq_true rfl, Nat.le_of_ble_eq_true rfl⟩ dX9_check_67 rfl rfl rfl (Nat.le_of_ble_eq_true rfl) (by repeat (first | assumption | refine pm_I.up ?_ rfl | refine pm_I.uf ?_ rfl)) rfl cl_9 pm_le.rf pm_le.rf ?_
    rintro _ _ _ ⟨rfl, rfl, rfl⟩
    refine px_if_eq (tgt := 82) (pc' := 73) dX9_check_70 (by decide) rfl (fun q_ => absurd q_ (b_n0.mpr (Or.inr hf))) (fun _ => ?_)
    refine px_aload_n (i := 0) (pc' := 74) dX9_check_73 rfl rfl rfl ?_
    refine pi_getr (pc' := 77) fl_9_34 dX9_check_74 rfl (by repeat (first | assumption | refine pm_I.up ?_ rfl | refine pm_I.uf ?_ rfl)) rfl rfl ?_
    refine px_iload_n (i := 1) (pc' := 78) dX9_check_77 rfl rfl rfl ?_
    refine px_iconst (v := 0) (pc' := 79) dX9_check_78 rfl (by decide) ?_
    refine px_iast (pc' := 80) dX9_check_79 rfl (by first | assumption | (repeat (first | exact pm_up_e rfl | refine pm_up_o (by decide) ?_)) <;> assumption) (vp_in_nI (by omega) (by omega)) ?_
    refine px_iconst (v := 0) (pc' := 81) dX9_check_80 rfl (by decide) ?_
    rw [hkl]
    exact px_iret dX9_check_81 rfl rfl (⟨rfl, (by repeat (first | assumption | refine pm_I.up ?_ rfl | refine pm_I.uf ?_ rfl)), ⟨n, T, q1.keep rfl rfl rfl rfl⟩, ⟨w, d, η, q2.keep rfl rfl rfl rfl rfl rfl, ⟨upd st k 0, f1, f2, sd, upd sp k 0, n1, n2, mm, eck _ _ _ _ _ _ _ (fun i hi => ⟨un _ _ _ hi, rfl, rfl, rfl, un _ _ _ hi, rfl, rfl⟩) (Or.inl ⟨us _ _, us _ _⟩), (by first | assumption | (repeat (first | exact pm_up_e rfl | refine pm_up_o (by decide) ?_)) <;> assumption), (by first | assumption | (repeat (first | exact pm_up_e rfl | refine pm_up_o (by decide) ?_)) <;> assumption), (by first | assumption | (repeat (first | exact pm_up_e rfl | refine pm_up_o (by decide) ?_)) <;> assumption), (by first | assumption | (repeat (first | exact pm_uf_e rfl | refine pm_uf_o (by decide) ?_)) <;> assumption), (by first | assumption | (repeat (first | exact pm_up_e rfl | refine pm_up_o (by decide) ?_)) <;> assumption), (by first | assumption | (repeat (first | exact pm_up_e rfl | refine pm_up_o (by decide) ?_)) <;> assumption), (by first | assumption | (repeat (first | exact pm_up_e rfl | refine pm_up_o (by decide) ?_)) <;> assumption), (by first | assumption | (repeat (first | exact pm_up_e rfl | refine pm_up_o (by decide) ?_)) <;> assumption), (by first | assumption | (repeat (first | exact pm_uf_e rfl | refine pm_uf_o (by decide) ?_)) <;> assumption)⟩, q4.keep rfl rfl rfl rfl rfl rfl rfl rfl rfl rfl rfl rfl rfl rfl rfl rfl rfl rfl rfl rfl⟩, ⟨e, a0, a1, q5.keep rfl rfl rfl rfl rfl rfl⟩, q6.keep rfl rfl rfl rfl rfl rfl rfl rfl rfl rfl rfl rfl rfl rfl rfl, q7.keep rfl rfl rfl rfl rfl rfl rfl rfl rfl, q8⟩)
  obtain ⟨way, hway⟩ : ∃ way : Int32, way = if m_hc η k < v then 1 else -1 := ⟨_, rfl⟩
  have hw1 : way = 1 ∨ way = -1 := by rw [hway]; split <;> simp
  have hA := fun (r : Int32) (h1 : pm_h) (g1 : pm_g) (M : pm_Met G mX0_hearAgainst [.ref 11, .int (nI k), .int v, .int way] z z h g (pm_q (.int r) h1 g1)) => c_hear_a (Q := fun _ _ _ => True) I m6 m7 m8 m2 m4 hk g5 (by omega) hb1 (by rw [hk1, ee]; exact hf) rfl (hway ▸ M)
  have mgo : ∀ (r : Int32) (hx : pm_h) (gx : pm_g), pm_I hx gx → gx 30 11 = .int (nI e) → hx 32 = pm_ia 0 144 η → pm_W G mX9_check z (pm_Φ G z (fun r' h2 g2 => r' = some (.int r) ∧ J h2 g2)) 98 [.ref 30, .int (nI k), .int v, .int way] [] z hx (pm_uf gx 30 0 (.int 0)) →
      pm_W G mX9_check z (pm_Φ G z (fun r' h2 g2 => r' = some (.int r) ∧ J h2 g2)) 35 [.ref 30, .int (nI k), .int v, pm_u] [.int 255, .int (η k)] z hx (pm_uf gx 30 0 (.int 0)) := by
    intro r hx gx I1 b1 b2 W1
    refine px_icmp_ne (tgt := 64) (pc' := 38) dX9_check_35 (by decide) rfl (fun _ => ?_) (fun q_ => absurd q_ (hu2))
    refine px_aload_n (i := 0) (pc' := 65) dX9_check_64 rfl rfl rfl ?_
    refine px_iload_n (i := 1) (pc' := 66) dX9_check_65 rfl rfl rfl ?_
    refine px_iload_n (i := 2) (pc' := 67) dX9_check_66 rfl rfl rfl ?_
    refine pi_callV (pc' := 70) (d_fits (by repeat (first | assumption | refine pm_I.up ?_ rfl | refine pm_I.uf ?_ rfl)) (by first | assumption | (repeat (first | exact pm_uf_e rfl | refine pm_uf_o (by decide) ?_)) <;> assumption) g1 (by first | assumption | (repeat (first | exact pm_up_e rfl | refine pm_up_o (by decide) ?_)) <;> assumption) (by omega) (by omega) hbok') okX9_fits ivX9_fits ml_X9_153 ⟨Nat.le_of_ble_eq_true rfl, Nat.le_of_ble_eq_true rfl⟩ dX9_check_67 rfl rfl rfl (Nat.le_of_ble_eq_true rfl) (by repeat (first | assumption | refine pm_I.up ?_ rfl | refine pm_I.uf ?_ rfl)) rfl cl_9 pm_le.rf pm_le.rf ?_
    rintro _ _ _ ⟨rfl, rfl, rfl⟩
    refine px_if_eq (tgt := 82) (pc' := 73) dX9_check_70 (by decide) rfl (fun _ => ?_) (fun q_ => absurd (b_0.mpr (fun hh => hh.elim hu hf)) q_)
    refine px_iload_n (i := 2) (pc' := 83) dX9_check_82 rfl rfl rfl ?_
    refine px_aload_n (i := 0) (pc' := 84) dX9_check_83 rfl rfl rfl ?_
    refine pi_getr (pc' := 87) fl_9_27 dX9_check_84 rfl (by repeat (first | assumption | refine pm_I.up ?_ rfl | refine pm_I.uf ?_ rfl)) rfl rfl ?_
    refine px_iload_n (i := 1) (pc' := 88) dX9_check_87 rfl rfl rfl ?_
    refine px_iald (pc' := 89) dX9_check_88 rfl (by first | assumption | (repeat (first | exact pm_up_e rfl | refine pm_up_o (by decide) ?_)) <;> assumption) (vp_in_nI (by omega) (by omega)) ?_
    rw [hkl]
    refine px_icmp_le (tgt := 96) (pc' := 92) dX9_check_89 (by decide) rfl (fun q => ?_) (fun q => ?_)
    · rw [if_neg (by rw [hk1, i_lt]; rw [i_le] at q; omega)] at hway
      subst hway
      refine px_iconst (v := -1) (pc' := 97) dX9_check_96 rfl (by decide) ?_
      refine sx_i_n_4_3 (pc' := 98) dX9_check_97 rfl rfl rfl rfl ?_
      exact W1
    · rw [if_pos (by rw [hk1, i_lt]; rw [i_le] at q; omega)] at hway
      subst hway
      refine px_iconst (v := 1) (pc' := 93) dX9_check_92 rfl (by decide) ?_
      refine px_goto (tgt := 97) dX9_check_93 (by decide) ?_
      refine sx_i_n_4_3 (pc' := 98) dX9_check_97 rfl rfl rfl rfl ?_
      exact W1
  -- the first that speaks that way
  have first : ¬ 0 < st k * way → (sp k = 0 ∨ ¬ sd k = way) → ∃ r : Int32, pm_Met G mX8_check [.ref 0, .int (nI k), .int v] z z h g (fun r' h1 g1 => r' = some (.int r) ∧ pm_I h1 g1 ∧ pm_Met G mX9_check [.ref 30, .int (nI k), .int v] z z h1 g1 (fun r' h2 g2 => r' = some (.int r) ∧ J h2 g2)) := by
    intro c1 c2
    refine ⟨1, start _ _ _ (hA _ _ _ (c_hearA0 I (by omega) x2 x3 c1)) (by repeat (first | assumption | refine pm_I.up ?_ rfl | refine pm_I.uf ?_ rfl)) (mstart _ _ _ (by repeat (first | assumption | refine pm_I.up ?_ rfl | refine pm_I.uf ?_ rfl)) (by first | assumption | (repeat (first | exact pm_uf_e rfl | refine pm_uf_o (by decide) ?_)) <;> assumption) (by first | assumption | (repeat (first | exact pm_uf_e rfl | refine pm_uf_o (by decide) ?_)) <;> assumption) (by first | assumption | (repeat (first | exact pm_up_e rfl | refine pm_up_o (by decide) ?_)) <;> assumption) (mgo _ _ _ (by repeat (first | assumption | refine pm_I.up ?_ rfl | refine pm_I.uf ?_ rfl)) (by first | assumption | (repeat (first | exact pm_uf_e rfl | refine pm_uf_o (by decide) ?_)) <;> assumption) (by first | assumption | (repeat (first | exact pm_up_e rfl | refine pm_up_o (by decide) ?_)) <;> assumption) ?_))⟩
    have tail : pm_W G mX9_check z (pm_Φ G z (fun r' h2 g2 => r' = some (.int 1) ∧ J h2 g2)) 117 [.ref 30, .int (nI k), .int v, .int way] [] z (pm_up (pm_up h 13 (pm_ia 0 144 (upd f1 k v))) 12 (pm_ia 0 144 (upd st k way))) (pm_uf g 30 0 (.int 0)) := by
      refine px_aload_n (i := 0) (pc' := 118) dX9_check_117 rfl rfl rfl ?_
      refine pi_getr (pc' := 121) fl_9_34 dX9_check_118 rfl (by repeat (first | assumption | refine pm_I.up ?_ rfl | refine pm_I.uf ?_ rfl)) rfl rfl ?_
      refine px_iload_n (i := 1) (pc' := 122) dX9_check_121 rfl rfl rfl ?_
      refine px_iconst (v := 1) (pc' := 123) dX9_check_122 rfl (by decide) ?_
      refine px_iast (pc' := 124) dX9_check_123 rfl (by first | assumption | (repeat (first | exact pm_up_e rfl | refine pm_up_o (by decide) ?_)) <;> assumption) (vp_in_nI (by omega) (by omega)) ?_
      refine px_aload_n (i := 0) (pc' := 125) dX9_check_124 rfl rfl rfl ?_
      refine pi_getr (pc' := 128) fl_9_31 dX9_check_125 rfl (by repeat (first | assumption | refine pm_I.up ?_ rfl | refine pm_I.uf ?_ rfl)) rfl rfl ?_
      refine px_iload_n (i := 1) (pc' := 129) dX9_check_128 rfl rfl rfl ?_
      refine px_iload_n (i := 3) (pc' := 130) dX9_check_129 rfl rfl rfl ?_
      refine px_iast (pc' := 131) dX9_check_130 rfl (by first | assumption | (repeat (first | exact pm_up_e rfl | refine pm_up_o (by decide) ?_)) <;> assumption) (vp_in_nI (by omega) (by omega)) ?_
      refine px_aload_n (i := 0) (pc' := 132) dX9_check_131 rfl rfl rfl ?_
      refine pi_getr (pc' := 135) fl_9_37 dX9_check_132 rfl (by repeat (first | assumption | refine pm_I.up ?_ rfl | refine pm_I.uf ?_ rfl)) rfl rfl ?_
      refine px_iload_n (i := 1) (pc' := 136) dX9_check_135 rfl rfl rfl ?_
      refine px_iload_n (i := 2) (pc' := 137) dX9_check_136 rfl rfl rfl ?_
      refine px_iast (pc' := 138) dX9_check_137 rfl (by first | assumption | (repeat (first | exact pm_up_e rfl | refine pm_up_o (by decide) ?_)) <;> assumption) (vp_in_nI (by omega) (by omega)) ?_
      refine px_iconst (v := 1) (pc' := 139) dX9_check_138 rfl (by decide) ?_
      rw [hkl]
      exact px_iret dX9_check_139 rfl rfl (⟨rfl, (by repeat (first | assumption | refine pm_I.up ?_ rfl | refine pm_I.uf ?_ rfl)), ⟨n, T, q1.keep rfl rfl rfl rfl⟩, ⟨w, d, η, q2.keep rfl rfl rfl rfl rfl rfl, ⟨upd st k way, upd f1 k v, f2, upd sd k way, upd sp k 1, upd n1 k v, n2, mm, eck _ _ _ _ _ _ _ (fun i hi => ⟨un _ _ _ hi, un _ _ _ hi, rfl, un _ _ _ hi, un _ _ _ hi, un _ _ _ hi, rfl⟩) (Or.inr (Or.inl ⟨us _ _, by rw [us]; exact hw1, by rw [us, us], by rw [us, us], by rw [us]; exact hv⟩)), (by first | assumption | (repeat (first | exact pm_up_e rfl | refine pm_up_o (by decide) ?_)) <;> assumption), (by first | assumption | (repeat (first | exact pm_up_e rfl | refine pm_up_o (by decide) ?_)) <;> assumption), (by first | assumption | (repeat (first | exact pm_up_e rfl | refine pm_up_o (by decide) ?_)) <;> assumption), (by first | assumption | (repeat (first | exact pm_uf_e rfl | refine pm_uf_o (by decide) ?_)) <;> assumption), (by first | assumption | (repeat (first | exact pm_up_e rfl | refine pm_up_o (by decide) ?_)) <;> assumption), (by first | assumption | (repeat (first | exact pm_up_e rfl | refine pm_up_o (by decide) ?_)) <;> assumption), (by first | assumption | (repeat (first | exact pm_up_e rfl | refine pm_up_o (by decide) ?_)) <;> assumption), (by first | assumption | (repeat (first | exact pm_up_e rfl | refine pm_up_o (by decide) ?_)) <;> assumption), (by first | assumption | (repeat (first | exact pm_uf_e rfl | refine pm_uf_o (by decide) ?_)) <;> assumption)⟩, q4.keep rfl rfl rfl rfl rfl rfl rfl rfl rfl rfl rfl rfl rfl rfl rfl rfl rfl rfl rfl rfl⟩, ⟨e, a0, a1, q5.keep rfl rfl rfl rfl rfl rfl⟩, q6.keep rfl rfl rfl rfl rfl rfl rfl rfl rfl rfl rfl rfl rfl rfl rfl, q7.keep rfl rfl rfl rfl rfl rfl rfl rfl rfl, q8⟩)
    refine px_aload_n (i := 0) (pc' := 99) dX9_check_98 rfl rfl rfl ?_
    refine pi_getr (pc' := 102) fl_9_34 dX9_check_99 rfl (by repeat (first | assumption | refine pm_I.up ?_ rfl | refine pm_I.uf ?_ rfl)) rfl rfl ?_
    refine px_iload_n (i := 1) (pc' := 103) dX9_check_102 rfl rfl rfl ?_
    refine px_iald (pc' := 104) dX9_check_103 rfl (by first | assumption | (repeat (first | exact pm_up_e rfl | refine pm_up_o (by decide) ?_)) <;> assumption) (vp_in_nI (by omega) (by omega)) ?_
    rw [hkl]
    by_cases c3 : sp k = 0
    · refine px_if_eq (tgt := 117) (pc' := 107) dX9_check_104 (by decide) rfl (fun _ => ?_) (fun q_ => absurd (c3) q_)
      exact tail
    · refine px_if_eq (tgt := 117) (pc' := 107) dX9_check_104 (by decide) rfl (fun q_ => absurd q_ (c3)) (fun _ => ?_)
      refine px_aload_n (i := 0) (pc' := 108) dX9_check_107 rfl rfl rfl ?_
      refine pi_getr (pc' := 111) fl_9_31 dX9_check_108 rfl (by repeat (first | assumption | refine pm_I.up ?_ rfl | refine pm_I.uf ?_ rfl)) rfl rfl ?_
      refine px_iload_n (i := 1) (pc' := 112) dX9_check_111 rfl rfl rfl ?_
      refine px_iald (pc' := 113) dX9_check_112 rfl (by first | assumption | (repeat (first | exact pm_up_e rfl | refine pm_up_o (by decide) ?_)) <;> assumption) (vp_in_nI (by omega) (by omega)) ?_
      refine px_iload_n (i := 3) (pc' := 114) dX9_check_113 rfl rfl rfl ?_
      rw [hkl]
      refine px_icmp_eq (tgt := 140) (pc' := 117) dX9_check_114 (by decide) rfl (fun q_ => absurd q_ (c2.resolve_left c3)) (fun _ => ?_)
      exact tail
  have hck := x1 k hk
  rcases hck with ⟨k1, k2⟩ | ⟨k1, k2, k3, k4, k5⟩ | ⟨k1, k2, k3, k4, k5, k6, k7⟩
  · exact first (by rw [k2]; rcases hw1 with rfl | rfl <;> decide) (Or.inl k1)
  · by_cases hs : sd k = way
    · refine ⟨1, start _ _ _ (hA _ _ _ (c_hearA1 I (by omega) x2 x4 (by rw [k3, hs]; rcases hw1 with rfl | rfl <;> decide))) (by repeat (first | assumption | refine pm_I.up ?_ rfl | refine pm_I.uf ?_ rfl)) (mstart _ _ _ (by repeat (first | assumption | refine pm_I.up ?_ rfl | refine pm_I.uf ?_ rfl)) (by first | assumption | (repeat (first | exact pm_uf_e rfl | refine pm_uf_o (by decide) ?_)) <;> assumption) (by first | assumption | (repeat (first | exact pm_uf_e rfl | refine pm_uf_o (by decide) ?_)) <;> assumption) (by first | assumption | (repeat (first | exact pm_up_e rfl | refine pm_up_o (by decide) ?_)) <;> assumption) (mgo _ _ _ (by repeat (first | assumption | refine pm_I.up ?_ rfl | refine pm_I.uf ?_ rfl)) (by first | assumption | (repeat (first | exact pm_uf_e rfl | refine pm_uf_o (by decide) ?_)) <;> assumption) (by first | assumption | (repeat (first | exact pm_up_e rfl | refine pm_up_o (by decide) ?_)) <;> assumption) ?_))⟩
      refine px_aload_n (i := 0) (pc' := 99) dX9_check_98 rfl rfl rfl ?_
      refine pi_getr (pc' := 102) fl_9_34 dX9_check_99 rfl (by repeat (first | assumption | refine pm_I.up ?_ rfl | refine pm_I.uf ?_ rfl)) rfl rfl ?_
      refine px_iload_n (i := 1) (pc' := 103) dX9_check_102 rfl rfl rfl ?_
      refine px_iald (pc' := 104) dX9_check_103 rfl (by first | assumption | (repeat (first | exact pm_up_e rfl | refine pm_up_o (by decide) ?_)) <;> assumption) (vp_in_nI (by omega) (by omega)) ?_
      rw [hkl, k1]
      refine px_if_eq (tgt := 117) (pc' := 107) dX9_check_104 (by decide) rfl (fun q_ => absurd q_ (by decide)) (fun _ => ?_)
      refine px_aload_n (i := 0) (pc' := 108) dX9_check_107 rfl rfl rfl ?_
      refine pi_getr (pc' := 111) fl_9_31 dX9_check_108 rfl (by repeat (first | assumption | refine pm_I.up ?_ rfl | refine pm_I.uf ?_ rfl)) rfl rfl ?_
      refine px_iload_n (i := 1) (pc' := 112) dX9_check_111 rfl rfl rfl ?_
      refine px_iald (pc' := 113) dX9_check_112 rfl (by first | assumption | (repeat (first | exact pm_up_e rfl | refine pm_up_o (by decide) ?_)) <;> assumption) (vp_in_nI (by omega) (by omega)) ?_
      refine px_iload_n (i := 3) (pc' := 114) dX9_check_113 rfl rfl rfl ?_
      rw [hkl]
      refine px_icmp_eq (tgt := 140) (pc' := 117) dX9_check_114 (by decide) rfl (fun _ => ?_) (fun q_ => absurd (hs) q_)
      refine px_aload_n (i := 0) (pc' := 141) dX9_check_140 rfl rfl rfl ?_
      refine pi_getr (pc' := 144) fl_9_34 dX9_check_141 rfl (by repeat (first | assumption | refine pm_I.up ?_ rfl | refine pm_I.uf ?_ rfl)) rfl rfl ?_
      refine px_iload_n (i := 1) (pc' := 145) dX9_check_144 rfl rfl rfl ?_
      refine px_iald (pc' := 146) dX9_check_145 rfl (by first | assumption | (repeat (first | exact pm_up_e rfl | refine pm_up_o (by decide) ?_)) <;> assumption) (vp_in_nI (by omega) (by omega)) ?_
      refine px_iconst (v := 1) (pc' := 147) dX9_check_146 rfl (by decide) ?_
      rw [hkl, k1]
      refine px_icmp_ne (tgt := 166) (pc' := 150) dX9_check_147 (by decide) rfl (fun q_ => absurd (rfl) q_) (fun _ => ?_)
      refine px_aload_n (i := 0) (pc' := 151) dX9_check_150 rfl rfl rfl ?_
      refine pi_getr (pc' := 154) fl_9_34 dX9_check_151 rfl (by repeat (first | assumption | refine pm_I.up ?_ rfl | refine pm_I.uf ?_ rfl)) rfl rfl ?_
      refine px_iload_n (i := 1) (pc' := 155) dX9_check_154 rfl rfl rfl ?_
      refine px_iconst (v := 2) (pc' := 156) dX9_check_155 rfl (by decide) ?_
      refine px_iast (pc' := 157) dX9_check_156 rfl (by first | assumption | (repeat (first | exact pm_up_e rfl | refine pm_up_o (by decide) ?_)) <;> assumption) (vp_in_nI (by omega) (by omega)) ?_
      refine px_aload_n (i := 0) (pc' := 158) dX9_check_157 rfl rfl rfl ?_
      refine pi_getr (pc' := 161) fl_9_40 dX9_check_158 rfl (by repeat (first | assumption | refine pm_I.up ?_ rfl | refine pm_I.uf ?_ rfl)) rfl rfl ?_
      refine px_iload_n (i := 1) (pc' := 162) dX9_check_161 rfl rfl rfl ?_
      refine px_iload_n (i := 2) (pc' := 163) dX9_check_162 rfl rfl rfl ?_
      refine px_iast (pc' := 164) dX9_check_163 rfl (by first | assumption | (repeat (first | exact pm_up_e rfl | refine pm_up_o (by decide) ?_)) <;> assumption) (vp_in_nI (by omega) (by omega)) ?_
      refine px_iconst (v := 1) (pc' := 165) dX9_check_164 rfl (by decide) ?_
      rw [hkl]
      exact px_iret dX9_check_165 rfl rfl (⟨rfl, (by repeat (first | assumption | refine pm_I.up ?_ rfl | refine pm_I.uf ?_ rfl)), ⟨n, T, q1.keep rfl rfl rfl rfl⟩, ⟨w, d, η, q2.keep rfl rfl rfl rfl rfl rfl, ⟨upd st k (2 * way), f1, upd f2 k v, sd, upd sp k 2, n1, upd n2 k v, mm, eck _ _ _ _ _ _ _ (fun i hi => ⟨un _ _ _ hi, rfl, un _ _ _ hi, rfl, un _ _ _ hi, rfl, un _ _ _ hi⟩) (Or.inr (Or.inr ⟨us _ _, k2, by rw [us, hs], k4, k5, by rw [us, us], by rw [us]; exact hv⟩)), (by first | assumption | (repeat (first | exact pm_up_e rfl | refine pm_up_o (by decide) ?_)) <;> assumption), (by first | assumption | (repeat (first | exact pm_up_e rfl | refine pm_up_o (by decide) ?_)) <;> assumption), (by first | assumption | (repeat (first | exact pm_up_e rfl | refine pm_up_o (by decide) ?_)) <;> assumption), (by first | assumption | (repeat (first | exact pm_uf_e rfl | refine pm_uf_o (by decide) ?_)) <;> assumption), (by first | assumption | (repeat (first | exact pm_up_e rfl | refine pm_up_o (by decide) ?_)) <;> assumption), (by first | assumption | (repeat (first | exact pm_up_e rfl | refine pm_up_o (by decide) ?_)) <;> assumption), (by first | assumption | (repeat (first | exact pm_up_e rfl | refine pm_up_o (by decide) ?_)) <;> assumption), (by first | assumption | (repeat (first | exact pm_up_e rfl | refine pm_up_o (by decide) ?_)) <;> assumption), (by first | assumption | (repeat (first | exact pm_uf_e rfl | refine pm_uf_o (by decide) ?_)) <;> assumption)⟩, q4.keep rfl rfl rfl rfl rfl rfl rfl rfl rfl rfl rfl rfl rfl rfl rfl rfl rfl rfl rfl rfl⟩, ⟨e, a0, a1, q5.keep rfl rfl rfl rfl rfl rfl⟩, q6.keep rfl rfl rfl rfl rfl rfl rfl rfl rfl rfl rfl rfl rfl rfl rfl, q7.keep rfl rfl rfl rfl rfl rfl rfl rfl rfl, q8⟩)
    · exact first (by rw [k3]; rcases k2 with k2 | k2 <;> rw [k2] at hs ⊢ <;> rcases hw1 with rfl | rfl <;> first | decide | exact absurd rfl hs) (Or.inr hs)
  · by_cases hs : sd k = way
    · have hmh := m_mid_hr k5 k7 hv
      have hm255 : ¬ m_mid (n1 k) (n2 k) v = 255 := fun q => by rw [q] at hmh; unfold m_hr at hmh; rw [l_255] at hmh; omega
      have hM := c_hearA2 (G := G) (z := z) (v := v) I m6 m7 m8 m2 m4 hk x2 x5 x3 x4 (show st k * way = 2 by rw [k3, hs]; rcases hw1 with rfl | rfl <;> decide)
      rw [k4, k6] at hM
      refine ⟨2, start _ _ _ (hA _ _ _ hM) (by repeat (first | assumption | refine pm_I.up ?_ rfl | refine pm_I.uf ?_ rfl)) (mstart _ _ _ (by repeat (first | assumption | refine pm_I.up ?_ rfl | refine pm_I.uf ?_ rfl)) (by first | assumption | (repeat (first | exact pm_uf_e rfl | refine pm_uf_o (by decide) ?_)) <;> assumption) (by first | assumption | (repeat (first | exact pm_uf_e rfl | refine pm_uf_o (by decide) ?_)) <;> assumption) (by first | assumption | (repeat (first | exact pm_up_e rfl | refine pm_up_o (by decide) ?_)) <;> assumption) (mgo _ _ _ (by repeat (first | assumption | refine pm_I.up ?_ rfl | refine pm_I.uf ?_ rfl)) (by first | assumption | (repeat (first | exact pm_uf_e rfl | refine pm_uf_o (by decide) ?_)) <;> assumption) (by first | assumption | (repeat (first | exact pm_up_e rfl | refine pm_up_o (by decide) ?_)) <;> assumption) ?_))⟩
      refine px_aload_n (i := 0) (pc' := 99) dX9_check_98 rfl rfl rfl ?_
      refine pi_getr (pc' := 102) fl_9_34 dX9_check_99 rfl (by repeat (first | assumption | refine pm_I.up ?_ rfl | refine pm_I.uf ?_ rfl)) rfl rfl ?_
      refine px_iload_n (i := 1) (pc' := 103) dX9_check_102 rfl rfl rfl ?_
      refine px_iald (pc' := 104) dX9_check_103 rfl (by first | assumption | (repeat (first | exact pm_up_e rfl | refine pm_up_o (by decide) ?_)) <;> assumption) (vp_in_nI (by omega) (by omega)) ?_
      rw [hkl, k1]
      refine px_if_eq (tgt := 117) (pc' := 107) dX9_check_104 (by decide) rfl (fun q_ => absurd q_ (by decide)) (fun _ => ?_)
      refine px_aload_n (i := 0) (pc' := 108) dX9_check_107 rfl rfl rfl ?_
      refine pi_getr (pc' := 111) fl_9_31 dX9_check_108 rfl (by repeat (first | assumption | refine pm_I.up ?_ rfl | refine pm_I.uf ?_ rfl)) rfl rfl ?_
      refine px_iload_n (i := 1) (pc' := 112) dX9_check_111 rfl rfl rfl ?_
      refine px_iald (pc' := 113) dX9_check_112 rfl (by first | assumption | (repeat (first | exact pm_up_e rfl | refine pm_up_o (by decide) ?_)) <;> assumption) (vp_in_nI (by omega) (by omega)) ?_
      refine px_iload_n (i := 3) (pc' := 114) dX9_check_113 rfl rfl rfl ?_
      rw [hkl]
      refine px_icmp_eq (tgt := 140) (pc' := 117) dX9_check_114 (by decide) rfl (fun _ => ?_) (fun q_ => absurd (hs) q_)
      refine px_aload_n (i := 0) (pc' := 141) dX9_check_140 rfl rfl rfl ?_
      refine pi_getr (pc' := 144) fl_9_34 dX9_check_141 rfl (by repeat (first | assumption | refine pm_I.up ?_ rfl | refine pm_I.uf ?_ rfl)) rfl rfl ?_
      refine px_iload_n (i := 1) (pc' := 145) dX9_check_144 rfl rfl rfl ?_
      refine px_iald (pc' := 146) dX9_check_145 rfl (by first | assumption | (repeat (first | exact pm_up_e rfl | refine pm_up_o (by decide) ?_)) <;> assumption) (vp_in_nI (by omega) (by omega)) ?_
      refine px_iconst (v := 1) (pc' := 147) dX9_check_146 rfl (by decide) ?_
      rw [hkl, k1]
      refine px_icmp_ne (tgt := 166) (pc' := 150) dX9_check_147 (by decide) rfl (fun _ => ?_) (fun q_ => absurd q_ (by decide))
      refine px_aload_n (i := 0) (pc' := 167) dX9_check_166 rfl rfl rfl ?_
      refine pi_getr (pc' := 170) fl_9_27 dX9_check_167 rfl (by repeat (first | assumption | refine pm_I.up ?_ rfl | refine pm_I.uf ?_ rfl)) rfl rfl ?_
      refine px_iload_n (i := 1) (pc' := 171) dX9_check_170 rfl rfl rfl ?_
      refine px_aload_n (i := 0) (pc' := 172) dX9_check_171 rfl rfl rfl ?_
      refine pi_getr (pc' := 175) fl_9_37 dX9_check_172 rfl (by repeat (first | assumption | refine pm_I.up ?_ rfl | refine pm_I.uf ?_ rfl)) rfl rfl ?_
      refine px_iload_n (i := 1) (pc' := 176) dX9_check_175 rfl rfl rfl ?_
      refine px_iald (pc' := 177) dX9_check_176 rfl (by first | assumption | (repeat (first | exact pm_up_e rfl | refine pm_up_o (by decide) ?_)) <;> assumption) (vp_in_nI (by omega) (by omega)) ?_
      refine px_aload_n (i := 0) (pc' := 178) dX9_check_177 rfl rfl rfl ?_
      refine pi_getr (pc' := 181) fl_9_40 dX9_check_178 rfl (by repeat (first | assumption | refine pm_I.up ?_ rfl | refine pm_I.uf ?_ rfl)) rfl rfl ?_
      refine px_iload_n (i := 1) (pc' := 182) dX9_check_181 rfl rfl rfl ?_
      refine px_iald (pc' := 183) dX9_check_182 rfl (by first | assumption | (repeat (first | exact pm_up_e rfl | refine pm_up_o (by decide) ?_)) <;> assumption) (vp_in_nI (by omega) (by omega)) ?_
      rw [hkl]
      refine px_iload_n (i := 2) (pc' := 184) dX9_check_183 rfl rfl rfl ?_
      refine px_callS (pc' := 187) (d_middle) okX9_middle stX9_middle ml_X9_188 ⟨Nat.le_of_ble_eq_true rfl, Nat.le_of_ble_eq_true rfl⟩ dX9_check_184 rfl rfl rfl (Nat.le_of_ble_eq_true rfl) pm_le.rf pm_le.rf ?_
      rintro _ _ _ ⟨rfl, rfl, rfl⟩
      refine px_iast (pc' := 188) dX9_check_187 rfl (by first | assumption | (repeat (first | exact pm_up_e rfl | refine pm_up_o (by decide) ?_)) <;> assumption) (vp_in_nI (by omega) (by omega)) ?_
      refine px_aload_n (i := 0) (pc' := 189) dX9_check_188 rfl rfl rfl ?_
      refine pi_getr (pc' := 192) fl_9_34 dX9_check_189 rfl (by repeat (first | assumption | refine pm_I.up ?_ rfl | refine pm_I.uf ?_ rfl)) rfl rfl ?_
      refine px_iload_n (i := 1) (pc' := 193) dX9_check_192 rfl rfl rfl ?_
      refine px_iconst (v := 0) (pc' := 194) dX9_check_193 rfl (by decide) ?_
      refine px_iast (pc' := 195) dX9_check_194 rfl (by first | assumption | (repeat (first | exact pm_up_e rfl | refine pm_up_o (by decide) ?_)) <;> assumption) (vp_in_nI (by omega) (by omega)) ?_
      refine px_aload_n (i := 0) (pc' := 196) dX9_check_195 rfl rfl rfl ?_
      refine px_dup (pc' := 197) dX9_check_196 rfl rfl ?_
      refine pi_geti (pc' := 200) fl_9_118 dX9_check_197 rfl (by repeat (first | assumption | refine pm_I.up ?_ rfl | refine pm_I.uf ?_ rfl)) rfl (by first | assumption | (repeat (first | exact pm_uf_e rfl | refine pm_uf_o (by decide) ?_)) <;> assumption) ?_
      refine px_iconst (v := 1) (pc' := 201) dX9_check_200 rfl (by decide) ?_
      refine px_iadd (pc' := 202) dX9_check_201 rfl ?_
      refine pi_puti (pc' := 205) fi_9_118 dX9_check_202 rfl (by repeat (first | assumption | refine pm_I.up ?_ rfl | refine pm_I.uf ?_ rfl)) rfl ?_
      refine px_iconst (v := 2) (pc' := 206) dX9_check_205 rfl (by decide) ?_
      rw [hkl, nI_1]
      exact px_iret dX9_check_206 rfl rfl (⟨rfl, (by repeat (first | assumption | refine pm_I.up ?_ rfl | refine pm_I.uf ?_ rfl)), ⟨n, T, q1.keep rfl rfl rfl rfl⟩, ⟨w, d, upd η k (m_mid (n1 k) (n2 k) v), ⟨m1, m2, m3, m4, ebok _ hmh, (by first | assumption | (repeat (first | exact pm_uf_e rfl | refine pm_uf_o (by decide) ?_)) <;> assumption), (by first | assumption | (repeat (first | exact pm_uf_e rfl | refine pm_uf_o (by decide) ?_)) <;> assumption), by rw [← eup _ hm255]; exact (by first | assumption | (repeat (first | exact pm_up_e rfl | refine pm_up_o (by decide) ?_)) <;> assumption), (by first | assumption | (repeat (first | exact pm_uf_e rfl | refine pm_uf_o (by decide) ?_)) <;> assumption), (by first | assumption | (repeat (first | exact pm_uf_e rfl | refine pm_uf_o (by decide) ?_)) <;> assumption), (by first | assumption | (repeat (first | exact pm_up_e rfl | refine pm_up_o (by decide) ?_)) <;> assumption)⟩, ⟨upd st k 0, f1, f2, sd, upd sp k 0, n1, n2, mm + 1, eck _ _ _ _ _ _ _ (fun i hi => ⟨un _ _ _ hi, rfl, rfl, rfl, un _ _ _ hi, rfl, rfl⟩) (Or.inl ⟨us _ _, us _ _⟩), (by first | assumption | (repeat (first | exact pm_up_e rfl | refine pm_up_o (by decide) ?_)) <;> assumption), (by first | assumption | (repeat (first | exact pm_up_e rfl | refine pm_up_o (by decide) ?_)) <;> assumption), (by first | assumption | (repeat (first | exact pm_up_e rfl | refine pm_up_o (by decide) ?_)) <;> assumption), (by first | assumption | (repeat (first | exact pm_uf_e rfl | refine pm_uf_o (by decide) ?_)) <;> assumption), (by first | assumption | (repeat (first | exact pm_up_e rfl | refine pm_up_o (by decide) ?_)) <;> assumption), (by first | assumption | (repeat (first | exact pm_up_e rfl | refine pm_up_o (by decide) ?_)) <;> assumption), (by first | assumption | (repeat (first | exact pm_up_e rfl | refine pm_up_o (by decide) ?_)) <;> assumption), (by first | assumption | (repeat (first | exact pm_up_e rfl | refine pm_up_o (by decide) ?_)) <;> assumption), (by first | assumption | (repeat (first | exact pm_uf_e rfl | refine pm_uf_o (by decide) ?_)) <;> assumption)⟩, q4.keep rfl rfl rfl rfl rfl rfl rfl rfl rfl rfl rfl rfl rfl rfl rfl rfl rfl rfl rfl rfl⟩, ⟨e, a0, a1, q5.keep rfl rfl rfl rfl rfl rfl⟩, q6.keep rfl rfl rfl rfl rfl rfl rfl rfl rfl rfl rfl rfl rfl rfl rfl, q7.keep rfl rfl rfl rfl rfl rfl rfl rfl rfl, q8⟩)
    · exact first (by rw [k3]; rcases k2 with k2 | k2 <;> rw [k2] at hs ⊢ <;> rcases hw1 with rfl | rfl <;> first | decide | exact absurd rfl hs) (Or.inr hs)
end OPS3
