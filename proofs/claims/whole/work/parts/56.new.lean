/-! the two objects are made: what holds at the law's start -/
section NEW
variable {G : pm_G} {h : pm_h} {g : pm_g}
theorem pm_J.mk (t0 : h 0 = pm_ob 8) (t1 : h 1 = pm_ob 6) (t2 : h 3 = pm_ob 3) (t3 : h 5 = pm_ob 2) (t4 : h 6 = pm_ob 5) (t5 : h 11 = pm_ob 0) (t6 : h 15 = pm_ob 1) (t7 : h 18 = pm_ob 4) (t8 : h 25 = pm_ob 7) (r0 : g 0 0 = .ref 1) (r1 : g 0 1 = .ref 3) (r2 : g 0 2 = .ref 5) (r3 : g 0 3 = .ref 11) (r4 : g 0 4 = .ref 6) (r5 : g 0 5 = .ref 15) (r6 : g 0 6 = .ref 18) (r7 : g 0 7 = .ref 25) (r8 : g 1 0 = .ref 2) (r9 : g 3 0 = .ref 4) (r10 : g 6 0 = .ref 7) (r11 : g 6 1 = .ref 8) (r12 : g 6 2 = .ref 9) (r13 : g 6 3 = .ref 10) (r14 : g 11 0 = .ref 3) (r15 : g 11 1 = .ref 5) (r16 : g 11 2 = .ref 12) (r17 : g 11 3 = .ref 13) (r18 : g 11 4 = .ref 14) (r19 : g 15 0 = .ref 3) (r20 : g 15 1 = .ref 5) (r21 : g 15 2 = .ref 6) (r22 : g 15 3 = .ref 16) (r23 : g 15 4 = .ref 17) (r24 : g 18 0 = .ref 3) (r25 : g 18 1 = .ref 5) (r26 : g 18 2 = .ref 6) (r27 : g 18 3 = .ref 19) (r28 : g 18 4 = .ref 20) (r29 : g 18 5 = .ref 21) (r30 : g 18 6 = .ref 22) (r31 : g 18 7 = .ref 23) (r32 : g 18 8 = .ref 24) (r33 : g 25 0 = .ref 3) (r34 : g 25 1 = .ref 5) (r35 : g 25 2 = .ref 1) (r36 : g 25 3 = .ref 26) (r37 : g 25 4 = .ref 27) (r38 : g 25 6 = .ref 28) (r39 : g 25 8 = .ref 29) : pm_J h g := by
  refine ⟨fun a ci hh => ?_, fun a k b hh => ?_⟩
  · unfold pm_tc at hh
    split at hh
    · unfold pm_tag at hh
      split at hh <;> first | (cases hh; assumption) | (cases hh; done) | (exfalso; omega)
    · cases hh
  · unfold pm_rc at hh
    split at hh
    · unfold pm_ref at hh
      split at hh <;> first | (cases hh; assumption) | (cases hh; done) | (exfalso; omega)
    · cases hh
theorem pm_J.I (q : pm_J h g) (t : h 30 = pm_ob 9) (r0 : g 30 1 = .ref 31) (r1 : g 30 4 = .ref 32) (r2 : g 30 5 = .ref 33) (r3 : g 30 6 = .ref 34) (r4 : g 30 7 = .ref 35) (r5 : g 30 8 = .ref 36) (r6 : g 30 16 = .ref 37) (r7 : g 30 17 = .ref 38) (r8 : g 30 18 = .ref 39) (r9 : g 30 19 = .ref 40) (r10 : g 30 20 = .ref 41) (r11 : g 30 21 = .ref 42) (r12 : g 30 25 = .ref 43) (r13 : g 30 26 = .ref 44) (r14 : g 30 27 = .ref 45) (r15 : g 30 28 = .ref 46) (r16 : g 30 29 = .ref 47) (r17 : g 30 30 = .ref 48) (r18 : g 30 31 = .ref 49) (r19 : g 30 33 = .ref 50) (r20 : g 30 34 = .ref 51) (r21 : g 30 35 = .ref 52) : pm_I h g := by
  refine ⟨fun a ci hh => ?_, fun a k b hh => ?_⟩
  · by_cases ha : a < 30
    · exact q.1 a ci (by unfold pm_tc; rw [if_pos ha]; exact hh)
    · unfold pm_tag at hh
      split at hh <;> first | (cases hh; assumption) | (cases hh; done) | (exfalso; omega)
  · by_cases ha : a < 30
    · exact q.2 a k b (by unfold pm_rc; rw [if_pos ha]; exact hh)
    · unfold pm_ref at hh
      split at hh <;> first | (cases hh; assumption) | (cases hh; done) | (exfalso; omega)
def JC (h : pm_h) (g : pm_g) : Prop := pm_J h g ∧ h 2 = pm_ia 1 160 (fun _ => 0) ∧ h 4 = pm_ia 0 144 (fun _ => -1) ∧ h 7 = pm_ia 0 12 (fun _ => 0) ∧ h 8 = pm_ia 0 12 (fun _ => 0) ∧ h 9 = pm_ia 0 40 (fun _ => 0) ∧ h 10 = pm_ia 0 40 (fun _ => 0) ∧ h 12 = pm_ia 0 144 (fun _ => 0) ∧ h 13 = pm_ia 0 144 (fun _ => 0) ∧ h 14 = pm_ia 0 144 (fun _ => 0) ∧ h 16 = pm_la 144 (m_L (m_init (2 * 2) (-1))) ∧ h 17 = pm_la 144 (fun _ => 0) ∧ h 19 = pm_ia 0 144 (fun _ => 0) ∧ h 20 = pm_la 144 (fun _ => 0) ∧ h 21 = pm_ia 0 144 (fun _ => 0) ∧ h 22 = pm_la 144 (fun _ => 0) ∧ h 23 = pm_ia 0 1728 (fun _ => 0) ∧ h 24 = pm_ia 0 13 (fun _ => 0) ∧ h 26 = pm_ia 0 9 (fun _ => 0) ∧ h 27 = pm_ia 0 9 (fun _ => 0) ∧ h 28 = pm_ia 0 144 (fun _ => 0) ∧ h 29 = pm_ia 0 1296 (fun _ => 0) ∧ g 1 1 = .int 0 ∧ g 3 1 = .int 2 ∧ g 3 2 = .int 2 ∧ g 5 0 = .int 0 ∧ g 5 1 = .int 1 ∧ g 5 2 = .int 0 ∧ g 11 5 = .int 0 ∧ g 6 4 = .int 0 ∧ g 6 5 = .int 0 ∧ g 6 6 = .int (-1) ∧ g 15 5 = .int 0 ∧ g 18 9 = .int 0 ∧ g 25 10 = .int (-1)
theorem k_X8_init (o : h 0 = pm_ob 8) : pm_Met G mX8_init [.ref 0] (1, 8, 1) (30, 4959, 30) h g (fun r h' g' => r = none ∧ JC h' g') := by
  refine enX8_init (⟨Nat.le_of_ble_eq_true rfl, Nat.le_of_ble_eq_true rfl⟩) ?_
  refine px_aload_n (i := 0) (pc' := 1) dX8_init_0 rfl rfl rfl ?_
  refine px_oi (pc' := 4) ml_X8_1 wd_oi_i wd_oi_c dX8_init_1 rfl (Nat.le_of_ble_eq_true rfl) (Nat.le_of_ble_eq_true rfl) ?_
  refine px_aload_n (i := 0) (pc' := 5) dX8_init_4 rfl rfl rfl ?_
  refine px_newL (k' := 2) (m' := 10) (c' := 2) (pc' := 8) nw_X8_7 dX8_init_5 rfl (Nat.le_of_ble_eq_true rfl) (Nat.le_of_ble_eq_true rfl) rfl rfl rfl ?_
  refine px_dup (pc' := 9) dX8_init_8 rfl rfl ?_
  refine px_callNI (pc' := 12) (k_X6_init (by first | assumption | rfl)) okX6_init rfl rfl ivX6_init mn_X8_9 ⟨Nat.le_of_ble_eq_true rfl, Nat.le_of_ble_eq_true rfl⟩ dX8_init_9 rfl rfl rfl (Nat.le_of_ble_eq_true rfl) ⟨Nat.le_of_ble_eq_true rfl, Nat.le_of_ble_eq_true rfl⟩ ⟨Nat.le_of_ble_eq_true rfl, Nat.le_of_ble_eq_true rfl⟩ ?_
  rintro _ _ _ ⟨rfl, rfl, rfl⟩
  refine px_putr (pc' := 15) ff_8_10 rfl dX8_init_12 rfl (by first | assumption | (repeat (first | exact pm_up_e rfl | refine pm_up_o (by decide) ?_ | apply pm_up_o (by decide))) <;> assumption) ?_
  refine px_aload_n (i := 0) (pc' := 16) dX8_init_15 rfl rfl rfl ?_
  refine px_newL (k' := 4) (m' := 173) (c' := 4) (pc' := 19) nw_X8_16 dX8_init_16 rfl (Nat.le_of_ble_eq_true rfl) (Nat.le_of_ble_eq_true rfl) rfl rfl rfl ?_
  refine px_dup (pc' := 20) dX8_init_19 rfl rfl ?_
  refine px_callI (pc' := 23) (k_X3_init (by first | assumption | rfl)) okX3_init rfl rfl ivX3_init ml_X8_18 ⟨Nat.le_of_ble_eq_true rfl, Nat.le_of_ble_eq_true rfl⟩ dX8_init_20 rfl rfl rfl (Nat.le_of_ble_eq_true rfl) ⟨Nat.le_of_ble_eq_true rfl, Nat.le_of_ble_eq_true rfl⟩ ⟨Nat.le_of_ble_eq_true rfl, Nat.le_of_ble_eq_true rfl⟩ ?_
  rintro _ _ _ ⟨rfl, rfl, rfl⟩
  refine px_putr (pc' := 26) ff_8_19 rfl dX8_init_23 rfl (by first | assumption | (repeat (first | exact pm_up_e rfl | refine pm_up_o (by decide) ?_ | apply pm_up_o (by decide))) <;> assumption) ?_
  refine px_aload_n (i := 0) (pc' := 27) dX8_init_26 rfl rfl rfl ?_
  refine px_newL (k' := 6) (m' := 320) (c' := 6) (pc' := 30) nw_X8_23 dX8_init_27 rfl (Nat.le_of_ble_eq_true rfl) (Nat.le_of_ble_eq_true rfl) rfl rfl rfl ?_
  refine px_dup (pc' := 31) dX8_init_30 rfl rfl ?_
  refine px_callNI (pc' := 34) (k_X2_init (by first | assumption | rfl)) okX2_init rfl rfl ivX2_init mn_X8_25 ⟨Nat.le_of_ble_eq_true rfl, Nat.le_of_ble_eq_true rfl⟩ dX8_init_31 rfl rfl rfl (Nat.le_of_ble_eq_true rfl) ⟨Nat.le_of_ble_eq_true rfl, Nat.le_of_ble_eq_true rfl⟩ ⟨Nat.le_of_ble_eq_true rfl, Nat.le_of_ble_eq_true rfl⟩ ?_
  rintro _ _ _ ⟨rfl, rfl, rfl⟩
  refine px_putr (pc' := 37) ff_8_26 rfl dX8_init_34 rfl (by first | assumption | (repeat (first | exact pm_up_e rfl | refine pm_up_o (by decide) ?_ | apply pm_up_o (by decide))) <;> assumption) ?_
  refine px_aload_n (i := 0) (pc' := 38) dX8_init_37 rfl rfl rfl ?_
  refine px_newL (k' := 7) (m' := 327) (c' := 7) (pc' := 41) nw_X8_30 dX8_init_38 rfl (Nat.le_of_ble_eq_true rfl) (Nat.le_of_ble_eq_true rfl) rfl rfl rfl ?_
  refine px_dup (pc' := 42) dX8_init_41 rfl rfl ?_
  refine px_callNI (pc' := 45) (k_X5_init (by first | assumption | rfl)) okX5_init rfl rfl ivX5_init mn_X8_32 ⟨Nat.le_of_ble_eq_true rfl, Nat.le_of_ble_eq_true rfl⟩ dX8_init_42 rfl rfl rfl (Nat.le_of_ble_eq_true rfl) ⟨Nat.le_of_ble_eq_true rfl, Nat.le_of_ble_eq_true rfl⟩ ⟨Nat.le_of_ble_eq_true rfl, Nat.le_of_ble_eq_true rfl⟩ ?_
  rintro _ _ _ ⟨rfl, rfl, rfl⟩
  refine px_putr (pc' := 48) ff_8_33 rfl dX8_init_45 rfl (by first | assumption | (repeat (first | exact pm_up_e rfl | refine pm_up_o (by decide) ?_ | apply pm_up_o (by decide))) <;> assumption) ?_
  refine px_aload_n (i := 0) (pc' := 49) dX8_init_48 rfl rfl rfl ?_
  refine px_newL (k' := 12) (m' := 437) (c' := 12) (pc' := 52) nw_X8_37 dX8_init_49 rfl (Nat.le_of_ble_eq_true rfl) (Nat.le_of_ble_eq_true rfl) rfl rfl rfl ?_
  refine px_dup (pc' := 53) dX8_init_52 rfl rfl ?_
  refine px_aload_n (i := 0) (pc' := 54) dX8_init_53 rfl rfl rfl ?_
  refine px_getf (v := .ref 3) (pc' := 57) fl_8_19 dX8_init_54 rfl (by first | assumption | rfl) rfl ?_
  refine px_aload_n (i := 0) (pc' := 58) dX8_init_57 rfl rfl rfl ?_
  refine px_getf (v := .ref 5) (pc' := 61) fl_8_26 dX8_init_58 rfl (by first | assumption | rfl) rfl ?_
  refine px_callI (pc' := 64) (k_X0_init (by first | assumption | rfl)) okX0_init rfl rfl ivX0_init ml_X8_39 ⟨Nat.le_of_ble_eq_true rfl, Nat.le_of_ble_eq_true rfl⟩ dX8_init_61 rfl rfl rfl (Nat.le_of_ble_eq_true rfl) ⟨Nat.le_of_ble_eq_true rfl, Nat.le_of_ble_eq_true rfl⟩ ⟨Nat.le_of_ble_eq_true rfl, Nat.le_of_ble_eq_true rfl⟩ ?_
  rintro _ _ _ ⟨rfl, rfl, rfl⟩
  refine px_putr (pc' := 67) ff_8_42 rfl dX8_init_64 rfl (by first | assumption | (repeat (first | exact pm_up_e rfl | refine pm_up_o (by decide) ?_ | apply pm_up_o (by decide))) <;> assumption) ?_
  refine px_aload_n (i := 0) (pc' := 68) dX8_init_67 rfl rfl rfl ?_
  refine px_newL (k' := 16) (m' := 875) (c' := 16) (pc' := 71) nw_X8_46 dX8_init_68 rfl (Nat.le_of_ble_eq_true rfl) (Nat.le_of_ble_eq_true rfl) rfl rfl rfl ?_
  refine px_dup (pc' := 72) dX8_init_71 rfl rfl ?_
  refine px_aload_n (i := 0) (pc' := 73) dX8_init_72 rfl rfl rfl ?_
  refine px_getf (v := .ref 3) (pc' := 76) fl_8_19 dX8_init_73 rfl (by first | assumption | rfl) rfl ?_
  refine px_aload_n (i := 0) (pc' := 77) dX8_init_76 rfl rfl rfl ?_
  refine px_getf (v := .ref 5) (pc' := 80) fl_8_26 dX8_init_77 rfl (by first | assumption | rfl) rfl ?_
  refine px_aload_n (i := 0) (pc' := 81) dX8_init_80 rfl rfl rfl ?_
  refine px_getf (v := .ref 6) (pc' := 84) fl_8_33 dX8_init_81 rfl (by first | assumption | rfl) rfl ?_
  refine px_callI (pc' := 87) (k_X1_init (by first | assumption | rfl)) okX1_init rfl rfl ivX1_init ml_X8_48 ⟨Nat.le_of_ble_eq_true rfl, Nat.le_of_ble_eq_true rfl⟩ dX8_init_84 rfl rfl rfl (Nat.le_of_ble_eq_true rfl) ⟨Nat.le_of_ble_eq_true rfl, Nat.le_of_ble_eq_true rfl⟩ ⟨Nat.le_of_ble_eq_true rfl, Nat.le_of_ble_eq_true rfl⟩ ?_
  rintro _ _ _ ⟨rfl, rfl, rfl⟩
  refine px_putr (pc' := 90) ff_8_51 rfl dX8_init_87 rfl (by first | assumption | (repeat (first | exact pm_up_e rfl | refine pm_up_o (by decide) ?_ | apply pm_up_o (by decide))) <;> assumption) ?_
  refine px_aload_n (i := 0) (pc' := 91) dX8_init_90 rfl rfl rfl ?_
  refine px_newL (k' := 19) (m' := 1173) (c' := 19) (pc' := 94) nw_X8_55 dX8_init_91 rfl (Nat.le_of_ble_eq_true rfl) (Nat.le_of_ble_eq_true rfl) rfl rfl rfl ?_
  refine px_dup (pc' := 95) dX8_init_94 rfl rfl ?_
  refine px_aload_n (i := 0) (pc' := 96) dX8_init_95 rfl rfl rfl ?_
  refine px_getf (v := .ref 3) (pc' := 99) fl_8_19 dX8_init_96 rfl (by first | assumption | rfl) rfl ?_
  refine px_aload_n (i := 0) (pc' := 100) dX8_init_99 rfl rfl rfl ?_
  refine px_getf (v := .ref 5) (pc' := 103) fl_8_26 dX8_init_100 rfl (by first | assumption | rfl) rfl ?_
  refine px_aload_n (i := 0) (pc' := 104) dX8_init_103 rfl rfl rfl ?_
  refine px_getf (v := .ref 6) (pc' := 107) fl_8_33 dX8_init_104 rfl (by first | assumption | rfl) rfl ?_
  refine px_callI (pc' := 110) (k_X4_init (by first | assumption | rfl)) okX4_init rfl rfl ivX4_init ml_X8_57 ⟨Nat.le_of_ble_eq_true rfl, Nat.le_of_ble_eq_true rfl⟩ dX8_init_107 rfl rfl rfl (Nat.le_of_ble_eq_true rfl) ⟨Nat.le_of_ble_eq_true rfl, Nat.le_of_ble_eq_true rfl⟩ ⟨Nat.le_of_ble_eq_true rfl, Nat.le_of_ble_eq_true rfl⟩ ?_
  rintro _ _ _ ⟨rfl, rfl, rfl⟩
  refine px_putr (pc' := 113) ff_8_58 rfl dX8_init_110 rfl (by first | assumption | (repeat (first | exact pm_up_e rfl | refine pm_up_o (by decide) ?_ | apply pm_up_o (by decide))) <;> assumption) ?_
  refine px_aload_n (i := 0) (pc' := 114) dX8_init_113 rfl rfl rfl ?_
  refine px_newL (k' := 26) (m' := 3501) (c' := 26) (pc' := 117) nw_X8_62 dX8_init_114 rfl (Nat.le_of_ble_eq_true rfl) (Nat.le_of_ble_eq_true rfl) rfl rfl rfl ?_
  refine px_dup (pc' := 118) dX8_init_117 rfl rfl ?_
  refine px_aload_n (i := 0) (pc' := 119) dX8_init_118 rfl rfl rfl ?_
  refine px_getf (v := .ref 3) (pc' := 122) fl_8_19 dX8_init_119 rfl (by first | assumption | rfl) rfl ?_
  refine px_aload_n (i := 0) (pc' := 123) dX8_init_122 rfl rfl rfl ?_
  refine px_getf (v := .ref 5) (pc' := 126) fl_8_26 dX8_init_123 rfl (by first | assumption | rfl) rfl ?_
  refine px_aload_n (i := 0) (pc' := 127) dX8_init_126 rfl rfl rfl ?_
  refine px_getf (v := .ref 1) (pc' := 130) fl_8_10 dX8_init_127 rfl (by first | assumption | rfl) rfl ?_
  refine px_callI (pc' := 133) (k_X7_init (by first | assumption | rfl)) okX7_init rfl rfl ivX7_init ml_X8_64 ⟨Nat.le_of_ble_eq_true rfl, Nat.le_of_ble_eq_true rfl⟩ dX8_init_130 rfl rfl rfl (Nat.le_of_ble_eq_true rfl) ⟨Nat.le_of_ble_eq_true rfl, Nat.le_of_ble_eq_true rfl⟩ ⟨Nat.le_of_ble_eq_true rfl, Nat.le_of_ble_eq_true rfl⟩ ?_
  rintro _ _ _ ⟨rfl, rfl, rfl⟩
  refine px_putr (pc' := 136) ff_8_67 rfl dX8_init_133 rfl (by first | assumption | (repeat (first | exact pm_up_e rfl | refine pm_up_o (by decide) ?_ | apply pm_up_o (by decide))) <;> assumption) ?_
  refine px_aload_n (i := 0) (pc' := 137) dX8_init_136 rfl rfl rfl ?_
  refine px_getf (v := .ref 15) (pc' := 140) fl_8_51 dX8_init_137 rfl (by first | assumption | rfl) rfl ?_
  refine px_iconst (v := -1) (pc' := 141) dX8_init_140 rfl (by decide) ?_
  generalize hh : (pm_up _ 29 _ : pm_h) = h2
  generalize hg : (pm_uf _ 0 7 _ : pm_g) = g2
  have t0 : h2 0 = pm_ob 8 := by subst hh; exact (by first | assumption | (repeat (first | exact pm_up_e rfl | refine pm_up_o (by decide) ?_ | apply pm_up_o (by decide))) <;> assumption)
  have t1 : h2 1 = pm_ob 6 := by subst hh; rfl
  have t2 : h2 3 = pm_ob 3 := by subst hh; rfl
  have t3 : h2 5 = pm_ob 2 := by subst hh; rfl
  have t4 : h2 6 = pm_ob 5 := by subst hh; rfl
  have t5 : h2 11 = pm_ob 0 := by subst hh; rfl
  have t6 : h2 15 = pm_ob 1 := by subst hh; rfl
  have t7 : h2 18 = pm_ob 4 := by subst hh; rfl
  have t8 : h2 25 = pm_ob 7 := by subst hh; rfl
  have r0 : g2 0 0 = .ref 1 := by subst hg; rfl
  have r1 : g2 0 1 = .ref 3 := by subst hg; rfl
  have r2 : g2 0 2 = .ref 5 := by subst hg; rfl
  have r3 : g2 0 3 = .ref 11 := by subst hg; rfl
  have r4 : g2 0 4 = .ref 6 := by subst hg; rfl
  have r5 : g2 0 5 = .ref 15 := by subst hg; rfl
  have r6 : g2 0 6 = .ref 18 := by subst hg; rfl
  have r7 : g2 0 7 = .ref 25 := by subst hg; rfl
  have r8 : g2 1 0 = .ref 2 := by subst hg; rfl
  have r9 : g2 3 0 = .ref 4 := by subst hg; rfl
  have r10 : g2 6 0 = .ref 7 := by subst hg; rfl
  have r11 : g2 6 1 = .ref 8 := by subst hg; rfl
  have r12 : g2 6 2 = .ref 9 := by subst hg; rfl
  have r13 : g2 6 3 = .ref 10 := by subst hg; rfl
  have r14 : g2 11 0 = .ref 3 := by subst hg; rfl
  have r15 : g2 11 1 = .ref 5 := by subst hg; rfl
  have r16 : g2 11 2 = .ref 12 := by subst hg; rfl
  have r17 : g2 11 3 = .ref 13 := by subst hg; rfl
  have r18 : g2 11 4 = .ref 14 := by subst hg; rfl
  have r19 : g2 15 0 = .ref 3 := by subst hg; rfl
  have r20 : g2 15 1 = .ref 5 := by subst hg; rfl
  have r21 : g2 15 2 = .ref 6 := by subst hg; rfl
  have r22 : g2 15 3 = .ref 16 := by subst hg; rfl
  have r23 : g2 15 4 = .ref 17 := by subst hg; rfl
  have r24 : g2 18 0 = .ref 3 := by subst hg; rfl
  have r25 : g2 18 1 = .ref 5 := by subst hg; rfl
  have r26 : g2 18 2 = .ref 6 := by subst hg; rfl
  have r27 : g2 18 3 = .ref 19 := by subst hg; rfl
  have r28 : g2 18 4 = .ref 20 := by subst hg; rfl
  have r29 : g2 18 5 = .ref 21 := by subst hg; rfl
  have r30 : g2 18 6 = .ref 22 := by subst hg; rfl
  have r31 : g2 18 7 = .ref 23 := by subst hg; rfl
  have r32 : g2 18 8 = .ref 24 := by subst hg; rfl
  have r33 : g2 25 0 = .ref 3 := by subst hg; rfl
  have r34 : g2 25 1 = .ref 5 := by subst hg; rfl
  have r35 : g2 25 2 = .ref 1 := by subst hg; rfl
  have r36 : g2 25 3 = .ref 26 := by subst hg; rfl
  have r37 : g2 25 4 = .ref 27 := by subst hg; rfl
  have r38 : g2 25 6 = .ref 28 := by subst hg; rfl
  have r39 : g2 25 8 = .ref 29 := by subst hg; rfl
  have f0 : h2 2 = pm_ia 1 160 (fun _ => 0) := by subst hh; rfl
  have f1 : h2 4 = pm_ia 0 144 (fun _ => -1) := by subst hh; rfl
  have f2 : h2 7 = pm_ia 0 12 (fun _ => 0) := by subst hh; rfl
  have f3 : h2 8 = pm_ia 0 12 (fun _ => 0) := by subst hh; rfl
  have f4 : h2 9 = pm_ia 0 40 (fun _ => 0) := by subst hh; rfl
  have f5 : h2 10 = pm_ia 0 40 (fun _ => 0) := by subst hh; rfl
  have f6 : h2 12 = pm_ia 0 144 (fun _ => 0) := by subst hh; rfl
  have f7 : h2 13 = pm_ia 0 144 (fun _ => 0) := by subst hh; rfl
  have f8 : h2 14 = pm_ia 0 144 (fun _ => 0) := by subst hh; rfl
  have f9 : h2 16 = pm_la 144 (fun _ => 0) := by subst hh; rfl
  have f10 : h2 17 = pm_la 144 (fun _ => 0) := by subst hh; rfl
  have f11 : h2 19 = pm_ia 0 144 (fun _ => 0) := by subst hh; rfl
  have f12 : h2 20 = pm_la 144 (fun _ => 0) := by subst hh; rfl
  have f13 : h2 21 = pm_ia 0 144 (fun _ => 0) := by subst hh; rfl
  have f14 : h2 22 = pm_la 144 (fun _ => 0) := by subst hh; rfl
  have f15 : h2 23 = pm_ia 0 1728 (fun _ => 0) := by subst hh; rfl
  have f16 : h2 24 = pm_ia 0 13 (fun _ => 0) := by subst hh; rfl
  have f17 : h2 26 = pm_ia 0 9 (fun _ => 0) := by subst hh; rfl
  have f18 : h2 27 = pm_ia 0 9 (fun _ => 0) := by subst hh; rfl
  have f19 : h2 28 = pm_ia 0 144 (fun _ => 0) := by subst hh; rfl
  have f20 : h2 29 = pm_ia 0 1296 (fun _ => 0) := by subst hh; rfl
  have u0 : g2 1 1 = .int 0 := by subst hg; rfl
  have u1 : g2 3 1 = .int 2 := by subst hg; rfl
  have u2 : g2 3 2 = .int 2 := by subst hg; rfl
  have u3 : g2 5 0 = .int 0 := by subst hg; rfl
  have u4 : g2 5 1 = .int 1 := by subst hg; rfl
  have u5 : g2 5 2 = .int 0 := by subst hg; rfl
  have u6 : g2 11 5 = .int 0 := by subst hg; rfl
  have u10 : g2 15 5 = .int 0 := by subst hg; rfl
  have u11 : g2 18 9 = .int 0 := by subst hg; rfl
  have u12 : g2 25 10 = .int (-1) := by subst hg; rfl
  clear hh hg
  have J0 : pm_J h2 g2 := pm_J.mk t0 t1 t2 t3 t4 t5 t6 t7 t8 r0 r1 r2 r3 r4 r5 r6 r7 r8 r9 r10 r11 r12 r13 r14 r15 r16 r17 r18 r19 r20 r21 r22 r23 r24 r25 r26 r27 r28 r29 r30 r31 r32 r33 r34 r35 r36 r37 r38 r39
  refine pj_callV (pc' := 144) (k_start (w := 2) (d := 2) (by repeat (first | assumption | refine pm_J.up ?_ rfl | refine pm_J.uf ?_ rfl)) (by first | assumption | (repeat (first | exact pm_uf_e rfl | refine pm_uf_o (by decide) ?_ | apply pm_uf_o (by decide))) <;> assumption) (by first | assumption | (repeat (first | exact pm_uf_e rfl | refine pm_uf_o (by decide) ?_ | apply pm_uf_o (by decide))) <;> assumption) (by decide) (by decide) f9) okX1_start ivX1_start ml_X8_71 ⟨Nat.le_of_ble_eq_true rfl, Nat.le_of_ble_eq_true rfl⟩ dX8_init_141 rfl rfl rfl (Nat.le_of_ble_eq_true rfl) (by repeat (first | assumption | refine pm_J.up ?_ rfl | refine pm_J.uf ?_ rfl)) rfl cl_1 pm_le.rf ⟨Nat.le_of_ble_eq_true rfl, Nat.le_of_ble_eq_true rfl⟩ ?_
  rintro _ _ _ ⟨rfl, rfl, rfl⟩
  exact px_vret dX8_init_144 rfl rfl (⟨rfl, (by unfold m_rst; exact (by repeat (first | assumption | refine pm_J.up ?_ rfl | refine pm_J.uf ?_ rfl))), (by first | assumption | (repeat (first | exact pm_up_e rfl | refine pm_up_o (by decide) ?_ | apply pm_up_o (by decide))) <;> assumption), (by first | assumption | (repeat (first | exact pm_up_e rfl | refine pm_up_o (by decide) ?_ | apply pm_up_o (by decide))) <;> assumption), (by first | assumption | (repeat (first | exact pm_up_e rfl | refine pm_up_o (by decide) ?_ | apply pm_up_o (by decide))) <;> assumption), (by first | assumption | (repeat (first | exact pm_up_e rfl | refine pm_up_o (by decide) ?_ | apply pm_up_o (by decide))) <;> assumption), (by first | assumption | (repeat (first | exact pm_up_e rfl | refine pm_up_o (by decide) ?_ | apply pm_up_o (by decide))) <;> assumption), (by first | assumption | (repeat (first | exact pm_up_e rfl | refine pm_up_o (by decide) ?_ | apply pm_up_o (by decide))) <;> assumption), (by first | assumption | (repeat (first | exact pm_up_e rfl | refine pm_up_o (by decide) ?_ | apply pm_up_o (by decide))) <;> assumption), (by first | assumption | (repeat (first | exact pm_up_e rfl | refine pm_up_o (by decide) ?_ | apply pm_up_o (by decide))) <;> assumption), (by first | assumption | (repeat (first | exact pm_up_e rfl | refine pm_up_o (by decide) ?_ | apply pm_up_o (by decide))) <;> assumption), (by first | assumption | (repeat (first | exact pm_up_e rfl | refine pm_up_o (by decide) ?_ | apply pm_up_o (by decide))) <;> assumption), (by first | assumption | (repeat (first | exact pm_up_e rfl | refine pm_up_o (by decide) ?_ | apply pm_up_o (by decide))) <;> assumption), (by first | assumption | (repeat (first | exact pm_up_e rfl | refine pm_up_o (by decide) ?_ | apply pm_up_o (by decide))) <;> assumption), (by first | assumption | (repeat (first | exact pm_up_e rfl | refine pm_up_o (by decide) ?_ | apply pm_up_o (by decide))) <;> assumption), (by first | assumption | (repeat (first | exact pm_up_e rfl | refine pm_up_o (by decide) ?_ | apply pm_up_o (by decide))) <;> assumption), (by first | assumption | (repeat (first | exact pm_up_e rfl | refine pm_up_o (by decide) ?_ | apply pm_up_o (by decide))) <;> assumption), (by first | assumption | (repeat (first | exact pm_up_e rfl | refine pm_up_o (by decide) ?_ | apply pm_up_o (by decide))) <;> assumption), (by first | assumption | (repeat (first | exact pm_up_e rfl | refine pm_up_o (by decide) ?_ | apply pm_up_o (by decide))) <;> assumption), (by first | assumption | (repeat (first | exact pm_up_e rfl | refine pm_up_o (by decide) ?_ | apply pm_up_o (by decide))) <;> assumption), (by first | assumption | (repeat (first | exact pm_up_e rfl | refine pm_up_o (by decide) ?_ | apply pm_up_o (by decide))) <;> assumption), (by first | assumption | (repeat (first | exact pm_up_e rfl | refine pm_up_o (by decide) ?_ | apply pm_up_o (by decide))) <;> assumption), (by first | assumption | (repeat (first | exact pm_up_e rfl | refine pm_up_o (by decide) ?_ | apply pm_up_o (by decide))) <;> assumption), by unfold m_rst; exact (by first | assumption | (repeat (first | exact pm_uf_e rfl | refine pm_uf_o (by decide) ?_ | apply pm_uf_o (by decide))) <;> assumption), by unfold m_rst; exact (by first | assumption | (repeat (first | exact pm_uf_e rfl | refine pm_uf_o (by decide) ?_ | apply pm_uf_o (by decide))) <;> assumption), by unfold m_rst; exact (by first | assumption | (repeat (first | exact pm_uf_e rfl | refine pm_uf_o (by decide) ?_ | apply pm_uf_o (by decide))) <;> assumption), by unfold m_rst; exact (by first | assumption | (repeat (first | exact pm_uf_e rfl | refine pm_uf_o (by decide) ?_ | apply pm_uf_o (by decide))) <;> assumption), by unfold m_rst; exact (by first | assumption | (repeat (first | exact pm_uf_e rfl | refine pm_uf_o (by decide) ?_ | apply pm_uf_o (by decide))) <;> assumption), by unfold m_rst; exact (by first | assumption | (repeat (first | exact pm_uf_e rfl | refine pm_uf_o (by decide) ?_ | apply pm_uf_o (by decide))) <;> assumption), by unfold m_rst; exact (by first | assumption | (repeat (first | exact pm_uf_e rfl | refine pm_uf_o (by decide) ?_ | apply pm_uf_o (by decide))) <;> assumption), by unfold m_rst; exact (by first | assumption | (repeat (first | exact pm_uf_e rfl | refine pm_uf_o (by decide) ?_ | apply pm_uf_o (by decide))) <;> assumption), by unfold m_rst; exact (by first | assumption | (repeat (first | exact pm_uf_e rfl | refine pm_uf_o (by decide) ?_ | apply pm_uf_o (by decide))) <;> assumption), by unfold m_rst; exact (by first | assumption | (repeat (first | exact pm_uf_e rfl | refine pm_uf_o (by decide) ?_ | apply pm_uf_o (by decide))) <;> assumption), by unfold m_rst; exact (by first | assumption | (repeat (first | exact pm_uf_e rfl | refine pm_uf_o (by decide) ?_ | apply pm_uf_o (by decide))) <;> assumption), by unfold m_rst; exact (by first | assumption | (repeat (first | exact pm_uf_e rfl | refine pm_uf_o (by decide) ?_ | apply pm_uf_o (by decide))) <;> assumption), by unfold m_rst; exact (by first | assumption | (repeat (first | exact pm_uf_e rfl | refine pm_uf_o (by decide) ?_ | apply pm_uf_o (by decide))) <;> assumption)⟩)
end NEW
