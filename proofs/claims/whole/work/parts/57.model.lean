section MODEL
variable {G : pm_G} {h : pm_h} {g : pm_g}
theorem hc255 : m_hc (fun _ => 255) = fun _ => -1 := funext fun _ => if_pos rfl
theorem init1 (n j : Nat) (o : Int32) : m_init n o j ≤ 1 := by
  unfold m_init
  split <;> omega
theorem k_X9_init (q : JC h g) (o : h 30 = pm_ob 9) (gd : ∀ k, g 30 k = defaultValue (tyX9 k)) : pm_Met G mX9_init [.ref 30] (31, 4997, 31) (53, 31626, 53) h g (fun r h' g' => r = none ∧ ∀ fo, J (pm_up h' 53 (pm_la 1 fo)) g') := by
  refine enX9_init (⟨Nat.le_of_ble_eq_true rfl, Nat.le_of_ble_eq_true rfl⟩) ?_
  refine px_aload_n (i := 0) (pc' := 1) dX9_init_0 rfl rfl rfl ?_
  refine px_oi (pc' := 4) ml_X9_21 wd_oi_i wd_oi_c dX9_init_1 rfl (Nat.le_of_ble_eq_true rfl) (Nat.le_of_ble_eq_true rfl) ?_
  refine px_aload_n (i := 0) (pc' := 5) dX9_init_4 rfl rfl rfl ?_
  refine px_sipush (v := 160) (pc' := 8) dX9_init_5 rfl (by decide) ?_
  refine px_newbL (N := 160) (k' := 32) (m' := 5157) (c' := 32) (pc' := 10) wd_arr_b dX9_init_8 rfl (by decide) rfl (by decide) (Nat.le_of_ble_eq_true rfl) (Nat.le_of_ble_eq_true rfl) rfl rfl rfl ?_
  refine px_putr (pc' := 13) ff_9_14 rfl dX9_init_10 rfl (by first | assumption | (repeat (first | exact pm_up_e rfl | refine pm_up_o (by decide) ?_ | apply pm_up_o (by decide))) <;> assumption) ?_
  refine px_aload_n (i := 0) (pc' := 14) dX9_init_13 rfl rfl rfl ?_
  refine px_sipush (v := 144) (pc' := 17) dX9_init_14 rfl (by decide) ?_
  refine px_newiL (N := 144) (k' := 33) (m' := 5301) (c' := 33) (pc' := 19) wd_arr_i dX9_init_17 rfl (by decide) rfl (by decide) (Nat.le_of_ble_eq_true rfl) (Nat.le_of_ble_eq_true rfl) rfl rfl rfl ?_
  refine px_putr (pc' := 22) ff_9_27 rfl dX9_init_19 rfl (by first | assumption | (repeat (first | exact pm_up_e rfl | refine pm_up_o (by decide) ?_ | apply pm_up_o (by decide))) <;> assumption) ?_
  refine px_aload_n (i := 0) (pc' := 23) dX9_init_22 rfl rfl rfl ?_
  refine px_sipush (v := 144) (pc' := 26) dX9_init_23 rfl (by decide) ?_
  refine px_newiL (N := 144) (k' := 34) (m' := 5445) (c' := 34) (pc' := 28) wd_arr_i dX9_init_26 rfl (by decide) rfl (by decide) (Nat.le_of_ble_eq_true rfl) (Nat.le_of_ble_eq_true rfl) rfl rfl rfl ?_
  refine px_putr (pc' := 31) ff_9_31 rfl dX9_init_28 rfl (by first | assumption | (repeat (first | exact pm_up_e rfl | refine pm_up_o (by decide) ?_ | apply pm_up_o (by decide))) <;> assumption) ?_
  refine px_aload_n (i := 0) (pc' := 32) dX9_init_31 rfl rfl rfl ?_
  refine px_sipush (v := 144) (pc' := 35) dX9_init_32 rfl (by decide) ?_
  refine px_newiL (N := 144) (k' := 35) (m' := 5589) (c' := 35) (pc' := 37) wd_arr_i dX9_init_35 rfl (by decide) rfl (by decide) (Nat.le_of_ble_eq_true rfl) (Nat.le_of_ble_eq_true rfl) rfl rfl rfl ?_
  refine px_putr (pc' := 40) ff_9_34 rfl dX9_init_37 rfl (by first | assumption | (repeat (first | exact pm_up_e rfl | refine pm_up_o (by decide) ?_ | apply pm_up_o (by decide))) <;> assumption) ?_
  refine px_aload_n (i := 0) (pc' := 41) dX9_init_40 rfl rfl rfl ?_
  refine px_sipush (v := 144) (pc' := 44) dX9_init_41 rfl (by decide) ?_
  refine px_newiL (N := 144) (k' := 36) (m' := 5733) (c' := 36) (pc' := 46) wd_arr_i dX9_init_44 rfl (by decide) rfl (by decide) (Nat.le_of_ble_eq_true rfl) (Nat.le_of_ble_eq_true rfl) rfl rfl rfl ?_
  refine px_putr (pc' := 49) ff_9_37 rfl dX9_init_46 rfl (by first | assumption | (repeat (first | exact pm_up_e rfl | refine pm_up_o (by decide) ?_ | apply pm_up_o (by decide))) <;> assumption) ?_
  refine px_aload_n (i := 0) (pc' := 50) dX9_init_49 rfl rfl rfl ?_
  refine px_sipush (v := 144) (pc' := 53) dX9_init_50 rfl (by decide) ?_
  refine px_newiL (N := 144) (k' := 37) (m' := 5877) (c' := 37) (pc' := 55) wd_arr_i dX9_init_53 rfl (by decide) rfl (by decide) (Nat.le_of_ble_eq_true rfl) (Nat.le_of_ble_eq_true rfl) rfl rfl rfl ?_
  refine px_putr (pc' := 58) ff_9_40 rfl dX9_init_55 rfl (by first | assumption | (repeat (first | exact pm_up_e rfl | refine pm_up_o (by decide) ?_ | apply pm_up_o (by decide))) <;> assumption) ?_
  refine px_aload_n (i := 0) (pc' := 59) dX9_init_58 rfl rfl rfl ?_
  refine px_iconst (v := 2) (pc' := 60) dX9_init_59 rfl (by decide) ?_
  refine px_puti (pc' := 63) fi_9_43 dX9_init_60 rfl (by first | assumption | (repeat (first | exact pm_up_e rfl | refine pm_up_o (by decide) ?_ | apply pm_up_o (by decide))) <;> assumption) ?_
  refine px_aload_n (i := 0) (pc' := 64) dX9_init_63 rfl rfl rfl ?_
  refine px_iconst (v := 2) (pc' := 65) dX9_init_64 rfl (by decide) ?_
  refine px_puti (pc' := 68) fi_9_46 dX9_init_65 rfl (by first | assumption | (repeat (first | exact pm_up_e rfl | refine pm_up_o (by decide) ?_ | apply pm_up_o (by decide))) <;> assumption) ?_
  refine px_aload_n (i := 0) (pc' := 69) dX9_init_68 rfl rfl rfl ?_
  refine px_iconst (v := 1) (pc' := 70) dX9_init_69 rfl (by decide) ?_
  refine px_puti (pc' := 73) fi_9_49 dX9_init_70 rfl (by first | assumption | (repeat (first | exact pm_up_e rfl | refine pm_up_o (by decide) ?_ | apply pm_up_o (by decide))) <;> assumption) ?_
  refine px_aload_n (i := 0) (pc' := 74) dX9_init_73 rfl rfl rfl ?_
  refine px_sipush (v := 144) (pc' := 77) dX9_init_74 rfl (by decide) ?_
  refine px_newlL (N := 144) (k' := 38) (m' := 6021) (c' := 38) (pc' := 79) wd_arr_l dX9_init_77 rfl (by decide) rfl (by decide) (Nat.le_of_ble_eq_true rfl) (Nat.le_of_ble_eq_true rfl) rfl rfl rfl ?_
  refine px_putr (pc' := 82) ff_9_52 rfl dX9_init_79 rfl (by first | assumption | (repeat (first | exact pm_up_e rfl | refine pm_up_o (by decide) ?_ | apply pm_up_o (by decide))) <;> assumption) ?_
  refine px_aload_n (i := 0) (pc' := 83) dX9_init_82 rfl rfl rfl ?_
  refine px_sipush (v := 144) (pc' := 86) dX9_init_83 rfl (by decide) ?_
  refine px_newlL (N := 144) (k' := 39) (m' := 6165) (c' := 39) (pc' := 88) wd_arr_l dX9_init_86 rfl (by decide) rfl (by decide) (Nat.le_of_ble_eq_true rfl) (Nat.le_of_ble_eq_true rfl) rfl rfl rfl ?_
  refine px_putr (pc' := 91) ff_9_56 rfl dX9_init_88 rfl (by first | assumption | (repeat (first | exact pm_up_e rfl | refine pm_up_o (by decide) ?_ | apply pm_up_o (by decide))) <;> assumption) ?_
  refine px_aload_n (i := 0) (pc' := 92) dX9_init_91 rfl rfl rfl ?_
  refine px_bipush (v := 12) (pc' := 94) dX9_init_92 rfl (by decide) ?_
  refine px_newiL (N := 12) (k' := 40) (m' := 6177) (c' := 40) (pc' := 96) wd_arr_i dX9_init_94 rfl (by decide) rfl (by decide) (Nat.le_of_ble_eq_true rfl) (Nat.le_of_ble_eq_true rfl) rfl rfl rfl ?_
  refine px_putr (pc' := 99) ff_9_59 rfl dX9_init_96 rfl (by first | assumption | (repeat (first | exact pm_up_e rfl | refine pm_up_o (by decide) ?_ | apply pm_up_o (by decide))) <;> assumption) ?_
  refine px_aload_n (i := 0) (pc' := 100) dX9_init_99 rfl rfl rfl ?_
  refine px_bipush (v := 12) (pc' := 102) dX9_init_100 rfl (by decide) ?_
  refine px_newiL (N := 12) (k' := 41) (m' := 6189) (c' := 41) (pc' := 104) wd_arr_i dX9_init_102 rfl (by decide) rfl (by decide) (Nat.le_of_ble_eq_true rfl) (Nat.le_of_ble_eq_true rfl) rfl rfl rfl ?_
  refine px_putr (pc' := 107) ff_9_62 rfl dX9_init_104 rfl (by first | assumption | (repeat (first | exact pm_up_e rfl | refine pm_up_o (by decide) ?_ | apply pm_up_o (by decide))) <;> assumption) ?_
  refine px_aload_n (i := 0) (pc' := 108) dX9_init_107 rfl rfl rfl ?_
  refine px_bipush (v := 40) (pc' := 110) dX9_init_108 rfl (by decide) ?_
  refine px_newiL (N := 40) (k' := 42) (m' := 6229) (c' := 42) (pc' := 112) wd_arr_i dX9_init_110 rfl (by decide) rfl (by decide) (Nat.le_of_ble_eq_true rfl) (Nat.le_of_ble_eq_true rfl) rfl rfl rfl ?_
  refine px_putr (pc' := 115) ff_9_65 rfl dX9_init_112 rfl (by first | assumption | (repeat (first | exact pm_up_e rfl | refine pm_up_o (by decide) ?_ | apply pm_up_o (by decide))) <;> assumption) ?_
  refine px_aload_n (i := 0) (pc' := 116) dX9_init_115 rfl rfl rfl ?_
  refine px_bipush (v := 40) (pc' := 118) dX9_init_116 rfl (by decide) ?_
  refine px_newiL (N := 40) (k' := 43) (m' := 6269) (c' := 43) (pc' := 120) wd_arr_i dX9_init_118 rfl (by decide) rfl (by decide) (Nat.le_of_ble_eq_true rfl) (Nat.le_of_ble_eq_true rfl) rfl rfl rfl ?_
  refine px_putr (pc' := 123) ff_9_68 rfl dX9_init_120 rfl (by first | assumption | (repeat (first | exact pm_up_e rfl | refine pm_up_o (by decide) ?_ | apply pm_up_o (by decide))) <;> assumption) ?_
  refine px_aload_n (i := 0) (pc' := 124) dX9_init_123 rfl rfl rfl ?_
  refine px_sipush (v := 144) (pc' := 127) dX9_init_124 rfl (by decide) ?_
  refine px_newiL (N := 144) (k' := 44) (m' := 6413) (c' := 44) (pc' := 129) wd_arr_i dX9_init_127 rfl (by decide) rfl (by decide) (Nat.le_of_ble_eq_true rfl) (Nat.le_of_ble_eq_true rfl) rfl rfl rfl ?_
  refine px_putr (pc' := 132) ff_9_71 rfl dX9_init_129 rfl (by first | assumption | (repeat (first | exact pm_up_e rfl | refine pm_up_o (by decide) ?_ | apply pm_up_o (by decide))) <;> assumption) ?_
  refine px_aload_n (i := 0) (pc' := 133) dX9_init_132 rfl rfl rfl ?_
  refine px_sipush (v := 144) (pc' := 136) dX9_init_133 rfl (by decide) ?_
  refine px_newiL (N := 144) (k' := 45) (m' := 6557) (c' := 45) (pc' := 138) wd_arr_i dX9_init_136 rfl (by decide) rfl (by decide) (Nat.le_of_ble_eq_true rfl) (Nat.le_of_ble_eq_true rfl) rfl rfl rfl ?_
  refine px_putr (pc' := 141) ff_9_74 rfl dX9_init_138 rfl (by first | assumption | (repeat (first | exact pm_up_e rfl | refine pm_up_o (by decide) ?_ | apply pm_up_o (by decide))) <;> assumption) ?_
  refine px_aload_n (i := 0) (pc' := 142) dX9_init_141 rfl rfl rfl ?_
  refine px_sipush (v := 1872) (pc' := 145) dX9_init_142 rfl (by decide) ?_
  refine px_newiL (N := 1872) (k' := 46) (m' := 8429) (c' := 46) (pc' := 147) wd_arr_i dX9_init_145 rfl (by decide) rfl (by decide) (Nat.le_of_ble_eq_true rfl) (Nat.le_of_ble_eq_true rfl) rfl rfl rfl ?_
  refine px_putr (pc' := 150) ff_9_77 rfl dX9_init_147 rfl (by first | assumption | (repeat (first | exact pm_up_e rfl | refine pm_up_o (by decide) ?_ | apply pm_up_o (by decide))) <;> assumption) ?_
  refine px_aload_n (i := 0) (pc' := 151) dX9_init_150 rfl rfl rfl ?_
  refine px_sipush (v := 1872) (pc' := 154) dX9_init_151 rfl (by decide) ?_
  refine px_newiL (N := 1872) (k' := 47) (m' := 10301) (c' := 47) (pc' := 156) wd_arr_i dX9_init_154 rfl (by decide) rfl (by decide) (Nat.le_of_ble_eq_true rfl) (Nat.le_of_ble_eq_true rfl) rfl rfl rfl ?_
  refine px_putr (pc' := 159) ff_9_80 rfl dX9_init_156 rfl (by first | assumption | (repeat (first | exact pm_up_e rfl | refine pm_up_o (by decide) ?_ | apply pm_up_o (by decide))) <;> assumption) ?_
  refine px_aload_n (i := 0) (pc' := 160) dX9_init_159 rfl rfl rfl ?_
  refine px_bipush (v := 13) (pc' := 162) dX9_init_160 rfl (by decide) ?_
  refine px_newiL (N := 13) (k' := 48) (m' := 10314) (c' := 48) (pc' := 164) wd_arr_i dX9_init_162 rfl (by decide) rfl (by decide) (Nat.le_of_ble_eq_true rfl) (Nat.le_of_ble_eq_true rfl) rfl rfl rfl ?_
  refine px_putr (pc' := 167) ff_9_83 rfl dX9_init_164 rfl (by first | assumption | (repeat (first | exact pm_up_e rfl | refine pm_up_o (by decide) ?_ | apply pm_up_o (by decide))) <;> assumption) ?_
  refine px_aload_n (i := 0) (pc' := 168) dX9_init_167 rfl rfl rfl ?_
  refine px_sipush (v := 144) (pc' := 171) dX9_init_168 rfl (by decide) ?_
  refine px_newlL (N := 144) (k' := 49) (m' := 10458) (c' := 49) (pc' := 173) wd_arr_l dX9_init_171 rfl (by decide) rfl (by decide) (Nat.le_of_ble_eq_true rfl) (Nat.le_of_ble_eq_true rfl) rfl rfl rfl ?_
  refine px_putr (pc' := 176) ff_9_86 rfl dX9_init_173 rfl (by first | assumption | (repeat (first | exact pm_up_e rfl | refine pm_up_o (by decide) ?_ | apply pm_up_o (by decide))) <;> assumption) ?_
  refine px_aload_n (i := 0) (pc' := 177) dX9_init_176 rfl rfl rfl ?_
  refine px_sipush (v := 144) (pc' := 180) dX9_init_177 rfl (by decide) ?_
  refine px_newlL (N := 144) (k' := 50) (m' := 10602) (c' := 50) (pc' := 182) wd_arr_l dX9_init_180 rfl (by decide) rfl (by decide) (Nat.le_of_ble_eq_true rfl) (Nat.le_of_ble_eq_true rfl) rfl rfl rfl ?_
  refine px_putr (pc' := 185) ff_9_89 rfl dX9_init_182 rfl (by first | assumption | (repeat (first | exact pm_up_e rfl | refine pm_up_o (by decide) ?_ | apply pm_up_o (by decide))) <;> assumption) ?_
  refine px_aload_n (i := 0) (pc' := 186) dX9_init_185 rfl rfl rfl ?_
  refine px_sipush (v := 144) (pc' := 189) dX9_init_186 rfl (by decide) ?_
  refine px_newiL (N := 144) (k' := 51) (m' := 10746) (c' := 51) (pc' := 191) wd_arr_i dX9_init_189 rfl (by decide) rfl (by decide) (Nat.le_of_ble_eq_true rfl) (Nat.le_of_ble_eq_true rfl) rfl rfl rfl ?_
  refine px_putr (pc' := 194) ff_9_92 rfl dX9_init_191 rfl (by first | assumption | (repeat (first | exact pm_up_e rfl | refine pm_up_o (by decide) ?_ | apply pm_up_o (by decide))) <;> assumption) ?_
  refine px_aload_n (i := 0) (pc' := 195) dX9_init_194 rfl rfl rfl ?_
  refine px_sipush (v := 144) (pc' := 198) dX9_init_195 rfl (by decide) ?_
  refine px_newzL (N := 144) (k' := 52) (m' := 10890) (c' := 52) (pc' := 200) wd_arr_z dX9_init_198 rfl (by decide) rfl (by decide) (Nat.le_of_ble_eq_true rfl) (Nat.le_of_ble_eq_true rfl) rfl rfl rfl ?_
  refine px_putr (pc' := 203) ff_9_95 rfl dX9_init_200 rfl (by first | assumption | (repeat (first | exact pm_up_e rfl | refine pm_up_o (by decide) ?_ | apply pm_up_o (by decide))) <;> assumption) ?_
  refine px_aload_n (i := 0) (pc' := 204) dX9_init_203 rfl rfl rfl ?_
  refine px_sipush (v := 20736) (pc' := 207) dX9_init_204 rfl (by decide) ?_
  refine px_newzL (N := 20736) (k' := 53) (m' := 31626) (c' := 53) (pc' := 209) wd_arr_z dX9_init_207 rfl (by decide) rfl (by decide) (Nat.le_of_ble_eq_true rfl) (Nat.le_of_ble_eq_true rfl) rfl rfl rfl ?_
  refine px_putr (pc' := 212) ff_9_99 rfl dX9_init_209 rfl (by first | assumption | (repeat (first | exact pm_up_e rfl | refine pm_up_o (by decide) ?_ | apply pm_up_o (by decide))) <;> assumption) ?_
  refine px_aload_n (i := 0) (pc' := 213) dX9_init_212 rfl rfl rfl ?_
  refine px_iconst (v := -1) (pc' := 214) dX9_init_213 rfl (by decide) ?_
  refine px_puti (pc' := 217) fi_9_102 dX9_init_214 rfl (by first | assumption | (repeat (first | exact pm_up_e rfl | refine pm_up_o (by decide) ?_ | apply pm_up_o (by decide))) <;> assumption) ?_
  refine px_iconst (v := 0) (pc' := 218) dX9_init_217 rfl (by decide) ?_
  refine sx_i_n_2_1 (pc' := 219) dX9_init_218 rfl rfl rfl rfl ?_
  obtain ⟨J0, f2, f4, f7, f8, f9, f10, f12, f13, f14, f16, f17, f19, f20, f21, f22, f23, f24, f26, f27, f28, f29, u1_1, u3_1, u3_2, u5_0, u5_1, u5_2, u11_5, u6_4, u6_5, u6_6, u15_5, u18_9, u25_10⟩ := q
  generalize hh : (pm_up _ 52 _ : pm_h) = h2
  generalize hg : (pm_uf _ 30 36 _ : pm_g) = g2
  have J2 : pm_J h2 g2 := by subst hh; subst hg; exact (by repeat (first | assumption | refine pm_J.up ?_ rfl | refine pm_J.uf ?_ rfl))
  have fr : ∀ a, a < 30 → h2 a = h a := by
    intro a ha
    subst hh
    repeat rw [pm_up_n _ _ (by omega)]
  have gr : ∀ a k, a < 30 → g2 a k = g a k := by
    intro a k ha
    subst hg
    repeat rw [pm_uf_a (by omega)]
  have t : h2 30 = pm_ob 9 := by subst hh; exact (by first | assumption | (repeat (first | exact pm_up_e rfl | refine pm_up_o (by decide) ?_ | apply pm_up_o (by decide))) <;> assumption)
  have r0 : g2 30 1 = .ref 31 := by subst hg; rfl
  have r1 : g2 30 4 = .ref 32 := by subst hg; rfl
  have r2 : g2 30 5 = .ref 33 := by subst hg; rfl
  have r3 : g2 30 6 = .ref 34 := by subst hg; rfl
  have r4 : g2 30 7 = .ref 35 := by subst hg; rfl
  have r5 : g2 30 8 = .ref 36 := by subst hg; rfl
  have r6 : g2 30 16 = .ref 37 := by subst hg; rfl
  have r7 : g2 30 17 = .ref 38 := by subst hg; rfl
  have r8 : g2 30 18 = .ref 39 := by subst hg; rfl
  have r9 : g2 30 19 = .ref 40 := by subst hg; rfl
  have r10 : g2 30 20 = .ref 41 := by subst hg; rfl
  have r11 : g2 30 21 = .ref 42 := by subst hg; rfl
  have r12 : g2 30 25 = .ref 43 := by subst hg; rfl
  have r13 : g2 30 26 = .ref 44 := by subst hg; rfl
  have r14 : g2 30 27 = .ref 45 := by subst hg; rfl
  have r15 : g2 30 28 = .ref 46 := by subst hg; rfl
  have r16 : g2 30 29 = .ref 47 := by subst hg; rfl
  have r17 : g2 30 30 = .ref 48 := by subst hg; rfl
  have r18 : g2 30 31 = .ref 49 := by subst hg; rfl
  have r19 : g2 30 33 = .ref 50 := by subst hg; rfl
  have r20 : g2 30 34 = .ref 51 := by subst hg; rfl
  have r21 : g2 30 35 = .ref 52 := by subst hg; rfl
  have m31 : h2 31 = pm_ia 1 160 (fun _ => 0) := by subst hh; rfl
  have m32 : h2 32 = pm_ia 0 144 (fun _ => 0) := by subst hh; rfl
  have m33 : h2 33 = pm_ia 0 144 (fun _ => 0) := by subst hh; rfl
  have m34 : h2 34 = pm_ia 0 144 (fun _ => 0) := by subst hh; rfl
  have m35 : h2 35 = pm_ia 0 144 (fun _ => 0) := by subst hh; rfl
  have m36 : h2 36 = pm_ia 0 144 (fun _ => 0) := by subst hh; rfl
  have m37 : h2 37 = pm_la 144 (fun _ => 0) := by subst hh; rfl
  have m38 : h2 38 = pm_la 144 (fun _ => 0) := by subst hh; rfl
  have m39 : h2 39 = pm_ia 0 12 (fun _ => 0) := by subst hh; rfl
  have m40 : h2 40 = pm_ia 0 12 (fun _ => 0) := by subst hh; rfl
  have m41 : h2 41 = pm_ia 0 40 (fun _ => 0) := by subst hh; rfl
  have m42 : h2 42 = pm_ia 0 40 (fun _ => 0) := by subst hh; rfl
  have m43 : h2 43 = pm_ia 0 144 (fun _ => 0) := by subst hh; rfl
  have m44 : h2 44 = pm_ia 0 144 (fun _ => 0) := by subst hh; rfl
  have m45 : h2 45 = pm_ia 0 1872 (fun _ => 0) := by subst hh; rfl
  have m46 : h2 46 = pm_ia 0 1872 (fun _ => 0) := by subst hh; rfl
  have m47 : h2 47 = pm_ia 0 13 (fun _ => 0) := by subst hh; rfl
  have m48 : h2 48 = pm_la 144 (fun _ => 0) := by subst hh; rfl
  have m49 : h2 49 = pm_la 144 (fun _ => 0) := by subst hh; rfl
  have m50 : h2 50 = pm_ia 0 144 (fun _ => 0) := by subst hh; rfl
  have m51 : h2 51 = pm_ia 2 144 (fun _ => 0) := by subst hh; rfl
  have m52 : h2 52 = pm_ia 2 20736 (fun _ => 0) := by subst hh; rfl
  have v9 : g2 30 9 = .int 2 := by subst hg; rfl
  have v10 : g2 30 10 = .int 2 := by subst hg; rfl
  have v12 : g2 30 12 = .int 1 := by subst hg; rfl
  have v36 : g2 30 36 = .int (-1) := by subst hg; rfl
  have v2 : g2 30 2 = .int 0 := by subst hg; exact gd 2
  have v11 : g2 30 11 = .int 0 := by subst hg; exact gd 11
  have v13 : g2 30 13 = .int 0 := by subst hg; exact gd 13
  have v14 : g2 30 14 = .int 0 := by subst hg; exact gd 14
  have v15 : g2 30 15 = .int 0 := by subst hg; exact gd 15
  have v22 : g2 30 22 = .int 0 := by subst hg; exact gd 22
  have v23 : g2 30 23 = .int 0 := by subst hg; exact gd 23
  have v32 : g2 30 32 = .int 0 := by subst hg; exact gd 32
  clear hh hg
  have I : pm_I h2 g2 := J2.I t r0 r1 r2 r3 r4 r5 r6 r7 r8 r9 r10 r11 r12 r13 r14 r15 r16 r17 r18 r19 r20 r21
  have loop : ∀ k i : Nat, i + k = 144 → pm_W G mX9_init (53, 31626, 53) (pm_Φ G (53, 31626, 53) (fun r h' g' => r = none ∧ ∀ fo, J (pm_up h' 53 (pm_la 1 fo)) g')) 219 [.ref 30, .int (nI i)] [] (53, 31626, 53) (pm_up h2 32 (pm_ia 0 144 (fun j => if j < i then 255 else 0))) g2 := by
    intro k
    induction k with
    | zero =>
      intro i hi
      obtain rfl : i = 144 := by omega
      refine px_iload_n (i := 1) (pc' := 220) dX9_init_219 rfl rfl rfl ?_
      refine px_sipush (v := 144) (pc' := 223) dX9_init_220 rfl (by decide) ?_
      refine px_icmp_ge (tgt := 241) (pc' := 226) dX9_init_223 (by decide) rfl (fun _ => ?_) (fun q_ => absurd (nI_le (a := 144) (by omega) (by omega)) q_)
      refine px_exti (a := 32) (pm_up_s _ _ _) (f' := fun _ => 255) (fun j hj => if_pos hj) ?_
      rw [pm_up_up]
      refine px_aload_n (i := 0) (pc' := 242) dX9_init_241 rfl rfl rfl ?_
      refine px_iconst (v := -1) (pc' := 243) dX9_init_242 rfl (by decide) ?_
      refine pi_callV (pc' := 246) (d_fly (w := 2) (d := 2) (by repeat (first | assumption | refine pm_I.up ?_ rfl | refine pm_I.uf ?_ rfl)) v9 v10 (by decide) (by decide) (by first | assumption | (repeat (first | exact pm_up_e rfl | refine pm_up_o (by decide) ?_ | apply pm_up_o (by decide))) <;> assumption)) okX9_fly ivX9_fly ml_X9_105 ⟨Nat.le_of_ble_eq_true rfl, Nat.le_of_ble_eq_true rfl⟩ dX9_init_243 rfl rfl rfl (Nat.le_of_ble_eq_true rfl) (by repeat (first | assumption | refine pm_I.up ?_ rfl | refine pm_I.uf ?_ rfl)) rfl cl_9 pm_le.rf ⟨Nat.le_of_ble_eq_true rfl, Nat.le_of_ble_eq_true rfl⟩ ?_
      rintro _ _ _ ⟨rfl, rfl, rfl⟩
      unfold m_rst2
      refine px_vret dX9_init_246 rfl rfl (⟨rfl, fun fo => ⟨(by repeat (first | assumption | refine pm_I.up ?_ rfl | refine pm_I.uf ?_ rfl)), ?_, ⟨2, 2, fun _ => 255, ?_, ?_, ?_⟩, ?_, ?_, ?_, fo, pm_up_s _ _ _⟩⟩)
      · exact ⟨0, fun _ => 0, Nat.zero_le _, (pm_uf_o (by decide) (pm_uf_o (by decide) (pm_uf_o (by decide) ((gr 1 1 (by decide)).trans u1_1)))), (pm_up_o (by decide) (pm_up_o (by decide) (pm_up_o (by decide) ((fr 2 (by decide)).trans f2)))), (pm_uf_o (by decide) (pm_uf_o (by decide) (pm_uf_o (by decide) v2))), (pm_up_o (by decide) (pm_up_o (by decide) (pm_up_o (by decide) m31)))⟩
      · exact ⟨by decide, by decide, by decide, by decide, fun _ _ => Or.inr l_255, (pm_uf_o (by decide) (pm_uf_o (by decide) (pm_uf_o (by decide) ((gr 3 1 (by decide)).trans u3_1)))), (pm_uf_o (by decide) (pm_uf_o (by decide) (pm_uf_o (by decide) ((gr 3 2 (by decide)).trans u3_2)))), (pm_up_o (by decide) (pm_up_o (by decide) (pm_up_o (by decide) ((fr 4 (by decide)).trans (f4.trans (by rw [hc255]))))))  , (pm_uf_o (by decide) (pm_uf_o (by decide) (pm_uf_o (by decide) v9))), (pm_uf_o (by decide) (pm_uf_o (by decide) (pm_uf_o (by decide) v10))), (pm_up_o (by decide) (pm_up_o (by decide) (pm_up_e rfl)))⟩
      · exact ⟨fun _ => 0, fun _ => 0, fun _ => 0, fun _ => 0, fun _ => 0, fun _ => 0, fun _ => 0, 0, fun _ _ => Or.inl ⟨rfl, rfl⟩, (pm_up_o (by decide) (pm_up_o (by decide) (pm_up_o (by decide) ((fr 12 (by decide)).trans f12)))), (pm_up_o (by decide) (pm_up_o (by decide) (pm_up_o (by decide) ((fr 13 (by decide)).trans f13)))), (pm_up_o (by decide) (pm_up_o (by decide) (pm_up_o (by decide) ((fr 14 (by decide)).trans f14)))), (pm_uf_o (by decide) (pm_uf_o (by decide) (pm_uf_o (by decide) ((gr 11 5 (by decide)).trans u11_5)))), (pm_up_o (by decide) (pm_up_o (by decide) (pm_up_o (by decide) m33))), (pm_up_o (by decide) (pm_up_o (by decide) (pm_up_o (by decide) m34))), (pm_up_o (by decide) (pm_up_o (by decide) (pm_up_o (by decide) m35))), (pm_up_o (by decide) (pm_up_o (by decide) (pm_up_o (by decide) m36))), (pm_uf_o (by decide) (pm_uf_o (by decide) (pm_uf_o (by decide) v15)))⟩
      · exact ⟨m_init (2 * 2) (-1), 0, 0, 0, fun _ => 0, fun _ => 0, fun _ => 0, fun _ => 0, -1, fun _ => 0, fun _ => 0, ⟨Nat.zero_le _, Nat.zero_le _, fun i hi => absurd hi (Nat.not_lt_zero i), fun i hi => absurd hi (Nat.not_lt_zero i), fun j => init1 _ j _, fun j hj => by unfold m_init; rw [if_neg (by omega)], ⟨0, by decide, by decide⟩, Or.inl rfl⟩, (pm_up_o (by decide) (pm_up_o (by decide) (pm_up_o (by decide) ((fr 16 (by decide)).trans f16)))), (pm_up_o (by decide) (pm_up_o (by decide) (pm_up_o (by decide) ((fr 17 (by decide)).trans f17)))), (pm_up_o (by decide) (pm_up_o (by decide) (pm_up_o (by decide) ((fr 7 (by decide)).trans f7)))), (pm_up_o (by decide) (pm_up_o (by decide) (pm_up_o (by decide) ((fr 8 (by decide)).trans f8)))), (pm_up_o (by decide) (pm_up_o (by decide) (pm_up_o (by decide) ((fr 9 (by decide)).trans f9)))), (pm_up_o (by decide) (pm_up_o (by decide) (pm_up_o (by decide) ((fr 10 (by decide)).trans f10)))), (pm_uf_o (by decide) (pm_uf_o (by decide) (pm_uf_o (by decide) ((gr 6 4 (by decide)).trans u6_4)))), (pm_uf_o (by decide) (pm_uf_o (by decide) (pm_uf_o (by decide) ((gr 6 5 (by decide)).trans u6_5)))), (pm_uf_o (by decide) (pm_uf_o (by decide) (pm_uf_o (by decide) ((gr 6 6 (by decide)).trans u6_6)))), (pm_uf_o (by decide) (pm_uf_o (by decide) (pm_uf_o (by decide) ((gr 15 5 (by decide)).trans u15_5)))), (pm_up_o (by decide) (pm_up_e rfl)), (pm_up_o (by decide) (pm_up_o (by decide) (pm_up_o (by decide) m38))), (pm_up_o (by decide) (pm_up_o (by decide) (pm_up_o (by decide) m39))), (pm_up_o (by decide) (pm_up_o (by decide) (pm_up_o (by decide) m40))), (pm_up_o (by decide) (pm_up_o (by decide) (pm_up_o (by decide) m42))), (pm_up_o (by decide) (pm_up_o (by decide) (pm_up_o (by decide) m41))), rfl, rfl, rfl, (pm_uf_o (by decide) (pm_uf_o (by decide) (pm_uf_o (by decide) v14)))⟩
      · exact ⟨0, 1, 0, by decide, by decide, by decide, by decide, (pm_uf_o (by decide) (pm_uf_o (by decide) (pm_uf_o (by decide) ((gr 5 0 (by decide)).trans u5_0)))), (pm_uf_o (by decide) (pm_uf_o (by decide) (pm_uf_o (by decide) ((gr 5 1 (by decide)).trans u5_1)))), (pm_uf_o (by decide) (pm_uf_o (by decide) (pm_uf_o (by decide) ((gr 5 2 (by decide)).trans u5_2)))), (pm_uf_o (by decide) (pm_uf_o (by decide) (pm_uf_o (by decide) v11))), (pm_uf_o (by decide) (pm_uf_o (by decide) (pm_uf_o (by decide) v12))), (pm_uf_o (by decide) (pm_uf_o (by decide) (pm_uf_o (by decide) v13)))⟩
      · exact ⟨0, fun _ => 0, fun _ => 0, fun _ => 0, fun _ => 0, fun _ => 0, fun _ => 0, fun _ => 0, fun _ => 0, fun _ => 0, fun _ => 0, fun _ => 0, fun _ => 0, fun _ => 0, by decide, fun i hi => absurd hi (Nat.not_lt_zero i), (pm_up_o (by decide) (pm_up_o (by decide) (pm_up_o (by decide) ((fr 24 (by decide)).trans f24)))), (pm_uf_o (by decide) (pm_uf_o (by decide) (pm_uf_o (by decide) ((gr 18 9 (by decide)).trans u18_9)))), (pm_up_o (by decide) (pm_up_o (by decide) (pm_up_o (by decide) ((fr 19 (by decide)).trans f19)))), (pm_up_o (by decide) (pm_up_o (by decide) (pm_up_o (by decide) ((fr 20 (by decide)).trans f20)))), (pm_up_o (by decide) (pm_up_o (by decide) (pm_up_o (by decide) ((fr 21 (by decide)).trans f21)))), (pm_up_o (by decide) (pm_up_o (by decide) (pm_up_o (by decide) ((fr 22 (by decide)).trans f22)))), (pm_up_o (by decide) (pm_up_o (by decide) (pm_up_o (by decide) ((fr 23 (by decide)).trans f23)))), (pm_up_o (by decide) (pm_up_o (by decide) (pm_up_o (by decide) m47))), (pm_uf_o (by decide) (pm_uf_o (by decide) (pm_uf_o (by decide) v32))), (pm_up_o (by decide) (pm_up_o (by decide) (pm_up_o (by decide) m43))), (pm_up_o (by decide) (pm_up_o (by decide) (pm_up_o (by decide) m44))), (pm_up_o (by decide) (pm_up_o (by decide) (pm_up_o (by decide) m45))), (pm_up_o (by decide) (pm_up_o (by decide) (pm_up_o (by decide) m46))), (pm_up_o (by decide) (pm_up_o (by decide) (pm_up_o (by decide) m48))), (pm_up_o (by decide) (pm_up_o (by decide) (pm_up_o (by decide) m49)))⟩
      · exact ⟨fun _ => 0, fun _ => 0, fun _ => 0, fun _ => 0, fun _ => 0, fun _ => 0, fun _ => 0, -1, rfl, rfl, (pm_up_o (by decide) (pm_up_o (by decide) (pm_up_o (by decide) ((fr 26 (by decide)).trans f26)))), (pm_up_o (by decide) (pm_up_o (by decide) (pm_up_o (by decide) ((fr 27 (by decide)).trans f27)))), (pm_up_o (by decide) (pm_up_o (by decide) (pm_up_o (by decide) ((fr 28 (by decide)).trans f28)))), (pm_up_o (by decide) (pm_up_o (by decide) (pm_up_o (by decide) ((fr 29 (by decide)).trans f29)))), (pm_uf_o (by decide) (pm_uf_o (by decide) (pm_uf_o (by decide) ((gr 25 10 (by decide)).trans u25_10)))), (pm_up_o (by decide) (pm_up_o (by decide) (pm_up_o (by decide) m50))), (pm_up_o (by decide) (pm_up_o (by decide) (pm_up_o (by decide) m51))), (pm_up_o (by decide) (pm_up_o (by decide) (pm_up_o (by decide) m52))), (pm_uf_o (by decide) (pm_uf_o (by decide) (pm_uf_o (by decide) v36)))⟩
    | succ k ih =>
      intro i hi
      refine px_iload_n (i := 1) (pc' := 220) dX9_init_219 rfl rfl rfl ?_
      refine px_sipush (v := 144) (pc' := 223) dX9_init_220 rfl (by decide) ?_
      refine px_icmp_ge (tgt := 241) (pc' := 226) dX9_init_223 (by decide) rfl (fun q_ => absurd q_ (nI_ge (b := 144) (by omega) (by omega))) (fun _ => ?_)
      refine px_aload_n (i := 0) (pc' := 227) dX9_init_226 rfl rfl rfl ?_
      refine pi_getr (pc' := 230) fl_9_27 dX9_init_227 rfl (by repeat (first | assumption | refine pm_I.up ?_ rfl | refine pm_I.uf ?_ rfl)) rfl rfl ?_
      refine px_iload_n (i := 1) (pc' := 231) dX9_init_230 rfl rfl rfl ?_
      refine px_sipush (v := 255) (pc' := 234) dX9_init_231 rfl (by decide) ?_
      refine px_iast (pc' := 235) dX9_init_234 rfl (by first | assumption | (repeat (first | exact pm_up_e rfl | refine pm_up_o (by decide) ?_ | apply pm_up_o (by decide))) <;> assumption) (vp_in_nI (by omega) (by omega)) ?_
      refine sx_inc_2_1 (w := 1) (pc' := 238) dX9_init_235 rfl rfl (by decide) rfl ?_
      refine px_goto (tgt := 219) dX9_init_238 (by decide) ?_
      rw [nI_1, nI_clamp (by omega), pm_up_up, upd_fill (a := fun _ => 255) (f := fun _ => 0) rfl]
      exact ih (i + 1) (by omega)
  have := loop 144 0 (by omega)
  rw [fill_0 (a := fun _ => (255 : Int32)) (f := fun _ => 0), pm_up_self m32] at this
  exact this
end MODEL
