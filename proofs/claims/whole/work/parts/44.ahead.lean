section AHD
variable {G : pm_G} {z : pm_z} {h : pm_h} {g : pm_g}
theorem lc_eq {a b : Nat} (ha : a < 2 ^ 63) (hb : b < 2 ^ 63) : lg_cmp (lN a) (lN b) = 0 ↔ a = b := by
  rw [lg_cmp_eq, pk_lEQ ha hb]
theorem d_isAhead {a b lg F1 F2 W1 W2 : Nat} {p q : Nat → Nat} {c1 c3 : Nat → Int32} {c5 : Nat → Int64} (I : pm_I h g) (ha : a < 144) (hb : b < 144) (hlg : lg ≤ 12) (e6 : g 30 22 = .int (nI lg)) (f43 : h 43 = pm_ia 0 144 c1) (f48 : h 48 = pm_la 144 c5) (f45 : h 45 = pm_ia 0 1872 c3)
    (hF1 : c1 a = nI F1) (hF2 : c1 b = nI F2) (h1 : F1 < 2147483648) (h2 : F2 < 2147483648) (hW1 : c5 a = lN W1) (hW2 : c5 b = lN W2) (h3 : W1 < 2 ^ 63) (h4 : W2 < 2 ^ 63) (hp : ∀ t, t ≤ lg → c3 (13 * a + t) = nI (p t) ∧ p t < 144) (hq : ∀ t, t ≤ lg → c3 (13 * b + t) = nI (q t) ∧ q t < 144) :
    pm_Met G mX9_isAhead [.ref 30, .int (nI a), .int (nI b)] z z h g (fun r h' g' => h' = h ∧ g' = g ∧ ((r = some (.int 1) ∧ (F1 < F2 ∨ (F1 = F2 ∧ (W2 < W1 ∨ (W1 = W2 ∧ b_lt 0 lg p q))))) ∨ (r = some (.int 0) ∧ (F2 < F1 ∨ (F1 = F2 ∧ (W1 < W2 ∨ (W1 = W2 ∧ (b_lt 0 lg q p ∨ b_eq 0 lg p q)))))))) := by
  have hal : (nI a).toNatClampNeg = a := nI_clamp (by omega)
  have hbl : (nI b).toNatClampNeg = b := nI_clamp (by omega)
  have t1 : (nI F1).toInt = F1 := nI_toInt h1
  have t2 : (nI F2).toInt = F2 := nI_toInt h2
  refine enX9_isAhead pm_le.rf ?_
  refine px_aload_n (i := 0) (pc' := 1) dX9_isAhead_0 rfl rfl rfl ?_
  refine pi_getr (pc' := 4) fl_9_71 dX9_isAhead_1 rfl (by repeat (first | assumption | refine pm_I.up ?_ rfl | refine pm_I.uf ?_ rfl)) rfl rfl ?_
  refine px_iload_n (i := 1) (pc' := 5) dX9_isAhead_4 rfl rfl rfl ?_
  refine px_iald (pc' := 6) dX9_isAhead_5 rfl (by first | assumption | (repeat (first | exact pm_up_e rfl | refine pm_up_o (by decide) ?_ | apply pm_up_o (by decide))) <;> assumption) (vp_in_nI (by omega) (by omega)) ?_
  refine px_aload_n (i := 0) (pc' := 7) dX9_isAhead_6 rfl rfl rfl ?_
  refine pi_getr (pc' := 10) fl_9_71 dX9_isAhead_7 rfl (by repeat (first | assumption | refine pm_I.up ?_ rfl | refine pm_I.uf ?_ rfl)) rfl rfl ?_
  refine px_iload_n (i := 2) (pc' := 11) dX9_isAhead_10 rfl rfl rfl ?_
  refine px_iald (pc' := 12) dX9_isAhead_11 rfl (by first | assumption | (repeat (first | exact pm_up_e rfl | refine pm_up_o (by decide) ?_ | apply pm_up_o (by decide))) <;> assumption) (vp_in_nI (by omega) (by omega)) ?_
  rw [hal, hbl, hF1, hF2]
  by_cases q1 : F1 = F2
  rotate_left
  · have ne : ¬ nI F1 = nI F2 := fun hh => q1 (by have := congrArg Int32.toInt hh; rw [t1, t2] at this; omega)
    refine px_icmp_eq (tgt := 36) (pc' := 15) dX9_isAhead_12 (by decide) rfl (fun q_ => absurd q_ (ne)) (fun _ => ?_)
    refine px_aload_n (i := 0) (pc' := 16) dX9_isAhead_15 rfl rfl rfl ?_
    refine pi_getr (pc' := 19) fl_9_71 dX9_isAhead_16 rfl (by repeat (first | assumption | refine pm_I.up ?_ rfl | refine pm_I.uf ?_ rfl)) rfl rfl ?_
    refine px_iload_n (i := 1) (pc' := 20) dX9_isAhead_19 rfl rfl rfl ?_
    refine px_iald (pc' := 21) dX9_isAhead_20 rfl (by first | assumption | (repeat (first | exact pm_up_e rfl | refine pm_up_o (by decide) ?_ | apply pm_up_o (by decide))) <;> assumption) (vp_in_nI (by omega) (by omega)) ?_
    refine px_aload_n (i := 0) (pc' := 22) dX9_isAhead_21 rfl rfl rfl ?_
    refine pi_getr (pc' := 25) fl_9_71 dX9_isAhead_22 rfl (by repeat (first | assumption | refine pm_I.up ?_ rfl | refine pm_I.uf ?_ rfl)) rfl rfl ?_
    refine px_iload_n (i := 2) (pc' := 26) dX9_isAhead_25 rfl rfl rfl ?_
    refine px_iald (pc' := 27) dX9_isAhead_26 rfl (by first | assumption | (repeat (first | exact pm_up_e rfl | refine pm_up_o (by decide) ?_ | apply pm_up_o (by decide))) <;> assumption) (vp_in_nI (by omega) (by omega)) ?_
    rw [hal, hbl, hF1, hF2]
    refine px_icmp_ge (tgt := 34) (pc' := 30) dX9_isAhead_27 (by decide) rfl (fun q2 => ?_) (fun q2 => ?_)
    · rw [i_le, t1, t2] at q2
      refine px_iconst (v := 0) (pc' := 35) dX9_isAhead_34 rfl (by decide) ?_
      exact px_zret (ty := .boolean) dX9_isAhead_35 rfl (rfl) rfl (⟨rfl, rfl, Or.inr ⟨rfl, Or.inl (by omega)⟩⟩)
    · rw [i_le, t1, t2] at q2
      refine px_iconst (v := 1) (pc' := 31) dX9_isAhead_30 rfl (by decide) ?_
      refine px_goto (tgt := 35) dX9_isAhead_31 (by decide) ?_
      exact px_zret (ty := .boolean) dX9_isAhead_35 rfl (rfl) rfl (⟨rfl, rfl, Or.inl ⟨rfl, Or.inl (by omega)⟩⟩)
  refine px_icmp_eq (tgt := 36) (pc' := 15) dX9_isAhead_12 (by decide) rfl (fun _ => ?_) (fun q_ => absurd (by rw [q1]) q_)
  refine px_aload_n (i := 0) (pc' := 37) dX9_isAhead_36 rfl rfl rfl ?_
  refine pi_getr (pc' := 40) fl_9_86 dX9_isAhead_37 rfl (by repeat (first | assumption | refine pm_I.up ?_ rfl | refine pm_I.uf ?_ rfl)) rfl rfl ?_
  refine px_iload_n (i := 1) (pc' := 41) dX9_isAhead_40 rfl rfl rfl ?_
  refine px_lald (pc' := 42) dX9_isAhead_41 rfl (by first | assumption | (repeat (first | exact pm_up_e rfl | refine pm_up_o (by decide) ?_ | apply pm_up_o (by decide))) <;> assumption) (vp_in_nI (by omega) (by omega)) ?_
  refine px_aload_n (i := 0) (pc' := 43) dX9_isAhead_42 rfl rfl rfl ?_
  refine pi_getr (pc' := 46) fl_9_86 dX9_isAhead_43 rfl (by repeat (first | assumption | refine pm_I.up ?_ rfl | refine pm_I.uf ?_ rfl)) rfl rfl ?_
  refine px_iload_n (i := 2) (pc' := 47) dX9_isAhead_46 rfl rfl rfl ?_
  refine px_lald (pc' := 48) dX9_isAhead_47 rfl (by first | assumption | (repeat (first | exact pm_up_e rfl | refine pm_up_o (by decide) ?_ | apply pm_up_o (by decide))) <;> assumption) (vp_in_nI (by omega) (by omega)) ?_
  refine px_lcmp (pc' := 49) dX9_isAhead_48 rfl ?_
  rw [hal, hbl, hW1, hW2]
  by_cases q2 : W1 = W2
  rotate_left
  · refine px_if_eq (tgt := 74) (pc' := 52) dX9_isAhead_49 (by decide) rfl (fun q_ => absurd q_ (fun hh => q2 ((lc_eq h3 h4).mp hh))) (fun _ => ?_)
    refine px_aload_n (i := 0) (pc' := 53) dX9_isAhead_52 rfl rfl rfl ?_
    refine pi_getr (pc' := 56) fl_9_86 dX9_isAhead_53 rfl (by repeat (first | assumption | refine pm_I.up ?_ rfl | refine pm_I.uf ?_ rfl)) rfl rfl ?_
    refine px_iload_n (i := 1) (pc' := 57) dX9_isAhead_56 rfl rfl rfl ?_
    refine px_lald (pc' := 58) dX9_isAhead_57 rfl (by first | assumption | (repeat (first | exact pm_up_e rfl | refine pm_up_o (by decide) ?_ | apply pm_up_o (by decide))) <;> assumption) (vp_in_nI (by omega) (by omega)) ?_
    refine px_aload_n (i := 0) (pc' := 59) dX9_isAhead_58 rfl rfl rfl ?_
    refine pi_getr (pc' := 62) fl_9_86 dX9_isAhead_59 rfl (by repeat (first | assumption | refine pm_I.up ?_ rfl | refine pm_I.uf ?_ rfl)) rfl rfl ?_
    refine px_iload_n (i := 2) (pc' := 63) dX9_isAhead_62 rfl rfl rfl ?_
    refine px_lald (pc' := 64) dX9_isAhead_63 rfl (by first | assumption | (repeat (first | exact pm_up_e rfl | refine pm_up_o (by decide) ?_ | apply pm_up_o (by decide))) <;> assumption) (vp_in_nI (by omega) (by omega)) ?_
    refine px_lcmp (pc' := 65) dX9_isAhead_64 rfl ?_
    rw [hal, hbl, hW1, hW2]
    refine px_if_le (tgt := 72) (pc' := 68) dX9_isAhead_65 (by decide) rfl (fun q3 => ?_) (fun q3 => ?_)
    · rw [lc_le h3 h4] at q3
      refine px_iconst (v := 0) (pc' := 73) dX9_isAhead_72 rfl (by decide) ?_
      exact px_zret (ty := .boolean) dX9_isAhead_73 rfl (rfl) rfl (⟨rfl, rfl, Or.inr ⟨rfl, Or.inr ⟨q1, Or.inl (by omega)⟩⟩⟩)
    · rw [lc_le h3 h4] at q3
      refine px_iconst (v := 1) (pc' := 69) dX9_isAhead_68 rfl (by decide) ?_
      refine px_goto (tgt := 73) dX9_isAhead_69 (by decide) ?_
      exact px_zret (ty := .boolean) dX9_isAhead_73 rfl (rfl) rfl (⟨rfl, rfl, Or.inl ⟨rfl, Or.inr ⟨q1, Or.inl (by omega)⟩⟩⟩)
  refine px_if_eq (tgt := 74) (pc' := 52) dX9_isAhead_49 (by decide) rfl (fun _ => ?_) (fun q_ => absurd ((lc_eq h3 h4).mpr q2) q_)
  refine px_iconst (v := 0) (pc' := 75) dX9_isAhead_74 rfl (by decide) ?_
  refine sx_i_n_4_3 (pc' := 76) dX9_isAhead_75 rfl rfl rfl rfl ?_
  have loop : ∀ k i : Nat, i + k = lg + 1 → (∀ u, u < i → p u = q u) → pm_W G mX9_isAhead z (pm_Φ G z (fun r h' g' => h' = h ∧ g' = g ∧ ((r = some (.int 1) ∧ (F1 < F2 ∨ (F1 = F2 ∧ (W2 < W1 ∨ (W1 = W2 ∧ b_lt 0 lg p q))))) ∨ (r = some (.int 0) ∧ (F2 < F1 ∨ (F1 = F2 ∧ (W1 < W2 ∨ (W1 = W2 ∧ (b_lt 0 lg q p ∨ b_eq 0 lg p q))))))))) 76 [.ref 30, .int (nI a), .int (nI b), .int (nI i)] [] z h g := by
    intro k
    induction k with
    | zero =>
      intro i hi he
      refine px_iload_n (i := 3) (pc' := 77) dX9_isAhead_76 rfl rfl rfl ?_
      refine px_aload_n (i := 0) (pc' := 78) dX9_isAhead_77 rfl rfl rfl ?_
      refine pi_geti (pc' := 81) fl_9_130 dX9_isAhead_78 rfl (by repeat (first | assumption | refine pm_I.up ?_ rfl | refine pm_I.uf ?_ rfl)) rfl (by first | assumption | (repeat (first | exact pm_uf_e rfl | refine pm_uf_o (by decide) ?_ | apply pm_uf_o (by decide))) <;> assumption) ?_
      refine px_icmp_gt (tgt := 146) (pc' := 84) dX9_isAhead_81 (by decide) rfl (fun _ => ?_) (fun q_ => absurd (by rw [i_lt, nI_toInt (by omega), nI_toInt (by omega)]; omega) q_)
      refine px_iconst (v := 0) (pc' := 147) dX9_isAhead_146 rfl (by decide) ?_
      exact px_zret (ty := .boolean) dX9_isAhead_147 rfl (rfl) rfl (⟨rfl, rfl, Or.inr ⟨rfl, Or.inr ⟨q1, Or.inr ⟨q2, Or.inr fun u hu => by rw [Nat.zero_add]; exact he u (by omega)⟩⟩⟩⟩)
    | succ k ih =>
      intro i hi he
      have ea : ∀ c, 13 * nI c + nI i = nI (13 * c + i) := fun c => by rw [show (13 : Int32) = nI 13 from rfl, pk_mul, nI_add]
      obtain ⟨p1, p2⟩ := hp i (by omega)
      obtain ⟨r1, r2⟩ := hq i (by omega)
      have t3 : (nI (p i)).toInt = p i := nI_toInt (by omega)
      have t4 : (nI (q i)).toInt = q i := nI_toInt (by omega)
      refine px_iload_n (i := 3) (pc' := 77) dX9_isAhead_76 rfl rfl rfl ?_
      refine px_aload_n (i := 0) (pc' := 78) dX9_isAhead_77 rfl rfl rfl ?_
      refine pi_geti (pc' := 81) fl_9_130 dX9_isAhead_78 rfl (by repeat (first | assumption | refine pm_I.up ?_ rfl | refine pm_I.uf ?_ rfl)) rfl (by first | assumption | (repeat (first | exact pm_uf_e rfl | refine pm_uf_o (by decide) ?_ | apply pm_uf_o (by decide))) <;> assumption) ?_
      refine px_icmp_gt (tgt := 146) (pc' := 84) dX9_isAhead_81 (by decide) rfl (fun q_ => absurd q_ (by rw [i_lt, nI_toInt (by omega), nI_toInt (by omega)]; omega)) (fun _ => ?_)
      refine px_aload_n (i := 0) (pc' := 85) dX9_isAhead_84 rfl rfl rfl ?_
      refine pi_getr (pc' := 88) fl_9_77 dX9_isAhead_85 rfl (by repeat (first | assumption | refine pm_I.up ?_ rfl | refine pm_I.uf ?_ rfl)) rfl rfl ?_
      refine px_bipush (v := 13) (pc' := 90) dX9_isAhead_88 rfl (by decide) ?_
      refine px_iload_n (i := 1) (pc' := 91) dX9_isAhead_90 rfl rfl rfl ?_
      refine px_imul (pc' := 92) dX9_isAhead_91 rfl ?_
      refine px_iload_n (i := 3) (pc' := 93) dX9_isAhead_92 rfl rfl rfl ?_
      refine px_iadd (pc' := 94) dX9_isAhead_93 rfl ?_
      refine px_iald (pc' := 95) dX9_isAhead_94 rfl (by first | assumption | (repeat (first | exact pm_up_e rfl | refine pm_up_o (by decide) ?_ | apply pm_up_o (by decide))) <;> assumption) (by rw [ea]; exact vp_in_nI (by omega) (by omega)) ?_
      refine px_aload_n (i := 0) (pc' := 96) dX9_isAhead_95 rfl rfl rfl ?_
      refine pi_getr (pc' := 99) fl_9_77 dX9_isAhead_96 rfl (by repeat (first | assumption | refine pm_I.up ?_ rfl | refine pm_I.uf ?_ rfl)) rfl rfl ?_
      refine px_bipush (v := 13) (pc' := 101) dX9_isAhead_99 rfl (by decide) ?_
      refine px_iload_n (i := 2) (pc' := 102) dX9_isAhead_101 rfl rfl rfl ?_
      refine px_imul (pc' := 103) dX9_isAhead_102 rfl ?_
      refine px_iload_n (i := 3) (pc' := 104) dX9_isAhead_103 rfl rfl rfl ?_
      refine px_iadd (pc' := 105) dX9_isAhead_104 rfl ?_
      refine px_iald (pc' := 106) dX9_isAhead_105 rfl (by first | assumption | (repeat (first | exact pm_up_e rfl | refine pm_up_o (by decide) ?_ | apply pm_up_o (by decide))) <;> assumption) (by rw [ea]; exact vp_in_nI (by omega) (by omega)) ?_
      rw [ea, ea, nI_clamp (by omega), nI_clamp (by omega), p1, r1]
      by_cases q3 : p i = q i
      · refine px_icmp_eq (tgt := 140) (pc' := 109) dX9_isAhead_106 (by decide) rfl (fun _ => ?_) (fun q_ => absurd (by rw [q3]) q_)
        refine sx_inc_4_3 (w := 1) (pc' := 143) dX9_isAhead_140 rfl rfl (by decide) rfl ?_
        refine px_goto (tgt := 76) dX9_isAhead_143 (by decide) ?_
        rw [nI_1]
        exact ih (i + 1) (by omega) (fun u hu => if hh : u = i then hh ▸ q3 else he u (by omega))
      · have ne : ¬ nI (p i) = nI (q i) := fun hh => q3 (by have := congrArg Int32.toInt hh; rw [t3, t4] at this; omega)
        refine px_icmp_eq (tgt := 140) (pc' := 109) dX9_isAhead_106 (by decide) rfl (fun q_ => absurd q_ (ne)) (fun _ => ?_)
        refine px_aload_n (i := 0) (pc' := 110) dX9_isAhead_109 rfl rfl rfl ?_
        refine pi_getr (pc' := 113) fl_9_77 dX9_isAhead_110 rfl (by repeat (first | assumption | refine pm_I.up ?_ rfl | refine pm_I.uf ?_ rfl)) rfl rfl ?_
        refine px_bipush (v := 13) (pc' := 115) dX9_isAhead_113 rfl (by decide) ?_
        refine px_iload_n (i := 1) (pc' := 116) dX9_isAhead_115 rfl rfl rfl ?_
        refine px_imul (pc' := 117) dX9_isAhead_116 rfl ?_
        refine px_iload_n (i := 3) (pc' := 118) dX9_isAhead_117 rfl rfl rfl ?_
        refine px_iadd (pc' := 119) dX9_isAhead_118 rfl ?_
        refine px_iald (pc' := 120) dX9_isAhead_119 rfl (by first | assumption | (repeat (first | exact pm_up_e rfl | refine pm_up_o (by decide) ?_ | apply pm_up_o (by decide))) <;> assumption) (by rw [ea]; exact vp_in_nI (by omega) (by omega)) ?_
        refine px_aload_n (i := 0) (pc' := 121) dX9_isAhead_120 rfl rfl rfl ?_
        refine pi_getr (pc' := 124) fl_9_77 dX9_isAhead_121 rfl (by repeat (first | assumption | refine pm_I.up ?_ rfl | refine pm_I.uf ?_ rfl)) rfl rfl ?_
        refine px_bipush (v := 13) (pc' := 126) dX9_isAhead_124 rfl (by decide) ?_
        refine px_iload_n (i := 2) (pc' := 127) dX9_isAhead_126 rfl rfl rfl ?_
        refine px_imul (pc' := 128) dX9_isAhead_127 rfl ?_
        refine px_iload_n (i := 3) (pc' := 129) dX9_isAhead_128 rfl rfl rfl ?_
        refine px_iadd (pc' := 130) dX9_isAhead_129 rfl ?_
        refine px_iald (pc' := 131) dX9_isAhead_130 rfl (by first | assumption | (repeat (first | exact pm_up_e rfl | refine pm_up_o (by decide) ?_ | apply pm_up_o (by decide))) <;> assumption) (by rw [ea]; exact vp_in_nI (by omega) (by omega)) ?_
        rw [ea, ea, nI_clamp (by omega), nI_clamp (by omega), p1, r1]
        refine px_icmp_ge (tgt := 138) (pc' := 134) dX9_isAhead_131 (by decide) rfl (fun q4 => ?_) (fun q4 => ?_)
        · rw [i_le, t3, t4] at q4
          refine px_iconst (v := 0) (pc' := 139) dX9_isAhead_138 rfl (by decide) ?_
          exact px_zret (ty := .boolean) dX9_isAhead_139 rfl (rfl) rfl (⟨rfl, rfl, Or.inr ⟨rfl, Or.inr ⟨q1, Or.inr ⟨q2, Or.inl ⟨i, by omega, fun u hu => by rw [Nat.zero_add]; exact (he u hu).symm, by rw [Nat.zero_add]; omega⟩⟩⟩⟩⟩)
        · rw [i_le, t3, t4] at q4
          refine px_iconst (v := 1) (pc' := 135) dX9_isAhead_134 rfl (by decide) ?_
          refine px_goto (tgt := 139) dX9_isAhead_135 (by decide) ?_
          exact px_zret (ty := .boolean) dX9_isAhead_139 rfl (rfl) rfl (⟨rfl, rfl, Or.inl ⟨rfl, Or.inr ⟨q1, Or.inr ⟨q2, ⟨i, by omega, fun u hu => by rw [Nat.zero_add]; exact he u hu, by rw [Nat.zero_add]; omega⟩⟩⟩⟩⟩)
  exact loop (lg + 1) 0 (by omega) (fun u hu => absurd hu (by omega))
end AHD
