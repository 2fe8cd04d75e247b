section BTR
variable {G : pm_G} {z : pm_z} {h : pm_h} {g : pm_g}
theorem d_isBetter_n {b F1 W1 : Nat} {x3 x4 : Int32} {c6 : Nat → Int64} (I : pm_I h g) (hb : b < 144) (f49 : h 49 = pm_la 144 c6) (hW2 : c6 b = lN 0) :
    pm_Met G mX9_isBetter [.ref 30, .int (nI F1), .long (lN W1), .int x3, .int (nI b), .int x4] z z h g (pm_q (.int 1) h g) := by
  have hbl : (nI b).toNatClampNeg = b := nI_clamp (by omega)
  refine enX9_isBetter pm_le.rf ?_
  refine px_aload_n (i := 0) (pc' := 1) dX9_isBetter_0 rfl rfl rfl ?_
  refine pi_getr (pc' := 4) fl_9_89 dX9_isBetter_1 rfl (by repeat (first | assumption | refine pm_I.up ?_ rfl | refine pm_I.uf ?_ rfl)) rfl rfl ?_
  refine px_iload (i := 5) (pc' := 6) dX9_isBetter_4 rfl rfl ?_
  refine px_lald (pc' := 7) dX9_isBetter_6 rfl (by first | assumption | (repeat (first | exact pm_up_e rfl | refine pm_up_o (by decide) ?_ | apply pm_up_o (by decide))) <;> assumption) (vp_in_nI (by omega) (by omega)) ?_
  rw [hbl, hW2]
  refine px_lconst (v := 0) (pc' := 8) dX9_isBetter_7 rfl (by decide) ?_
  refine px_lcmp (pc' := 9) dX9_isBetter_8 rfl ?_
  refine px_if_eq (tgt := 23) (pc' := 12) dX9_isBetter_9 (by decide) rfl (fun _ => ?_) (fun q_ => absurd (by rw [lg_cmp_eq]; rfl) q_)
  refine px_aload_n (i := 0) (pc' := 24) dX9_isBetter_23 rfl rfl rfl ?_
  refine pi_getr (pc' := 27) fl_9_89 dX9_isBetter_24 rfl (by repeat (first | assumption | refine pm_I.up ?_ rfl | refine pm_I.uf ?_ rfl)) rfl rfl ?_
  refine px_iload (i := 5) (pc' := 29) dX9_isBetter_27 rfl rfl ?_
  refine px_lald (pc' := 30) dX9_isBetter_29 rfl (by first | assumption | (repeat (first | exact pm_up_e rfl | refine pm_up_o (by decide) ?_ | apply pm_up_o (by decide))) <;> assumption) (vp_in_nI (by omega) (by omega)) ?_
  rw [hbl, hW2]
  refine px_lconst (v := 0) (pc' := 31) dX9_isBetter_30 rfl (by decide) ?_
  refine px_lcmp (pc' := 32) dX9_isBetter_31 rfl ?_
  refine px_if_eq (tgt := 46) (pc' := 35) dX9_isBetter_32 (by decide) rfl (fun _ => ?_) (fun q_ => absurd (by rw [lg_cmp_eq]; rfl) q_)
  refine px_iconst (v := 1) (pc' := 47) dX9_isBetter_46 rfl (by decide) ?_
  refine px_goto (tgt := 51) dX9_isBetter_47 (by decide) ?_
  exact px_zret (ty := .boolean) dX9_isBetter_51 rfl (rfl) rfl (⟨rfl, rfl, rfl⟩)
theorem d_isBetter {a b lg F1 F2 W1 W2 : Nat} {p q : Nat → Nat} {c2 c3 c4 : Nat → Int32} {c6 : Nat → Int64} (I : pm_I h g) (ha : a < 144) (hb : b < 144) (hlg : lg ≤ 12) (f44 : h 44 = pm_ia 0 144 c2) (f49 : h 49 = pm_la 144 c6) (f45 : h 45 = pm_ia 0 1872 c3) (f46 : h 46 = pm_ia 0 1872 c4)
    (hF2 : c2 b = nI F2) (h1 : F1 < 2147483648) (h2 : F2 < 2147483648) (hW2 : c6 b = lN W2) (h3 : W1 < 2 ^ 63) (h4 : W2 < 2 ^ 63) (h5 : 0 < W2) (hp : ∀ t, t ≤ lg → c3 (13 * a + t) = nI (p t) ∧ p t < 144) (hq : ∀ t, t ≤ lg → c4 (13 * b + t) = nI (q t) ∧ q t < 144) :
    pm_Met G mX9_isBetter [.ref 30, .int (nI F1), .long (lN W1), .int (nI a), .int (nI b), .int (nI (lg + 1))] z z h g (fun r h' g' => h' = h ∧ g' = g ∧ ((r = some (.int 1) ∧ (F1 < F2 ∨ (F1 = F2 ∧ (W2 < W1 ∨ (W1 = W2 ∧ b_lt 0 lg p q))))) ∨ (r = some (.int 0) ∧ (F2 < F1 ∨ (F1 = F2 ∧ (W1 < W2 ∨ (W1 = W2 ∧ (b_lt 0 lg q p ∨ b_eq 0 lg p q)))))))) := by
  have hbl : (nI b).toNatClampNeg = b := nI_clamp (by omega)
  have t1 : (nI F1).toInt = F1 := nI_toInt h1
  have t2 : (nI F2).toInt = F2 := nI_toInt h2
  have nz : ¬ lg_cmp (lN W2) 0 = 0 := fun hh => by
    have := (lc_eq h4 (show 0 < 2 ^ 63 by decide)).mp hh
    omega
  refine enX9_isBetter pm_le.rf ?_
  refine px_aload_n (i := 0) (pc' := 1) dX9_isBetter_0 rfl rfl rfl ?_
  refine pi_getr (pc' := 4) fl_9_89 dX9_isBetter_1 rfl (by repeat (first | assumption | refine pm_I.up ?_ rfl | refine pm_I.uf ?_ rfl)) rfl rfl ?_
  refine px_iload (i := 5) (pc' := 6) dX9_isBetter_4 rfl rfl ?_
  refine px_lald (pc' := 7) dX9_isBetter_6 rfl (by first | assumption | (repeat (first | exact pm_up_e rfl | refine pm_up_o (by decide) ?_ | apply pm_up_o (by decide))) <;> assumption) (vp_in_nI (by omega) (by omega)) ?_
  rw [hbl, hW2]
  refine px_lconst (v := 0) (pc' := 8) dX9_isBetter_7 rfl (by decide) ?_
  refine px_lcmp (pc' := 9) dX9_isBetter_8 rfl ?_
  refine px_if_eq (tgt := 23) (pc' := 12) dX9_isBetter_9 (by decide) rfl (fun q_ => absurd q_ (nz)) (fun _ => ?_)
  refine px_iload_n (i := 1) (pc' := 13) dX9_isBetter_12 rfl rfl rfl ?_
  refine px_aload_n (i := 0) (pc' := 14) dX9_isBetter_13 rfl rfl rfl ?_
  refine pi_getr (pc' := 17) fl_9_74 dX9_isBetter_14 rfl (by repeat (first | assumption | refine pm_I.up ?_ rfl | refine pm_I.uf ?_ rfl)) rfl rfl ?_
  refine px_iload (i := 5) (pc' := 19) dX9_isBetter_17 rfl rfl ?_
  refine px_iald (pc' := 20) dX9_isBetter_19 rfl (by first | assumption | (repeat (first | exact pm_up_e rfl | refine pm_up_o (by decide) ?_ | apply pm_up_o (by decide))) <;> assumption) (vp_in_nI (by omega) (by omega)) ?_
  rw [hbl, hF2]
  by_cases q1 : F1 = F2
  rotate_left
  · have ne : ¬ nI F1 = nI F2 := fun hh => q1 (by have := congrArg Int32.toInt hh; rw [t1, t2] at this; omega)
    refine px_icmp_eq (tgt := 52) (pc' := 23) dX9_isBetter_20 (by decide) rfl (fun q_ => absurd q_ (ne)) (fun _ => ?_)
    refine px_aload_n (i := 0) (pc' := 24) dX9_isBetter_23 rfl rfl rfl ?_
    refine pi_getr (pc' := 27) fl_9_89 dX9_isBetter_24 rfl (by repeat (first | assumption | refine pm_I.up ?_ rfl | refine pm_I.uf ?_ rfl)) rfl rfl ?_
    refine px_iload (i := 5) (pc' := 29) dX9_isBetter_27 rfl rfl ?_
    refine px_lald (pc' := 30) dX9_isBetter_29 rfl (by first | assumption | (repeat (first | exact pm_up_e rfl | refine pm_up_o (by decide) ?_ | apply pm_up_o (by decide))) <;> assumption) (vp_in_nI (by omega) (by omega)) ?_
    rw [hbl, hW2]
    refine px_lconst (v := 0) (pc' := 31) dX9_isBetter_30 rfl (by decide) ?_
    refine px_lcmp (pc' := 32) dX9_isBetter_31 rfl ?_
    refine px_if_eq (tgt := 46) (pc' := 35) dX9_isBetter_32 (by decide) rfl (fun q_ => absurd q_ (nz)) (fun _ => ?_)
    refine px_iload_n (i := 1) (pc' := 36) dX9_isBetter_35 rfl rfl rfl ?_
    refine px_aload_n (i := 0) (pc' := 37) dX9_isBetter_36 rfl rfl rfl ?_
    refine pi_getr (pc' := 40) fl_9_74 dX9_isBetter_37 rfl (by repeat (first | assumption | refine pm_I.up ?_ rfl | refine pm_I.uf ?_ rfl)) rfl rfl ?_
    refine px_iload (i := 5) (pc' := 42) dX9_isBetter_40 rfl rfl ?_
    refine px_iald (pc' := 43) dX9_isBetter_42 rfl (by first | assumption | (repeat (first | exact pm_up_e rfl | refine pm_up_o (by decide) ?_ | apply pm_up_o (by decide))) <;> assumption) (vp_in_nI (by omega) (by omega)) ?_
    rw [hbl, hF2]
    refine px_icmp_ge (tgt := 50) (pc' := 46) dX9_isBetter_43 (by decide) rfl (fun q2 => ?_) (fun q2 => ?_)
    · rw [i_le, t1, t2] at q2
      refine px_iconst (v := 0) (pc' := 51) dX9_isBetter_50 rfl (by decide) ?_
      exact px_zret (ty := .boolean) dX9_isBetter_51 rfl (rfl) rfl (⟨rfl, rfl, Or.inr ⟨rfl, Or.inl (by omega)⟩⟩)
    · rw [i_le, t1, t2] at q2
      refine px_iconst (v := 1) (pc' := 47) dX9_isBetter_46 rfl (by decide) ?_
      refine px_goto (tgt := 51) dX9_isBetter_47 (by decide) ?_
      exact px_zret (ty := .boolean) dX9_isBetter_51 rfl (rfl) rfl (⟨rfl, rfl, Or.inl ⟨rfl, Or.inl (by omega)⟩⟩)
  refine px_icmp_eq (tgt := 52) (pc' := 23) dX9_isBetter_20 (by decide) rfl (fun _ => ?_) (fun q_ => absurd (by rw [q1]) q_)
  refine px_lload_n (i := 2) (pc' := 53) dX9_isBetter_52 rfl rfl rfl ?_
  refine px_aload_n (i := 0) (pc' := 54) dX9_isBetter_53 rfl rfl rfl ?_
  refine pi_getr (pc' := 57) fl_9_89 dX9_isBetter_54 rfl (by repeat (first | assumption | refine pm_I.up ?_ rfl | refine pm_I.uf ?_ rfl)) rfl rfl ?_
  refine px_iload (i := 5) (pc' := 59) dX9_isBetter_57 rfl rfl ?_
  refine px_lald (pc' := 60) dX9_isBetter_59 rfl (by first | assumption | (repeat (first | exact pm_up_e rfl | refine pm_up_o (by decide) ?_ | apply pm_up_o (by decide))) <;> assumption) (vp_in_nI (by omega) (by omega)) ?_
  rw [hbl, hW2]
  by_cases q2 : W1 = W2
  rotate_left
  · refine px_lcmp (pc' := 61) dX9_isBetter_60 rfl ?_
    refine px_if_eq (tgt := 82) (pc' := 64) dX9_isBetter_61 (by decide) rfl (fun q_ => absurd q_ (fun hh => q2 ((lc_eq h3 h4).mp hh))) (fun _ => ?_)
    refine px_lload_n (i := 2) (pc' := 65) dX9_isBetter_64 rfl rfl rfl ?_
    refine px_aload_n (i := 0) (pc' := 66) dX9_isBetter_65 rfl rfl rfl ?_
    refine pi_getr (pc' := 69) fl_9_89 dX9_isBetter_66 rfl (by repeat (first | assumption | refine pm_I.up ?_ rfl | refine pm_I.uf ?_ rfl)) rfl rfl ?_
    refine px_iload (i := 5) (pc' := 71) dX9_isBetter_69 rfl rfl ?_
    refine px_lald (pc' := 72) dX9_isBetter_71 rfl (by first | assumption | (repeat (first | exact pm_up_e rfl | refine pm_up_o (by decide) ?_ | apply pm_up_o (by decide))) <;> assumption) (vp_in_nI (by omega) (by omega)) ?_
    rw [hbl, hW2]
    refine px_lcmp (pc' := 73) dX9_isBetter_72 rfl ?_
    refine px_if_le (tgt := 80) (pc' := 76) dX9_isBetter_73 (by decide) rfl (fun q3 => ?_) (fun q3 => ?_)
    · rw [lc_le h3 h4] at q3
      refine px_iconst (v := 0) (pc' := 81) dX9_isBetter_80 rfl (by decide) ?_
      exact px_zret (ty := .boolean) dX9_isBetter_81 rfl (rfl) rfl (⟨rfl, rfl, Or.inr ⟨rfl, Or.inr ⟨q1, Or.inl (by omega)⟩⟩⟩)
    · rw [lc_le h3 h4] at q3
      refine px_iconst (v := 1) (pc' := 77) dX9_isBetter_76 rfl (by decide) ?_
      refine px_goto (tgt := 81) dX9_isBetter_77 (by decide) ?_
      exact px_zret (ty := .boolean) dX9_isBetter_81 rfl (rfl) rfl (⟨rfl, rfl, Or.inl ⟨rfl, Or.inr ⟨q1, Or.inl (by omega)⟩⟩⟩)
  refine px_lcmp (pc' := 61) dX9_isBetter_60 rfl ?_
  refine px_if_eq (tgt := 82) (pc' := 64) dX9_isBetter_61 (by decide) rfl (fun _ => ?_) (fun q_ => absurd ((lc_eq h3 h4).mpr q2) q_)
  refine px_iconst (v := 0) (pc' := 83) dX9_isBetter_82 rfl (by decide) ?_
  refine sx_i_8_7 (pc' := 85) dX9_isBetter_83 rfl rfl rfl ?_
  have loop : ∀ k i : Nat, i + k = lg + 1 → (∀ u, u < i → p u = q u) → pm_W G mX9_isBetter z (pm_Φ G z (fun r h' g' => h' = h ∧ g' = g ∧ ((r = some (.int 1) ∧ (F1 < F2 ∨ (F1 = F2 ∧ (W2 < W1 ∨ (W1 = W2 ∧ b_lt 0 lg p q))))) ∨ (r = some (.int 0) ∧ (F2 < F1 ∨ (F1 = F2 ∧ (W1 < W2 ∨ (W1 = W2 ∧ (b_lt 0 lg q p ∨ b_eq 0 lg p q))))))))) 85 [.ref 30, .int (nI F1), .long (lN W1), pm_u, .int (nI a), .int (nI b), .int (nI (lg + 1)), .int (nI i)] [] z h g := by
    intro k
    induction k with
    | zero =>
      intro i hi he
      refine px_iload (i := 7) (pc' := 87) dX9_isBetter_85 rfl rfl ?_
      refine px_iload (i := 6) (pc' := 89) dX9_isBetter_87 rfl rfl ?_
      refine px_icmp_ge (tgt := 162) (pc' := 92) dX9_isBetter_89 (by decide) rfl (fun _ => ?_) (fun q_ => absurd (nI_le (by omega) (by omega)) q_)
      refine px_iconst (v := 0) (pc' := 163) dX9_isBetter_162 rfl (by decide) ?_
      exact px_zret (ty := .boolean) dX9_isBetter_163 rfl (rfl) rfl (⟨rfl, rfl, Or.inr ⟨rfl, Or.inr ⟨q1, Or.inr ⟨q2, Or.inr fun u hu => by rw [Nat.zero_add]; exact he u (by omega)⟩⟩⟩⟩)
    | succ k ih =>
      intro i hi he
      have ea : ∀ c, 13 * nI c + nI i = nI (13 * c + i) := fun c => by rw [show (13 : Int32) = nI 13 from rfl, pk_mul, nI_add]
      obtain ⟨p1, p2⟩ := hp i (by omega)
      obtain ⟨r1, r2⟩ := hq i (by omega)
      have t3 : (nI (p i)).toInt = p i := nI_toInt (by omega)
      have t4 : (nI (q i)).toInt = q i := nI_toInt (by omega)
      refine px_iload (i := 7) (pc' := 87) dX9_isBetter_85 rfl rfl ?_
      refine px_iload (i := 6) (pc' := 89) dX9_isBetter_87 rfl rfl ?_
      refine px_icmp_ge (tgt := 162) (pc' := 92) dX9_isBetter_89 (by decide) rfl (fun q_ => absurd q_ (nI_ge (by omega) (by omega))) (fun _ => ?_)
      refine px_aload_n (i := 0) (pc' := 93) dX9_isBetter_92 rfl rfl rfl ?_
      refine pi_getr (pc' := 96) fl_9_77 dX9_isBetter_93 rfl (by repeat (first | assumption | refine pm_I.up ?_ rfl | refine pm_I.uf ?_ rfl)) rfl rfl ?_
      refine px_bipush (v := 13) (pc' := 98) dX9_isBetter_96 rfl (by decide) ?_
      refine px_iload (i := 4) (pc' := 100) dX9_isBetter_98 rfl rfl ?_
      refine px_imul (pc' := 101) dX9_isBetter_100 rfl ?_
      refine px_iload (i := 7) (pc' := 103) dX9_isBetter_101 rfl rfl ?_
      refine px_iadd (pc' := 104) dX9_isBetter_103 rfl ?_
      refine px_iald (pc' := 105) dX9_isBetter_104 rfl (by first | assumption | (repeat (first | exact pm_up_e rfl | refine pm_up_o (by decide) ?_ | apply pm_up_o (by decide))) <;> assumption) (by rw [ea]; exact vp_in_nI (by omega) (by omega)) ?_
      refine px_aload_n (i := 0) (pc' := 106) dX9_isBetter_105 rfl rfl rfl ?_
      refine pi_getr (pc' := 109) fl_9_80 dX9_isBetter_106 rfl (by repeat (first | assumption | refine pm_I.up ?_ rfl | refine pm_I.uf ?_ rfl)) rfl rfl ?_
      refine px_bipush (v := 13) (pc' := 111) dX9_isBetter_109 rfl (by decide) ?_
      refine px_iload (i := 5) (pc' := 113) dX9_isBetter_111 rfl rfl ?_
      refine px_imul (pc' := 114) dX9_isBetter_113 rfl ?_
      refine px_iload (i := 7) (pc' := 116) dX9_isBetter_114 rfl rfl ?_
      refine px_iadd (pc' := 117) dX9_isBetter_116 rfl ?_
      refine px_iald (pc' := 118) dX9_isBetter_117 rfl (by first | assumption | (repeat (first | exact pm_up_e rfl | refine pm_up_o (by decide) ?_ | apply pm_up_o (by decide))) <;> assumption) (by rw [ea]; exact vp_in_nI (by omega) (by omega)) ?_
      rw [ea, ea, nI_clamp (by omega), nI_clamp (by omega), p1, r1]
      by_cases q3 : p i = q i
      · refine px_icmp_eq (tgt := 156) (pc' := 121) dX9_isBetter_118 (by decide) rfl (fun _ => ?_) (fun q_ => absurd (by rw [q3]) q_)
        refine sx_inc_8_7 (w := 1) (pc' := 159) dX9_isBetter_156 rfl rfl (by decide) rfl ?_
        refine px_goto (tgt := 85) dX9_isBetter_159 (by decide) ?_
        rw [nI_1]
        exact ih (i + 1) (by omega) (fun u hu => if hh : u = i then hh ▸ q3 else he u (by omega))
      · have ne : ¬ nI (p i) = nI (q i) := fun hh => q3 (by have := congrArg Int32.toInt hh; rw [t3, t4] at this; omega)
        refine px_icmp_eq (tgt := 156) (pc' := 121) dX9_isBetter_118 (by decide) rfl (fun q_ => absurd q_ (ne)) (fun _ => ?_)
        refine px_aload_n (i := 0) (pc' := 122) dX9_isBetter_121 rfl rfl rfl ?_
        refine pi_getr (pc' := 125) fl_9_77 dX9_isBetter_122 rfl (by repeat (first | assumption | refine pm_I.up ?_ rfl | refine pm_I.uf ?_ rfl)) rfl rfl ?_
        refine px_bipush (v := 13) (pc' := 127) dX9_isBetter_125 rfl (by decide) ?_
        refine px_iload (i := 4) (pc' := 129) dX9_isBetter_127 rfl rfl ?_
        refine px_imul (pc' := 130) dX9_isBetter_129 rfl ?_
        refine px_iload (i := 7) (pc' := 132) dX9_isBetter_130 rfl rfl ?_
        refine px_iadd (pc' := 133) dX9_isBetter_132 rfl ?_
        refine px_iald (pc' := 134) dX9_isBetter_133 rfl (by first | assumption | (repeat (first | exact pm_up_e rfl | refine pm_up_o (by decide) ?_ | apply pm_up_o (by decide))) <;> assumption) (by rw [ea]; exact vp_in_nI (by omega) (by omega)) ?_
        refine px_aload_n (i := 0) (pc' := 135) dX9_isBetter_134 rfl rfl rfl ?_
        refine pi_getr (pc' := 138) fl_9_80 dX9_isBetter_135 rfl (by repeat (first | assumption | refine pm_I.up ?_ rfl | refine pm_I.uf ?_ rfl)) rfl rfl ?_
        refine px_bipush (v := 13) (pc' := 140) dX9_isBetter_138 rfl (by decide) ?_
        refine px_iload (i := 5) (pc' := 142) dX9_isBetter_140 rfl rfl ?_
        refine px_imul (pc' := 143) dX9_isBetter_142 rfl ?_
        refine px_iload (i := 7) (pc' := 145) dX9_isBetter_143 rfl rfl ?_
        refine px_iadd (pc' := 146) dX9_isBetter_145 rfl ?_
        refine px_iald (pc' := 147) dX9_isBetter_146 rfl (by first | assumption | (repeat (first | exact pm_up_e rfl | refine pm_up_o (by decide) ?_ | apply pm_up_o (by decide))) <;> assumption) (by rw [ea]; exact vp_in_nI (by omega) (by omega)) ?_
        rw [ea, ea, nI_clamp (by omega), nI_clamp (by omega), p1, r1]
        refine px_icmp_ge (tgt := 154) (pc' := 150) dX9_isBetter_147 (by decide) rfl (fun q4 => ?_) (fun q4 => ?_)
        · rw [i_le, t3, t4] at q4
          refine px_iconst (v := 0) (pc' := 155) dX9_isBetter_154 rfl (by decide) ?_
          exact px_zret (ty := .boolean) dX9_isBetter_155 rfl (rfl) rfl (⟨rfl, rfl, Or.inr ⟨rfl, Or.inr ⟨q1, Or.inr ⟨q2, Or.inl ⟨i, by omega, fun u hu => by rw [Nat.zero_add]; exact (he u hu).symm, by rw [Nat.zero_add]; omega⟩⟩⟩⟩⟩)
        · rw [i_le, t3, t4] at q4
          refine px_iconst (v := 1) (pc' := 151) dX9_isBetter_150 rfl (by decide) ?_
          refine px_goto (tgt := 155) dX9_isBetter_151 (by decide) ?_
          exact px_zret (ty := .boolean) dX9_isBetter_155 rfl (rfl) rfl (⟨rfl, rfl, Or.inl ⟨rfl, Or.inr ⟨q1, Or.inr ⟨q2, ⟨i, by omega, fun u hu => by rw [Nat.zero_add]; exact he u hu, by rw [Nat.zero_add]; omega⟩⟩⟩⟩⟩)
  exact loop (lg + 1) 0 (by omega) (fun u hu => absurd hu (by omega))
end BTR
