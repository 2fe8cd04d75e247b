section AHD
variable {G : pm_G} {z : pm_z} {h : pm_h} {g : pm_g}
theorem lc_eq {a b : Nat} (ha : a < 2 ^ 63) (hb : b < 2 ^ 63) : lg_cmp (lN a) (lN b) = 0 ↔ a = b := by
  rw [lg_cmp_eq, pk_lEQ ha hb]
theorem d_isAhead {a b lg F1 F2 W1 W2 : Nat} {p q : Nat → Nat} {c1 c3 : Nat → Int32} {c5 : Nat → Int64} (I : pm_I h g) (ha : a < 144) (hb : b < 144) (hlg : lg ≤ 12) (e6 : g 30 22 = .int (nI lg)) (f43 : h 43 = pm_ia 0 144 c1) (f48 : h 48 = pm_la 144 c5) (f45 : h 45 = pm_ia 0 1872 c3)
    (hF1 : c1 a = nI F1) (hF2 : c1 b = nI F2) (h1 : F1 < 2147483648) (h2 : F2 < 2147483648) (hW1 : c5 a = lN W1) (hW2 : c5 b = lN W2) (h3 : W1 < 2 ^ 63) (h4 : W2 < 2 ^ 63) (hp : ∀ t, t ≤ lg → c3 (13 * a + t) = nI (p t) ∧ p t < 144) (hq : ∀ t, t ≤ lg → c3 (13 * b + t) = nI (q t) ∧ q t < 144) :
    pm_Met G mX9_isAhead [.ref 30, .int (nI a), .int (nI b)] z z h g (fun r h' g' => h' = h ∧ g' = g ∧ ((r = some (.int 1) ∧ (F1 < F2 ∨ (F1 = F2 ∧ (W2 < W1 ∨ (W1 = W2 ∧ b_lt 0 lg p q))))) ∨ (r = some (.int 0) ∧ (F2 < F1 ∨ (F1 = F2 ∧ (W1 < W2 ∨ (W1 = W2 ∧ (b_lt 0 lg q p ∨ b_eq 0 lg p q)))))))) := by
  have hal : (nI a).toNatClampNeg = a := nI_clamp (by omega)
  have hbl : (nI b).toNatClampNeg = b := nI_clamp (by omega)
  have t1 : (nI F1).toInt = F1 := nI_toInt h1
  have t2 : (nI F2).toInt = F2 := nI_toInt h2
  refine enX9_isAhead pm_le.rf ?_
  refine px_aload_n (i := 0) (pc' := 1) dX9_isAhead_0 rfl rfl rfl ?_
  refine pi_getr (pc' := 4) fl_9_71 dX9_isAhead_1 rfl (by repeat (first | assumption | refine pm_I.up ?_ rfl | refine pm_I.uf ?_ rfl)) rfl rfl ?_
  refine px_iload_n (i := 1) (pc' := 5) dX9_isAhead_4 rfl rfl rfl ?_
  refine px_iald (pc' := 6) dX9_isAhead_5 rfl (by first | assumption | (repeat (first | exact pm_up_e rfl | refine pm_up_o (by decide) ?_ | apply pm_up_o (by decide))) <;> assumption) (vp_in_nI (by omega) (by omega)) ?_
  refine px_aload_n (i := 0) (pc' := 7) dX9_isAhead_6 rfl rfl rfl ?_
  refine pi_getr (pc' := 10) fl_9_71 dX9_isAhead_7 rfl (by repeat (first | assumption | refine pm_I.up ?_ rfl | refine pm_I.uf ?_ rfl)) rfl rfl ?_
  refine px_iload_n (i := 2) (pc' := 11) dX9_isAhead_10 rfl rfl rfl ?_
  refine px_iald (pc' := 12) dX9_isAhead_11 rfl (by first | assumption | (repeat (first | exact pm_up_e rfl | refine pm_up_o (by decide) ?_ | apply pm_up_o (by decide))) <;> assumption) (vp_in_nI (by omega) (by omega)) ?_
  rw [hal, hbl, hF1, hF2]
  by_cases q1 : F1 = F2
  rotate_left
  · have ne : ¬ nI F1 = nI F2 := fun hh => q1 (by have := congrArg Int32.toInt hh; rw [t1, t2] at this; omega)
    refine px_icmp_eq (tgt := 36) (pc' := 15) dX9_isAhead_12 (by decide) rfl (fun q_ => absurd q_ (ne)) (fun _ => ?_)
    refine px_aload_n (i := 0) (pc' := 16) dX9_isAhead_15 rfl rfl rfl ?_
    refine pi_getr (pc' := 19) fl_9_71 dX9_isAhead_16 rfl (by repeat (first | assumption | refine pm_I.up ?_ rfl | refine pm_I.uf ?_ rfl)) rfl rfl ?_
    refine px_iload_n (i := 1) (pc' := 20) dX9_isAhead_19 rfl rfl rfl ?_
    refine px_iald (pc' := 21) dX9_isAhead_20 rfl (by first | assumption | (repeat (first | exact pm_up_e rfl | refine pm_up_o (by decide) ?_ | apply pm_up_o (by decide))) <;> assumption) (vp_in_nI (by omega) (by omega)) ?_
    refine px_aload_n (i := 0) (pc' := 22) dX9_isAhead_21 rfl rfl rfl ?_
    refine pi_getr (pc' := 25) fl_9_71 dX9_isAhead_22 rfl (by repeat (first | assumption | refine pm_I.up ?_ rfl | refine pm_I.uf ?_ rfl)) rfl rfl ?_
    refine px_iload_n (i := 2) (pc' := 26) dX9_isAhead_25 rfl rfl rfl ?_
    refine px_iald (pc' := 27) dX9_isAhead_26 rfl (by first | assumption | (repeat (first | exact pm_up_e rfl | refine pm_up_o (by decide) ?_ | apply pm_up_o (by decide))) <;> assumption) (vp_in_nI (by omega) (by omega)) ?_
    rw [hal, hbl, hF1, hF2]
    refine px_icmp_ge (tgt := 34) (pc' := 30) dX9_isAhead_27 (by decide) rfl (fun q2 => ?_) (fun q2 => ?_)
    · rw [i_le, t1, t2] at q2
      refine px_iconst (v := 0) (pc' := 35) dX9_isAhead_34 rfl (by decide) ?_
      exact px_zret (ty := .boolean) dX9_isAhead_35 rfl (rfl) rfl (⟨rfl, rfl, Or.inr ⟨rfl, Or.inl (by omega)⟩⟩)
    · rw [i_le, t1, t2] at q2
      refine px_iconst (v := 1) (pc' := 31) dX9_isAhead_30 rfl (by decide) ?_
      refine px_goto (tgt := 35) dX9_isAhead_31 (by decide) ?_
      exact px_zret (ty := .boolean) dX9_isAhead_35 rfl (rfl) rfl (⟨rfl, rfl, Or.inl ⟨rfl, Or.inl (by omega)⟩⟩)
  refine px_icmp_eq (tgt := 36) (pc' := 15) dX9_isAhead_12 (by decide) rfl (fun _ => ?_) (fun q_ => absurd (by rw [q1]) q_)
  refine px_aload_n (i := 0) (pc' := 37) dX9_isAhead_36 rfl rfl rfl ?_
  refine pi_getr (pc' := 40) fl_9_86 dX9_isAhead_37 rfl (by repeat (first | assumption | refine pm_I.up ?_ rfl | refine pm_I.uf ?_ rfl)) rfl rfl ?_
  refine px_iload_n (i := 1) (pc' := 41) dX9_isAhead_40 rfl rfl rfl ?_
  refine px_lald (pc' := 42) dX9_isAhead_41 rfl (by first | assumption | (repeat (first | exact pm_up_e rfl | refine pm_up_o (by decide) ?_ | apply pm_up_o (by decide))) <;> assumption) (vp_in_nI (by omega) (by omega)) ?_
  refine px_aload_n (i := 0) (pc' := 43) dX9_isAhead_42 rfl rfl rfl ?_
  refine pi_getr (pc' := 46) fl_9_86 dX9_isAhead_43 rfl (by repeat (first | assumption | refine pm_I.up ?_ rfl | refine pm_I.uf ?_ rfl)) rfl rfl ?_
  refine px_iload_n (i := 2) (pc' := 47) dX9_isAhead_46 rfl rfl rfl ?_
  refine px_lald (pc' := 48) dX9_isAhead_47 rfl (by first | assumption | (repeat (first | exact pm_up_e rfl | refine pm_up_o (by decide) ?_ | apply pm_up_o (by decide))) <;> assumption) (vp_in_nI (by omega) (by omega)) ?_
  refine px_lcmp (pc' := 49) dX9_isAhead_48 rfl ?_
  rw [hal, hbl, hW1, hW2]
  by_cases q2 : W1 = W2
  rotate_left
  · refine px_if_eq (tgt := 74) (pc' := 52) dX9_isAhead_49 (by decide) rfl (fun q_ => absurd q_ (fun hh => q2 ((lc_eq h3 h4).mp hh))) (fun _ => ?_)
    refine px_aload_n (i := 0) (pc' := 53) dX9_isAhead_52 rfl rfl rfl ?_
    refine pi_getr (pc' := 56) fl_9_86 dX9_isAhead_53 rfl (by repeat (first | assumption | refine pm_I.up ?_ rfl | refine pm_I.uf ?_ rfl)) rfl rfl ?_
    refine px_iload_n (i := 1) (pc' := 57) dX9_isAhead_56 rfl rfl rfl ?_
    refine px_lald (pc' := 58) dX9_isAhead_57 rfl (by first | assumption | (repeat (first | exact pm_up_e rfl | refine pm_up_o (by decide) ?_ | apply pm_up_o (by decide))) <;> assumption) (vp_in_nI (by omega) (by omega)) ?_
    refine px_aload_n (i := 0) (pc' := 59) dX9_isAhead_58 rfl rfl rfl ?_
    refine pi_getr (pc' := 62) fl_9_86 dX9_isAhead_59 rfl (by repeat (first | assumption | refine pm_I.up ?_ rfl | refine pm_I.uf ?_ rfl)) rfl rfl ?_
    refine px_iload_n (i := 2) (pc' := 63) dX9_isAhead_62 rfl rfl rfl ?_
    refine px_lald (pc' := 64) dX9_isAhead_63 rfl (by first | assumption | (repeat (first | exact pm_up_e rfl | refine pm_up_o (by decide) ?_ | apply pm_up_o (by decide))) <;> assumption) (vp_in_nI (by omega) (by omega)) ?_
    refine px_lcmp (pc' := 65) dX9_isAhead_64 rfl ?_
    rw [hal, hbl, hW1, hW2]
    refine px_if_le (tgt := 72) (pc' := 68) dX9_isAhead_65 (by decide) rfl (fun q3 => ?_) (fun q3 => ?_)
    · rw [lc_le h3 h4] at q3
      refine px_iconst (v := 0) (pc' := 73) dX9_isAhead_72 rfl (by decide) ?_
      exact px_zret (ty := .boolean) dX9_isAhead_73 rfl (rfl) rfl (⟨rfl, rfl, Or.inr ⟨rfl, Or.inr ⟨q1, Or.inl (by omega)⟩⟩⟩)
    · rw [lc_le h3 h4] at q3
      refine px_iconst (v := 1) (pc' := 69) dX9_isAhead_68 rfl (by decide) ?_
      refine px_goto (tgt := 73) dX9_isAhead_69 (by decide) ?_
      exact px_zret (ty := .boolean) dX9_isAhead_73 rfl (rfl) rfl (⟨rfl, rfl, Or.inl ⟨rfl, Or.inr ⟨q1, Or.inl (by omega)⟩⟩⟩)
  refine px_if_eq (tgt := 74) (pc' := 52) dX9_isAhead_49 (by decide) rfl (fun _ => ?_) (fun q_ => absurd ((lc_eq h3 h4).mpr q2) q_)
  refine px_iconst (v := 0) (pc' := 75) dX9_isAhead_74 rfl (by decide) ?_
  refine sx_i_n_4_3 (pc' := 76) dX9_isAhead_75 rfl rfl rfl rfl ?_
  sorry
end AHD
