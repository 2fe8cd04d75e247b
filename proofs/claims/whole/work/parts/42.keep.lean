section KPP
variable {G : pm_G} {z : pm_z} {h : pm_h} {g : pm_g}
theorem c_keepPath {lg i : Nat} {pa fol : Nat → Int32} (I : pm_I h g) (hlg : lg ≤ 12) (e6 : g 6 4 = .int (nI lg)) (f23 : h 23 = pm_ia 0 1728 fol) (f24 : h 24 = pm_ia 0 13 pa) (hp : ∀ t, t ≤ lg → b_foN fol 0 i t < 144) (hq : ∀ t, t < lg → fol (t * 144 + b_foN fol 0 i t) = nI (b_foN fol 0 i (t + 1))) :
    pm_Met G mX4_keepPath [.ref 18, .int (nI i)] z z h g (fun r h' g' => r = none ∧ (∃ pa' : Nat → Int32, (∀ t, t ≤ lg → pa' t = nI (b_foN fol 0 i t)) ∧ h' = pm_up h 24 (pm_ia 0 13 pa')) ∧ g' = pm_uf g 18 9 (.int (nI (lg + 1)))) := by
  refine enX4_keepPath pm_le.rf ?_
  generalize hΦ : (pm_Φ G z (fun r h' g' => r = none ∧ (∃ pa' : Nat → Int32, (∀ t, t ≤ lg → pa' t = nI (b_foN fol 0 i t)) ∧ h' = pm_up h 24 (pm_ia 0 13 pa')) ∧ g' = pm_uf g 18 9 (.int (nI (lg + 1))))) = Φ
  refine px_iload_n (i := 1) (pc' := 1) dX4_keepPath_0 rfl rfl rfl ?_
  refine sx_i_n_5_2 (pc' := 2) dX4_keepPath_1 rfl rfl rfl rfl ?_
  refine px_aload_n (i := 0) (pc' := 3) dX4_keepPath_2 rfl rfl rfl ?_
  refine pi_getr (pc' := 6) fl_4_28 dX4_keepPath_3 rfl (by repeat (first | assumption | refine pm_I.up ?_ rfl | refine pm_I.uf ?_ rfl)) rfl rfl ?_
  refine px_iconst (v := 0) (pc' := 7) dX4_keepPath_6 rfl (by decide) ?_
  refine px_iload_n (i := 2) (pc' := 8) dX4_keepPath_7 rfl rfl rfl ?_
  refine px_iast (pc' := 9) dX4_keepPath_8 rfl (by first | assumption | (repeat (first | exact pm_up_e rfl | refine pm_up_o (by decide) ?_ | apply pm_up_o (by decide))) <;> assumption) (i_in (by decide) (by decide)) ?_
  refine px_aload_n (i := 0) (pc' := 10) dX4_keepPath_9 rfl rfl rfl ?_
  refine px_aload_n (i := 0) (pc' := 11) dX4_keepPath_10 rfl rfl rfl ?_
  refine pi_getr (pc' := 14) fl_4_43 dX4_keepPath_11 rfl (by repeat (first | assumption | refine pm_I.up ?_ rfl | refine pm_I.uf ?_ rfl)) rfl rfl ?_
  refine pi_callV (pc' := 17) (c_moves (by repeat (first | assumption | refine pm_I.up ?_ rfl | refine pm_I.uf ?_ rfl)) e6) okX5_moves ivX5_moves ml_X4_50 ⟨Nat.le_of_ble_eq_true rfl, Nat.le_of_ble_eq_true rfl⟩ dX4_keepPath_14 rfl rfl rfl (Nat.le_of_ble_eq_true rfl) (by repeat (first | assumption | refine pm_I.up ?_ rfl | refine pm_I.uf ?_ rfl)) rfl cl_5 pm_le.rf pm_le.rf ?_
  rintro _ _ _ ⟨rfl, rfl, rfl⟩
  refine px_iconst (v := 1) (pc' := 18) dX4_keepPath_17 rfl (by decide) ?_
  refine px_iadd (pc' := 19) dX4_keepPath_18 rfl ?_
  refine pi_puti (pc' := 22) fi_4_31 dX4_keepPath_19 rfl (by repeat (first | assumption | refine pm_I.up ?_ rfl | refine pm_I.uf ?_ rfl)) rfl ?_
  refine px_iconst (v := 0) (pc' := 23) dX4_keepPath_22 rfl (by decide) ?_
  refine sx_i_n_5_3 (pc' := 24) dX4_keepPath_23 rfl rfl rfl rfl ?_
  rw [nI_1]
  have loop : ∀ k t : Nat, t + k = lg → ∀ (pa' : Nat → Int32) (v4 : Value), v4.category = 1 → (∀ u, u ≤ t → pa' u = nI (b_foN fol 0 i u)) → pm_W G mX4_keepPath z Φ 24 [.ref 18, .int (nI i), .int (nI (b_foN fol 0 i t)), .int (nI t), v4] [] z (pm_up h 24 (pm_ia 0 13 pa')) (pm_uf g 18 9 (.int (nI (lg + 1)))) := by
    intro k
    induction k with
    | zero =>
      intro t ht pa' v4 c4 hpa
      obtain rfl : t = lg := by omega
      refine px_iload_n (i := 3) (pc' := 25) dX4_keepPath_24 rfl rfl rfl ?_
      refine px_iconst (v := 1) (pc' := 26) dX4_keepPath_25 rfl (by decide) ?_
      refine px_iadd (pc' := 27) dX4_keepPath_26 rfl ?_
      refine px_aload_n (i := 0) (pc' := 28) dX4_keepPath_27 rfl rfl rfl ?_
      refine pi_geti (pc' := 31) fl_4_31 dX4_keepPath_28 rfl (by repeat (first | assumption | refine pm_I.up ?_ rfl | refine pm_I.uf ?_ rfl)) rfl (by first | assumption | (repeat (first | exact pm_uf_e rfl | refine pm_uf_o (by decide) ?_ | apply pm_uf_o (by decide))) <;> assumption) ?_
      refine px_icmp_ge (tgt := 91) (pc' := 34) dX4_keepPath_31 (by decide) rfl (fun _ => ?_) (fun q_ => absurd (by rw [nI_1]; exact nI_le (by omega) (by omega)) q_)
      subst hΦ
      exact px_vret dX4_keepPath_91 rfl rfl (⟨rfl, ⟨pa', hpa, rfl⟩, rfl⟩)
    | succ k ih =>
      intro t ht pa' v4 c4 hpa
      have hb := hp t (by omega)
      have hx : (nI (t * 144 + b_foN fol 0 i t)).toInt = ((t * 144 + b_foN fol 0 i t : Nat) : Int) := nI_toInt (by omega)
      refine px_iload_n (i := 3) (pc' := 25) dX4_keepPath_24 rfl rfl rfl ?_
      refine px_iconst (v := 1) (pc' := 26) dX4_keepPath_25 rfl (by decide) ?_
      refine px_iadd (pc' := 27) dX4_keepPath_26 rfl ?_
      refine px_aload_n (i := 0) (pc' := 28) dX4_keepPath_27 rfl rfl rfl ?_
      refine pi_geti (pc' := 31) fl_4_31 dX4_keepPath_28 rfl (by repeat (first | assumption | refine pm_I.up ?_ rfl | refine pm_I.uf ?_ rfl)) rfl (by first | assumption | (repeat (first | exact pm_uf_e rfl | refine pm_uf_o (by decide) ?_ | apply pm_uf_o (by decide))) <;> assumption) ?_
      refine px_icmp_ge (tgt := 91) (pc' := 34) dX4_keepPath_31 (by decide) rfl (fun q_ => absurd q_ (by rw [nI_1]; exact nI_ge (by omega) (by omega))) (fun _ => ?_)
      refine px_iload_n (i := 3) (pc' := 35) dX4_keepPath_34 rfl rfl rfl ?_
      refine px_bipush (v := 12) (pc' := 37) dX4_keepPath_35 rfl (by decide) ?_
      refine px_icmp_ge (tgt := 91) (pc' := 40) dX4_keepPath_37 (by decide) rfl (fun q_ => absurd q_ (by rw [i_le, nI_toInt (by omega), l_12]; omega)) (fun _ => ?_)
      refine px_iload_n (i := 3) (pc' := 41) dX4_keepPath_40 rfl rfl rfl ?_
      refine px_sipush (v := 144) (pc' := 44) dX4_keepPath_41 rfl (by decide) ?_
      refine px_imul (pc' := 45) dX4_keepPath_44 rfl ?_
      rw [show (144 : Int32) = nI 144 from rfl, pk_mul]
      refine px_iload_n (i := 2) (pc' := 46) dX4_keepPath_45 rfl rfl rfl ?_
      refine px_iadd (pc' := 47) dX4_keepPath_46 rfl ?_
      rw [nI_add]
      refine sx_i_5_4 (pc' := 49) dX4_keepPath_47 rfl rfl rfl ?_
      refine px_iload (i := 4) (pc' := 51) dX4_keepPath_49 rfl rfl ?_
      refine px_if_lt (tgt := 74) (pc' := 54) dX4_keepPath_51 (by decide) rfl (fun q_ => absurd q_ (by rw [i_lt, hx, i_0]; omega)) (fun _ => ?_)
      refine px_iload (i := 4) (pc' := 56) dX4_keepPath_54 rfl rfl ?_
      refine px_aload_n (i := 0) (pc' := 57) dX4_keepPath_56 rfl rfl rfl ?_
      refine pi_getr (pc' := 60) fl_4_25 dX4_keepPath_57 rfl (by repeat (first | assumption | refine pm_I.up ?_ rfl | refine pm_I.uf ?_ rfl)) rfl rfl ?_
      refine px_aleni (kd := 0) (pc' := 61) (by decide) dX4_keepPath_60 rfl (by first | assumption | (repeat (first | exact pm_up_e rfl | refine pm_up_o (by decide) ?_ | apply pm_up_o (by decide))) <;> assumption) ?_
      refine px_icmp_ge (tgt := 74) (pc' := 64) dX4_keepPath_61 (by decide) rfl (fun q_ => absurd q_ (by rw [i_le, hx]; show ¬ (1728 : Int) ≤ _; omega)) (fun _ => ?_)
      refine px_aload_n (i := 0) (pc' := 65) dX4_keepPath_64 rfl rfl rfl ?_
      refine pi_getr (pc' := 68) fl_4_25 dX4_keepPath_65 rfl (by repeat (first | assumption | refine pm_I.up ?_ rfl | refine pm_I.uf ?_ rfl)) rfl rfl ?_
      refine px_iload (i := 4) (pc' := 70) dX4_keepPath_68 rfl rfl ?_
      refine px_iald (pc' := 71) dX4_keepPath_70 rfl (by first | assumption | (repeat (first | exact pm_up_e rfl | refine pm_up_o (by decide) ?_ | apply pm_up_o (by decide))) <;> assumption) (vp_in_nI (by omega) (by omega)) ?_
      rw [nI_clamp (by omega), hq t (by omega)]
      refine px_goto (tgt := 75) dX4_keepPath_71 (by decide) ?_
      refine sx_i_n_5_2 (pc' := 76) dX4_keepPath_75 rfl rfl rfl rfl ?_
      refine px_aload_n (i := 0) (pc' := 77) dX4_keepPath_76 rfl rfl rfl ?_
      refine pi_getr (pc' := 80) fl_4_28 dX4_keepPath_77 rfl (by repeat (first | assumption | refine pm_I.up ?_ rfl | refine pm_I.uf ?_ rfl)) rfl rfl ?_
      refine px_iload_n (i := 3) (pc' := 81) dX4_keepPath_80 rfl rfl rfl ?_
      refine px_iconst (v := 1) (pc' := 82) dX4_keepPath_81 rfl (by decide) ?_
      refine px_iadd (pc' := 83) dX4_keepPath_82 rfl ?_
      rw [nI_1]
      refine px_iload_n (i := 2) (pc' := 84) dX4_keepPath_83 rfl rfl rfl ?_
      refine px_iast (pc' := 85) dX4_keepPath_84 rfl (by first | assumption | (repeat (first | exact pm_up_e rfl | refine pm_up_o (by decide) ?_ | apply pm_up_o (by decide))) <;> assumption) (vp_in_nI (by omega) (by omega)) ?_
      refine sx_inc_5_3 (w := 1) (pc' := 88) dX4_keepPath_85 rfl rfl (by decide) rfl ?_
      refine px_goto (tgt := 24) dX4_keepPath_88 (by decide) ?_
      rw [nI_1, nI_clamp (by omega), pm_up_up]
      refine ih (t + 1) (by omega) _ _ rfl (fun u hu => ?_)
      unfold upd
      by_cases hut : u = t + 1
      · rw [if_pos hut, hut]
      · rw [if_neg hut]; exact hpa u (by omega)
  refine loop lg 0 (by omega) _ _ rfl (fun u hu => ?_)
  obtain rfl : u = 0 := by omega
  exact if_pos rfl
end KPP
