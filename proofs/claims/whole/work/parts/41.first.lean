section FST
variable {G : pm_G} {z : pm_z} {h : pm_h} {g : pm_g}
/-- the first best of the allowed starts below m -/
def b_fst (N : Nat) (F : Nat → Option (Nat × Nat)) (st : Int32) (m : Nat) (r : Int32) : Prop :=
  (r = -1 ∧ ∀ i, i < m → (st = -1 ∨ st = nI i) → F i = none) ∨
  ∃ i f v, i < m ∧ r = nI i ∧ (st = -1 ∨ st = nI i) ∧ F i = some (f, v) ∧ ∀ i' f' v', i' < m → (st = -1 ∨ st = nI i') → F i' = some (f', v') → f < f' ∨ (f = f' ∧ (v' < v ∨ (v = v' ∧ i ≤ i')))
theorem c_bestFirst {N : Nat} {st : Int32} {cf : Nat → Int32} {C : Nat → Nat} {F : Nat → Option (Nat × Nat)} (I : pm_I h g) (f19 : h 19 = pm_ia 0 144 cf) (f20 : h 20 = pm_la 144 (m_L C)) (hC : ∀ j, j < 144 → C j < 2 ^ 63) (e6 : g 6 6 = .int st)
    (hF : ∀ i, i < 144 → (cf i = -1 ∧ F i = none) ∨ (∃ f, f < 2147483648 ∧ cf i = nI f ∧ F i = some (f, C i))) :
    pm_Met G mX4_bestFirst [.ref 18] z z h g (fun r h' g' => ∃ v, r = some (.int v) ∧ h' = h ∧ g' = g ∧ b_fst N F st 144 v) := by
  refine enX4_bestFirst pm_le.rf ?_
  generalize hΦ : (pm_Φ G z (fun r h' g' => ∃ v, r = some (.int v) ∧ h' = h ∧ g' = g ∧ b_fst N F st 144 v)) = Φ
  refine px_iconst (v := -1) (pc' := 1) dX4_bestFirst_0 rfl (by decide) ?_
  refine sx_i_n_4_1 (pc' := 2) dX4_bestFirst_1 rfl rfl rfl rfl ?_
  refine px_iconst (v := 0) (pc' := 3) dX4_bestFirst_2 rfl (by decide) ?_
  refine sx_i_n_4_2 (pc' := 4) dX4_bestFirst_3 rfl rfl rfl rfl ?_
  have loop : ∀ k m : Nat, m + k = 144 → ∀ (r : Int32) (v3 : Value), v3.category = 1 → b_fst N F st m r → pm_W G mX4_bestFirst z Φ 4 [.ref 18, .int r, .int (nI m), v3] [] z h g := by
    intro k
    induction k with
    | zero =>
      intro m hm r v3 c3 inv
      obtain rfl : m = 144 := by omega
      refine px_iload_n (i := 2) (pc' := 5) dX4_bestFirst_4 rfl rfl rfl ?_
      refine px_sipush (v := 144) (pc' := 8) dX4_bestFirst_5 rfl (by decide) ?_
      refine px_icmp_ge (tgt := 96) (pc' := 11) dX4_bestFirst_8 (by decide) rfl (fun _ => ?_) (fun q_ => absurd (nI_le (a := 144) (by omega) (by omega)) q_)
      refine px_iload_n (i := 1) (pc' := 97) dX4_bestFirst_96 rfl rfl rfl ?_
      subst hΦ
      exact px_iret dX4_bestFirst_97 rfl rfl (⟨r, rfl, rfl, rfl, inv⟩)
    | succ k ih =>
      intro m hm r v3 c3 inv
      have hml : (nI m).toNatClampNeg = m := nI_clamp (by omega)
      have nx := fun r v3 (c3 : Value.category v3 = 1) inv => ih (m + 1) (by omega) r v3 c3 inv
      -- this one is none, or not allowed
      have no : (F m = none ∨ ¬ (st = -1 ∨ st = nI m)) → b_fst N F st (m + 1) r := by
        intro hno
        rcases inv with ⟨r1, r2⟩ | ⟨i, f, v, i1, i2, i3, i4, i5⟩
        · refine Or.inl ⟨r1, fun i hi hs => ?_⟩
          by_cases hh : i = m
          · subst hh
            rcases hno with hno | hno
            · exact hno
            · exact absurd hs hno
          · exact r2 i (by omega) hs
        · refine Or.inr ⟨i, f, v, by omega, i2, i3, i4, fun i' f' v' h1 h2 h3 => ?_⟩
          by_cases hh : i' = m
          · subst hh
            rcases hno with hno | hno
            · rw [hno] at h3; cases h3
            · exact absurd h2 hno
          · exact i5 i' f' v' (by omega) h2 h3
      have skip : ∀ v3 : Value, v3.category = 1 → b_fst N F st (m + 1) r → pm_W G mX4_bestFirst z Φ 90 [.ref 18, .int r, .int (nI m), v3] [] z h g := by
        intro v3 c3 inv'
        refine sx_inc_4_2 (w := 1) (pc' := 93) dX4_bestFirst_90 rfl rfl (by decide) rfl ?_
        refine px_goto (tgt := 4) dX4_bestFirst_93 (by decide) ?_
        rw [nI_1]
        exact nx r v3 c3 inv'
      refine px_iload_n (i := 2) (pc' := 5) dX4_bestFirst_4 rfl rfl rfl ?_
      refine px_sipush (v := 144) (pc' := 8) dX4_bestFirst_5 rfl (by decide) ?_
      refine px_icmp_ge (tgt := 96) (pc' := 11) dX4_bestFirst_8 (by decide) rfl (fun q_ => absurd q_ (nI_ge (b := 144) (a := m) (by omega) (by omega))) (fun _ => ?_)
      refine px_aload_n (i := 0) (pc' := 12) dX4_bestFirst_11 rfl rfl rfl ?_
      refine pi_getr (pc' := 15) fl_4_9 dX4_bestFirst_12 rfl (by repeat (first | assumption | refine pm_I.up ?_ rfl | refine pm_I.uf ?_ rfl)) rfl rfl ?_
      refine px_iload_n (i := 2) (pc' := 16) dX4_bestFirst_15 rfl rfl rfl ?_
      refine px_iald (pc' := 17) dX4_bestFirst_16 rfl (by first | assumption | (repeat (first | exact pm_up_e rfl | refine pm_up_o (by decide) ?_ | apply pm_up_o (by decide))) <;> assumption) (vp_in_nI (by omega) (by omega)) ?_
      rw [hml]
      rcases hF m (by omega) with ⟨h1, h2⟩ | ⟨f, hf, h1, h2⟩
      · refine px_iconst (v := -1) (pc' := 18) dX4_bestFirst_17 rfl (by decide) ?_
        refine px_icmp_eq (tgt := 47) (pc' := 21) dX4_bestFirst_18 (by decide) rfl (fun _ => ?_) (fun q_ => absurd (h1) q_)
        refine px_iconst (v := 0) (pc' := 48) dX4_bestFirst_47 rfl (by decide) ?_
        refine sx_i_n_4_3 (pc' := 49) dX4_bestFirst_48 rfl rfl rfl rfl ?_
        refine px_iload_n (i := 3) (pc' := 50) dX4_bestFirst_49 rfl rfl rfl ?_
        refine px_if_eq (tgt := 90) (pc' := 53) dX4_bestFirst_50 (by decide) rfl (fun _ => ?_) (fun q_ => absurd (rfl) q_)
        exact skip _ rfl (no (Or.inl h2))
      have hne : ¬ cf m = -1 := by rw [h1]; exact nI_ne_m1 hf
      by_cases hs : st = -1 ∨ st = nI m
      rotate_left
      · refine px_iconst (v := -1) (pc' := 18) dX4_bestFirst_17 rfl (by decide) ?_
        refine px_icmp_eq (tgt := 47) (pc' := 21) dX4_bestFirst_18 (by decide) rfl (fun q_ => absurd q_ (hne)) (fun _ => ?_)
        refine px_aload_n (i := 0) (pc' := 22) dX4_bestFirst_21 rfl rfl rfl ?_
        refine pi_getr (pc' := 25) fl_4_43 dX4_bestFirst_22 rfl (by repeat (first | assumption | refine pm_I.up ?_ rfl | refine pm_I.uf ?_ rfl)) rfl rfl ?_
        refine pi_callV (pc' := 28) (c_rstart I e6) okX5_start ivX5_start ml_X4_118 ⟨Nat.le_of_ble_eq_true rfl, Nat.le_of_ble_eq_true rfl⟩ dX4_bestFirst_25 rfl rfl rfl (Nat.le_of_ble_eq_true rfl) (by repeat (first | assumption | refine pm_I.up ?_ rfl | refine pm_I.uf ?_ rfl)) rfl cl_5 pm_le.rf pm_le.rf ?_
        rintro _ _ _ ⟨rfl, rfl, rfl⟩
        refine px_iconst (v := -1) (pc' := 29) dX4_bestFirst_28 rfl (by decide) ?_
        refine px_icmp_eq (tgt := 43) (pc' := 32) dX4_bestFirst_29 (by decide) rfl (fun q_ => absurd q_ (fun q => hs (Or.inl q))) (fun _ => ?_)
        refine px_aload_n (i := 0) (pc' := 33) dX4_bestFirst_32 rfl rfl rfl ?_
        refine pi_getr (pc' := 36) fl_4_43 dX4_bestFirst_33 rfl (by repeat (first | assumption | refine pm_I.up ?_ rfl | refine pm_I.uf ?_ rfl)) rfl rfl ?_
        refine pi_callV (pc' := 39) (c_rstart I e6) okX5_start ivX5_start ml_X4_118 ⟨Nat.le_of_ble_eq_true rfl, Nat.le_of_ble_eq_true rfl⟩ dX4_bestFirst_36 rfl rfl rfl (Nat.le_of_ble_eq_true rfl) (by repeat (first | assumption | refine pm_I.up ?_ rfl | refine pm_I.uf ?_ rfl)) rfl cl_5 pm_le.rf pm_le.rf ?_
        rintro _ _ _ ⟨rfl, rfl, rfl⟩
        refine px_iload_n (i := 2) (pc' := 40) dX4_bestFirst_39 rfl rfl rfl ?_
        refine px_icmp_ne (tgt := 47) (pc' := 43) dX4_bestFirst_40 (by decide) rfl (fun _ => ?_) (fun q_ => absurd q_ (fun q => hs (Or.inr q)))
        refine px_iconst (v := 0) (pc' := 48) dX4_bestFirst_47 rfl (by decide) ?_
        refine sx_i_n_4_3 (pc' := 49) dX4_bestFirst_48 rfl rfl rfl rfl ?_
        refine px_iload_n (i := 3) (pc' := 50) dX4_bestFirst_49 rfl rfl rfl ?_
        refine px_if_eq (tgt := 90) (pc' := 53) dX4_bestFirst_50 (by decide) rfl (fun _ => ?_) (fun q_ => absurd (rfl) q_)
        exact skip _ rfl (no (Or.inr hs))
      -- taken
      have take : b_fst N F st (m + 1) (nI m) → pm_W G mX4_bestFirst z Φ 88 [.ref 18, .int r, .int (nI m), .int 1] [] z h g := by
        intro inv'
        refine px_iload_n (i := 2) (pc' := 89) dX4_bestFirst_88 rfl rfl rfl ?_
        refine sx_i_n_4_1 (pc' := 90) dX4_bestFirst_89 rfl rfl rfl rfl ?_
        refine sx_inc_4_2 (w := 1) (pc' := 93) dX4_bestFirst_90 rfl rfl (by decide) rfl ?_
        refine px_goto (tgt := 4) dX4_bestFirst_93 (by decide) ?_
        rw [nI_1]
        exact nx _ _ rfl inv'
      have at53 : pm_W G mX4_bestFirst z Φ 53 [.ref 18, .int r, .int (nI m), .int 1] [] z h g := by
        rcases id inv with ⟨r1, r2⟩ | ⟨i, f0, v0, i1, rfl, i3, i4, i5⟩
        · refine px_iload_n (i := 1) (pc' := 54) dX4_bestFirst_53 rfl rfl rfl ?_
          refine px_iconst (v := -1) (pc' := 55) dX4_bestFirst_54 rfl (by decide) ?_
          refine px_icmp_eq (tgt := 88) (pc' := 58) dX4_bestFirst_55 (by decide) rfl (fun _ => ?_) (fun q_ => absurd (r1) q_)
          refine take (Or.inr ⟨m, f, C m, by omega, rfl, hs, h2, fun i' f' v' y1 y2 y3 => ?_⟩)
          by_cases hh : i' = m
          · subst hh
            rw [h2] at y3
            cases y3
            exact Or.inr ⟨rfl, Or.inr ⟨rfl, Nat.le_refl _⟩⟩
          · rw [r2 i' (by omega) y2] at y3; cases y3
        · have hil : (nI i).toNatClampNeg = i := nI_clamp (by omega)
          rcases hF i (by omega) with ⟨_, w2⟩ | ⟨f1, hf1, w1, w2⟩
          · rw [w2] at i4; cases i4
          rw [w2] at i4
          cases i4
          refine px_iload_n (i := 1) (pc' := 54) dX4_bestFirst_53 rfl rfl rfl ?_
          refine px_iconst (v := -1) (pc' := 55) dX4_bestFirst_54 rfl (by decide) ?_
          refine px_icmp_eq (tgt := 88) (pc' := 58) dX4_bestFirst_55 (by decide) rfl (fun q_ => absurd q_ (nI_ne_m1 (by omega))) (fun _ => ?_)
          refine px_aload_n (i := 0) (pc' := 59) dX4_bestFirst_58 rfl rfl rfl ?_
          refine pi_getr (pc' := 62) fl_4_9 dX4_bestFirst_59 rfl (by repeat (first | assumption | refine pm_I.up ?_ rfl | refine pm_I.uf ?_ rfl)) rfl rfl ?_
          refine px_iload_n (i := 2) (pc' := 63) dX4_bestFirst_62 rfl rfl rfl ?_
          refine px_iald (pc' := 64) dX4_bestFirst_63 rfl (by first | assumption | (repeat (first | exact pm_up_e rfl | refine pm_up_o (by decide) ?_ | apply pm_up_o (by decide))) <;> assumption) (vp_in_nI (by omega) (by omega)) ?_
          rw [hml, h1]
          refine px_aload_n (i := 0) (pc' := 65) dX4_bestFirst_64 rfl rfl rfl ?_
          refine pi_getr (pc' := 68) fl_4_15 dX4_bestFirst_65 rfl (by repeat (first | assumption | refine pm_I.up ?_ rfl | refine pm_I.uf ?_ rfl)) rfl rfl ?_
          refine px_iload_n (i := 2) (pc' := 69) dX4_bestFirst_68 rfl rfl rfl ?_
          refine px_lald (pc' := 70) dX4_bestFirst_69 rfl (by first | assumption | (repeat (first | exact pm_up_e rfl | refine pm_up_o (by decide) ?_ | apply pm_up_o (by decide))) <;> assumption) (vp_in_nI (by omega) (by omega)) ?_
          refine px_aload_n (i := 0) (pc' := 71) dX4_bestFirst_70 rfl rfl rfl ?_
          refine pi_getr (pc' := 74) fl_4_9 dX4_bestFirst_71 rfl (by repeat (first | assumption | refine pm_I.up ?_ rfl | refine pm_I.uf ?_ rfl)) rfl rfl ?_
          refine px_iload_n (i := 1) (pc' := 75) dX4_bestFirst_74 rfl rfl rfl ?_
          refine px_iald (pc' := 76) dX4_bestFirst_75 rfl (by first | assumption | (repeat (first | exact pm_up_e rfl | refine pm_up_o (by decide) ?_ | apply pm_up_o (by decide))) <;> assumption) (vp_in_nI (by omega) (by omega)) ?_
          rw [hml, hil, w1]
          refine px_aload_n (i := 0) (pc' := 77) dX4_bestFirst_76 rfl rfl rfl ?_
          refine pi_getr (pc' := 80) fl_4_15 dX4_bestFirst_77 rfl (by repeat (first | assumption | refine pm_I.up ?_ rfl | refine pm_I.uf ?_ rfl)) rfl rfl ?_
          refine px_iload_n (i := 1) (pc' := 81) dX4_bestFirst_80 rfl rfl rfl ?_
          refine px_lald (pc' := 82) dX4_bestFirst_81 rfl (by first | assumption | (repeat (first | exact pm_up_e rfl | refine pm_up_o (by decide) ?_ | apply pm_up_o (by decide))) <;> assumption) (vp_in_nI (by omega) (by omega)) ?_
          rw [hil, show m_L C m = lN (C m) from rfl, show m_L C i = lN (C i) from rfl]
          refine px_callS (pc' := 85) (c_isBetter (hC m (by omega)) (hC i (by omega))) okX4_isBetter stX4_isBetter ml_X4_114 ⟨Nat.le_of_ble_eq_true rfl, Nat.le_of_ble_eq_true rfl⟩ dX4_bestFirst_82 rfl rfl rfl (Nat.le_of_ble_eq_true rfl) pm_le.rf pm_le.rf ?_
          rintro _ _ _ ⟨rfl, rfl, rfl⟩
          have ef : (nI f).toInt = f := nI_toInt (by omega)
          have ef0 : (nI f0).toInt = f0 := nI_toInt (by omega)
          rw [ef, ef0]
          refine px_if_eq (tgt := 90) (pc' := 88) dX4_bestFirst_85 (by decide) rfl (fun q => ?_) (fun q => ?_)
          · have q := b_0.mp q
            refine skip _ rfl (Or.inr ⟨i, f0, C i, by omega, rfl, i3, w2, fun i' f' v' y1 y2 y3 => ?_⟩)
            by_cases hh : i' = m
            · subst hh
              rw [h2] at y3
              cases y3
              omega
            · exact i5 i' f' v' (by omega) y2 y3
          · have q := b_n0.mp q
            refine take (Or.inr ⟨m, f, C m, by omega, rfl, hs, h2, fun i' f' v' y1 y2 y3 => ?_⟩)
            by_cases hh : i' = m
            · subst hh
              rw [h2] at y3
              cases y3
              exact Or.inr ⟨rfl, Or.inr ⟨rfl, Nat.le_refl _⟩⟩
            · have := i5 i' f' v' (by omega) y2 y3
              omega
      by_cases h1s : st = -1
      · refine px_iconst (v := -1) (pc' := 18) dX4_bestFirst_17 rfl (by decide) ?_
        refine px_icmp_eq (tgt := 47) (pc' := 21) dX4_bestFirst_18 (by decide) rfl (fun q_ => absurd q_ (hne)) (fun _ => ?_)
        refine px_aload_n (i := 0) (pc' := 22) dX4_bestFirst_21 rfl rfl rfl ?_
        refine pi_getr (pc' := 25) fl_4_43 dX4_bestFirst_22 rfl (by repeat (first | assumption | refine pm_I.up ?_ rfl | refine pm_I.uf ?_ rfl)) rfl rfl ?_
        refine pi_callV (pc' := 28) (c_rstart I e6) okX5_start ivX5_start ml_X4_118 ⟨Nat.le_of_ble_eq_true rfl, Nat.le_of_ble_eq_true rfl⟩ dX4_bestFirst_25 rfl rfl rfl (Nat.le_of_ble_eq_true rfl) (by repeat (first | assumption | refine pm_I.up ?_ rfl | refine pm_I.uf ?_ rfl)) rfl cl_5 pm_le.rf pm_le.rf ?_
        rintro _ _ _ ⟨rfl, rfl, rfl⟩
        refine px_iconst (v := -1) (pc' := 29) dX4_bestFirst_28 rfl (by decide) ?_
        refine px_icmp_eq (tgt := 43) (pc' := 32) dX4_bestFirst_29 (by decide) rfl (fun _ => ?_) (fun q_ => absurd (h1s) q_)
        refine px_iconst (v := 1) (pc' := 44) dX4_bestFirst_43 rfl (by decide) ?_
        refine px_goto (tgt := 48) dX4_bestFirst_44 (by decide) ?_
        refine sx_i_n_4_3 (pc' := 49) dX4_bestFirst_48 rfl rfl rfl rfl ?_
        refine px_iload_n (i := 3) (pc' := 50) dX4_bestFirst_49 rfl rfl rfl ?_
        refine px_if_eq (tgt := 90) (pc' := 53) dX4_bestFirst_50 (by decide) rfl (fun q_ => absurd q_ (by decide)) (fun _ => ?_)
        exact at53
      · refine px_iconst (v := -1) (pc' := 18) dX4_bestFirst_17 rfl (by decide) ?_
        refine px_icmp_eq (tgt := 47) (pc' := 21) dX4_bestFirst_18 (by decide) rfl (fun q_ => absurd q_ (hne)) (fun _ => ?_)
        refine px_aload_n (i := 0) (pc' := 22) dX4_bestFirst_21 rfl rfl rfl ?_
        refine pi_getr (pc' := 25) fl_4_43 dX4_bestFirst_22 rfl (by repeat (first | assumption | refine pm_I.up ?_ rfl | refine pm_I.uf ?_ rfl)) rfl rfl ?_
        refine pi_callV (pc' := 28) (c_rstart I e6) okX5_start ivX5_start ml_X4_118 ⟨Nat.le_of_ble_eq_true rfl, Nat.le_of_ble_eq_true rfl⟩ dX4_bestFirst_25 rfl rfl rfl (Nat.le_of_ble_eq_true rfl) (by repeat (first | assumption | refine pm_I.up ?_ rfl | refine pm_I.uf ?_ rfl)) rfl cl_5 pm_le.rf pm_le.rf ?_
        rintro _ _ _ ⟨rfl, rfl, rfl⟩
        refine px_iconst (v := -1) (pc' := 29) dX4_bestFirst_28 rfl (by decide) ?_
        refine px_icmp_eq (tgt := 43) (pc' := 32) dX4_bestFirst_29 (by decide) rfl (fun q_ => absurd q_ (h1s)) (fun _ => ?_)
        refine px_aload_n (i := 0) (pc' := 33) dX4_bestFirst_32 rfl rfl rfl ?_
        refine pi_getr (pc' := 36) fl_4_43 dX4_bestFirst_33 rfl (by repeat (first | assumption | refine pm_I.up ?_ rfl | refine pm_I.uf ?_ rfl)) rfl rfl ?_
        refine pi_callV (pc' := 39) (c_rstart I e6) okX5_start ivX5_start ml_X4_118 ⟨Nat.le_of_ble_eq_true rfl, Nat.le_of_ble_eq_true rfl⟩ dX4_bestFirst_36 rfl rfl rfl (Nat.le_of_ble_eq_true rfl) (by repeat (first | assumption | refine pm_I.up ?_ rfl | refine pm_I.uf ?_ rfl)) rfl cl_5 pm_le.rf pm_le.rf ?_
        rintro _ _ _ ⟨rfl, rfl, rfl⟩
        refine px_iload_n (i := 2) (pc' := 40) dX4_bestFirst_39 rfl rfl rfl ?_
        refine px_icmp_ne (tgt := 47) (pc' := 43) dX4_bestFirst_40 (by decide) rfl (fun q_ => absurd (hs.resolve_left h1s) q_) (fun _ => ?_)
        refine px_iconst (v := 1) (pc' := 44) dX4_bestFirst_43 rfl (by decide) ?_
        refine px_goto (tgt := 48) dX4_bestFirst_44 (by decide) ?_
        refine sx_i_n_4_3 (pc' := 49) dX4_bestFirst_48 rfl rfl rfl rfl ?_
        refine px_iload_n (i := 3) (pc' := 50) dX4_bestFirst_49 rfl rfl rfl ?_
        refine px_if_eq (tgt := 90) (pc' := 53) dX4_bestFirst_50 (by decide) rfl (fun q_ => absurd q_ (by decide)) (fun _ => ?_)
        exact at53
  exact loop 144 0 (by omega) _ _ rfl (Or.inl ⟨rfl, fun i hi => absurd hi (by omega)⟩)
end FST
