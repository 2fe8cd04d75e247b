section FST
variable {G : pm_G} {z : pm_z} {h : pm_h} {g : pm_g}
/-- the first best of the allowed starts below m -/
def b_fst (N : Nat) (F : Nat → Option (Nat × Nat)) (st : Int32) (m : Nat) (r : Int32) : Prop :=
  (r = -1 ∧ ∀ i, i < m → (st = -1 ∨ st = nI i) → F i = none) ∨
  ∃ i f v, i < m ∧ r = nI i ∧ (st = -1 ∨ st = nI i) ∧ F i = some (f, v) ∧ ∀ i' f' v', i' < m → (st = -1 ∨ st = nI i') → F i' = some (f', v') → f < f' ∨ (f = f' ∧ (v' < v ∨ (v = v' ∧ i ≤ i')))
theorem c_bestFirst {N : Nat} {st : Int32} {cf : Nat → Int32} {C : Nat → Nat} {F : Nat → Option (Nat × Nat)} (I : pm_I h g) (f19 : h 19 = pm_ia 0 144 cf) (f20 : h 20 = pm_la 144 (m_L C)) (hC : ∀ j, j < 144 → C j < 2 ^ 63) (e6 : g 6 6 = .int st)
    (hF : ∀ i, i < 144 → (cf i = -1 ∧ F i = none) ∨ (∃ f, f < 2147483648 ∧ cf i = nI f ∧ F i = some (f, C i))) :
    pm_Met G mX4_bestFirst [.ref 18] z z h g (fun r h' g' => ∃ v, r = some (.int v) ∧ h' = h ∧ g' = g ∧ b_fst N F st 144 v) := by
  refine enX4_bestFirst pm_le.rf ?_
  generalize hΦ : (pm_Φ G z (fun r h' g' => ∃ v, r = some (.int v) ∧ h' = h ∧ g' = g ∧ b_fst N F st 144 v)) = Φ
  refine px_iconst (v := -1) (pc' := 1) dX4_bestFirst_0 rfl (by decide) ?_
  refine sx_i_n_4_1 (pc' := 2) dX4_bestFirst_1 rfl rfl rfl rfl ?_
  refine px_iconst (v := 0) (pc' := 3) dX4_bestFirst_2 rfl (by decide) ?_
  refine sx_i_n_4_2 (pc' := 4) dX4_bestFirst_3 rfl rfl rfl rfl ?_
  have loop : ∀ k m : Nat, m + k = 144 → ∀ (r : Int32) (v3 : Value), v3.category = 1 → b_fst N F st m r → pm_W G mX4_bestFirst z Φ 4 [.ref 18, .int r, .int (nI m), v3] [] z h g := by
    intro k
    induction k with
    | zero =>
      intro m hm r v3 c3 inv
      obtain rfl : m = 144 := by omega
      refine px_iload_n (i := 2) (pc' := 5) dX4_bestFirst_4 rfl rfl rfl ?_
      refine px_sipush (v := 144) (pc' := 8) dX4_bestFirst_5 rfl (by decide) ?_
      refine px_icmp_ge (tgt := 96) (pc' := 11) dX4_bestFirst_8 (by decide) rfl (fun _ => ?_) (fun q_ => absurd (nI_le (a := 144) (by omega) (by omega)) q_)
      refine px_iload_n (i := 1) (pc' := 97) dX4_bestFirst_96 rfl rfl rfl ?_
      subst hΦ
      exact px_iret dX4_bestFirst_97 rfl rfl (⟨r, rfl, rfl, rfl, inv⟩)
    | succ k ih =>
      intro m hm r v3 c3 inv
      have hml : (nI m).toNatClampNeg = m := nI_clamp (by omega)
      have nx := fun r v3 (c3 : Value.category v3 = 1) inv => ih (m + 1) (by omega) r v3 c3 inv
      -- this one is none, or not allowed
      have no : (F m = none ∨ ¬ (st = -1 ∨ st = nI m)) → b_fst N F st (m + 1) r := by
        intro hno
        rcases inv with ⟨r1, r2⟩ | ⟨i, f, v, i1, i2, i3, i4, i5⟩
        · refine Or.inl ⟨r1, fun i hi hs => ?_⟩
          by_cases hh : i = m
          · subst hh
            rcases hno with hno | hno
            · exact hno
            · exact absurd hs hno
          · exact r2 i (by omega) hs
        · refine Or.inr ⟨i, f, v, by omega, i2, i3, i4, fun i' f' v' h1 h2 h3 => ?_⟩
          by_cases hh : i' = m
          · subst hh
            rcases hno with hno | hno
            · rw [hno] at h3; cases h3
            · exact absurd h2 hno
          · exact i5 i' f' v' (by omega) h2 h3
      have skip : ∀ v3 : Value, v3.category = 1 → b_fst N F st (m + 1) r → pm_W G mX4_bestFirst z Φ 90 [.ref 18, .int r, .int (nI m), v3] [] z h g := by
        intro v3 c3 inv'
        refine sx_inc_4_2 (w := 1) (pc' := 93) dX4_bestFirst_90 rfl rfl (by decide) rfl ?_
        refine px_goto (tgt := 4) dX4_bestFirst_93 (by decide) ?_
        rw [nI_1]
        exact nx r v3 c3 inv'
      refine px_iload_n (i := 2) (pc' := 5) dX4_bestFirst_4 rfl rfl rfl ?_
      refine px_sipush (v := 144) (pc' := 8) dX4_bestFirst_5 rfl (by decide) ?_
      refine px_icmp_ge (tgt := 96) (pc' := 11) dX4_bestFirst_8 (by decide) rfl (fun q_ => absurd q_ (nI_ge (b := 144) (a := m) (by omega) (by omega))) (fun _ => ?_)
      refine px_aload_n (i := 0) (pc' := 12) dX4_bestFirst_11 rfl rfl rfl ?_
      refine pi_getr (pc' := 15) fl_4_9 dX4_bestFirst_12 rfl (by repeat (first | assumption | refine pm_I.up ?_ rfl | refine pm_I.uf ?_ rfl)) rfl rfl ?_
      refine px_iload_n (i := 2) (pc' := 16) dX4_bestFirst_15 rfl rfl rfl ?_
      refine px_iald (pc' := 17) dX4_bestFirst_16 rfl (by first | assumption | (repeat (first | exact pm_up_e rfl | refine pm_up_o (by decide) ?_ | apply pm_up_o (by decide))) <;> assumption) (vp_in_nI (by omega) (by omega)) ?_
      rw [hml]
      rcases hF m (by omega) with ⟨h1, h2⟩ | ⟨f, hf, h1, h2⟩
      · refine px_iconst (v := -1) (pc' := 18) dX4_bestFirst_17 rfl (by decide) ?_
        refine px_icmp_eq (tgt := 47) (pc' := 21) dX4_bestFirst_18 (by decide) rfl (fun _ => ?_) (fun q_ => absurd (h1) q_)
        refine px_iconst (v := 0) (pc' := 48) dX4_bestFirst_47 rfl (by decide) ?_
        refine sx_i_n_4_3 (pc' := 49) dX4_bestFirst_48 rfl rfl rfl rfl ?_
        refine px_iload_n (i := 3) (pc' := 50) dX4_bestFirst_49 rfl rfl rfl ?_
        refine px_if_eq (tgt := 90) (pc' := 53) dX4_bestFirst_50 (by decide) rfl (fun _ => ?_) (fun q_ => absurd (rfl) q_)
        exact skip _ rfl (no (Or.inl h2))
      have hne : ¬ cf m = -1 := by rw [h1]; exact nI_ne_m1 hf
      sorry
  exact loop 144 0 (by omega) _ _ rfl (Or.inl ⟨rfl, fun i hi => absurd hi (by omega)⟩)
end FST
