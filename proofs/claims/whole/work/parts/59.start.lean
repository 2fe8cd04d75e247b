section START
variable {G : pm_G} {Φ : pm_F} {h : pm_h} {g : pm_g}
theorem pm_J.nf {a : Nat} {d : Nat → Value} (I : pm_J h g) (ha : 30 ≤ a) : pm_J h (pm_nf g a d) := by
  refine ⟨I.1, fun b j r hb => ?_⟩
  refine pm_nf_o (fun e => ?_) (I.2 b j r hb)
  unfold pm_rc at hb
  rw [if_neg (by omega)] at hb
  cases hb
theorem JC.new {c : pm_C} {d : Nat → Value} (q : JC h g) : JC (pm_up h 30 c) (pm_nf g 30 d) := by
  obtain ⟨q0, x0, x1, x2, x3, x4, x5, x6, x7, x8, x9, x10, x11, x12, x13, x14, x15, x16, x17, x18, x19, x20, x21, x22, x23, x24, x25, x26, x27, x28, x29, x30, x31, x32, x33⟩ := q
  exact ⟨(q0.up rfl).nf (Nat.le_refl _), pm_up_o (by decide) x0, pm_up_o (by decide) x1, pm_up_o (by decide) x2, pm_up_o (by decide) x3, pm_up_o (by decide) x4, pm_up_o (by decide) x5, pm_up_o (by decide) x6, pm_up_o (by decide) x7, pm_up_o (by decide) x8, pm_up_o (by decide) x9, pm_up_o (by decide) x10, pm_up_o (by decide) x11, pm_up_o (by decide) x12, pm_up_o (by decide) x13, pm_up_o (by decide) x14, pm_up_o (by decide) x15, pm_up_o (by decide) x16, pm_up_o (by decide) x17, pm_up_o (by decide) x18, pm_up_o (by decide) x19, pm_up_o (by decide) x20, pm_nf_o (by decide) x21, pm_nf_o (by decide) x22, pm_nf_o (by decide) x23, pm_nf_o (by decide) x24, pm_nf_o (by decide) x25, pm_nf_o (by decide) x26, pm_nf_o (by decide) x27, pm_nf_o (by decide) x28, pm_nf_o (by decide) x29, pm_nf_o (by decide) x30, pm_nf_o (by decide) x31, pm_nf_o (by decide) x32, pm_nf_o (by decide) x33⟩
theorem L_start (hL : pm_L G ≤ 3072) (K : ∀ (z : pm_z) (ls : List Value) (h : pm_h) (g : pm_g), pm_W G mL_law (1079, 39825, 0) Φ 687 ls [.int 1] z h g) :
    pm_W G mL_law (1079, 39825, 0) Φ 0 [.retAddr 0, pm_u, pm_u, pm_u, pm_u, pm_u, pm_u, pm_u] [] (0, 0, 0) h g := by
  refine px_newL (k' := 1) (m' := 8) (c' := 1) (pc' := 3) nw_L_8 dL_law_0 rfl (Nat.le_of_ble_eq_true rfl) (Nat.le_of_ble_eq_true rfl) rfl rfl rfl ?_
  refine px_dup (pc' := 4) dL_law_3 rfl rfl ?_
  refine px_callI (pc' := 7) (k_X8_init (by first | assumption | (repeat (first | exact pm_up_e rfl | refine pm_up_o (by decide) ?_ | apply pm_up_o (by decide))) <;> assumption)) okX8_init rfl rfl ivX8_init ml_L_15 ⟨Nat.le_of_ble_eq_true rfl, Nat.le_of_ble_eq_true rfl⟩ dL_law_4 rfl rfl rfl (Nat.le_of_ble_eq_true rfl) ⟨Nat.le_of_ble_eq_true rfl, Nat.le_of_ble_eq_true rfl⟩ ⟨Nat.le_of_ble_eq_true rfl, Nat.le_of_ble_eq_true rfl⟩ ?_
  rintro _ h1 g1 ⟨rfl, jc⟩
  refine sx_a_n_8_1 (pc' := 8) dL_law_7 rfl rfl rfl rfl ?_
  refine px_newL (k' := 31) (m' := 4997) (c' := 31) (pc' := 11) nw_L_16 dL_law_8 rfl (Nat.le_of_ble_eq_true rfl) (Nat.le_of_ble_eq_true rfl) rfl rfl rfl ?_
  refine px_dup (pc' := 12) dL_law_11 rfl rfl ?_
  refine px_callI (pc' := 15) (k_X9_init jc.new (by first | assumption | (repeat (first | exact pm_up_e rfl | refine pm_up_o (by decide) ?_ | apply pm_up_o (by decide))) <;> assumption) (fun k => by rw [pm_nf_s])) okX9_init rfl rfl ivX9_init ml_L_18 ⟨Nat.le_of_ble_eq_true rfl, Nat.le_of_ble_eq_true rfl⟩ dL_law_12 rfl rfl rfl (Nat.le_of_ble_eq_true rfl) ⟨Nat.le_of_ble_eq_true rfl, Nat.le_of_ble_eq_true rfl⟩ ⟨Nat.le_of_ble_eq_true rfl, Nat.le_of_ble_eq_true rfl⟩ ?_
  rintro _ h2 g2 ⟨rfl, jj⟩
  refine sx_a_n_8_2 (pc' := 16) dL_law_15 rfl rfl rfl rfl ?_
  refine px_iconst (v := 1) (pc' := 17) dL_law_16 rfl (by decide) ?_
  refine px_newlL (N := 1) (k' := 54) (m' := 31627) (c' := 54) (pc' := 19) wd_arr_l dL_law_17 rfl (by decide) rfl (by decide) (Nat.le_of_ble_eq_true rfl) (Nat.le_of_ble_eq_true rfl) rfl rfl rfl ?_
  refine sx_a_n_8_3 (pc' := 20) dL_law_19 rfl rfl rfl rfl ?_
  refine px_iconst (v := 0) (pc' := 21) dL_law_20 rfl (by decide) ?_
  refine sx_i_8_4 (pc' := 23) dL_law_21 rfl rfl rfl ?_
  exact L_loop hL rfl K 513 0 (by omega) _ _ _ (Nat.le_refl _) (Nat.le_refl _) (jj _)
end START
