section KP
variable {G : pm_G} {z : pm_z} {h : pm_h} {g : pm_g}
theorem c_cellOfPath_t {n k : Nat} {p : Nat → Int32} (I : pm_I h g) (e : g 18 9 = .int (nI n)) (hn : n ≤ 13) (hk : k < n) (e1 : h 24 = pm_ia 0 13 p) : pm_Met G mX4_cellOfPath [.ref 18, .int (nI k)] z z h g (pm_q (.int (p k)) h g) := by
  have hkl : (nI k).toNatClampNeg = k := nI_clamp (by omega)
  refine enX4_cellOfPath pm_le.rf ?_
  refine px_iload_n (i := 1) (pc' := 1) dX4_cellOfPath_0 rfl rfl rfl ?_
  refine px_if_lt (tgt := 30) (pc' := 4) dX4_cellOfPath_1 (by decide) rfl (fun q_ => absurd q_ (nI_pos (by omega))) (fun _ => ?_)
  refine px_iload_n (i := 1) (pc' := 5) dX4_cellOfPath_4 rfl rfl rfl ?_
  refine px_aload_n (i := 0) (pc' := 6) dX4_cellOfPath_5 rfl rfl rfl ?_
  refine pi_geti (pc' := 9) fl_4_31 dX4_cellOfPath_6 rfl (by repeat (first | assumption | refine pm_I.up ?_ rfl | refine pm_I.uf ?_ rfl)) rfl (by first | assumption | (repeat (first | exact pm_uf_e rfl | refine pm_uf_o (by decide) ?_)) <;> assumption) ?_
  refine px_icmp_ge (tgt := 30) (pc' := 12) dX4_cellOfPath_9 (by decide) rfl (fun q_ => absurd q_ (nI_ge hk (by omega))) (fun _ => ?_)
  refine px_iload_n (i := 1) (pc' := 13) dX4_cellOfPath_12 rfl rfl rfl ?_
  refine px_aload_n (i := 0) (pc' := 14) dX4_cellOfPath_13 rfl rfl rfl ?_
  refine pi_getr (pc' := 17) fl_4_28 dX4_cellOfPath_14 rfl (by repeat (first | assumption | refine pm_I.up ?_ rfl | refine pm_I.uf ?_ rfl)) rfl rfl ?_
  refine px_aleni (kd := 0) (pc' := 18) (by decide) dX4_cellOfPath_17 rfl (by first | assumption | (repeat (first | exact pm_up_e rfl | refine pm_up_o (by decide) ?_)) <;> assumption) ?_
  refine px_icmp_ge (tgt := 30) (pc' := 21) dX4_cellOfPath_18 (by decide) rfl (fun q_ => absurd q_ (nI_ge (b := 13) (by omega) (by omega))) (fun _ => ?_)
  refine px_aload_n (i := 0) (pc' := 22) dX4_cellOfPath_21 rfl rfl rfl ?_
  refine pi_getr (pc' := 25) fl_4_28 dX4_cellOfPath_22 rfl (by repeat (first | assumption | refine pm_I.up ?_ rfl | refine pm_I.uf ?_ rfl)) rfl rfl ?_
  refine px_iload_n (i := 1) (pc' := 26) dX4_cellOfPath_25 rfl rfl rfl ?_
  refine px_iald (pc' := 27) dX4_cellOfPath_26 rfl (by first | assumption | (repeat (first | exact pm_up_e rfl | refine pm_up_o (by decide) ?_)) <;> assumption) (vp_in_nI (by omega) (by omega)) ?_
  refine px_goto (tgt := 31) dX4_cellOfPath_27 (by decide) ?_
  rw [hkl]
  exact px_iret dX4_cellOfPath_31 rfl rfl (⟨rfl, rfl, rfl⟩)
theorem c_cellOfPath_f {n : Nat} {a : Int32} (I : pm_I h g) (e : g 18 9 = .int (nI n)) (hn : n ≤ 13) (hk : ¬ (0 ≤ a.toInt ∧ a.toInt < n)) : pm_Met G mX4_cellOfPath [.ref 18, .int a] z z h g (pm_q (.int (-1)) h g) := by
  have en : (nI n).toInt = n := nI_toInt (by omega)
  refine enX4_cellOfPath pm_le.rf ?_
  refine px_iload_n (i := 1) (pc' := 1) dX4_cellOfPath_0 rfl rfl rfl ?_
  refine px_if_lt (tgt := 30) (pc' := 4) dX4_cellOfPath_1 (by decide) rfl (fun q => ?_) (fun q => ?_)
  · refine px_iconst (v := -1) (pc' := 31) dX4_cellOfPath_30 rfl (by decide) ?_
    exact px_iret dX4_cellOfPath_31 rfl rfl (⟨rfl, rfl, rfl⟩)
  · rw [i_lt, i_0] at q
    refine px_iload_n (i := 1) (pc' := 5) dX4_cellOfPath_4 rfl rfl rfl ?_
    refine px_aload_n (i := 0) (pc' := 6) dX4_cellOfPath_5 rfl rfl rfl ?_
    refine pi_geti (pc' := 9) fl_4_31 dX4_cellOfPath_6 rfl (by repeat (first | assumption | refine pm_I.up ?_ rfl | refine pm_I.uf ?_ rfl)) rfl (by first | assumption | (repeat (first | exact pm_uf_e rfl | refine pm_uf_o (by decide) ?_)) <;> assumption) ?_
    refine px_icmp_ge (tgt := 30) (pc' := 12) dX4_cellOfPath_9 (by decide) rfl (fun _ => ?_) (fun q_ => absurd (by rw [i_le, en]; omega) q_)
    refine px_iconst (v := -1) (pc' := 31) dX4_cellOfPath_30 rfl (by decide) ?_
    exact px_iret dX4_cellOfPath_31 rfl rfl (⟨rfl, rfl, rfl⟩)
end KP
