/-! Hills: object 3, heights 4 -/
section HILLS
variable {G : pm_G} {z : pm_z} {h : pm_h} {g : pm_g}
theorem c_width {x : Value} {v : Int32} (I : pm_I h g) (e : g 3 1 = .int v) : pm_Met G mX3_width [.ref 3] z z h g (pm_q (.int v) h g) := by
  refine enX3_width pm_le.rf ?_
  refine px_aload_n (i := 0) (pc' := 1) dX3_width_0 rfl rfl rfl ?_
  refine pi_geti (pc' := 4) fl_3_15 dX3_width_1 rfl (by repeat (first | assumption | refine pm_I.up ?_ rfl | refine pm_I.uf ?_ rfl)) rfl (by first | assumption | (repeat (first | exact pm_uf_e rfl | refine pm_uf_o (by decide) ?_)) <;> assumption) ?_
  exact px_iret dX3_width_4 rfl rfl (⟨rfl, rfl, rfl⟩)
theorem c_depth {v : Int32} (I : pm_I h g) (e : g 3 2 = .int v) : pm_Met G mX3_depth [.ref 3] z z h g (pm_q (.int v) h g) := by
  refine enX3_depth pm_le.rf ?_
  refine px_aload_n (i := 0) (pc' := 1) dX3_depth_0 rfl rfl rfl ?_
  refine pi_geti (pc' := 4) fl_3_19 dX3_depth_1 rfl (by repeat (first | assumption | refine pm_I.up ?_ rfl | refine pm_I.uf ?_ rfl)) rfl (by first | assumption | (repeat (first | exact pm_uf_e rfl | refine pm_uf_o (by decide) ?_)) <;> assumption) ?_
  exact px_iret dX3_depth_4 rfl rfl (⟨rfl, rfl, rfl⟩)
theorem c_cells {w d : Nat} (I : pm_I h g) (e1 : g 3 1 = .int (nI w)) (e2 : g 3 2 = .int (nI d)) : pm_Met G mX3_cells [.ref 3] z z h g (pm_q (.int (nI (w * d))) h g) := by
  refine enX3_cells pm_le.rf ?_
  refine px_aload_n (i := 0) (pc' := 1) dX3_cells_0 rfl rfl rfl ?_
  refine pi_geti (pc' := 4) fl_3_15 dX3_cells_1 rfl (by repeat (first | assumption | refine pm_I.up ?_ rfl | refine pm_I.uf ?_ rfl)) rfl (by first | assumption | (repeat (first | exact pm_uf_e rfl | refine pm_uf_o (by decide) ?_)) <;> assumption) ?_
  refine px_aload_n (i := 0) (pc' := 5) dX3_cells_4 rfl rfl rfl ?_
  refine pi_geti (pc' := 8) fl_3_19 dX3_cells_5 rfl (by repeat (first | assumption | refine pm_I.up ?_ rfl | refine pm_I.uf ?_ rfl)) rfl (by first | assumption | (repeat (first | exact pm_uf_e rfl | refine pm_uf_o (by decide) ?_)) <;> assumption) ?_
  refine px_imul (pc' := 9) dX3_cells_8 rfl ?_
  rw [pk_mul]
  exact px_iret dX3_cells_9 rfl rfl (⟨rfl, rfl, rfl⟩)
theorem c_has {w d : Nat} {c : Int32} (I : pm_I h g) (e1 : g 3 1 = .int (nI w)) (e2 : g 3 2 = .int (nI d)) (hw : w ≤ 12) (hd : d ≤ 12) : pm_Met G mX3_has [.ref 3, .int c] z z h g (pm_q (.int (if 0 ≤ c.toInt ∧ c.toInt < (w * d : Nat) then 1 else 0)) h g) := by
  have hwd := m_wd hw hd
  have en : (nI (w * d)).toInt = (w * d : Nat) := nI_toInt (by omega)
  refine enX3_has pm_le.rf ?_
  refine px_iload_n (i := 1) (pc' := 1) dX3_has_0 rfl rfl rfl ?_
  refine px_if_lt (tgt := 16) (pc' := 4) dX3_has_1 (by decide) rfl (fun q => ?_) (fun q => ?_)
  · rw [i_lt, i_0] at q
    refine px_iconst (v := 0) (pc' := 17) dX3_has_16 rfl (by decide) ?_
    exact px_zret (ty := .boolean) dX3_has_17 rfl (rfl) rfl (⟨by rw [if_neg (by omega)], rfl, rfl⟩)
  rw [i_lt, i_0] at q
  refine px_iload_n (i := 1) (pc' := 5) dX3_has_4 rfl rfl rfl ?_
  refine px_aload_n (i := 0) (pc' := 6) dX3_has_5 rfl rfl rfl ?_
  refine pi_callV (pc' := 9) (c_cells I e1 e2) okX3_cells ivX3_cells ml_X3_22 ⟨Nat.le_of_ble_eq_true rfl, Nat.le_of_ble_eq_true rfl⟩ dX3_has_6 rfl rfl rfl (Nat.le_of_ble_eq_true rfl) (by repeat (first | assumption | refine pm_I.up ?_ rfl | refine pm_I.uf ?_ rfl)) rfl cl_3 pm_le.rf pm_le.rf ?_
  rintro _ _ _ ⟨rfl, rfl, rfl⟩
  refine px_icmp_ge (tgt := 16) (pc' := 12) dX3_has_9 (by decide) rfl (fun q2 => ?_) (fun q2 => ?_)
  · rw [i_le, en] at q2
    refine px_iconst (v := 0) (pc' := 17) dX3_has_16 rfl (by decide) ?_
    exact px_zret (ty := .boolean) dX3_has_17 rfl (rfl) rfl (⟨by rw [if_neg (by omega)], rfl, rfl⟩)
  · rw [i_le, en] at q2
    refine px_iconst (v := 1) (pc' := 13) dX3_has_12 rfl (by decide) ?_
    refine px_goto (tgt := 17) dX3_has_13 (by decide) ?_
    exact px_zret (ty := .boolean) dX3_has_17 rfl (rfl) rfl (⟨by rw [if_pos (by omega)], rfl, rfl⟩)
theorem c_cellAt {w d : Nat} {x y : Int32} (I : pm_I h g) (e1 : g 3 1 = .int (nI w)) (e2 : g 3 2 = .int (nI d)) (hw : w ≤ 12) (hd : d ≤ 12) : pm_Met G mX3_cellAt [.ref 3, .int x, .int y] z z h g (pm_q (.int (iZ (m_off w d x.toInt y.toInt))) h g) := by
  have ew : (nI w).toInt = w := nI_toInt (by omega)
  have ed : (nI d).toInt = d := nI_toInt (by omega)
  refine enX3_cellAt pm_le.rf ?_
  refine px_iload_n (i := 1) (pc' := 1) dX3_cellAt_0 rfl rfl rfl ?_
  refine px_if_lt (tgt := 35) (pc' := 4) dX3_cellAt_1 (by decide) rfl (fun q => ?_) (fun q => ?_)
  · rw [i_lt, i_0] at q
    refine px_iconst (v := -1) (pc' := 36) dX3_cellAt_35 rfl (by decide) ?_
    exact px_iret dX3_cellAt_36 rfl rfl (⟨by rw [m_off, if_neg (by omega)]; rfl, rfl, rfl⟩)
  rw [i_lt, i_0] at q
  refine px_iload_n (i := 1) (pc' := 5) dX3_cellAt_4 rfl rfl rfl ?_
  refine px_aload_n (i := 0) (pc' := 6) dX3_cellAt_5 rfl rfl rfl ?_
  refine pi_geti (pc' := 9) fl_3_15 dX3_cellAt_6 rfl (by repeat (first | assumption | refine pm_I.up ?_ rfl | refine pm_I.uf ?_ rfl)) rfl (by first | assumption | (repeat (first | exact pm_uf_e rfl | refine pm_uf_o (by decide) ?_)) <;> assumption) ?_
  refine px_icmp_ge (tgt := 35) (pc' := 12) dX3_cellAt_9 (by decide) rfl (fun q2 => ?_) (fun q2 => ?_)
  · rw [i_le, ew] at q2
    refine px_iconst (v := -1) (pc' := 36) dX3_cellAt_35 rfl (by decide) ?_
    exact px_iret dX3_cellAt_36 rfl rfl (⟨by rw [m_off, if_neg (by omega)]; rfl, rfl, rfl⟩)
  rw [i_le, ew] at q2
  refine px_iload_n (i := 2) (pc' := 13) dX3_cellAt_12 rfl rfl rfl ?_
  refine px_if_lt (tgt := 35) (pc' := 16) dX3_cellAt_13 (by decide) rfl (fun q3 => ?_) (fun q3 => ?_)
  · rw [i_lt, i_0] at q3
    refine px_iconst (v := -1) (pc' := 36) dX3_cellAt_35 rfl (by decide) ?_
    exact px_iret dX3_cellAt_36 rfl rfl (⟨by rw [m_off, if_neg (by omega)]; rfl, rfl, rfl⟩)
  rw [i_lt, i_0] at q3
  refine px_iload_n (i := 2) (pc' := 17) dX3_cellAt_16 rfl rfl rfl ?_
  refine px_aload_n (i := 0) (pc' := 18) dX3_cellAt_17 rfl rfl rfl ?_
  refine pi_geti (pc' := 21) fl_3_19 dX3_cellAt_18 rfl (by repeat (first | assumption | refine pm_I.up ?_ rfl | refine pm_I.uf ?_ rfl)) rfl (by first | assumption | (repeat (first | exact pm_uf_e rfl | refine pm_uf_o (by decide) ?_)) <;> assumption) ?_
  refine px_icmp_ge (tgt := 35) (pc' := 24) dX3_cellAt_21 (by decide) rfl (fun q4 => ?_) (fun q4 => ?_)
  · rw [i_le, ed] at q4
    refine px_iconst (v := -1) (pc' := 36) dX3_cellAt_35 rfl (by decide) ?_
    exact px_iret dX3_cellAt_36 rfl rfl (⟨by rw [m_off, if_neg (by omega)]; rfl, rfl, rfl⟩)
  rw [i_le, ed] at q4
  refine px_aload_n (i := 0) (pc' := 25) dX3_cellAt_24 rfl rfl rfl ?_
  refine pi_geti (pc' := 28) fl_3_15 dX3_cellAt_25 rfl (by repeat (first | assumption | refine pm_I.up ?_ rfl | refine pm_I.uf ?_ rfl)) rfl (by first | assumption | (repeat (first | exact pm_uf_e rfl | refine pm_uf_o (by decide) ?_)) <;> assumption) ?_
  refine px_iload_n (i := 2) (pc' := 29) dX3_cellAt_28 rfl rfl rfl ?_
  refine px_imul (pc' := 30) dX3_cellAt_29 rfl ?_
  refine px_iload_n (i := 1) (pc' := 31) dX3_cellAt_30 rfl rfl rfl ?_
  refine px_iadd (pc' := 32) dX3_cellAt_31 rfl ?_
  refine px_goto (tgt := 36) dX3_cellAt_32 (by decide) ?_
  exact px_iret dX3_cellAt_36 rfl rfl (⟨by rw [m_off, if_pos (by omega), ← iZ_add, ← iZ_mul, iZ_n, iZ_i, iZ_i], rfl, rfl⟩)
theorem c_heightOf {w d : Nat} {c : Int32} {f : Nat → Int32} (I : pm_I h g) (e1 : g 3 1 = .int (nI w)) (e2 : g 3 2 = .int (nI d)) (e3 : h 4 = pm_ia 0 144 f) (hw : w ≤ 12) (hd : d ≤ 12) : pm_Met G mX3_heightOf [.ref 3, .int c] z z h g (pm_q (.int (if 0 ≤ c.toInt ∧ c.toInt < (w * d : Nat) then f c.toInt.toNat else -1)) h g) := by
  have hwd := m_wd hw hd
  refine enX3_heightOf pm_le.rf ?_
  refine px_aload_n (i := 0) (pc' := 1) dX3_heightOf_0 rfl rfl rfl ?_
  refine px_iload_n (i := 1) (pc' := 2) dX3_heightOf_1 rfl rfl rfl ?_
  refine pi_callV (pc' := 5) (c_has I e1 e2 hw hd) okX3_has ivX3_has ml_X3_26 ⟨Nat.le_of_ble_eq_true rfl, Nat.le_of_ble_eq_true rfl⟩ dX3_heightOf_2 rfl rfl rfl (Nat.le_of_ble_eq_true rfl) (by repeat (first | assumption | refine pm_I.up ?_ rfl | refine pm_I.uf ?_ rfl)) rfl cl_3 pm_le.rf pm_le.rf ?_
  rintro _ _ _ ⟨rfl, rfl, rfl⟩
  refine px_if_eq (tgt := 17) (pc' := 8) dX3_heightOf_5 (by decide) rfl (fun q => ?_) (fun q => ?_)
  · rw [b_0] at q
    refine px_iconst (v := -1) (pc' := 18) dX3_heightOf_17 rfl (by decide) ?_
    exact px_iret dX3_heightOf_18 rfl rfl (⟨by rw [if_neg q], rfl, rfl⟩)
  · rw [b_n0] at q
    refine px_aload_n (i := 0) (pc' := 9) dX3_heightOf_8 rfl rfl rfl ?_
    refine pi_getr (pc' := 12) fl_3_9 dX3_heightOf_9 rfl (by repeat (first | assumption | refine pm_I.up ?_ rfl | refine pm_I.uf ?_ rfl)) rfl rfl ?_
    refine px_iload_n (i := 1) (pc' := 13) dX3_heightOf_12 rfl rfl rfl ?_
    refine px_iald (pc' := 14) dX3_heightOf_13 rfl (by first | assumption | (repeat (first | exact pm_up_e rfl | refine pm_up_o (by decide) ?_)) <;> assumption) (i_in q.1 (by omega)) ?_
    refine px_goto (tgt := 18) dX3_heightOf_14 (by decide) ?_
    exact px_iret dX3_heightOf_18 rfl rfl (⟨by rw [if_pos q]; rfl, rfl, rfl⟩)
theorem c_setHeight {w d : Nat} {c v : Int32} {f : Nat → Int32} (I : pm_I h g) (e1 : g 3 1 = .int (nI w)) (e2 : g 3 2 = .int (nI d)) (e3 : h 4 = pm_ia 0 144 f) (hw : w ≤ 12) (hd : d ≤ 12) (hc : 0 ≤ c.toInt ∧ c.toInt < (w * d : Nat)) : pm_Met G mX3_setHeight [.ref 3, .int c, .int v] z z h g (pm_qv (pm_up h 4 (pm_ia 0 144 (upd f c.toInt.toNat v))) g) := by
  have hwd := m_wd hw hd
  refine enX3_setHeight pm_le.rf ?_
  refine px_aload_n (i := 0) (pc' := 1) dX3_setHeight_0 rfl rfl rfl ?_
  refine px_iload_n (i := 1) (pc' := 2) dX3_setHeight_1 rfl rfl rfl ?_
  refine pi_callV (pc' := 5) (c_has I e1 e2 hw hd) okX3_has ivX3_has ml_X3_26 ⟨Nat.le_of_ble_eq_true rfl, Nat.le_of_ble_eq_true rfl⟩ dX3_setHeight_2 rfl rfl rfl (Nat.le_of_ble_eq_true rfl) (by repeat (first | assumption | refine pm_I.up ?_ rfl | refine pm_I.uf ?_ rfl)) rfl cl_3 pm_le.rf pm_le.rf ?_
  rintro _ _ _ ⟨rfl, rfl, rfl⟩
  refine px_if_eq (tgt := 15) (pc' := 8) dX3_setHeight_5 (by decide) rfl (fun q => ?_) (fun q => ?_)
  · exact absurd hc (b_0.mp q)
  · refine px_aload_n (i := 0) (pc' := 9) dX3_setHeight_8 rfl rfl rfl ?_
    refine pi_getr (pc' := 12) fl_3_9 dX3_setHeight_9 rfl (by repeat (first | assumption | refine pm_I.up ?_ rfl | refine pm_I.uf ?_ rfl)) rfl rfl ?_
    refine px_iload_n (i := 1) (pc' := 13) dX3_setHeight_12 rfl rfl rfl ?_
    refine px_iload_n (i := 2) (pc' := 14) dX3_setHeight_13 rfl rfl rfl ?_
    refine px_iast (pc' := 15) dX3_setHeight_14 rfl (by first | assumption | (repeat (first | exact pm_up_e rfl | refine pm_up_o (by decide) ?_)) <;> assumption) (i_in hc.1 (by omega)) ?_
    exact px_vret dX3_setHeight_15 rfl rfl (⟨rfl, rfl, rfl⟩)
end HILLS
