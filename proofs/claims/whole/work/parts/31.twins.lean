section OPS7
variable {G : pm_G} {z : pm_z} {h : pm_h} {g : pm_g}
theorem d_isRoute_t {fr sz : Nat} {T : Nat → Int32} (I : pm_I h g) (e1 : h 31 = pm_ia 1 160 T) (hf : fr + sz ≤ 160) (q : m_rt T fr sz) : pm_Met G mX9_isRoute [.ref 30, .int (nI fr), .int (nI sz)] z z h g (pm_q (.int 1) h g) := by
  obtain ⟨r1, r2, r3⟩ := q
  have hr : nI sz - nI sz / 2 * 2 = 0 := by
    rw [show (2 : Int32) = nI 2 from rfl, pk_rem (by omega) (by omega) (by omega), r1]; rfl
  refine enX9_isRoute pm_le.rf ?_
  refine px_iload_n (i := 2) (pc' := 1) dX9_isRoute_0 rfl rfl rfl ?_
  refine px_iconst (v := 2) (pc' := 2) dX9_isRoute_1 rfl (by decide) ?_
  refine px_irem (pc' := 3) dX9_isRoute_2 rfl (by decide) ?_
  refine px_if_ne (tgt := 12) (pc' := 6) dX9_isRoute_3 (by decide) rfl (fun q_ => absurd (hr) q_) (fun _ => ?_)
  refine px_iload_n (i := 2) (pc' := 7) dX9_isRoute_6 rfl rfl rfl ?_
  refine px_bipush (v := 16) (pc' := 9) dX9_isRoute_7 rfl (by decide) ?_
  refine px_icmp_le (tgt := 14) (pc' := 12) dX9_isRoute_9 (by decide) rfl (fun _ => ?_) (fun q_ => absurd (nI_le (b := 16) r2 (by omega)) q_)
  refine px_iconst (v := 0) (pc' := 15) dX9_isRoute_14 rfl (by decide) ?_
  refine sx_i_n_4_3 (pc' := 16) dX9_isRoute_15 rfl rfl rfl rfl ?_
  have loop : ∀ k i : Nat, i + k = sz → pm_W G mX9_isRoute z (pm_Φ G z (pm_q (.int 1) h g)) 16 [.ref 30, .int (nI fr), .int (nI sz), .int (nI i)] [] z h g := by
    intro k
    induction k with
    | zero =>
      intro i hi
      refine px_iload_n (i := 3) (pc' := 17) dX9_isRoute_16 rfl rfl rfl ?_
      refine px_iload_n (i := 2) (pc' := 18) dX9_isRoute_17 rfl rfl rfl ?_
      refine px_icmp_ge (tgt := 54) (pc' := 21) dX9_isRoute_18 (by decide) rfl (fun _ => ?_) (fun q_ => absurd (nI_le (by omega) (by omega)) q_)
      refine px_iconst (v := 1) (pc' := 55) dX9_isRoute_54 rfl (by decide) ?_
      exact px_zret (ty := .boolean) dX9_isRoute_55 rfl (rfl) rfl (⟨rfl, rfl, rfl⟩)
    | succ k ih =>
      intro i hi
      have hv := r3 i (by omega)
      have hc : (nI (fr + i)).toNatClampNeg = fr + i := nI_clamp (by omega)
      refine px_iload_n (i := 3) (pc' := 17) dX9_isRoute_16 rfl rfl rfl ?_
      refine px_iload_n (i := 2) (pc' := 18) dX9_isRoute_17 rfl rfl rfl ?_
      refine px_icmp_ge (tgt := 54) (pc' := 21) dX9_isRoute_18 (by decide) rfl (fun q_ => absurd q_ (nI_ge (by omega) (by omega))) (fun _ => ?_)
      refine px_aload_n (i := 0) (pc' := 22) dX9_isRoute_21 rfl rfl rfl ?_
      refine pi_getr (pc' := 25) fl_9_14 dX9_isRoute_22 rfl (by repeat (first | assumption | refine pm_I.up ?_ rfl | refine pm_I.uf ?_ rfl)) rfl rfl ?_
      refine px_iload_n (i := 1) (pc' := 26) dX9_isRoute_25 rfl rfl rfl ?_
      refine px_iload_n (i := 3) (pc' := 27) dX9_isRoute_26 rfl rfl rfl ?_
      refine px_iadd (pc' := 28) dX9_isRoute_27 rfl ?_
      first | refine px_bald (pc' := 29) dX9_isRoute_28 rfl (by first | assumption | (repeat (first | exact pm_up_e rfl | refine pm_up_o (by decide) ?_ | apply pm_up_o (by decide))) <;> assumption) (by rw [nI_add]; exact vp_in_nI (by omega) (by omega)) ?_ | refine px_zald (pc' := 29) dX9_isRoute_28 rfl (by first | assumption | (repeat (first | exact pm_up_e rfl | refine pm_up_o (by decide) ?_ | apply pm_up_o (by decide))) <;> assumption) (by rw [nI_add]; exact vp_in_nI (by omega) (by omega)) ?_
      refine px_bipush (v := -5) (pc' := 31) dX9_isRoute_29 rfl (by decide) ?_
      rw [nI_add, hc]
      refine px_icmp_lt (tgt := 46) (pc' := 34) dX9_isRoute_31 (by decide) rfl (fun q_ => absurd q_ (by rw [i_lt, l_m5]; omega)) (fun _ => ?_)
      refine px_aload_n (i := 0) (pc' := 35) dX9_isRoute_34 rfl rfl rfl ?_
      refine pi_getr (pc' := 38) fl_9_14 dX9_isRoute_35 rfl (by repeat (first | assumption | refine pm_I.up ?_ rfl | refine pm_I.uf ?_ rfl)) rfl rfl ?_
      refine px_iload_n (i := 1) (pc' := 39) dX9_isRoute_38 rfl rfl rfl ?_
      refine px_iload_n (i := 3) (pc' := 40) dX9_isRoute_39 rfl rfl rfl ?_
      refine px_iadd (pc' := 41) dX9_isRoute_40 rfl ?_
      first | refine px_bald (pc' := 42) dX9_isRoute_41 rfl (by first | assumption | (repeat (first | exact pm_up_e rfl | refine pm_up_o (by decide) ?_ | apply pm_up_o (by decide))) <;> assumption) (by rw [nI_add]; exact vp_in_nI (by omega) (by omega)) ?_ | refine px_zald (pc' := 42) dX9_isRoute_41 rfl (by first | assumption | (repeat (first | exact pm_up_e rfl | refine pm_up_o (by decide) ?_ | apply pm_up_o (by decide))) <;> assumption) (by rw [nI_add]; exact vp_in_nI (by omega) (by omega)) ?_
      refine px_iconst (v := 5) (pc' := 43) dX9_isRoute_42 rfl (by decide) ?_
      rw [nI_add, hc]
      refine px_icmp_le (tgt := 48) (pc' := 46) dX9_isRoute_43 (by decide) rfl (fun _ => ?_) (fun q_ => absurd (by rw [i_le, l_5]; omega) q_)
      refine sx_inc_4_3 (w := 1) (pc' := 51) dX9_isRoute_48 rfl rfl (by decide) rfl ?_
      refine px_goto (tgt := 16) dX9_isRoute_51 (by decide) ?_
      rw [nI_1]
      exact ih (i + 1) (by omega)
  exact loop sz 0 (by omega)
theorem d_isRoute_f {fr sz : Nat} {T : Nat → Int32} (I : pm_I h g) (e1 : h 31 = pm_ia 1 160 T) (hf : fr + sz ≤ 160) (q : ¬ m_rt T fr sz) : pm_Met G mX9_isRoute [.ref 30, .int (nI fr), .int (nI sz)] z z h g (pm_q (.int 0) h g) := by
  unfold m_rt at q
  have hr : nI sz - nI sz / 2 * 2 = nI (sz % 2) := pk_rem (d := 2) (by omega) (by omega) (by omega)
  refine enX9_isRoute pm_le.rf ?_
  by_cases r1 : sz % 2 = 0
  rotate_left
  · refine px_iload_n (i := 2) (pc' := 1) dX9_isRoute_0 rfl rfl rfl ?_
    refine px_iconst (v := 2) (pc' := 2) dX9_isRoute_1 rfl (by decide) ?_
    refine px_irem (pc' := 3) dX9_isRoute_2 rfl (by decide) ?_
    refine px_if_ne (tgt := 12) (pc' := 6) dX9_isRoute_3 (by decide) rfl (fun _ => ?_) (fun q_ => absurd q_ (by rw [hr, show (0 : Int32) = nI 0 from rfl, nI_eq (by omega) (by omega)]; omega))
    refine px_iconst (v := 0) (pc' := 13) dX9_isRoute_12 rfl (by decide) ?_
    exact px_zret (ty := .boolean) dX9_isRoute_13 rfl (rfl) rfl (⟨rfl, rfl, rfl⟩)
  by_cases r2 : sz ≤ 16
  rotate_left
  · refine px_iload_n (i := 2) (pc' := 1) dX9_isRoute_0 rfl rfl rfl ?_
    refine px_iconst (v := 2) (pc' := 2) dX9_isRoute_1 rfl (by decide) ?_
    refine px_irem (pc' := 3) dX9_isRoute_2 rfl (by decide) ?_
    refine px_if_ne (tgt := 12) (pc' := 6) dX9_isRoute_3 (by decide) rfl (fun q_ => absurd (by rw [hr, r1]; rfl) q_) (fun _ => ?_)
    refine px_iload_n (i := 2) (pc' := 7) dX9_isRoute_6 rfl rfl rfl ?_
    refine px_bipush (v := 16) (pc' := 9) dX9_isRoute_7 rfl (by decide) ?_
    refine px_icmp_le (tgt := 14) (pc' := 12) dX9_isRoute_9 (by decide) rfl (fun q_ => absurd q_ (nI_ge (b := sz) (a := 16) (by omega) (by omega))) (fun _ => ?_)
    refine px_iconst (v := 0) (pc' := 13) dX9_isRoute_12 rfl (by decide) ?_
    exact px_zret (ty := .boolean) dX9_isRoute_13 rfl (rfl) rfl (⟨rfl, rfl, rfl⟩)
  refine px_iload_n (i := 2) (pc' := 1) dX9_isRoute_0 rfl rfl rfl ?_
  refine px_iconst (v := 2) (pc' := 2) dX9_isRoute_1 rfl (by decide) ?_
  refine px_irem (pc' := 3) dX9_isRoute_2 rfl (by decide) ?_
  refine px_if_ne (tgt := 12) (pc' := 6) dX9_isRoute_3 (by decide) rfl (fun q_ => absurd (by rw [hr, r1]; rfl) q_) (fun _ => ?_)
  refine px_iload_n (i := 2) (pc' := 7) dX9_isRoute_6 rfl rfl rfl ?_
  refine px_bipush (v := 16) (pc' := 9) dX9_isRoute_7 rfl (by decide) ?_
  refine px_icmp_le (tgt := 14) (pc' := 12) dX9_isRoute_9 (by decide) rfl (fun _ => ?_) (fun q_ => absurd (nI_le (b := 16) r2 (by omega)) q_)
  refine px_iconst (v := 0) (pc' := 15) dX9_isRoute_14 rfl (by decide) ?_
  refine sx_i_n_4_3 (pc' := 16) dX9_isRoute_15 rfl rfl rfl rfl ?_
  have loop : ∀ k i : Nat, i + k = sz → (∀ j, j < i → -5 ≤ (T (fr + j)).toInt ∧ (T (fr + j)).toInt ≤ 5) → pm_W G mX9_isRoute z (pm_Φ G z (pm_q (.int 0) h g)) 16 [.ref 30, .int (nI fr), .int (nI sz), .int (nI i)] [] z h g := by
    intro k
    induction k with
    | zero =>
      intro i hi hj
      exact absurd ⟨r1, r2, fun j hh => hj j (by omega)⟩ q
    | succ k ih =>
      intro i hi hj
      have hc : (nI (fr + i)).toNatClampNeg = fr + i := nI_clamp (by omega)
      refine px_iload_n (i := 3) (pc' := 17) dX9_isRoute_16 rfl rfl rfl ?_
      refine px_iload_n (i := 2) (pc' := 18) dX9_isRoute_17 rfl rfl rfl ?_
      refine px_icmp_ge (tgt := 54) (pc' := 21) dX9_isRoute_18 (by decide) rfl (fun q_ => absurd q_ (nI_ge (by omega) (by omega))) (fun _ => ?_)
      refine px_aload_n (i := 0) (pc' := 22) dX9_isRoute_21 rfl rfl rfl ?_
      refine pi_getr (pc' := 25) fl_9_14 dX9_isRoute_22 rfl (by repeat (first | assumption | refine pm_I.up ?_ rfl | refine pm_I.uf ?_ rfl)) rfl rfl ?_
      refine px_iload_n (i := 1) (pc' := 26) dX9_isRoute_25 rfl rfl rfl ?_
      refine px_iload_n (i := 3) (pc' := 27) dX9_isRoute_26 rfl rfl rfl ?_
      refine px_iadd (pc' := 28) dX9_isRoute_27 rfl ?_
      first | refine px_bald (pc' := 29) dX9_isRoute_28 rfl (by first | assumption | (repeat (first | exact pm_up_e rfl | refine pm_up_o (by decide) ?_ | apply pm_up_o (by decide))) <;> assumption) (by rw [nI_add]; exact vp_in_nI (by omega) (by omega)) ?_ | refine px_zald (pc' := 29) dX9_isRoute_28 rfl (by first | assumption | (repeat (first | exact pm_up_e rfl | refine pm_up_o (by decide) ?_ | apply pm_up_o (by decide))) <;> assumption) (by rw [nI_add]; exact vp_in_nI (by omega) (by omega)) ?_
      refine px_bipush (v := -5) (pc' := 31) dX9_isRoute_29 rfl (by decide) ?_
      rw [nI_add, hc]
      refine px_icmp_lt (tgt := 46) (pc' := 34) dX9_isRoute_31 (by decide) rfl (fun z1 => ?_) (fun z1 => ?_)
      · refine px_iconst (v := 0) (pc' := 47) dX9_isRoute_46 rfl (by decide) ?_
        exact px_zret (ty := .boolean) dX9_isRoute_47 rfl (rfl) rfl (⟨rfl, rfl, rfl⟩)
      rw [i_lt, l_m5] at z1
      refine px_aload_n (i := 0) (pc' := 35) dX9_isRoute_34 rfl rfl rfl ?_
      refine pi_getr (pc' := 38) fl_9_14 dX9_isRoute_35 rfl (by repeat (first | assumption | refine pm_I.up ?_ rfl | refine pm_I.uf ?_ rfl)) rfl rfl ?_
      refine px_iload_n (i := 1) (pc' := 39) dX9_isRoute_38 rfl rfl rfl ?_
      refine px_iload_n (i := 3) (pc' := 40) dX9_isRoute_39 rfl rfl rfl ?_
      refine px_iadd (pc' := 41) dX9_isRoute_40 rfl ?_
      first | refine px_bald (pc' := 42) dX9_isRoute_41 rfl (by first | assumption | (repeat (first | exact pm_up_e rfl | refine pm_up_o (by decide) ?_ | apply pm_up_o (by decide))) <;> assumption) (by rw [nI_add]; exact vp_in_nI (by omega) (by omega)) ?_ | refine px_zald (pc' := 42) dX9_isRoute_41 rfl (by first | assumption | (repeat (first | exact pm_up_e rfl | refine pm_up_o (by decide) ?_ | apply pm_up_o (by decide))) <;> assumption) (by rw [nI_add]; exact vp_in_nI (by omega) (by omega)) ?_
      refine px_iconst (v := 5) (pc' := 43) dX9_isRoute_42 rfl (by decide) ?_
      rw [nI_add, hc]
      refine px_icmp_le (tgt := 48) (pc' := 46) dX9_isRoute_43 (by decide) rfl (fun z2 => ?_) (fun z2 => ?_)
      · rw [i_le, l_5] at z2
        refine sx_inc_4_3 (w := 1) (pc' := 51) dX9_isRoute_48 rfl rfl (by decide) rfl ?_
        refine px_goto (tgt := 16) dX9_isRoute_51 (by decide) ?_
        rw [nI_1]
        exact ih (i + 1) (by omega) (fun j hh => if h : j = i then h ▸ ⟨by omega, z2⟩ else hj j (by omega))
      · refine px_iconst (v := 0) (pc' := 47) dX9_isRoute_46 rfl (by decide) ?_
        exact px_zret (ty := .boolean) dX9_isRoute_47 rfl (rfl) rfl (⟨rfl, rfl, rfl⟩)
  exact loop sz 0 (by omega) (fun j hj => absurd hj (by omega))
end OPS7
section OPS8
variable {G : pm_G}
theorem o_twins : pm_op G mX8_twins mX9_twins [] := by
  intro z h g j
  obtain ⟨I, ⟨n, T, q1⟩, ⟨w, d, η, q2, q3, q4⟩, ⟨e, a0, a1, q5⟩, q6, q7, q8⟩ := id j
  obtain ⟨hn, t1, t2, t3, t4⟩ := id q1
  obtain ⟨m1, m2, m3, m4, m5, m6, m7, m8, m9, mA, mB⟩ := id q2
  obtain ⟨f1, f2, st, p, at_, fl, al, tw, w1, w2, w3, w4, w5, w6, w7, w8, w9, wA, wB⟩ := id q7
  obtain ⟨u1, u2, u3, u4, u5, u6, u7, u8, u9, uA⟩ := id q5
  have hwd := m_wd m2 m4
  have h0 : 0 ≤ (0 : Int32).toInt ∧ (0 : Int32).toInt ≤ n := by rw [i_0]; omega
  by_cases hr : m_rt T 0 n
  · have abd := m_all_bd (P := m_tw w d e T (m_hc η) 0 (n / 2)) (n := w * d) (by omega) (w * d) (Nat.le_refl _)
    refine ⟨nI (m_all (m_tw w d e T (m_hc η) 0 (n / 2)) (w * d) (w * d)).1, ?_⟩
    refine enX8_twins pm_le.rf ?_
    refine px_aload_n (i := 0) (pc' := 1) dX8_twins_0 rfl rfl rfl ?_
    refine pi_getr (pc' := 4) fl_8_67 dX8_twins_1 rfl (by repeat (first | assumption | refine pm_I.up ?_ rfl | refine pm_I.uf ?_ rfl)) rfl rfl ?_
    refine pi_callV (pc' := 7) (c_twinsOfTape I t1 hn t2 m6 m7 m2 m4 m8 (fun c hc => m_hc_bd (m5 c hc)) w3 w4 w1 w2 w6 w5 u5 u1) okX7_twinsOfTape ivX7_twinsOfTape ml_X8_153 ⟨Nat.le_of_ble_eq_true rfl, Nat.le_of_ble_eq_true rfl⟩ dX8_twins_4 rfl rfl rfl (Nat.le_of_ble_eq_true rfl) (by repeat (first | assumption | refine pm_I.up ?_ rfl | refine pm_I.uf ?_ rfl)) rfl cl_7 pm_le.rf pm_le.rf ?_
    rintro _ _ _ (⟨n1, _⟩ | ⟨n1, rfl, _, ⟨f1', f2', st', p', mm, nn, z1', z2', rfl, rfl⟩, rfl⟩)
    · exact absurd hr n1
    refine sx_i_n_2_1 (pc' := 8) dX8_twins_7 rfl rfl rfl rfl ?_
    refine px_aload_n (i := 0) (pc' := 9) dX8_twins_8 rfl rfl rfl ?_
    refine pi_getr (pc' := 12) fl_8_10 dX8_twins_9 rfl (by repeat (first | assumption | refine pm_I.up ?_ rfl | refine pm_I.uf ?_ rfl)) rfl rfl ?_
    refine px_iconst (v := 0) (pc' := 13) dX8_twins_12 rfl (by decide) ?_
    refine pi_callV (pc' := 16) (c_cut_t (by repeat (first | assumption | refine pm_I.up ?_ rfl | refine pm_I.uf ?_ rfl)) (n := n) (by first | assumption | (repeat (first | exact pm_uf_e rfl | refine pm_uf_o (by decide) ?_ | apply pm_uf_o (by decide))) <;> assumption) hn h0) okX6_cut ivX6_cut ml_X8_82 ⟨Nat.le_of_ble_eq_true rfl, Nat.le_of_ble_eq_true rfl⟩ dX8_twins_13 rfl rfl rfl (Nat.le_of_ble_eq_true rfl) (by repeat (first | assumption | refine pm_I.up ?_ rfl | refine pm_I.uf ?_ rfl)) rfl cl_6 pm_le.rf pm_le.rf ?_
    rintro _ _ _ ⟨rfl, rfl, rfl⟩
    refine px_pop (pc' := 17) dX8_twins_16 rfl rfl ?_
    refine px_iload_n (i := 1) (pc' := 18) dX8_twins_17 rfl rfl rfl ?_
    refine px_iret dX8_twins_18 rfl rfl (⟨rfl, (by repeat (first | assumption | refine pm_I.up ?_ rfl | refine pm_I.uf ?_ rfl)), ?_⟩)
    obtain ⟨r1, r2, r3⟩ := id hr
    refine enX9_twins pm_le.rf ?_
    refine px_aload_n (i := 0) (pc' := 1) dX9_twins_0 rfl rfl rfl ?_
    refine px_iconst (v := 0) (pc' := 2) dX9_twins_1 rfl (by decide) ?_
    refine pi_puti (pc' := 5) fi_9_1 dX9_twins_2 rfl (by repeat (first | assumption | refine pm_I.up ?_ rfl | refine pm_I.uf ?_ rfl)) rfl ?_
    refine px_aload_n (i := 0) (pc' := 6) dX9_twins_5 rfl rfl rfl ?_
    refine pi_callV (pc' := 9) (d_taken (by repeat (first | assumption | refine pm_I.up ?_ rfl | refine pm_I.uf ?_ rfl)) (by first | assumption | (repeat (first | exact pm_uf_e rfl | refine pm_uf_o (by decide) ?_ | apply pm_uf_o (by decide))) <;> assumption)) okX9_taken ivX9_taken ml_X9_112 ⟨Nat.le_of_ble_eq_true rfl, Nat.le_of_ble_eq_true rfl⟩ dX9_twins_6 rfl rfl rfl (Nat.le_of_ble_eq_true rfl) (by repeat (first | assumption | refine pm_I.up ?_ rfl | refine pm_I.uf ?_ rfl)) rfl cl_9 pm_le.rf pm_le.rf ?_
    rintro _ _ _ ⟨rfl, rfl, rfl⟩
    refine px_aload_n (i := 0) (pc' := 10) dX9_twins_9 rfl rfl rfl ?_
    refine px_iconst (v := 0) (pc' := 11) dX9_twins_10 rfl (by decide) ?_
    refine px_aload_n (i := 0) (pc' := 12) dX9_twins_11 rfl rfl rfl ?_
    refine pi_geti (pc' := 15) fl_9_18 dX9_twins_12 rfl (by repeat (first | assumption | refine pm_I.up ?_ rfl | refine pm_I.uf ?_ rfl)) rfl (by first | assumption | (repeat (first | exact pm_uf_e rfl | refine pm_uf_o (by decide) ?_ | apply pm_uf_o (by decide))) <;> assumption) ?_
    refine pi_callV (pc' := 18) (d_isRoute_t (by repeat (first | assumption | refine pm_I.up ?_ rfl | refine pm_I.uf ?_ rfl)) (by first | assumption | (repeat (first | exact pm_up_e rfl | refine pm_up_o (by decide) ?_ | apply pm_up_o (by decide))) <;> assumption) (fr := 0) (sz := n) (by omega) hr) okX9_isRoute ivX9_isRoute ml_X9_182 ⟨Nat.le_of_ble_eq_true rfl, Nat.le_of_ble_eq_true rfl⟩ dX9_twins_15 rfl rfl rfl (Nat.le_of_ble_eq_true rfl) (by repeat (first | assumption | refine pm_I.up ?_ rfl | refine pm_I.uf ?_ rfl)) rfl cl_9 pm_le.rf pm_le.rf ?_
    rintro _ _ _ ⟨rfl, rfl, rfl⟩
    refine px_if_ne (tgt := 23) (pc' := 21) dX9_twins_18 (by decide) rfl (fun _ => ?_) (fun q_ => absurd q_ (by decide))
    refine px_aload_n (i := 0) (pc' := 24) dX9_twins_23 rfl rfl rfl ?_
    refine px_iconst (v := 0) (pc' := 25) dX9_twins_24 rfl (by decide) ?_
    refine px_aload_n (i := 0) (pc' := 26) dX9_twins_25 rfl rfl rfl ?_
    refine pi_geti (pc' := 29) fl_9_18 dX9_twins_26 rfl (by repeat (first | assumption | refine pm_I.up ?_ rfl | refine pm_I.uf ?_ rfl)) rfl (by first | assumption | (repeat (first | exact pm_uf_e rfl | refine pm_uf_o (by decide) ?_ | apply pm_uf_o (by decide))) <;> assumption) ?_
    refine px_iconst (v := 2) (pc' := 30) dX9_twins_29 rfl (by decide) ?_
    refine px_idiv (pc' := 31) dX9_twins_30 rfl (by decide) ?_
    rw [show nI n / 2 = nI (n / 2) from pk_div (d := 2) (by omega) (by omega) (by omega)]
    refine pi_callV (pc' := 34) (d_pairs (by repeat (first | assumption | refine pm_I.up ?_ rfl | refine pm_I.uf ?_ rfl)) (w := w) (d := d) (e := e) (fr := 0) (m := n / 2) (T := T) (η := η) (by omega) (by omega) (fun k hk => r3 k (by omega)) (by first | assumption | (repeat (first | exact pm_uf_e rfl | refine pm_uf_o (by decide) ?_ | apply pm_uf_o (by decide))) <;> assumption) (by first | assumption | (repeat (first | exact pm_uf_e rfl | refine pm_uf_o (by decide) ?_ | apply pm_uf_o (by decide))) <;> assumption) (by omega) m2 m4 (by first | assumption | (repeat (first | exact pm_up_e rfl | refine pm_up_o (by decide) ?_ | apply pm_up_o (by decide))) <;> assumption) m5 (by first | assumption | (repeat (first | exact pm_uf_e rfl | refine pm_uf_o (by decide) ?_ | apply pm_uf_o (by decide))) <;> assumption) u1 (by first | assumption | (repeat (first | exact pm_up_e rfl | refine pm_up_o (by decide) ?_ | apply pm_up_o (by decide))) <;> assumption) (by first | assumption | (repeat (first | exact pm_up_e rfl | refine pm_up_o (by decide) ?_ | apply pm_up_o (by decide))) <;> assumption) (by first | assumption | (repeat (first | exact pm_up_e rfl | refine pm_up_o (by decide) ?_ | apply pm_up_o (by decide))) <;> assumption) (by first | assumption | (repeat (first | exact pm_up_e rfl | refine pm_up_o (by decide) ?_ | apply pm_up_o (by decide))) <;> assumption)) okX9_pairs ivX9_pairs ml_X9_185 ⟨Nat.le_of_ble_eq_true rfl, Nat.le_of_ble_eq_true rfl⟩ dX9_twins_31 rfl rfl rfl (Nat.le_of_ble_eq_true rfl) (by repeat (first | assumption | refine pm_I.up ?_ rfl | refine pm_I.uf ?_ rfl)) rfl cl_9 pm_le.rf pm_le.rf ?_
    rintro _ _ _ ⟨rfl, ⟨A, F, L, rfl⟩, rfl⟩
    refine sx_i_n_2_1 (pc' := 35) dX9_twins_34 rfl rfl rfl rfl ?_
    refine px_aload_n (i := 0) (pc' := 36) dX9_twins_35 rfl rfl rfl ?_
    refine px_aload_n (i := 0) (pc' := 37) dX9_twins_36 rfl rfl rfl ?_
    refine pi_geti (pc' := 40) fl_9_179 dX9_twins_37 rfl (by repeat (first | assumption | refine pm_I.up ?_ rfl | refine pm_I.uf ?_ rfl)) rfl (by first | assumption | (repeat (first | exact pm_uf_e rfl | refine pm_uf_o (by decide) ?_ | apply pm_uf_o (by decide))) <;> assumption) ?_
    refine pi_puti (pc' := 43) fi_9_102 dX9_twins_40 rfl (by repeat (first | assumption | refine pm_I.up ?_ rfl | refine pm_I.uf ?_ rfl)) rfl ?_
    refine px_iload_n (i := 1) (pc' := 44) dX9_twins_43 rfl rfl rfl ?_
    exact px_iret dX9_twins_44 rfl rfl (⟨rfl, (by repeat (first | assumption | refine pm_I.up ?_ rfl | refine pm_I.uf ?_ rfl)), ⟨0, T, by omega, rfl, t2, rfl, t4⟩, ⟨w, d, η, q2.keep rfl rfl rfl rfl rfl rfl, q3.keep rfl rfl rfl rfl rfl rfl rfl rfl rfl, q4.keep rfl rfl rfl rfl rfl rfl rfl rfl rfl rfl rfl rfl rfl rfl rfl rfl rfl rfl rfl rfl⟩, ⟨e, a0, a1, q5.keep rfl rfl rfl rfl rfl rfl⟩, q6.keep rfl rfl rfl rfl rfl rfl rfl rfl rfl rfl rfl rfl rfl rfl rfl, ⟨f1', f2', st', p', A, F, L, _, z1', z2', (by first | assumption | (repeat (first | exact pm_up_e rfl | refine pm_up_o (by decide) ?_ | apply pm_up_o (by decide))) <;> assumption), (by first | assumption | (repeat (first | exact pm_up_e rfl | refine pm_up_o (by decide) ?_ | apply pm_up_o (by decide))) <;> assumption), (by first | assumption | (repeat (first | exact pm_up_e rfl | refine pm_up_o (by decide) ?_ | apply pm_up_o (by decide))) <;> assumption), (by first | assumption | (repeat (first | exact pm_up_e rfl | refine pm_up_o (by decide) ?_ | apply pm_up_o (by decide))) <;> assumption), (by first | assumption | (repeat (first | exact pm_uf_e rfl | refine pm_uf_o (by decide) ?_ | apply pm_uf_o (by decide))) <;> assumption), (by first | assumption | (repeat (first | exact pm_up_e rfl | refine pm_up_o (by decide) ?_ | apply pm_up_o (by decide))) <;> assumption), (by first | assumption | (repeat (first | exact pm_up_e rfl | refine pm_up_o (by decide) ?_ | apply pm_up_o (by decide))) <;> assumption), (by first | assumption | (repeat (first | exact pm_up_e rfl | refine pm_up_o (by decide) ?_ | apply pm_up_o (by decide))) <;> assumption), (by first | assumption | (repeat (first | exact pm_uf_e rfl | refine pm_uf_o (by decide) ?_ | apply pm_uf_o (by decide))) <;> assumption)⟩, q8⟩)
  · refine ⟨-1, ?_⟩
    refine enX8_twins pm_le.rf ?_
    refine px_aload_n (i := 0) (pc' := 1) dX8_twins_0 rfl rfl rfl ?_
    refine pi_getr (pc' := 4) fl_8_67 dX8_twins_1 rfl (by repeat (first | assumption | refine pm_I.up ?_ rfl | refine pm_I.uf ?_ rfl)) rfl rfl ?_
    refine pi_callV (pc' := 7) (c_twinsOfTape I t1 hn t2 m6 m7 m2 m4 m8 (fun c hc => m_hc_bd (m5 c hc)) w3 w4 w1 w2 w6 w5 u5 u1) okX7_twinsOfTape ivX7_twinsOfTape ml_X8_153 ⟨Nat.le_of_ble_eq_true rfl, Nat.le_of_ble_eq_true rfl⟩ dX8_twins_4 rfl rfl rfl (Nat.le_of_ble_eq_true rfl) (by repeat (first | assumption | refine pm_I.up ?_ rfl | refine pm_I.uf ?_ rfl)) rfl cl_7 pm_le.rf pm_le.rf ?_
    rintro _ _ _ (⟨n1, rfl, vv, f1', f2', z1', z2', rfl, rfl⟩ | ⟨n1, _⟩)
    rotate_left
    · exact absurd n1 hr
    refine sx_i_n_2_1 (pc' := 8) dX8_twins_7 rfl rfl rfl rfl ?_
    refine px_aload_n (i := 0) (pc' := 9) dX8_twins_8 rfl rfl rfl ?_
    refine pi_getr (pc' := 12) fl_8_10 dX8_twins_9 rfl (by repeat (first | assumption | refine pm_I.up ?_ rfl | refine pm_I.uf ?_ rfl)) rfl rfl ?_
    refine px_iconst (v := 0) (pc' := 13) dX8_twins_12 rfl (by decide) ?_
    refine pi_callV (pc' := 16) (c_cut_t (by repeat (first | assumption | refine pm_I.up ?_ rfl | refine pm_I.uf ?_ rfl)) (n := n) (by first | assumption | (repeat (first | exact pm_uf_e rfl | refine pm_uf_o (by decide) ?_ | apply pm_uf_o (by decide))) <;> assumption) hn h0) okX6_cut ivX6_cut ml_X8_82 ⟨Nat.le_of_ble_eq_true rfl, Nat.le_of_ble_eq_true rfl⟩ dX8_twins_13 rfl rfl rfl (Nat.le_of_ble_eq_true rfl) (by repeat (first | assumption | refine pm_I.up ?_ rfl | refine pm_I.uf ?_ rfl)) rfl cl_6 pm_le.rf pm_le.rf ?_
    rintro _ _ _ ⟨rfl, rfl, rfl⟩
    refine px_pop (pc' := 17) dX8_twins_16 rfl rfl ?_
    refine px_iload_n (i := 1) (pc' := 18) dX8_twins_17 rfl rfl rfl ?_
    refine px_iret dX8_twins_18 rfl rfl (⟨rfl, (by repeat (first | assumption | refine pm_I.up ?_ rfl | refine pm_I.uf ?_ rfl)), ?_⟩)
    refine enX9_twins pm_le.rf ?_
    refine px_aload_n (i := 0) (pc' := 1) dX9_twins_0 rfl rfl rfl ?_
    refine px_iconst (v := 0) (pc' := 2) dX9_twins_1 rfl (by decide) ?_
    refine pi_puti (pc' := 5) fi_9_1 dX9_twins_2 rfl (by repeat (first | assumption | refine pm_I.up ?_ rfl | refine pm_I.uf ?_ rfl)) rfl ?_
    refine px_aload_n (i := 0) (pc' := 6) dX9_twins_5 rfl rfl rfl ?_
    refine pi_callV (pc' := 9) (d_taken (by repeat (first | assumption | refine pm_I.up ?_ rfl | refine pm_I.uf ?_ rfl)) (by first | assumption | (repeat (first | exact pm_uf_e rfl | refine pm_uf_o (by decide) ?_ | apply pm_uf_o (by decide))) <;> assumption)) okX9_taken ivX9_taken ml_X9_112 ⟨Nat.le_of_ble_eq_true rfl, Nat.le_of_ble_eq_true rfl⟩ dX9_twins_6 rfl rfl rfl (Nat.le_of_ble_eq_true rfl) (by repeat (first | assumption | refine pm_I.up ?_ rfl | refine pm_I.uf ?_ rfl)) rfl cl_9 pm_le.rf pm_le.rf ?_
    rintro _ _ _ ⟨rfl, rfl, rfl⟩
    refine px_aload_n (i := 0) (pc' := 10) dX9_twins_9 rfl rfl rfl ?_
    refine px_iconst (v := 0) (pc' := 11) dX9_twins_10 rfl (by decide) ?_
    refine px_aload_n (i := 0) (pc' := 12) dX9_twins_11 rfl rfl rfl ?_
    refine pi_geti (pc' := 15) fl_9_18 dX9_twins_12 rfl (by repeat (first | assumption | refine pm_I.up ?_ rfl | refine pm_I.uf ?_ rfl)) rfl (by first | assumption | (repeat (first | exact pm_uf_e rfl | refine pm_uf_o (by decide) ?_ | apply pm_uf_o (by decide))) <;> assumption) ?_
    refine pi_callV (pc' := 18) (d_isRoute_f (by repeat (first | assumption | refine pm_I.up ?_ rfl | refine pm_I.uf ?_ rfl)) (by first | assumption | (repeat (first | exact pm_up_e rfl | refine pm_up_o (by decide) ?_ | apply pm_up_o (by decide))) <;> assumption) (fr := 0) (sz := n) (by omega) hr) okX9_isRoute ivX9_isRoute ml_X9_182 ⟨Nat.le_of_ble_eq_true rfl, Nat.le_of_ble_eq_true rfl⟩ dX9_twins_15 rfl rfl rfl (Nat.le_of_ble_eq_true rfl) (by repeat (first | assumption | refine pm_I.up ?_ rfl | refine pm_I.uf ?_ rfl)) rfl cl_9 pm_le.rf pm_le.rf ?_
    rintro _ _ _ ⟨rfl, rfl, rfl⟩
    refine px_if_ne (tgt := 23) (pc' := 21) dX9_twins_18 (by decide) rfl (fun q_ => absurd (rfl) q_) (fun _ => ?_)
    refine px_iconst (v := -1) (pc' := 22) dX9_twins_21 rfl (by decide) ?_
    exact px_iret dX9_twins_22 rfl rfl (⟨rfl, (by repeat (first | assumption | refine pm_I.up ?_ rfl | refine pm_I.uf ?_ rfl)), ⟨0, T, by omega, rfl, t2, rfl, t4⟩, ⟨w, d, η, q2.keep rfl rfl rfl rfl rfl rfl, q3.keep rfl rfl rfl rfl rfl rfl rfl rfl rfl, q4.keep rfl rfl rfl rfl rfl rfl rfl rfl rfl rfl rfl rfl rfl rfl rfl rfl rfl rfl rfl rfl⟩, ⟨e, a0, a1, q5.keep rfl rfl rfl rfl rfl rfl⟩, q6.keep rfl rfl rfl rfl rfl rfl rfl rfl rfl rfl rfl rfl rfl rfl rfl, ⟨f1', f2', st, p, at_, fl, al, tw, z1', z2', (by first | assumption | (repeat (first | exact pm_up_e rfl | refine pm_up_o (by decide) ?_ | apply pm_up_o (by decide))) <;> assumption), (by first | assumption | (repeat (first | exact pm_up_e rfl | refine pm_up_o (by decide) ?_ | apply pm_up_o (by decide))) <;> assumption), (by first | assumption | (repeat (first | exact pm_up_e rfl | refine pm_up_o (by decide) ?_ | apply pm_up_o (by decide))) <;> assumption), (by first | assumption | (repeat (first | exact pm_up_e rfl | refine pm_up_o (by decide) ?_ | apply pm_up_o (by decide))) <;> assumption), (by first | assumption | (repeat (first | exact pm_uf_e rfl | refine pm_uf_o (by decide) ?_ | apply pm_uf_o (by decide))) <;> assumption), (by first | assumption | (repeat (first | exact pm_up_e rfl | refine pm_up_o (by decide) ?_ | apply pm_up_o (by decide))) <;> assumption), (by first | assumption | (repeat (first | exact pm_up_e rfl | refine pm_up_o (by decide) ?_ | apply pm_up_o (by decide))) <;> assumption), (by first | assumption | (repeat (first | exact pm_up_e rfl | refine pm_up_o (by decide) ?_ | apply pm_up_o (by decide))) <;> assumption), (by first | assumption | (repeat (first | exact pm_uf_e rfl | refine pm_uf_o (by decide) ?_ | apply pm_uf_o (by decide))) <;> assumption)⟩, q8⟩)
end OPS8
