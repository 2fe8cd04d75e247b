/-! the reference: object 30; its small methods -/
section ML
variable {G : pm_G} {z : pm_z} {h : pm_h} {g : pm_g}
theorem d_thrown {v : Int32} (I : pm_I h g) (e : g 30 0 = .int v) : pm_Met G mX9_thrown [.ref 30] z z h g (pm_q (.int v) h g) := by
  refine enX9_thrown pm_le.rf ?_
  refine px_aload_n (i := 0) (pc' := 1) dX9_thrown_0 rfl rfl rfl ?_
  refine pi_geti (pc' := 4) fl_9_1 dX9_thrown_1 rfl (by repeat (first | assumption | refine pm_I.up ?_ rfl | refine pm_I.uf ?_ rfl)) rfl (by first | assumption | (repeat (first | exact pm_uf_e rfl | refine pm_uf_o (by decide) ?_)) <;> assumption) ?_
  exact px_iret dX9_thrown_4 rfl rfl (⟨rfl, rfl, rfl⟩)
theorem d_throwsIf {P : Prop} [Decidable P] (I : pm_I h g) : pm_Met G mX9_throwsIf [.ref 30, .int (if P then 1 else 0)] z z h g (pm_q (.int (if P then 1 else 0)) h (pm_uf g 30 0 (.int (if P then 1 else 0)))) := by
  refine enX9_throwsIf pm_le.rf ?_
  refine px_aload_n (i := 0) (pc' := 1) dX9_throwsIf_0 rfl rfl rfl ?_
  refine px_iload_n (i := 1) (pc' := 2) dX9_throwsIf_1 rfl rfl rfl ?_
  refine px_if_eq (tgt := 9) (pc' := 5) dX9_throwsIf_2 (by decide) rfl (fun q => ?_) (fun q => ?_)
  · have q := b_0.mp q
    refine px_iconst (v := 0) (pc' := 10) dX9_throwsIf_9 rfl (by decide) ?_
    refine pi_puti (pc' := 13) fi_9_1 dX9_throwsIf_10 rfl (by repeat (first | assumption | refine pm_I.up ?_ rfl | refine pm_I.uf ?_ rfl)) rfl ?_
    refine px_iload_n (i := 1) (pc' := 14) dX9_throwsIf_13 rfl rfl rfl ?_
    rw [if_neg q]
    exact px_zret (ty := .boolean) dX9_throwsIf_14 rfl (rfl) rfl (⟨rfl, rfl, rfl⟩)
  · have q := b_n0.mp q
    refine px_iconst (v := 1) (pc' := 6) dX9_throwsIf_5 rfl (by decide) ?_
    refine px_goto (tgt := 10) dX9_throwsIf_6 (by decide) ?_
    refine pi_puti (pc' := 13) fi_9_1 dX9_throwsIf_10 rfl (by repeat (first | assumption | refine pm_I.up ?_ rfl | refine pm_I.uf ?_ rfl)) rfl ?_
    refine px_iload_n (i := 1) (pc' := 14) dX9_throwsIf_13 rfl rfl rfl ?_
    rw [if_pos q]
    exact px_zret (ty := .boolean) dX9_throwsIf_14 rfl (rfl) rfl (⟨rfl, rfl, rfl⟩)
theorem d_taken {v : Int32} (I : pm_I h g) (e : g 30 2 = .int v) : pm_Met G mX9_taken [.ref 30] z z h g (pm_qv h (pm_uf (pm_uf g 30 3 (.int v)) 30 2 (.int 0))) := by
  refine enX9_taken pm_le.rf ?_
  refine px_aload_n (i := 0) (pc' := 1) dX9_taken_0 rfl rfl rfl ?_
  refine px_aload_n (i := 0) (pc' := 2) dX9_taken_1 rfl rfl rfl ?_
  refine pi_geti (pc' := 5) fl_9_7 dX9_taken_2 rfl (by repeat (first | assumption | refine pm_I.up ?_ rfl | refine pm_I.uf ?_ rfl)) rfl (by first | assumption | (repeat (first | exact pm_uf_e rfl | refine pm_uf_o (by decide) ?_)) <;> assumption) ?_
  refine pi_puti (pc' := 8) fi_9_18 dX9_taken_5 rfl (by repeat (first | assumption | refine pm_I.up ?_ rfl | refine pm_I.uf ?_ rfl)) rfl ?_
  refine px_aload_n (i := 0) (pc' := 9) dX9_taken_8 rfl rfl rfl ?_
  refine px_iconst (v := 0) (pc' := 10) dX9_taken_9 rfl (by decide) ?_
  refine pi_puti (pc' := 13) fi_9_7 dX9_taken_10 rfl (by repeat (first | assumption | refine pm_I.up ?_ rfl | refine pm_I.uf ?_ rfl)) rfl ?_
  exact px_vret dX9_taken_13 rfl rfl (⟨rfl, rfl, rfl⟩)
theorem d_cells {w d : Nat} (I : pm_I h g) (e1 : g 30 9 = .int (nI w)) (e2 : g 30 10 = .int (nI d)) : pm_Met G mX9_cells [.ref 30] z z h g (pm_q (.int (nI (w * d))) h g) := by
  refine enX9_cells pm_le.rf ?_
  refine px_aload_n (i := 0) (pc' := 1) dX9_cells_0 rfl rfl rfl ?_
  refine pi_geti (pc' := 4) fl_9_43 dX9_cells_1 rfl (by repeat (first | assumption | refine pm_I.up ?_ rfl | refine pm_I.uf ?_ rfl)) rfl (by first | assumption | (repeat (first | exact pm_uf_e rfl | refine pm_uf_o (by decide) ?_)) <;> assumption) ?_
  refine px_aload_n (i := 0) (pc' := 5) dX9_cells_4 rfl rfl rfl ?_
  refine pi_geti (pc' := 8) fl_9_46 dX9_cells_5 rfl (by repeat (first | assumption | refine pm_I.up ?_ rfl | refine pm_I.uf ?_ rfl)) rfl (by first | assumption | (repeat (first | exact pm_uf_e rfl | refine pm_uf_o (by decide) ?_)) <;> assumption) ?_
  refine px_imul (pc' := 9) dX9_cells_8 rfl ?_
  rw [pk_mul]
  exact px_iret dX9_cells_9 rfl rfl (⟨rfl, rfl, rfl⟩)
theorem d_isCell {w d : Nat} {c : Int32} (I : pm_I h g) (e1 : g 30 9 = .int (nI w)) (e2 : g 30 10 = .int (nI d)) (hw : w ≤ 12) (hd : d ≤ 12) : pm_Met G mX9_isCell [.ref 30, .int c] z z h g (pm_q (.int (if 0 ≤ c.toInt ∧ c.toInt < (w * d : Nat) then 1 else 0)) h g) := by
  have hwd := m_wd hw hd
  have en : (nI (w * d)).toInt = (w * d : Nat) := nI_toInt (by omega)
  refine enX9_isCell pm_le.rf ?_
  refine px_iload_n (i := 1) (pc' := 1) dX9_isCell_0 rfl rfl rfl ?_
  refine px_if_lt (tgt := 16) (pc' := 4) dX9_isCell_1 (by decide) rfl (fun q => ?_) (fun q => ?_)
  · rw [i_lt, i_0] at q
    refine px_iconst (v := 0) (pc' := 17) dX9_isCell_16 rfl (by decide) ?_
    exact px_zret (ty := .boolean) dX9_isCell_17 rfl (rfl) rfl (⟨by rw [if_neg (by omega)], rfl, rfl⟩)
  rw [i_lt, i_0] at q
  refine px_iload_n (i := 1) (pc' := 5) dX9_isCell_4 rfl rfl rfl ?_
  refine px_aload_n (i := 0) (pc' := 6) dX9_isCell_5 rfl rfl rfl ?_
  refine pi_callV (pc' := 9) (d_cells I e1 e2) okX9_cells ivX9_cells ml_X9_108 ⟨Nat.le_of_ble_eq_true rfl, Nat.le_of_ble_eq_true rfl⟩ dX9_isCell_6 rfl rfl rfl (Nat.le_of_ble_eq_true rfl) (by repeat (first | assumption | refine pm_I.up ?_ rfl | refine pm_I.uf ?_ rfl)) rfl cl_9 pm_le.rf pm_le.rf ?_
  rintro _ _ _ ⟨rfl, rfl, rfl⟩
  refine px_icmp_ge (tgt := 16) (pc' := 12) dX9_isCell_9 (by decide) rfl (fun q2 => ?_) (fun q2 => ?_)
  · rw [i_le, en] at q2
    refine px_iconst (v := 0) (pc' := 17) dX9_isCell_16 rfl (by decide) ?_
    exact px_zret (ty := .boolean) dX9_isCell_17 rfl (rfl) rfl (⟨by rw [if_neg (by omega)], rfl, rfl⟩)
  · rw [i_le, en] at q2
    refine px_iconst (v := 1) (pc' := 13) dX9_isCell_12 rfl (by decide) ?_
    refine px_goto (tgt := 17) dX9_isCell_13 (by decide) ?_
    exact px_zret (ty := .boolean) dX9_isCell_17 rfl (rfl) rfl (⟨by rw [if_pos (by omega)], rfl, rfl⟩)
theorem d_size {v : Int32} (hv : -2147483648 < v.toInt) : pm_Met G mX9_size [.int v] z z h g (pm_q (.int (iZ (v.toInt.natAbs : Int))) h g) := by
  refine enX9_size pm_le.rf ?_
  refine px_iload_n (i := 0) (pc' := 1) dX9_size_0 rfl rfl rfl ?_
  refine px_if_ge (tgt := 9) (pc' := 4) dX9_size_1 (by decide) rfl (fun q => ?_) (fun q => ?_)
  · rw [i_le, i_0] at q
    refine px_iload_n (i := 0) (pc' := 10) dX9_size_9 rfl rfl rfl ?_
    exact px_iret dX9_size_10 rfl rfl (⟨by rw [show (v.toInt.natAbs : Int) = v.toInt by omega, iZ_i], rfl, rfl⟩)
  · rw [i_le, i_0] at q
    refine px_iload_n (i := 0) (pc' := 5) dX9_size_4 rfl rfl rfl ?_
    refine px_ineg (pc' := 6) dX9_size_5 rfl ?_
    refine px_goto (tgt := 10) dX9_size_6 (by decide) ?_
    exact px_iret dX9_size_10 rfl rfl (⟨by rw [show (v.toInt.natAbs : Int) = (-v).toInt by rw [i_neg hv]; omega, iZ_i], rfl, rfl⟩)
theorem d_fits {c e : Nat} {v : Int32} {f : Nat → Int32} (I : pm_I h g) (e1 : g 30 11 = .int (nI e)) (he : e ≤ 20) (e2 : h 32 = pm_ia 0 144 f) (hc : c < 144) (hv : 0 ≤ v.toInt ∧ v.toInt ≤ 255) (hf : 0 ≤ (f c).toInt ∧ (f c).toInt ≤ 255) : pm_Met G mX9_fits [.ref 30, .int (nI c), .int v] z z h g (pm_q (.int (if (f c).toInt = 255 ∨ (((f c).toInt - v.toInt).natAbs : Int) ≤ e then 1 else 0)) h g) := by
  have hcl : (nI c).toNatClampNeg = c := nI_clamp (by omega)
  have es : (f c - v).toInt = (f c).toInt - v.toInt := i_sub (by omega) (by omega)
  have ee : (nI e).toInt = e := nI_toInt (by omega)
  refine enX9_fits pm_le.rf ?_
  refine px_aload_n (i := 0) (pc' := 1) dX9_fits_0 rfl rfl rfl ?_
  refine pi_getr (pc' := 4) fl_9_27 dX9_fits_1 rfl (by repeat (first | assumption | refine pm_I.up ?_ rfl | refine pm_I.uf ?_ rfl)) rfl rfl ?_
  refine px_iload_n (i := 1) (pc' := 5) dX9_fits_4 rfl rfl rfl ?_
  refine px_iald (pc' := 6) dX9_fits_5 rfl (by first | assumption | (repeat (first | exact pm_up_e rfl | refine pm_up_o (by decide) ?_)) <;> assumption) (vp_in_nI hc (by omega)) ?_
  refine px_sipush (v := 255) (pc' := 9) dX9_fits_6 rfl (by decide) ?_
  rw [hcl]
  refine px_icmp_eq (tgt := 30) (pc' := 12) dX9_fits_9 (by decide) rfl (fun q => ?_) (fun q => ?_)
  · rw [i_eq, l_255] at q
    refine px_iconst (v := 1) (pc' := 31) dX9_fits_30 rfl (by decide) ?_
    refine px_goto (tgt := 35) dX9_fits_31 (by decide) ?_
    exact px_zret (ty := .boolean) dX9_fits_35 rfl (rfl) rfl (⟨by rw [if_pos (Or.inl q)], rfl, rfl⟩)
  rw [i_eq, l_255] at q
  refine px_aload_n (i := 0) (pc' := 13) dX9_fits_12 rfl rfl rfl ?_
  refine pi_getr (pc' := 16) fl_9_27 dX9_fits_13 rfl (by repeat (first | assumption | refine pm_I.up ?_ rfl | refine pm_I.uf ?_ rfl)) rfl rfl ?_
  refine px_iload_n (i := 1) (pc' := 17) dX9_fits_16 rfl rfl rfl ?_
  refine px_iald (pc' := 18) dX9_fits_17 rfl (by first | assumption | (repeat (first | exact pm_up_e rfl | refine pm_up_o (by decide) ?_)) <;> assumption) (vp_in_nI hc (by omega)) ?_
  rw [hcl]
  refine px_iload_n (i := 2) (pc' := 19) dX9_fits_18 rfl rfl rfl ?_
  refine px_isub (pc' := 20) dX9_fits_19 rfl ?_
  refine px_callS (pc' := 23) (d_size (by omega)) okX9_size stX9_size ml_X9_127 ⟨Nat.le_of_ble_eq_true rfl, Nat.le_of_ble_eq_true rfl⟩ dX9_fits_20 rfl rfl rfl (Nat.le_of_ble_eq_true rfl) pm_le.rf pm_le.rf ?_
  rintro _ _ _ ⟨rfl, rfl, rfl⟩
  refine px_aload_n (i := 0) (pc' := 24) dX9_fits_23 rfl rfl rfl ?_
  refine pi_geti (pc' := 27) fl_9_121 dX9_fits_24 rfl (by repeat (first | assumption | refine pm_I.up ?_ rfl | refine pm_I.uf ?_ rfl)) rfl (by first | assumption | (repeat (first | exact pm_uf_e rfl | refine pm_uf_o (by decide) ?_)) <;> assumption) ?_
  rw [es]
  refine px_icmp_gt (tgt := 34) (pc' := 30) dX9_fits_27 (by decide) rfl (fun q2 => ?_) (fun q2 => ?_)
  · rw [i_lt, ee, iZ_t (by omega) (by omega)] at q2
    refine px_iconst (v := 0) (pc' := 35) dX9_fits_34 rfl (by decide) ?_
    exact px_zret (ty := .boolean) dX9_fits_35 rfl (rfl) rfl (⟨by rw [if_neg (by omega)], rfl, rfl⟩)
  · rw [i_lt, ee, iZ_t (by omega) (by omega)] at q2
    refine px_iconst (v := 1) (pc' := 31) dX9_fits_30 rfl (by decide) ?_
    refine px_goto (tgt := 35) dX9_fits_31 (by decide) ?_
    exact px_zret (ty := .boolean) dX9_fits_35 rfl (rfl) rfl (⟨by rw [if_pos (by omega)], rfl, rfl⟩)
def m_rst2 (g : pm_g) (c : Int32) : pm_g := pm_uf (pm_uf (pm_uf g 30 22 (.int 0)) 30 23 (.int 0)) 30 24 (.int c)
theorem d_fly {w d : Nat} {o : Int32} {f : Nat → Int64} (I : pm_I h g) (e1 : g 30 9 = .int (nI w)) (e2 : g 30 10 = .int (nI d)) (hw : w ≤ 12) (hd : d ≤ 12) (e : h 37 = pm_la 144 f) :
    pm_Met G mX9_fly [.ref 30, .int o] z z h g (pm_qv (pm_up h 37 (pm_la 144 (m_L (m_init (w * d) o)))) (m_rst2 g o)) := by
  have hwd := m_wd hw hd
  refine enX9_fly pm_le.rf ?_
  refine px_iconst (v := 0) (pc' := 1) dX9_fly_0 rfl (by decide) ?_
  refine sx_i_n_3_2 (pc' := 2) dX9_fly_1 rfl rfl rfl rfl ?_
  have loop : ∀ k i : Nat, i + k = 144 → pm_W G mX9_fly z (pm_Φ G z (pm_qv (pm_up h 37 (pm_la 144 (m_L (m_init (w * d) o)))) (m_rst2 g o))) 2 [.ref 30, .int o, .int (nI i)] [] z (pm_up h 37 (pm_la 144 (fun j => if j < i then m_L (m_init (w * d) o) j else f j))) g := by
    intro k
    induction k with
    | zero =>
      intro i hi
      have : i = 144 := by omega
      subst this
      refine px_iload_n (i := 2) (pc' := 3) dX9_fly_2 rfl rfl rfl ?_
      refine px_sipush (v := 144) (pc' := 6) dX9_fly_3 rfl (by decide) ?_
      refine px_icmp_ge (tgt := 44) (pc' := 9) dX9_fly_6 (by decide) rfl (fun _ => ?_) (fun q_ => absurd (nI_le (a := 144) (by omega) (by omega)) q_)
      refine px_aload_n (i := 0) (pc' := 45) dX9_fly_44 rfl rfl rfl ?_
      refine px_iconst (v := 0) (pc' := 46) dX9_fly_45 rfl (by decide) ?_
      refine pi_puti (pc' := 49) fi_9_130 dX9_fly_46 rfl (by repeat (first | assumption | refine pm_I.up ?_ rfl | refine pm_I.uf ?_ rfl)) rfl ?_
      refine px_aload_n (i := 0) (pc' := 50) dX9_fly_49 rfl rfl rfl ?_
      refine px_iconst (v := 0) (pc' := 51) dX9_fly_50 rfl (by decide) ?_
      refine pi_puti (pc' := 54) fi_9_133 dX9_fly_51 rfl (by repeat (first | assumption | refine pm_I.up ?_ rfl | refine pm_I.uf ?_ rfl)) rfl ?_
      refine px_aload_n (i := 0) (pc' := 55) dX9_fly_54 rfl rfl rfl ?_
      refine px_iload_n (i := 1) (pc' := 56) dX9_fly_55 rfl rfl rfl ?_
      refine pi_puti (pc' := 59) fi_9_136 dX9_fly_56 rfl (by repeat (first | assumption | refine pm_I.up ?_ rfl | refine pm_I.uf ?_ rfl)) rfl ?_
      refine px_extl (a := 37) (by first | assumption | (repeat (first | exact pm_up_e rfl | refine pm_up_o (by decide) ?_)) <;> assumption) (f' := m_L (m_init (w * d) o)) (fun j hj => if_pos hj) ?_
      rw [pm_up_up]
      exact px_vret dX9_fly_59 rfl rfl (⟨rfl, rfl, rfl⟩)
    | succ k ih =>
      intro i hi
      have hc : (nI i).toNatClampNeg = i := nI_clamp (by omega)
      have fin : ∀ x : Int64, x = m_L (m_init (w * d) o) i → pm_W G mX9_fly z (pm_Φ G z (pm_qv (pm_up h 37 (pm_la 144 (m_L (m_init (w * d) o)))) (m_rst2 g o))) 37 [.ref 30, .int o, .int (nI i)] [.long x, .int (nI i), .ref 37] z (pm_up h 37 (pm_la 144 (fun j => if j < i then m_L (m_init (w * d) o) j else f j))) g := by
        intro x hx
        refine px_last (pc' := 38) dX9_fly_37 rfl (by first | assumption | (repeat (first | exact pm_up_e rfl | refine pm_up_o (by decide) ?_)) <;> assumption) (vp_in_nI (by omega) (by omega)) ?_
        refine sx_inc_3_2 (w := 1) (pc' := 41) dX9_fly_38 rfl rfl (by decide) rfl ?_
        refine px_goto (tgt := 2) dX9_fly_41 (by decide) ?_
        rw [nI_1, pm_up_up, hc, updL_fill hx]
        exact ih (i + 1) (by omega)
      refine px_iload_n (i := 2) (pc' := 3) dX9_fly_2 rfl rfl rfl ?_
      refine px_sipush (v := 144) (pc' := 6) dX9_fly_3 rfl (by decide) ?_
      refine px_icmp_ge (tgt := 44) (pc' := 9) dX9_fly_6 (by decide) rfl (fun q_ => absurd q_ (nI_ge (b := 144) (by omega) (by omega))) (fun _ => ?_)
      refine px_aload_n (i := 0) (pc' := 10) dX9_fly_9 rfl rfl rfl ?_
      refine pi_getr (pc' := 13) fl_9_52 dX9_fly_10 rfl (by repeat (first | assumption | refine pm_I.up ?_ rfl | refine pm_I.uf ?_ rfl)) rfl rfl ?_
      refine px_iload_n (i := 2) (pc' := 14) dX9_fly_13 rfl rfl rfl ?_
      refine px_iload_n (i := 2) (pc' := 15) dX9_fly_14 rfl rfl rfl ?_
      refine px_aload_n (i := 0) (pc' := 16) dX9_fly_15 rfl rfl rfl ?_
      refine pi_callV (pc' := 19) (d_cells (by repeat (first | assumption | refine pm_I.up ?_ rfl | refine pm_I.uf ?_ rfl)) e1 e2) okX9_cells ivX9_cells ml_X9_108 ⟨Nat.le_of_ble_eq_true rfl, Nat.le_of_ble_eq_true rfl⟩ dX9_fly_16 rfl rfl rfl (Nat.le_of_ble_eq_true rfl) (by repeat (first | assumption | refine pm_I.up ?_ rfl | refine pm_I.uf ?_ rfl)) rfl cl_9 pm_le.rf pm_le.rf ?_
      rintro _ _ _ ⟨rfl, rfl, rfl⟩
      refine px_icmp_ge (tgt := 36) (pc' := 22) dX9_fly_19 (by decide) rfl (fun q => ?_) (fun q => ?_)
      · rw [nI_leI (by omega) (by omega)] at q
        refine px_lconst (v := 0) (pc' := 37) dX9_fly_36 rfl (by decide) ?_
        refine fin _ ?_
        show (0 : Int64) = lN (m_init (w * d) o i)
        rw [m_init, if_neg (by omega)]
        exact l64_0
      rw [nI_leI (by omega) (by omega)] at q
      refine px_iload_n (i := 1) (pc' := 23) dX9_fly_22 rfl rfl rfl ?_
      refine px_iconst (v := -1) (pc' := 24) dX9_fly_23 rfl (by decide) ?_
      refine px_icmp_eq (tgt := 32) (pc' := 27) dX9_fly_24 (by decide) rfl (fun q2 => ?_) (fun q2 => ?_)
      · refine px_lconst (v := 1) (pc' := 33) dX9_fly_32 rfl (by decide) ?_
        refine px_goto (tgt := 37) dX9_fly_33 (by decide) ?_
        refine fin _ ?_
        show (1 : Int64) = lN (m_init (w * d) o i)
        rw [m_init, if_pos ⟨by omega, Or.inl q2⟩]
        exact l64_1
      refine px_iload_n (i := 1) (pc' := 28) dX9_fly_27 rfl rfl rfl ?_
      refine px_iload_n (i := 2) (pc' := 29) dX9_fly_28 rfl rfl rfl ?_
      refine px_icmp_ne (tgt := 36) (pc' := 32) dX9_fly_29 (by decide) rfl (fun q3 => ?_) (fun q3 => ?_)
      · refine px_lconst (v := 0) (pc' := 37) dX9_fly_36 rfl (by decide) ?_
        refine fin _ ?_
        show (0 : Int64) = lN (m_init (w * d) o i)
        rw [m_init, if_neg (fun hh => hh.2.elim q2 (fun z => q3 z.symm))]
        exact l64_0
      · refine px_lconst (v := 1) (pc' := 33) dX9_fly_32 rfl (by decide) ?_
        refine px_goto (tgt := 37) dX9_fly_33 (by decide) ?_
        refine fin _ ?_
        show (1 : Int64) = lN (m_init (w * d) o i)
        rw [m_init, if_pos ⟨by omega, Or.inr q3.symm⟩]
        exact l64_1
  have := loop 144 0 rfl
  rw [fill_0, pm_up_self e] at this
  exact this
theorem d_withShare {w d : Nat} {S : Nat → Nat} (I : pm_I h g) (e1 : g 30 9 = .int (nI w)) (e2 : g 30 10 = .int (nI d)) (hw : w ≤ 12) (hd : d ≤ 12) (e : h 37 = pm_la 144 (m_L S)) (hS : ∀ j, j < 144 → S j < 2 ^ 63) : pm_Met G mX9_withShare [.ref 30] z z h g (pm_q (.int (nI (m_cnt S (w * d)))) h g) := by
  have hwd := m_wd hw hd
  refine enX9_withShare pm_le.rf ?_
  refine px_iconst (v := 0) (pc' := 1) dX9_withShare_0 rfl (by decide) ?_
  refine sx_i_n_3_1 (pc' := 2) dX9_withShare_1 rfl rfl rfl rfl ?_
  refine px_iconst (v := 0) (pc' := 3) dX9_withShare_2 rfl (by decide) ?_
  refine sx_i_n_3_2 (pc' := 4) dX9_withShare_3 rfl rfl rfl rfl ?_
  have loop : ∀ k i : Nat, i + k = w * d → pm_W G mX9_withShare z (pm_Φ G z (pm_q (.int (nI (m_cnt S (w * d)))) h g)) 4 [.ref 30, .int (nI (m_cnt S i)), .int (nI i)] [] z h g := by
    intro k
    induction k with
    | zero =>
      intro i hi
      have : i = w * d := by omega
      subst this
      refine px_iload_n (i := 2) (pc' := 5) dX9_withShare_4 rfl rfl rfl ?_
      refine px_aload_n (i := 0) (pc' := 6) dX9_withShare_5 rfl rfl rfl ?_
      refine pi_callV (pc' := 9) (d_cells I e1 e2) okX9_cells ivX9_cells ml_X9_108 ⟨Nat.le_of_ble_eq_true rfl, Nat.le_of_ble_eq_true rfl⟩ dX9_withShare_6 rfl rfl rfl (Nat.le_of_ble_eq_true rfl) (by repeat (first | assumption | refine pm_I.up ?_ rfl | refine pm_I.uf ?_ rfl)) rfl cl_9 pm_le.rf pm_le.rf ?_
      rintro _ _ _ ⟨rfl, rfl, rfl⟩
      refine px_icmp_ge (tgt := 37) (pc' := 12) dX9_withShare_9 (by decide) rfl (fun _ => ?_) (fun q_ => absurd (nI_le (by omega) (by omega)) q_)
      refine px_iload_n (i := 1) (pc' := 38) dX9_withShare_37 rfl rfl rfl ?_
      exact px_iret dX9_withShare_38 rfl rfl (⟨rfl, rfl, rfl⟩)
    | succ k ih =>
      intro i hi
      have hc : (nI i).toNatClampNeg = i := nI_clamp (by omega)
      have nx := ih (i + 1) (by omega)
      refine px_iload_n (i := 2) (pc' := 5) dX9_withShare_4 rfl rfl rfl ?_
      refine px_aload_n (i := 0) (pc' := 6) dX9_withShare_5 rfl rfl rfl ?_
      refine pi_callV (pc' := 9) (d_cells I e1 e2) okX9_cells ivX9_cells ml_X9_108 ⟨Nat.le_of_ble_eq_true rfl, Nat.le_of_ble_eq_true rfl⟩ dX9_withShare_6 rfl rfl rfl (Nat.le_of_ble_eq_true rfl) (by repeat (first | assumption | refine pm_I.up ?_ rfl | refine pm_I.uf ?_ rfl)) rfl cl_9 pm_le.rf pm_le.rf ?_
      rintro _ _ _ ⟨rfl, rfl, rfl⟩
      refine px_icmp_ge (tgt := 37) (pc' := 12) dX9_withShare_9 (by decide) rfl (fun q_ => absurd q_ (nI_ge (by omega) (by omega))) (fun _ => ?_)
      refine px_iload_n (i := 1) (pc' := 13) dX9_withShare_12 rfl rfl rfl ?_
      refine px_aload_n (i := 0) (pc' := 14) dX9_withShare_13 rfl rfl rfl ?_
      refine pi_getr (pc' := 17) fl_9_52 dX9_withShare_14 rfl (by repeat (first | assumption | refine pm_I.up ?_ rfl | refine pm_I.uf ?_ rfl)) rfl rfl ?_
      refine px_iload_n (i := 2) (pc' := 18) dX9_withShare_17 rfl rfl rfl ?_
      refine px_lald (pc' := 19) dX9_withShare_18 rfl (by first | assumption | (repeat (first | exact pm_up_e rfl | refine pm_up_o (by decide) ?_)) <;> assumption) (vp_in_nI (by omega) (by omega)) ?_
      refine px_lconst (v := 0) (pc' := 20) dX9_withShare_19 rfl (by decide) ?_
      refine px_lcmp (pc' := 21) dX9_withShare_20 rfl ?_
      rw [hc]
      refine px_if_le (tgt := 28) (pc' := 24) dX9_withShare_21 (by decide) rfl (fun q => ?_) (fun q => ?_)
      · have q := (lc_le0 (hS i (by omega))).mp q
        rw [m_cnt_s S i, if_neg (by omega)] at nx
        refine px_iconst (v := 0) (pc' := 29) dX9_withShare_28 rfl (by decide) ?_
        refine px_iadd (pc' := 30) dX9_withShare_29 rfl ?_
        refine sx_i_n_3_1 (pc' := 31) dX9_withShare_30 rfl rfl rfl rfl ?_
        refine sx_inc_3_2 (w := 1) (pc' := 34) dX9_withShare_31 rfl rfl (by decide) rfl ?_
        refine px_goto (tgt := 4) dX9_withShare_34 (by decide) ?_
        rw [nI_1, show (0 : Int32) = nI 0 from rfl, nI_add]
        exact nx
      · have q : ¬ S i = 0 := fun hh => q ((lc_le0 (hS i (by omega))).mpr hh)
        rw [m_cnt_s S i, if_pos (by omega)] at nx
        refine px_iconst (v := 1) (pc' := 25) dX9_withShare_24 rfl (by decide) ?_
        refine px_goto (tgt := 29) dX9_withShare_25 (by decide) ?_
        refine px_iadd (pc' := 30) dX9_withShare_29 rfl ?_
        refine sx_i_n_3_1 (pc' := 31) dX9_withShare_30 rfl rfl rfl rfl ?_
        refine sx_inc_3_2 (w := 1) (pc' := 34) dX9_withShare_31 rfl rfl (by decide) rfl ?_
        refine px_goto (tgt := 4) dX9_withShare_34 (by decide) ?_
        rw [nI_1, nI_1]
        exact nx
  exact loop (w * d) 0 (by omega)
theorem d_weight {a x0 x1 : Int32} (I : pm_I h g) (e1 : g 30 12 = .int x0) (e2 : g 30 13 = .int x1) : pm_Met G mX9_weight [.ref 30, .int a] z z h g (pm_q (.int (if a = 0 then x0 else x1)) h g) := by
  refine enX9_weight pm_le.rf ?_
  refine px_iload_n (i := 1) (pc' := 1) dX9_weight_0 rfl rfl rfl ?_
  refine px_if_ne (tgt := 11) (pc' := 4) dX9_weight_1 (by decide) rfl (fun q => ?_) (fun q => ?_)
  · refine px_aload_n (i := 0) (pc' := 12) dX9_weight_11 rfl rfl rfl ?_
    refine pi_geti (pc' := 15) fl_9_124 dX9_weight_12 rfl (by repeat (first | assumption | refine pm_I.up ?_ rfl | refine pm_I.uf ?_ rfl)) rfl (by first | assumption | (repeat (first | exact pm_uf_e rfl | refine pm_uf_o (by decide) ?_)) <;> assumption) ?_
    exact px_iret dX9_weight_15 rfl rfl (⟨by rw [if_neg q], rfl, rfl⟩)
  · refine px_aload_n (i := 0) (pc' := 5) dX9_weight_4 rfl rfl rfl ?_
    refine pi_geti (pc' := 8) fl_9_49 dX9_weight_5 rfl (by repeat (first | assumption | refine pm_I.up ?_ rfl | refine pm_I.uf ?_ rfl)) rfl (by first | assumption | (repeat (first | exact pm_uf_e rfl | refine pm_uf_o (by decide) ?_)) <;> assumption) ?_
    refine px_goto (tgt := 15) dX9_weight_8 (by decide) ?_
    exact px_iret dX9_weight_15 rfl rfl (⟨by rw [if_pos q], rfl, rfl⟩)
theorem d_off {w d c : Nat} {x y : Int32} (I : pm_I h g) (e1 : g 30 9 = .int (nI w)) (e2 : g 30 10 = .int (nI d)) (hw0 : 0 < w) (hw : w ≤ 12) (hd : d ≤ 12) (hc : c < 144) (hx : -1000 ≤ x.toInt ∧ x.toInt ≤ 1000) (hy : -1000 ≤ y.toInt ∧ y.toInt ≤ 1000) : pm_Met G mX9_off [.ref 30, .int (nI c), .int x, .int y] z z h g (pm_q (.int (iZ (m_off w d ((c % w : Nat) + x.toInt) ((c / w : Nat) + y.toInt)))) h g) := by
  have ew : (nI w).toInt = w := nI_toInt (by omega)
  have ed : (nI d).toInt = d := nI_toInt (by omega)
  have hm : c % w < w := Nat.mod_lt _ hw0
  have hq : c / w ≤ c := Nat.div_le_self _ _
  have pr := pk_rem (a := c) (d := w) (by omega) hw0 (by omega)
  have pd := pk_div (a := c) (d := w) (by omega) hw0 (by omega)
  generalize c % w = cm at *
  generalize c / w = cd at *
  have em : (nI cm).toInt = cm := nI_toInt (by omega)
  have eq : (nI cd).toInt = cd := nI_toInt (by omega)
  have ex : (nI cm + x).toInt = cm + x.toInt := by rw [i_add (by omega) (by omega), em]
  have ey : (nI cd + y).toInt = cd + y.toInt := by rw [i_add (by omega) (by omega), eq]
  refine enX9_off pm_le.rf ?_
  refine px_iload_n (i := 1) (pc' := 1) dX9_off_0 rfl rfl rfl ?_
  refine px_aload_n (i := 0) (pc' := 2) dX9_off_1 rfl rfl rfl ?_
  refine pi_geti (pc' := 5) fl_9_43 dX9_off_2 rfl (by repeat (first | assumption | refine pm_I.up ?_ rfl | refine pm_I.uf ?_ rfl)) rfl (by first | assumption | (repeat (first | exact pm_uf_e rfl | refine pm_uf_o (by decide) ?_)) <;> assumption) ?_
  refine px_irem (pc' := 6) dX9_off_5 rfl (nI_ne0 hw0 (by omega)) ?_
  rw [pr]
  refine px_iload_n (i := 2) (pc' := 7) dX9_off_6 rfl rfl rfl ?_
  refine px_iadd (pc' := 8) dX9_off_7 rfl ?_
  refine sx_i_6_4 (pc' := 10) dX9_off_8 rfl rfl rfl ?_
  refine px_iload_n (i := 1) (pc' := 11) dX9_off_10 rfl rfl rfl ?_
  refine px_aload_n (i := 0) (pc' := 12) dX9_off_11 rfl rfl rfl ?_
  refine pi_geti (pc' := 15) fl_9_43 dX9_off_12 rfl (by repeat (first | assumption | refine pm_I.up ?_ rfl | refine pm_I.uf ?_ rfl)) rfl (by first | assumption | (repeat (first | exact pm_uf_e rfl | refine pm_uf_o (by decide) ?_)) <;> assumption) ?_
  refine px_idiv (pc' := 16) dX9_off_15 rfl (nI_ne0 hw0 (by omega)) ?_
  rw [pd]
  refine px_iload_n (i := 3) (pc' := 17) dX9_off_16 rfl rfl rfl ?_
  refine px_iadd (pc' := 18) dX9_off_17 rfl ?_
  refine sx_i_6_5 (pc' := 20) dX9_off_18 rfl rfl rfl ?_
  refine px_iload (i := 4) (pc' := 22) dX9_off_20 rfl rfl ?_
  generalize nI cm + x = X at ex ⊢
  generalize nI cd + y = Y at ey ⊢
  rw [← ex, ← ey]
  refine px_if_lt (tgt := 48) (pc' := 25) dX9_off_22 (by decide) rfl (fun q => ?_) (fun q => ?_)
  · rw [i_lt, i_0] at q
    refine px_iconst (v := -1) (pc' := 49) dX9_off_48 rfl (by decide) ?_
    refine px_goto (tgt := 62) dX9_off_49 (by decide) ?_
    exact px_iret dX9_off_62 rfl rfl (⟨by rw [m_off, if_neg (by omega)]; rfl, rfl, rfl⟩)
  rw [i_lt, i_0] at q
  refine px_iload (i := 4) (pc' := 27) dX9_off_25 rfl rfl ?_
  refine px_aload_n (i := 0) (pc' := 28) dX9_off_27 rfl rfl rfl ?_
  refine pi_geti (pc' := 31) fl_9_43 dX9_off_28 rfl (by repeat (first | assumption | refine pm_I.up ?_ rfl | refine pm_I.uf ?_ rfl)) rfl (by first | assumption | (repeat (first | exact pm_uf_e rfl | refine pm_uf_o (by decide) ?_)) <;> assumption) ?_
  refine px_icmp_ge (tgt := 48) (pc' := 34) dX9_off_31 (by decide) rfl (fun q2 => ?_) (fun q2 => ?_)
  · rw [i_le, ew] at q2
    refine px_iconst (v := -1) (pc' := 49) dX9_off_48 rfl (by decide) ?_
    refine px_goto (tgt := 62) dX9_off_49 (by decide) ?_
    exact px_iret dX9_off_62 rfl rfl (⟨by rw [m_off, if_neg (by omega)]; rfl, rfl, rfl⟩)
  rw [i_le, ew] at q2
  refine px_iload (i := 5) (pc' := 36) dX9_off_34 rfl rfl ?_
  refine px_if_lt (tgt := 48) (pc' := 39) dX9_off_36 (by decide) rfl (fun q3 => ?_) (fun q3 => ?_)
  · rw [i_lt, i_0] at q3
    refine px_iconst (v := -1) (pc' := 49) dX9_off_48 rfl (by decide) ?_
    refine px_goto (tgt := 62) dX9_off_49 (by decide) ?_
    exact px_iret dX9_off_62 rfl rfl (⟨by rw [m_off, if_neg (by omega)]; rfl, rfl, rfl⟩)
  rw [i_lt, i_0] at q3
  refine px_iload (i := 5) (pc' := 41) dX9_off_39 rfl rfl ?_
  refine px_aload_n (i := 0) (pc' := 42) dX9_off_41 rfl rfl rfl ?_
  refine pi_geti (pc' := 45) fl_9_46 dX9_off_42 rfl (by repeat (first | assumption | refine pm_I.up ?_ rfl | refine pm_I.uf ?_ rfl)) rfl (by first | assumption | (repeat (first | exact pm_uf_e rfl | refine pm_uf_o (by decide) ?_)) <;> assumption) ?_
  refine px_icmp_lt (tgt := 52) (pc' := 48) dX9_off_45 (by decide) rfl (fun q4 => ?_) (fun q4 => ?_)
  · rw [i_lt, ed] at q4
    refine px_aload_n (i := 0) (pc' := 53) dX9_off_52 rfl rfl rfl ?_
    refine pi_geti (pc' := 56) fl_9_43 dX9_off_53 rfl (by repeat (first | assumption | refine pm_I.up ?_ rfl | refine pm_I.uf ?_ rfl)) rfl (by first | assumption | (repeat (first | exact pm_uf_e rfl | refine pm_uf_o (by decide) ?_)) <;> assumption) ?_
    refine px_iload (i := 5) (pc' := 58) dX9_off_56 rfl rfl ?_
    refine px_imul (pc' := 59) dX9_off_58 rfl ?_
    refine px_iload (i := 4) (pc' := 61) dX9_off_59 rfl rfl ?_
    refine px_iadd (pc' := 62) dX9_off_61 rfl ?_
    exact px_iret dX9_off_62 rfl rfl (⟨by rw [m_off, if_pos (by omega), ← iZ_add, ← iZ_mul, iZ_n, iZ_i, iZ_i], rfl, rfl⟩)
  · rw [i_lt, ed] at q4
    refine px_iconst (v := -1) (pc' := 49) dX9_off_48 rfl (by decide) ?_
    refine px_goto (tgt := 62) dX9_off_49 (by decide) ?_
    exact px_iret dX9_off_62 rfl rfl (⟨by rw [m_off, if_neg (by omega)]; rfl, rfl, rfl⟩)
theorem d_four {v : Int32} {n : Nat} {T : Nat → Int32} (I : pm_I h g) (e : g 30 2 = .int (nI n)) (hn : n + 4 ≤ 160) (e1 : h 31 = pm_ia 1 160 T) : pm_Met G mX9_four [.ref 30, .int v] z z h g (pm_qv (pm_up h 31 (pm_ia 1 160 (m_app T n v))) (pm_uf g 30 2 (.int (nI (n + 4))))) := by
  have hc : ∀ k, k < 4 → (nI (n + k)).toNatClampNeg = n + k := fun k hk => nI_clamp (by omega)
  have hc0 : (nI n).toNatClampNeg = n := nI_clamp (by omega)
  refine enX9_four pm_le.rf ?_
  refine px_bipush (v := 24) (pc' := 2) dX9_four_0 rfl (by decide) ?_
  refine sx_i_n_3_2 (pc' := 3) dX9_four_2 rfl rfl rfl rfl ?_
  refine px_iload_n (i := 2) (pc' := 4) dX9_four_3 rfl rfl rfl ?_
  refine px_if_lt (tgt := 36) (pc' := 7) dX9_four_4 (by decide) rfl (fun q_ => absurd q_ (by decide)) (fun _ => ?_)
  refine px_aload_n (i := 0) (pc' := 8) dX9_four_7 rfl rfl rfl ?_
  refine pi_getr (pc' := 11) fl_9_14 dX9_four_8 rfl (by repeat (first | assumption | refine pm_I.up ?_ rfl | refine pm_I.uf ?_ rfl)) rfl rfl ?_
  refine px_aload_n (i := 0) (pc' := 12) dX9_four_11 rfl rfl rfl ?_
  refine pi_geti (pc' := 15) fl_9_7 dX9_four_12 rfl (by repeat (first | assumption | refine pm_I.up ?_ rfl | refine pm_I.uf ?_ rfl)) rfl (by first | assumption | (repeat (first | exact pm_uf_e rfl | refine pm_uf_o (by decide) ?_)) <;> assumption) ?_
  refine px_iload_n (i := 1) (pc' := 16) dX9_four_15 rfl rfl rfl ?_
  refine px_iload_n (i := 2) (pc' := 17) dX9_four_16 rfl rfl rfl ?_
  refine px_ishr (pc' := 18) dX9_four_17 rfl ?_
  refine px_i2b (pc' := 19) dX9_four_18 rfl ?_
  first | refine px_bast (pc' := 20) dX9_four_19 rfl (by first | assumption | (repeat (first | exact pm_up_e rfl | refine pm_up_o (by decide) ?_)) <;> assumption) (vp_in_nI (by omega) (by omega)) ?_ | refine px_zast (pc' := 20) dX9_four_19 rfl (by first | assumption | (repeat (first | exact pm_up_e rfl | refine pm_up_o (by decide) ?_)) <;> assumption) (vp_in_nI (by omega) (by omega)) ?_
  refine px_aload_n (i := 0) (pc' := 21) dX9_four_20 rfl rfl rfl ?_
  refine px_dup (pc' := 22) dX9_four_21 rfl rfl ?_
  refine pi_geti (pc' := 25) fl_9_7 dX9_four_22 rfl (by repeat (first | assumption | refine pm_I.up ?_ rfl | refine pm_I.uf ?_ rfl)) rfl (by first | assumption | (repeat (first | exact pm_uf_e rfl | refine pm_uf_o (by decide) ?_)) <;> assumption) ?_
  refine px_iconst (v := 1) (pc' := 26) dX9_four_25 rfl (by decide) ?_
  refine px_iadd (pc' := 27) dX9_four_26 rfl ?_
  refine pi_puti (pc' := 30) fi_9_7 dX9_four_27 rfl (by repeat (first | assumption | refine pm_I.up ?_ rfl | refine pm_I.uf ?_ rfl)) rfl ?_
  refine sx_inc_3_2 (w := -8) (pc' := 33) dX9_four_30 rfl rfl (by decide) rfl ?_
  refine px_goto (tgt := 3) dX9_four_33 (by decide) ?_
  rw [nI_1, hc0, show (24 : Int32) + -8 = 16 from by decide]
  refine px_iload_n (i := 2) (pc' := 4) dX9_four_3 rfl rfl rfl ?_
  refine px_if_lt (tgt := 36) (pc' := 7) dX9_four_4 (by decide) rfl (fun q_ => absurd q_ (by decide)) (fun _ => ?_)
  refine px_aload_n (i := 0) (pc' := 8) dX9_four_7 rfl rfl rfl ?_
  refine pi_getr (pc' := 11) fl_9_14 dX9_four_8 rfl (by repeat (first | assumption | refine pm_I.up ?_ rfl | refine pm_I.uf ?_ rfl)) rfl rfl ?_
  refine px_aload_n (i := 0) (pc' := 12) dX9_four_11 rfl rfl rfl ?_
  refine pi_geti (pc' := 15) fl_9_7 dX9_four_12 rfl (by repeat (first | assumption | refine pm_I.up ?_ rfl | refine pm_I.uf ?_ rfl)) rfl (by first | assumption | (repeat (first | exact pm_uf_e rfl | refine pm_uf_o (by decide) ?_)) <;> assumption) ?_
  refine px_iload_n (i := 1) (pc' := 16) dX9_four_15 rfl rfl rfl ?_
  refine px_iload_n (i := 2) (pc' := 17) dX9_four_16 rfl rfl rfl ?_
  refine px_ishr (pc' := 18) dX9_four_17 rfl ?_
  refine px_i2b (pc' := 19) dX9_four_18 rfl ?_
  first | refine px_bast (pc' := 20) dX9_four_19 rfl (by first | assumption | (repeat (first | exact pm_up_e rfl | refine pm_up_o (by decide) ?_)) <;> assumption) (vp_in_nI (by omega) (by omega)) ?_ | refine px_zast (pc' := 20) dX9_four_19 rfl (by first | assumption | (repeat (first | exact pm_up_e rfl | refine pm_up_o (by decide) ?_)) <;> assumption) (vp_in_nI (by omega) (by omega)) ?_
  refine px_aload_n (i := 0) (pc' := 21) dX9_four_20 rfl rfl rfl ?_
  refine px_dup (pc' := 22) dX9_four_21 rfl rfl ?_
  refine pi_geti (pc' := 25) fl_9_7 dX9_four_22 rfl (by repeat (first | assumption | refine pm_I.up ?_ rfl | refine pm_I.uf ?_ rfl)) rfl (by first | assumption | (repeat (first | exact pm_uf_e rfl | refine pm_uf_o (by decide) ?_)) <;> assumption) ?_
  refine px_iconst (v := 1) (pc' := 26) dX9_four_25 rfl (by decide) ?_
  refine px_iadd (pc' := 27) dX9_four_26 rfl ?_
  refine pi_puti (pc' := 30) fi_9_7 dX9_four_27 rfl (by repeat (first | assumption | refine pm_I.up ?_ rfl | refine pm_I.uf ?_ rfl)) rfl ?_
  refine sx_inc_3_2 (w := -8) (pc' := 33) dX9_four_30 rfl rfl (by decide) rfl ?_
  refine px_goto (tgt := 3) dX9_four_33 (by decide) ?_
  rw [nI_1, hc 1 (by omega), show (16 : Int32) + -8 = 8 from by decide]
  refine px_iload_n (i := 2) (pc' := 4) dX9_four_3 rfl rfl rfl ?_
  refine px_if_lt (tgt := 36) (pc' := 7) dX9_four_4 (by decide) rfl (fun q_ => absurd q_ (by decide)) (fun _ => ?_)
  refine px_aload_n (i := 0) (pc' := 8) dX9_four_7 rfl rfl rfl ?_
  refine pi_getr (pc' := 11) fl_9_14 dX9_four_8 rfl (by repeat (first | assumption | refine pm_I.up ?_ rfl | refine pm_I.uf ?_ rfl)) rfl rfl ?_
  refine px_aload_n (i := 0) (pc' := 12) dX9_four_11 rfl rfl rfl ?_
  refine pi_geti (pc' := 15) fl_9_7 dX9_four_12 rfl (by repeat (first | assumption | refine pm_I.up ?_ rfl | refine pm_I.uf ?_ rfl)) rfl (by first | assumption | (repeat (first | exact pm_uf_e rfl | refine pm_uf_o (by decide) ?_)) <;> assumption) ?_
  refine px_iload_n (i := 1) (pc' := 16) dX9_four_15 rfl rfl rfl ?_
  refine px_iload_n (i := 2) (pc' := 17) dX9_four_16 rfl rfl rfl ?_
  refine px_ishr (pc' := 18) dX9_four_17 rfl ?_
  refine px_i2b (pc' := 19) dX9_four_18 rfl ?_
  first | refine px_bast (pc' := 20) dX9_four_19 rfl (by first | assumption | (repeat (first | exact pm_up_e rfl | refine pm_up_o (by decide) ?_)) <;> assumption) (vp_in_nI (by omega) (by omega)) ?_ | refine px_zast (pc' := 20) dX9_four_19 rfl (by first | assumption | (repeat (first | exact pm_up_e rfl | refine pm_up_o (by decide) ?_)) <;> assumption) (vp_in_nI (by omega) (by omega)) ?_
  refine px_aload_n (i := 0) (pc' := 21) dX9_four_20 rfl rfl rfl ?_
  refine px_dup (pc' := 22) dX9_four_21 rfl rfl ?_
  refine pi_geti (pc' := 25) fl_9_7 dX9_four_22 rfl (by repeat (first | assumption | refine pm_I.up ?_ rfl | refine pm_I.uf ?_ rfl)) rfl (by first | assumption | (repeat (first | exact pm_uf_e rfl | refine pm_uf_o (by decide) ?_)) <;> assumption) ?_
  refine px_iconst (v := 1) (pc' := 26) dX9_four_25 rfl (by decide) ?_
  refine px_iadd (pc' := 27) dX9_four_26 rfl ?_
  refine pi_puti (pc' := 30) fi_9_7 dX9_four_27 rfl (by repeat (first | assumption | refine pm_I.up ?_ rfl | refine pm_I.uf ?_ rfl)) rfl ?_
  refine sx_inc_3_2 (w := -8) (pc' := 33) dX9_four_30 rfl rfl (by decide) rfl ?_
  refine px_goto (tgt := 3) dX9_four_33 (by decide) ?_
  rw [nI_1, hc 2 (by omega), show (8 : Int32) + -8 = 0 from by decide]
  refine px_iload_n (i := 2) (pc' := 4) dX9_four_3 rfl rfl rfl ?_
  refine px_if_lt (tgt := 36) (pc' := 7) dX9_four_4 (by decide) rfl (fun q_ => absurd q_ (by decide)) (fun _ => ?_)
  refine px_aload_n (i := 0) (pc' := 8) dX9_four_7 rfl rfl rfl ?_
  refine pi_getr (pc' := 11) fl_9_14 dX9_four_8 rfl (by repeat (first | assumption | refine pm_I.up ?_ rfl | refine pm_I.uf ?_ rfl)) rfl rfl ?_
  refine px_aload_n (i := 0) (pc' := 12) dX9_four_11 rfl rfl rfl ?_
  refine pi_geti (pc' := 15) fl_9_7 dX9_four_12 rfl (by repeat (first | assumption | refine pm_I.up ?_ rfl | refine pm_I.uf ?_ rfl)) rfl (by first | assumption | (repeat (first | exact pm_uf_e rfl | refine pm_uf_o (by decide) ?_)) <;> assumption) ?_
  refine px_iload_n (i := 1) (pc' := 16) dX9_four_15 rfl rfl rfl ?_
  refine px_iload_n (i := 2) (pc' := 17) dX9_four_16 rfl rfl rfl ?_
  refine px_ishr (pc' := 18) dX9_four_17 rfl ?_
  refine px_i2b (pc' := 19) dX9_four_18 rfl ?_
  first | refine px_bast (pc' := 20) dX9_four_19 rfl (by first | assumption | (repeat (first | exact pm_up_e rfl | refine pm_up_o (by decide) ?_)) <;> assumption) (vp_in_nI (by omega) (by omega)) ?_ | refine px_zast (pc' := 20) dX9_four_19 rfl (by first | assumption | (repeat (first | exact pm_up_e rfl | refine pm_up_o (by decide) ?_)) <;> assumption) (vp_in_nI (by omega) (by omega)) ?_
  refine px_aload_n (i := 0) (pc' := 21) dX9_four_20 rfl rfl rfl ?_
  refine px_dup (pc' := 22) dX9_four_21 rfl rfl ?_
  refine pi_geti (pc' := 25) fl_9_7 dX9_four_22 rfl (by repeat (first | assumption | refine pm_I.up ?_ rfl | refine pm_I.uf ?_ rfl)) rfl (by first | assumption | (repeat (first | exact pm_uf_e rfl | refine pm_uf_o (by decide) ?_)) <;> assumption) ?_
  refine px_iconst (v := 1) (pc' := 26) dX9_four_25 rfl (by decide) ?_
  refine px_iadd (pc' := 27) dX9_four_26 rfl ?_
  refine pi_puti (pc' := 30) fi_9_7 dX9_four_27 rfl (by repeat (first | assumption | refine pm_I.up ?_ rfl | refine pm_I.uf ?_ rfl)) rfl ?_
  refine sx_inc_3_2 (w := -8) (pc' := 33) dX9_four_30 rfl rfl (by decide) rfl ?_
  refine px_goto (tgt := 3) dX9_four_33 (by decide) ?_
  rw [nI_1, hc 3 (by omega), show (0 : Int32) + -8 = -8 from by decide]
  refine px_iload_n (i := 2) (pc' := 4) dX9_four_3 rfl rfl rfl ?_
  refine px_if_lt (tgt := 36) (pc' := 7) dX9_four_4 (by decide) rfl (fun _ => ?_) (fun q_ => absurd (by decide) q_)
  rw [pm_up_up, pm_up_up, pm_up_up, pm_uf_uf, pm_uf_uf, pm_uf_uf]
  exact px_vret dX9_four_36 rfl rfl (⟨rfl, rfl, rfl⟩)
theorem m_mid_eq (a b c : Int32) : m_mid a b c = if c < (if a < b then a else b) then (if a < b then a else b) else if (if a < b then b else a) < c then (if a < b then b else a) else c := by
  unfold m_mid
  rcases Int.lt_trichotomy a.toInt b.toInt with q | q | q
  · have h1 : a < b := (i_lt _ _).mpr q
    have h2 : ¬ b < a := fun h => by rw [i_lt] at h; omega
    simp only [h1, h2, if_true, if_false]
    repeat' split
    all_goals first | rfl | (rw [i_eq]; simp only [i_lt] at *; omega)
  · have h3 : a = b := (i_eq _ _).mpr q
    subst h3
    have h2 : ¬ a < a := fun h => by rw [i_lt] at h; omega
    simp only [h2, if_false]
    repeat' split
    all_goals first | rfl | (rw [i_eq]; simp only [i_lt] at *; omega)
  · have h1 : ¬ a < b := fun h => by rw [i_lt] at h; omega
    have h2 : b < a := (i_lt _ _).mpr q
    simp only [h1, h2, if_true, if_false]
    repeat' split
    all_goals first | rfl | (rw [i_eq]; simp only [i_lt] at *; omega)
theorem d_middle {a b c : Int32} : pm_Met G mX9_middle [.int a, .int b, .int c] z z h g (pm_q (.int (m_mid a b c)) h g) := by
  rw [m_mid_eq]
  refine enX9_middle pm_le.rf ?_
  have st2 : ∀ lo tp : Int32, pm_W G mX9_middle z (pm_Φ G z (pm_q (.int (if c < lo then lo else if tp < c then tp else c)) h g)) 23 [.int a, .int b, .int c, .int lo, .int tp] [] z h g := by
    intro lo tp
    refine px_iload_n (i := 2) (pc' := 24) dX9_middle_23 rfl rfl rfl ?_
    refine px_iload_n (i := 3) (pc' := 25) dX9_middle_24 rfl rfl rfl ?_
    refine px_icmp_ge (tgt := 32) (pc' := 28) dX9_middle_25 (by decide) rfl (fun q => ?_) (fun q => ?_)
    · have q1 : ¬ c < lo := fun hh => by rw [i_lt] at hh; rw [i_le] at q; omega
      rw [if_neg q1]
      refine px_iload_n (i := 2) (pc' := 33) dX9_middle_32 rfl rfl rfl ?_
      refine px_iload (i := 4) (pc' := 35) dX9_middle_33 rfl rfl ?_
      refine px_icmp_le (tgt := 43) (pc' := 38) dX9_middle_35 (by decide) rfl (fun q2 => ?_) (fun q2 => ?_)
      · have q3 : ¬ tp < c := fun hh => by rw [i_lt] at hh; rw [i_le] at q2; omega
        rw [if_neg q3]
        refine px_iload_n (i := 2) (pc' := 44) dX9_middle_43 rfl rfl rfl ?_
        exact px_iret dX9_middle_44 rfl rfl (⟨rfl, rfl, rfl⟩)
      · have q3 : tp < c := by rw [i_lt]; rw [i_le] at q2; omega
        rw [if_pos q3]
        refine px_iload (i := 4) (pc' := 40) dX9_middle_38 rfl rfl ?_
        refine px_goto (tgt := 44) dX9_middle_40 (by decide) ?_
        exact px_iret dX9_middle_44 rfl rfl (⟨rfl, rfl, rfl⟩)
    · have q1 : c < lo := by rw [i_lt]; rw [i_le] at q; omega
      rw [if_pos q1]
      refine px_iload_n (i := 3) (pc' := 29) dX9_middle_28 rfl rfl rfl ?_
      refine px_goto (tgt := 44) dX9_middle_29 (by decide) ?_
      exact px_iret dX9_middle_44 rfl rfl (⟨rfl, rfl, rfl⟩)
  by_cases q : a < b
  · have q' : ¬ b ≤ a := fun hh => by rw [i_lt] at q; rw [i_le] at hh; omega
    rw [if_pos q, if_pos q]
    refine px_iload_n (i := 0) (pc' := 1) dX9_middle_0 rfl rfl rfl ?_
    refine px_iload_n (i := 1) (pc' := 2) dX9_middle_1 rfl rfl rfl ?_
    refine px_icmp_ge (tgt := 9) (pc' := 5) dX9_middle_2 (by decide) rfl (fun q_ => absurd q_ (q')) (fun _ => ?_)
    refine px_iload_n (i := 0) (pc' := 6) dX9_middle_5 rfl rfl rfl ?_
    refine px_goto (tgt := 10) dX9_middle_6 (by decide) ?_
    refine sx_i_n_5_3 (pc' := 11) dX9_middle_10 rfl rfl rfl rfl ?_
    refine px_iload_n (i := 0) (pc' := 12) dX9_middle_11 rfl rfl rfl ?_
    refine px_iload_n (i := 1) (pc' := 13) dX9_middle_12 rfl rfl rfl ?_
    refine px_icmp_ge (tgt := 20) (pc' := 16) dX9_middle_13 (by decide) rfl (fun q_ => absurd q_ (q')) (fun _ => ?_)
    refine px_iload_n (i := 1) (pc' := 17) dX9_middle_16 rfl rfl rfl ?_
    refine px_goto (tgt := 21) dX9_middle_17 (by decide) ?_
    refine sx_i_5_4 (pc' := 23) dX9_middle_21 rfl rfl rfl ?_
    exact st2 a b
  · have q' : b ≤ a := by rw [i_lt] at q; rw [i_le]; omega
    rw [if_neg q, if_neg q]
    refine px_iload_n (i := 0) (pc' := 1) dX9_middle_0 rfl rfl rfl ?_
    refine px_iload_n (i := 1) (pc' := 2) dX9_middle_1 rfl rfl rfl ?_
    refine px_icmp_ge (tgt := 9) (pc' := 5) dX9_middle_2 (by decide) rfl (fun _ => ?_) (fun q_ => absurd (q') q_)
    refine px_iload_n (i := 1) (pc' := 10) dX9_middle_9 rfl rfl rfl ?_
    refine sx_i_n_5_3 (pc' := 11) dX9_middle_10 rfl rfl rfl rfl ?_
    refine px_iload_n (i := 0) (pc' := 12) dX9_middle_11 rfl rfl rfl ?_
    refine px_iload_n (i := 1) (pc' := 13) dX9_middle_12 rfl rfl rfl ?_
    refine px_icmp_ge (tgt := 20) (pc' := 16) dX9_middle_13 (by decide) rfl (fun _ => ?_) (fun q_ => absurd (q') q_)
    refine px_iload_n (i := 0) (pc' := 21) dX9_middle_20 rfl rfl rfl ?_
    refine sx_i_5_4 (pc' := 23) dX9_middle_21 rfl rfl rfl ?_
    exact st2 b a
end ML
