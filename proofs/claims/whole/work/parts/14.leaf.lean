/-! Gauge (object 5), Row (object 6), Tape (object 1) -/
theorem i_abs {x : Int32} (h : -2147483648 < x.toInt) : (if 0 ≤ x then x else 0 - x).toInt = (x.toInt.natAbs : Int) := by
  by_cases q : 0 ≤ x
  · rw [if_pos q]
    rw [i_le, i_0] at q
    omega
  · rw [if_neg q]
    rw [i_le, i_0] at q
    rw [i_sub (by rw [i_0]; omega) (by rw [i_0]; omega), i_0]
    omega
section LEAF
variable {G : pm_G} {z : pm_z} {h : pm_h} {g : pm_g}
theorem c_err {v : Int32} (I : pm_I h g) (e : g 5 0 = .int v) : pm_Met G mX2_err [.ref 5] z z h g (pm_q (.int v) h g) := by
  refine enX2_err pm_le.rf ?_
  refine px_aload_n (i := 0) (pc' := 1) dX2_err_0 rfl rfl rfl ?_
  refine pi_geti (pc' := 4) fl_2_9 dX2_err_1 rfl (by repeat (first | assumption | refine pm_I.up ?_ rfl | refine pm_I.uf ?_ rfl)) rfl (by first | assumption | (repeat (first | exact pm_uf_e rfl | refine pm_uf_o (by decide) ?_)) <;> assumption) ?_
  exact px_iret dX2_err_4 rfl rfl (⟨rfl, rfl, rfl⟩)
def m_setOk (e a b : Int32) : Prop := 0 ≤ e.toInt ∧ e.toInt ≤ 20 ∧ 1 ≤ a.toInt ∧ a.toInt ≤ 3 ∧ 0 ≤ b.toInt ∧ b.toInt ≤ 1
theorem c_set_t {e a b : Int32} (I : pm_I h g) (ok : m_setOk e a b) : pm_Met G mX2_set [.ref 5, .int e, .int a, .int b] z z h g (pm_q (.int 1) h (pm_uf (pm_uf (pm_uf g 5 0 (.int e)) 5 1 (.int a)) 5 2 (.int b))) := by
  obtain ⟨k1, k2, k3, k4, k5, k6⟩ := ok
  refine enX2_set pm_le.rf ?_
  refine px_iload_n (i := 1) (pc' := 1) dX2_set_0 rfl rfl rfl ?_
  refine px_if_lt (tgt := 29) (pc' := 4) dX2_set_1 (by decide) rfl (fun q_ => absurd q_ (by rw [i_lt, i_0]; omega)) (fun _ => ?_)
  refine px_iload_n (i := 1) (pc' := 5) dX2_set_4 rfl rfl rfl ?_
  refine px_bipush (v := 20) (pc' := 7) dX2_set_5 rfl (by decide) ?_
  refine px_icmp_gt (tgt := 29) (pc' := 10) dX2_set_7 (by decide) rfl (fun q_ => absurd q_ (by rw [i_lt]; show ¬ (20 : Int) < _; omega)) (fun _ => ?_)
  refine px_iload_n (i := 2) (pc' := 11) dX2_set_10 rfl rfl rfl ?_
  refine px_iconst (v := 1) (pc' := 12) dX2_set_11 rfl (by decide) ?_
  refine px_icmp_lt (tgt := 29) (pc' := 15) dX2_set_12 (by decide) rfl (fun q_ => absurd q_ (by rw [i_lt]; show ¬ _ < (1 : Int); omega)) (fun _ => ?_)
  refine px_iload_n (i := 2) (pc' := 16) dX2_set_15 rfl rfl rfl ?_
  refine px_iconst (v := 3) (pc' := 17) dX2_set_16 rfl (by decide) ?_
  refine px_icmp_gt (tgt := 29) (pc' := 20) dX2_set_17 (by decide) rfl (fun q_ => absurd q_ (by rw [i_lt]; show ¬ (3 : Int) < _; omega)) (fun _ => ?_)
  refine px_iload_n (i := 3) (pc' := 21) dX2_set_20 rfl rfl rfl ?_
  refine px_if_lt (tgt := 29) (pc' := 24) dX2_set_21 (by decide) rfl (fun q_ => absurd q_ (by rw [i_lt, i_0]; omega)) (fun _ => ?_)
  refine px_iload_n (i := 3) (pc' := 25) dX2_set_24 rfl rfl rfl ?_
  refine px_iconst (v := 1) (pc' := 26) dX2_set_25 rfl (by decide) ?_
  refine px_icmp_le (tgt := 31) (pc' := 29) dX2_set_26 (by decide) rfl (fun _ => ?_) (fun q_ => absurd (by rw [i_le]; show _ ≤ (1 : Int); omega) q_)
  refine px_aload_n (i := 0) (pc' := 32) dX2_set_31 rfl rfl rfl ?_
  refine px_iload_n (i := 1) (pc' := 33) dX2_set_32 rfl rfl rfl ?_
  refine pi_puti (pc' := 36) fi_2_9 dX2_set_33 rfl (by repeat (first | assumption | refine pm_I.up ?_ rfl | refine pm_I.uf ?_ rfl)) rfl ?_
  refine px_aload_n (i := 0) (pc' := 37) dX2_set_36 rfl rfl rfl ?_
  refine px_iload_n (i := 2) (pc' := 38) dX2_set_37 rfl rfl rfl ?_
  refine pi_puti (pc' := 41) fi_2_15 dX2_set_38 rfl (by repeat (first | assumption | refine pm_I.up ?_ rfl | refine pm_I.uf ?_ rfl)) rfl ?_
  refine px_aload_n (i := 0) (pc' := 42) dX2_set_41 rfl rfl rfl ?_
  refine px_iload_n (i := 3) (pc' := 43) dX2_set_42 rfl rfl rfl ?_
  refine pi_puti (pc' := 46) fi_2_18 dX2_set_43 rfl (by repeat (first | assumption | refine pm_I.up ?_ rfl | refine pm_I.uf ?_ rfl)) rfl ?_
  refine px_iconst (v := 1) (pc' := 47) dX2_set_46 rfl (by decide) ?_
  exact px_zret (ty := .boolean) dX2_set_47 rfl (rfl) rfl (⟨rfl, rfl, rfl⟩)
theorem c_set_f {e a b : Int32} (I : pm_I h g) (ok : ¬ m_setOk e a b) : pm_Met G mX2_set [.ref 5, .int e, .int a, .int b] z z h g (pm_q (.int 0) h g) := by
  unfold m_setOk at ok
  refine enX2_set pm_le.rf ?_
  refine px_iload_n (i := 1) (pc' := 1) dX2_set_0 rfl rfl rfl ?_
  refine px_if_lt (tgt := 29) (pc' := 4) dX2_set_1 (by decide) rfl (fun q => ?_) (fun q => ?_)
  · refine px_iconst (v := 0) (pc' := 30) dX2_set_29 rfl (by decide) ?_
    exact px_zret (ty := .boolean) dX2_set_30 rfl (rfl) rfl (⟨rfl, rfl, rfl⟩)
  refine px_iload_n (i := 1) (pc' := 5) dX2_set_4 rfl rfl rfl ?_
  refine px_bipush (v := 20) (pc' := 7) dX2_set_5 rfl (by decide) ?_
  refine px_icmp_gt (tgt := 29) (pc' := 10) dX2_set_7 (by decide) rfl (fun q2 => ?_) (fun q2 => ?_)
  · refine px_iconst (v := 0) (pc' := 30) dX2_set_29 rfl (by decide) ?_
    exact px_zret (ty := .boolean) dX2_set_30 rfl (rfl) rfl (⟨rfl, rfl, rfl⟩)
  refine px_iload_n (i := 2) (pc' := 11) dX2_set_10 rfl rfl rfl ?_
  refine px_iconst (v := 1) (pc' := 12) dX2_set_11 rfl (by decide) ?_
  refine px_icmp_lt (tgt := 29) (pc' := 15) dX2_set_12 (by decide) rfl (fun q3 => ?_) (fun q3 => ?_)
  · refine px_iconst (v := 0) (pc' := 30) dX2_set_29 rfl (by decide) ?_
    exact px_zret (ty := .boolean) dX2_set_30 rfl (rfl) rfl (⟨rfl, rfl, rfl⟩)
  refine px_iload_n (i := 2) (pc' := 16) dX2_set_15 rfl rfl rfl ?_
  refine px_iconst (v := 3) (pc' := 17) dX2_set_16 rfl (by decide) ?_
  refine px_icmp_gt (tgt := 29) (pc' := 20) dX2_set_17 (by decide) rfl (fun q4 => ?_) (fun q4 => ?_)
  · refine px_iconst (v := 0) (pc' := 30) dX2_set_29 rfl (by decide) ?_
    exact px_zret (ty := .boolean) dX2_set_30 rfl (rfl) rfl (⟨rfl, rfl, rfl⟩)
  refine px_iload_n (i := 3) (pc' := 21) dX2_set_20 rfl rfl rfl ?_
  refine px_if_lt (tgt := 29) (pc' := 24) dX2_set_21 (by decide) rfl (fun q5 => ?_) (fun q5 => ?_)
  · refine px_iconst (v := 0) (pc' := 30) dX2_set_29 rfl (by decide) ?_
    exact px_zret (ty := .boolean) dX2_set_30 rfl (rfl) rfl (⟨rfl, rfl, rfl⟩)
  refine px_iload_n (i := 3) (pc' := 25) dX2_set_24 rfl rfl rfl ?_
  refine px_iconst (v := 1) (pc' := 26) dX2_set_25 rfl (by decide) ?_
  refine px_icmp_le (tgt := 31) (pc' := 29) dX2_set_26 (by decide) rfl (fun q6 => ?_) (fun q6 => ?_)
  · rw [i_lt, i_0] at q q5
    rw [i_lt] at q2 q3 q4
    rw [i_le] at q6
    have l1 : (20 : Int32).toInt = 20 := by decide
    have l2 : (1 : Int32).toInt = 1 := by decide
    have l3 : (3 : Int32).toInt = 3 := by decide
    exact absurd (by omega) ok
  · refine px_iconst (v := 0) (pc' := 30) dX2_set_29 rfl (by decide) ?_
    exact px_zret (ty := .boolean) dX2_set_30 rfl (rfl) rfl (⟨rfl, rfl, rfl⟩)
theorem c_weight {a b x0 x1 : Int32} (I : pm_I h g) (e1 : g 5 1 = .int x0) (e2 : g 5 2 = .int x1) : pm_Met G mX2_weight [.ref 5, .int a, .int b] z z h g (pm_q (.int ((if a = 0 then x0 else x1) * (if b = 0 then x0 else x1))) h g) := by
  refine enX2_weight pm_le.rf ?_
  refine px_iload_n (i := 1) (pc' := 1) dX2_weight_0 rfl rfl rfl ?_
  refine px_if_ne (tgt := 11) (pc' := 4) dX2_weight_1 (by decide) rfl (fun q => ?_) (fun q => ?_)
  · refine px_aload_n (i := 0) (pc' := 12) dX2_weight_11 rfl rfl rfl ?_
    refine pi_geti (pc' := 15) fl_2_18 dX2_weight_12 rfl (by repeat (first | assumption | refine pm_I.up ?_ rfl | refine pm_I.uf ?_ rfl)) rfl (by first | assumption | (repeat (first | exact pm_uf_e rfl | refine pm_uf_o (by decide) ?_)) <;> assumption) ?_
    refine px_iload_n (i := 2) (pc' := 16) dX2_weight_15 rfl rfl rfl ?_
    refine px_if_ne (tgt := 26) (pc' := 19) dX2_weight_16 (by decide) rfl (fun q2 => ?_) (fun q2 => ?_)
    · refine px_aload_n (i := 0) (pc' := 27) dX2_weight_26 rfl rfl rfl ?_
      refine pi_geti (pc' := 30) fl_2_18 dX2_weight_27 rfl (by repeat (first | assumption | refine pm_I.up ?_ rfl | refine pm_I.uf ?_ rfl)) rfl (by first | assumption | (repeat (first | exact pm_uf_e rfl | refine pm_uf_o (by decide) ?_)) <;> assumption) ?_
      refine px_imul (pc' := 31) dX2_weight_30 rfl ?_
      exact px_iret dX2_weight_31 rfl rfl (⟨by rw [if_neg q, if_neg q2], rfl, rfl⟩)
    · refine px_aload_n (i := 0) (pc' := 20) dX2_weight_19 rfl rfl rfl ?_
      refine pi_geti (pc' := 23) fl_2_15 dX2_weight_20 rfl (by repeat (first | assumption | refine pm_I.up ?_ rfl | refine pm_I.uf ?_ rfl)) rfl (by first | assumption | (repeat (first | exact pm_uf_e rfl | refine pm_uf_o (by decide) ?_)) <;> assumption) ?_
      refine px_goto (tgt := 30) dX2_weight_23 (by decide) ?_
      refine px_imul (pc' := 31) dX2_weight_30 rfl ?_
      exact px_iret dX2_weight_31 rfl rfl (⟨by rw [if_neg q, if_pos q2], rfl, rfl⟩)
  · refine px_aload_n (i := 0) (pc' := 5) dX2_weight_4 rfl rfl rfl ?_
    refine pi_geti (pc' := 8) fl_2_15 dX2_weight_5 rfl (by repeat (first | assumption | refine pm_I.up ?_ rfl | refine pm_I.uf ?_ rfl)) rfl (by first | assumption | (repeat (first | exact pm_uf_e rfl | refine pm_uf_o (by decide) ?_)) <;> assumption) ?_
    refine px_goto (tgt := 15) dX2_weight_8 (by decide) ?_
    refine px_iload_n (i := 2) (pc' := 16) dX2_weight_15 rfl rfl rfl ?_
    refine px_if_ne (tgt := 26) (pc' := 19) dX2_weight_16 (by decide) rfl (fun q2 => ?_) (fun q2 => ?_)
    · refine px_aload_n (i := 0) (pc' := 27) dX2_weight_26 rfl rfl rfl ?_
      refine pi_geti (pc' := 30) fl_2_18 dX2_weight_27 rfl (by repeat (first | assumption | refine pm_I.up ?_ rfl | refine pm_I.uf ?_ rfl)) rfl (by first | assumption | (repeat (first | exact pm_uf_e rfl | refine pm_uf_o (by decide) ?_)) <;> assumption) ?_
      refine px_imul (pc' := 31) dX2_weight_30 rfl ?_
      exact px_iret dX2_weight_31 rfl rfl (⟨by rw [if_pos q, if_neg q2], rfl, rfl⟩)
    · refine px_aload_n (i := 0) (pc' := 20) dX2_weight_19 rfl rfl rfl ?_
      refine pi_geti (pc' := 23) fl_2_15 dX2_weight_20 rfl (by repeat (first | assumption | refine pm_I.up ?_ rfl | refine pm_I.uf ?_ rfl)) rfl (by first | assumption | (repeat (first | exact pm_uf_e rfl | refine pm_uf_o (by decide) ?_)) <;> assumption) ?_
      refine px_goto (tgt := 30) dX2_weight_23 (by decide) ?_
      refine px_imul (pc' := 31) dX2_weight_30 rfl ?_
      exact px_iret dX2_weight_31 rfl rfl (⟨by rw [if_pos q, if_pos q2], rfl, rfl⟩)
theorem c_fits {v hh e : Int32} (I : pm_I h g) (e1 : g 5 0 = .int e) (hv : 0 ≤ v.toInt ∧ v.toInt ≤ 255) (hb : -1 ≤ hh.toInt ∧ hh.toInt ≤ 255) : pm_Met G mX2_fits [.ref 5, .int v, .int hh] z z h g (pm_q (.int (if hh.toInt = -1 ∨ ((hh.toInt - v.toInt).natAbs : Int) ≤ e.toInt then 1 else 0)) h g) := by
  have l1 : (-1 : Int32).toInt = -1 := by decide
  have es : (hh - v).toInt = hh.toInt - v.toInt := i_sub (by omega) (by omega)
  have ea := i_abs (x := hh - v) (by omega)
  refine enX2_fits pm_le.rf ?_
  refine px_iload_n (i := 2) (pc' := 1) dX2_fits_0 rfl rfl rfl ?_
  refine px_iconst (v := -1) (pc' := 2) dX2_fits_1 rfl (by decide) ?_
  refine px_icmp_eq (tgt := 18) (pc' := 5) dX2_fits_2 (by decide) rfl (fun q => ?_) (fun q => ?_)
  · rw [i_eq, l1] at q
    refine px_iconst (v := 1) (pc' := 19) dX2_fits_18 rfl (by decide) ?_
    refine px_goto (tgt := 23) dX2_fits_19 (by decide) ?_
    exact px_zret (ty := .boolean) dX2_fits_23 rfl (rfl) rfl (⟨by rw [if_pos (Or.inl q)], rfl, rfl⟩)
  rw [i_eq, l1] at q
  refine px_iload_n (i := 2) (pc' := 6) dX2_fits_5 rfl rfl rfl ?_
  refine px_iload_n (i := 1) (pc' := 7) dX2_fits_6 rfl rfl rfl ?_
  refine px_isub (pc' := 8) dX2_fits_7 rfl ?_
  refine px_mabs (pc' := 11) ml_X2_21 wd_abs_s wd_ini_math wd_abs_c dX2_fits_8 rfl (Nat.le_of_ble_eq_true rfl) (Nat.le_of_ble_eq_true rfl) ?_
  refine px_aload_n (i := 0) (pc' := 12) dX2_fits_11 rfl rfl rfl ?_
  refine pi_geti (pc' := 15) fl_2_9 dX2_fits_12 rfl (by repeat (first | assumption | refine pm_I.up ?_ rfl | refine pm_I.uf ?_ rfl)) rfl (by first | assumption | (repeat (first | exact pm_uf_e rfl | refine pm_uf_o (by decide) ?_)) <;> assumption) ?_
  refine px_icmp_gt (tgt := 22) (pc' := 18) dX2_fits_15 (by decide) rfl (fun q2 => ?_) (fun q2 => ?_)
  · rw [i_lt, ea, es] at q2
    refine px_iconst (v := 0) (pc' := 23) dX2_fits_22 rfl (by decide) ?_
    exact px_zret (ty := .boolean) dX2_fits_23 rfl (rfl) rfl (⟨by rw [if_neg (by omega)], rfl, rfl⟩)
  · rw [i_lt, ea, es] at q2
    refine px_iconst (v := 1) (pc' := 19) dX2_fits_18 rfl (by decide) ?_
    refine px_goto (tgt := 23) dX2_fits_19 (by decide) ?_
    exact px_zret (ty := .boolean) dX2_fits_23 rfl (rfl) rfl (⟨by rw [if_pos (by omega)], rfl, rfl⟩)
theorem c_alike {a b : Int32} {e : Nat} (I : pm_I h g) (e1 : g 5 0 = .int (nI e)) (he : e ≤ 20) (ha : -1 ≤ a.toInt ∧ a.toInt ≤ 255) (hb : -1 ≤ b.toInt ∧ b.toInt ≤ 255) : pm_Met G mX2_alike [.ref 5, .int a, .int b] z z h g (pm_q (.int (if a.toInt = -1 ∨ b.toInt = -1 ∨ ((a.toInt - b.toInt).natAbs : Int) ≤ 2 * e then 1 else 0)) h g) := by
  have l1 : (-1 : Int32).toInt = -1 := by decide
  have es : (a - b).toInt = a.toInt - b.toInt := i_sub (by omega) (by omega)
  have ea := i_abs (x := a - b) (by omega)
  have e2 : ((2 : Int32) * nI e).toInt = 2 * e := by
    rw [show (2 : Int32) = nI 2 from rfl, pk_mul, nI_toInt (by omega)]
    omega
  refine enX2_alike pm_le.rf ?_
  refine px_iload_n (i := 1) (pc' := 1) dX2_alike_0 rfl rfl rfl ?_
  refine px_iconst (v := -1) (pc' := 2) dX2_alike_1 rfl (by decide) ?_
  refine px_icmp_eq (tgt := 25) (pc' := 5) dX2_alike_2 (by decide) rfl (fun q => ?_) (fun q => ?_)
  · rw [i_eq, l1] at q
    refine px_iconst (v := 1) (pc' := 26) dX2_alike_25 rfl (by decide) ?_
    refine px_goto (tgt := 30) dX2_alike_26 (by decide) ?_
    exact px_zret (ty := .boolean) dX2_alike_30 rfl (rfl) rfl (⟨by rw [if_pos (Or.inl q)], rfl, rfl⟩)
  rw [i_eq, l1] at q
  refine px_iload_n (i := 2) (pc' := 6) dX2_alike_5 rfl rfl rfl ?_
  refine px_iconst (v := -1) (pc' := 7) dX2_alike_6 rfl (by decide) ?_
  refine px_icmp_eq (tgt := 25) (pc' := 10) dX2_alike_7 (by decide) rfl (fun q1 => ?_) (fun q1 => ?_)
  · rw [i_eq, l1] at q1
    refine px_iconst (v := 1) (pc' := 26) dX2_alike_25 rfl (by decide) ?_
    refine px_goto (tgt := 30) dX2_alike_26 (by decide) ?_
    exact px_zret (ty := .boolean) dX2_alike_30 rfl (rfl) rfl (⟨by rw [if_pos (Or.inr (Or.inl q1))], rfl, rfl⟩)
  rw [i_eq, l1] at q1
  refine px_iload_n (i := 1) (pc' := 11) dX2_alike_10 rfl rfl rfl ?_
  refine px_iload_n (i := 2) (pc' := 12) dX2_alike_11 rfl rfl rfl ?_
  refine px_isub (pc' := 13) dX2_alike_12 rfl ?_
  refine px_mabs (pc' := 16) ml_X2_21 wd_abs_s wd_ini_math wd_abs_c dX2_alike_13 rfl (Nat.le_of_ble_eq_true rfl) (Nat.le_of_ble_eq_true rfl) ?_
  refine px_iconst (v := 2) (pc' := 17) dX2_alike_16 rfl (by decide) ?_
  refine px_aload_n (i := 0) (pc' := 18) dX2_alike_17 rfl rfl rfl ?_
  refine pi_geti (pc' := 21) fl_2_9 dX2_alike_18 rfl (by repeat (first | assumption | refine pm_I.up ?_ rfl | refine pm_I.uf ?_ rfl)) rfl (by first | assumption | (repeat (first | exact pm_uf_e rfl | refine pm_uf_o (by decide) ?_)) <;> assumption) ?_
  refine px_imul (pc' := 22) dX2_alike_21 rfl ?_
  refine px_icmp_gt (tgt := 29) (pc' := 25) dX2_alike_22 (by decide) rfl (fun q2 => ?_) (fun q2 => ?_)
  · rw [i_lt, ea, es, e2] at q2
    refine px_iconst (v := 0) (pc' := 30) dX2_alike_29 rfl (by decide) ?_
    exact px_zret (ty := .boolean) dX2_alike_30 rfl (rfl) rfl (⟨by rw [if_neg (by omega)], rfl, rfl⟩)
  · rw [i_lt, ea, es, e2] at q2
    refine px_iconst (v := 1) (pc' := 26) dX2_alike_25 rfl (by decide) ?_
    refine px_goto (tgt := 30) dX2_alike_26 (by decide) ?_
    exact px_zret (ty := .boolean) dX2_alike_30 rfl (rfl) rfl (⟨by rw [if_pos (by omega)], rfl, rfl⟩)
theorem c_moves {v : Int32} (I : pm_I h g) (e : g 6 4 = .int v) : pm_Met G mX5_moves [.ref 6] z z h g (pm_q (.int v) h g) := by
  refine enX5_moves pm_le.rf ?_
  refine px_aload_n (i := 0) (pc' := 1) dX5_moves_0 rfl rfl rfl ?_
  refine pi_geti (pc' := 4) fl_5_24 dX5_moves_1 rfl (by repeat (first | assumption | refine pm_I.up ?_ rfl | refine pm_I.uf ?_ rfl)) rfl (by first | assumption | (repeat (first | exact pm_uf_e rfl | refine pm_uf_o (by decide) ?_)) <;> assumption) ?_
  exact px_iret dX5_moves_4 rfl rfl (⟨rfl, rfl, rfl⟩)
theorem c_readings {v : Int32} (I : pm_I h g) (e : g 6 5 = .int v) : pm_Met G mX5_readings [.ref 6] z z h g (pm_q (.int v) h g) := by
  refine enX5_readings pm_le.rf ?_
  refine px_aload_n (i := 0) (pc' := 1) dX5_readings_0 rfl rfl rfl ?_
  refine pi_geti (pc' := 4) fl_5_28 dX5_readings_1 rfl (by repeat (first | assumption | refine pm_I.up ?_ rfl | refine pm_I.uf ?_ rfl)) rfl (by first | assumption | (repeat (first | exact pm_uf_e rfl | refine pm_uf_o (by decide) ?_)) <;> assumption) ?_
  exact px_iret dX5_readings_4 rfl rfl (⟨rfl, rfl, rfl⟩)
theorem c_rstart {v : Int32} (I : pm_I h g) (e : g 6 6 = .int v) : pm_Met G mX5_start [.ref 6] z z h g (pm_q (.int v) h g) := by
  refine enX5_start pm_le.rf ?_
  refine px_aload_n (i := 0) (pc' := 1) dX5_start_0 rfl rfl rfl ?_
  refine pi_geti (pc' := 4) fl_5_31 dX5_start_1 rfl (by repeat (first | assumption | refine pm_I.up ?_ rfl | refine pm_I.uf ?_ rfl)) rfl (by first | assumption | (repeat (first | exact pm_uf_e rfl | refine pm_uf_o (by decide) ?_)) <;> assumption) ?_
  exact px_iret dX5_start_4 rfl rfl (⟨rfl, rfl, rfl⟩)
theorem c_restart {c : Int32} (I : pm_I h g) : pm_Met G mX5_restart [.ref 6, .int c] z z h g (pm_qv h (pm_uf (pm_uf (pm_uf g 6 4 (.int 0)) 6 5 (.int 0)) 6 6 (.int c))) := by
  refine enX5_restart pm_le.rf ?_
  refine px_aload_n (i := 0) (pc' := 1) dX5_restart_0 rfl rfl rfl ?_
  refine px_iconst (v := 0) (pc' := 2) dX5_restart_1 rfl (by decide) ?_
  refine pi_puti (pc' := 5) fi_5_24 dX5_restart_2 rfl (by repeat (first | assumption | refine pm_I.up ?_ rfl | refine pm_I.uf ?_ rfl)) rfl ?_
  refine px_aload_n (i := 0) (pc' := 6) dX5_restart_5 rfl rfl rfl ?_
  refine px_iconst (v := 0) (pc' := 7) dX5_restart_6 rfl (by decide) ?_
  refine pi_puti (pc' := 10) fi_5_28 dX5_restart_7 rfl (by repeat (first | assumption | refine pm_I.up ?_ rfl | refine pm_I.uf ?_ rfl)) rfl ?_
  refine px_aload_n (i := 0) (pc' := 11) dX5_restart_10 rfl rfl rfl ?_
  refine px_iload_n (i := 1) (pc' := 12) dX5_restart_11 rfl rfl rfl ?_
  refine pi_puti (pc' := 15) fi_5_31 dX5_restart_12 rfl (by repeat (first | assumption | refine pm_I.up ?_ rfl | refine pm_I.uf ?_ rfl)) rfl ?_
  exact px_vret dX5_restart_15 rfl rfl (⟨rfl, rfl, rfl⟩)
theorem c_addMove {a b : Int32} {n : Nat} {f1 f2 : Nat → Int32} (I : pm_I h g) (e : g 6 4 = .int (nI n)) (hn : n < 12) (e1 : h 7 = pm_ia 0 12 f1) (e2 : h 8 = pm_ia 0 12 f2) : pm_Met G mX5_addMove [.ref 6, .int a, .int b] z z h g (pm_qv (pm_up (pm_up h 7 (pm_ia 0 12 (upd f1 n a))) 8 (pm_ia 0 12 (upd f2 n b))) (pm_uf g 6 4 (.int (nI (n + 1))))) := by
  have hc : (nI n).toNatClampNeg = n := nI_clamp (by omega)
  refine enX5_addMove pm_le.rf ?_
  refine px_aload_n (i := 0) (pc' := 1) dX5_addMove_0 rfl rfl rfl ?_
  refine pi_geti (pc' := 4) fl_5_24 dX5_addMove_1 rfl (by repeat (first | assumption | refine pm_I.up ?_ rfl | refine pm_I.uf ?_ rfl)) rfl (by first | assumption | (repeat (first | exact pm_uf_e rfl | refine pm_uf_o (by decide) ?_)) <;> assumption) ?_
  refine px_bipush (v := 12) (pc' := 6) dX5_addMove_4 rfl (by decide) ?_
  refine px_icmp_ge (tgt := 39) (pc' := 9) dX5_addMove_6 (by decide) rfl (fun q_ => absurd q_ (nI_ge (b := 12) hn (by omega))) (fun _ => ?_)
  refine px_aload_n (i := 0) (pc' := 10) dX5_addMove_9 rfl rfl rfl ?_
  refine pi_getr (pc' := 13) fl_5_9 dX5_addMove_10 rfl (by repeat (first | assumption | refine pm_I.up ?_ rfl | refine pm_I.uf ?_ rfl)) rfl rfl ?_
  refine px_aload_n (i := 0) (pc' := 14) dX5_addMove_13 rfl rfl rfl ?_
  refine pi_geti (pc' := 17) fl_5_24 dX5_addMove_14 rfl (by repeat (first | assumption | refine pm_I.up ?_ rfl | refine pm_I.uf ?_ rfl)) rfl (by first | assumption | (repeat (first | exact pm_uf_e rfl | refine pm_uf_o (by decide) ?_)) <;> assumption) ?_
  refine px_iload_n (i := 1) (pc' := 18) dX5_addMove_17 rfl rfl rfl ?_
  refine px_iast (pc' := 19) dX5_addMove_18 rfl (by first | assumption | (repeat (first | exact pm_up_e rfl | refine pm_up_o (by decide) ?_)) <;> assumption) (vp_in_nI hn (by omega)) ?_
  refine px_aload_n (i := 0) (pc' := 20) dX5_addMove_19 rfl rfl rfl ?_
  refine pi_getr (pc' := 23) fl_5_15 dX5_addMove_20 rfl (by repeat (first | assumption | refine pm_I.up ?_ rfl | refine pm_I.uf ?_ rfl)) rfl rfl ?_
  refine px_aload_n (i := 0) (pc' := 24) dX5_addMove_23 rfl rfl rfl ?_
  refine pi_geti (pc' := 27) fl_5_24 dX5_addMove_24 rfl (by repeat (first | assumption | refine pm_I.up ?_ rfl | refine pm_I.uf ?_ rfl)) rfl (by first | assumption | (repeat (first | exact pm_uf_e rfl | refine pm_uf_o (by decide) ?_)) <;> assumption) ?_
  refine px_iload_n (i := 2) (pc' := 28) dX5_addMove_27 rfl rfl rfl ?_
  refine px_iast (pc' := 29) dX5_addMove_28 rfl (by first | assumption | (repeat (first | exact pm_up_e rfl | refine pm_up_o (by decide) ?_)) <;> assumption) (vp_in_nI hn (by omega)) ?_
  refine px_aload_n (i := 0) (pc' := 30) dX5_addMove_29 rfl rfl rfl ?_
  refine px_dup (pc' := 31) dX5_addMove_30 rfl rfl ?_
  refine pi_geti (pc' := 34) fl_5_24 dX5_addMove_31 rfl (by repeat (first | assumption | refine pm_I.up ?_ rfl | refine pm_I.uf ?_ rfl)) rfl (by first | assumption | (repeat (first | exact pm_uf_e rfl | refine pm_uf_o (by decide) ?_)) <;> assumption) ?_
  refine px_iconst (v := 1) (pc' := 35) dX5_addMove_34 rfl (by decide) ?_
  refine px_iadd (pc' := 36) dX5_addMove_35 rfl ?_
  refine pi_puti (pc' := 39) fi_5_24 dX5_addMove_36 rfl (by repeat (first | assumption | refine pm_I.up ?_ rfl | refine pm_I.uf ?_ rfl)) rfl ?_
  rw [hc, nI_1]
  exact px_vret dX5_addMove_39 rfl rfl (⟨rfl, rfl, rfl⟩)
theorem c_addReading {v m : Int32} {n : Nat} {f1 f2 : Nat → Int32} (I : pm_I h g) (e : g 6 5 = .int (nI n)) (em : g 6 4 = .int m) (hn : n < 40) (e1 : h 9 = pm_ia 0 40 f1) (e2 : h 10 = pm_ia 0 40 f2) : pm_Met G mX5_addReading [.ref 6, .int v] z z h g (pm_qv (pm_up (pm_up h 9 (pm_ia 0 40 (upd f1 n v))) 10 (pm_ia 0 40 (upd f2 n m))) (pm_uf g 6 5 (.int (nI (n + 1))))) := by
  have hc : (nI n).toNatClampNeg = n := nI_clamp (by omega)
  refine enX5_addReading pm_le.rf ?_
  refine px_aload_n (i := 0) (pc' := 1) dX5_addReading_0 rfl rfl rfl ?_
  refine pi_geti (pc' := 4) fl_5_28 dX5_addReading_1 rfl (by repeat (first | assumption | refine pm_I.up ?_ rfl | refine pm_I.uf ?_ rfl)) rfl (by first | assumption | (repeat (first | exact pm_uf_e rfl | refine pm_uf_o (by decide) ?_)) <;> assumption) ?_
  refine px_bipush (v := 40) (pc' := 6) dX5_addReading_4 rfl (by decide) ?_
  refine px_icmp_ge (tgt := 42) (pc' := 9) dX5_addReading_6 (by decide) rfl (fun q_ => absurd q_ (nI_ge (b := 40) hn (by omega))) (fun _ => ?_)
  refine px_aload_n (i := 0) (pc' := 10) dX5_addReading_9 rfl rfl rfl ?_
  refine pi_getr (pc' := 13) fl_5_18 dX5_addReading_10 rfl (by repeat (first | assumption | refine pm_I.up ?_ rfl | refine pm_I.uf ?_ rfl)) rfl rfl ?_
  refine px_aload_n (i := 0) (pc' := 14) dX5_addReading_13 rfl rfl rfl ?_
  refine pi_geti (pc' := 17) fl_5_28 dX5_addReading_14 rfl (by repeat (first | assumption | refine pm_I.up ?_ rfl | refine pm_I.uf ?_ rfl)) rfl (by first | assumption | (repeat (first | exact pm_uf_e rfl | refine pm_uf_o (by decide) ?_)) <;> assumption) ?_
  refine px_iload_n (i := 1) (pc' := 18) dX5_addReading_17 rfl rfl rfl ?_
  refine px_iast (pc' := 19) dX5_addReading_18 rfl (by first | assumption | (repeat (first | exact pm_up_e rfl | refine pm_up_o (by decide) ?_)) <;> assumption) (vp_in_nI hn (by omega)) ?_
  refine px_aload_n (i := 0) (pc' := 20) dX5_addReading_19 rfl rfl rfl ?_
  refine pi_getr (pc' := 23) fl_5_21 dX5_addReading_20 rfl (by repeat (first | assumption | refine pm_I.up ?_ rfl | refine pm_I.uf ?_ rfl)) rfl rfl ?_
  refine px_aload_n (i := 0) (pc' := 24) dX5_addReading_23 rfl rfl rfl ?_
  refine pi_geti (pc' := 27) fl_5_28 dX5_addReading_24 rfl (by repeat (first | assumption | refine pm_I.up ?_ rfl | refine pm_I.uf ?_ rfl)) rfl (by first | assumption | (repeat (first | exact pm_uf_e rfl | refine pm_uf_o (by decide) ?_)) <;> assumption) ?_
  refine px_aload_n (i := 0) (pc' := 28) dX5_addReading_27 rfl rfl rfl ?_
  refine pi_geti (pc' := 31) fl_5_24 dX5_addReading_28 rfl (by repeat (first | assumption | refine pm_I.up ?_ rfl | refine pm_I.uf ?_ rfl)) rfl (by first | assumption | (repeat (first | exact pm_uf_e rfl | refine pm_uf_o (by decide) ?_)) <;> assumption) ?_
  refine px_iast (pc' := 32) dX5_addReading_31 rfl (by first | assumption | (repeat (first | exact pm_up_e rfl | refine pm_up_o (by decide) ?_)) <;> assumption) (vp_in_nI hn (by omega)) ?_
  refine px_aload_n (i := 0) (pc' := 33) dX5_addReading_32 rfl rfl rfl ?_
  refine px_dup (pc' := 34) dX5_addReading_33 rfl rfl ?_
  refine pi_geti (pc' := 37) fl_5_28 dX5_addReading_34 rfl (by repeat (first | assumption | refine pm_I.up ?_ rfl | refine pm_I.uf ?_ rfl)) rfl (by first | assumption | (repeat (first | exact pm_uf_e rfl | refine pm_uf_o (by decide) ?_)) <;> assumption) ?_
  refine px_iconst (v := 1) (pc' := 38) dX5_addReading_37 rfl (by decide) ?_
  refine px_iadd (pc' := 39) dX5_addReading_38 rfl ?_
  refine pi_puti (pc' := 42) fi_5_28 dX5_addReading_39 rfl (by repeat (first | assumption | refine pm_I.up ?_ rfl | refine pm_I.uf ?_ rfl)) rfl ?_
  rw [hc, nI_1]
  exact px_vret dX5_addReading_42 rfl rfl (⟨rfl, rfl, rfl⟩)
theorem c_dx {s n : Nat} {f : Nat → Int32} (I : pm_I h g) (e : g 6 4 = .int (nI n)) (hn : n ≤ 12) (hs : s < n) (e1 : h 7 = pm_ia 0 12 f) : pm_Met G mX5_dx [.ref 6, .int (nI s)] z z h g (pm_q (.int (f s)) h g) := by
  have hc : (nI s).toNatClampNeg = s := nI_clamp (by omega)
  refine enX5_dx pm_le.rf ?_
  refine px_iload_n (i := 1) (pc' := 1) dX5_dx_0 rfl rfl rfl ?_
  refine px_if_lt (tgt := 21) (pc' := 4) dX5_dx_1 (by decide) rfl (fun q_ => absurd q_ (nI_pos (by omega))) (fun _ => ?_)
  refine px_iload_n (i := 1) (pc' := 5) dX5_dx_4 rfl rfl rfl ?_
  refine px_aload_n (i := 0) (pc' := 6) dX5_dx_5 rfl rfl rfl ?_
  refine pi_geti (pc' := 9) fl_5_24 dX5_dx_6 rfl (by repeat (first | assumption | refine pm_I.up ?_ rfl | refine pm_I.uf ?_ rfl)) rfl (by first | assumption | (repeat (first | exact pm_uf_e rfl | refine pm_uf_o (by decide) ?_)) <;> assumption) ?_
  refine px_icmp_ge (tgt := 21) (pc' := 12) dX5_dx_9 (by decide) rfl (fun q_ => absurd q_ (nI_ge hs (by omega))) (fun _ => ?_)
  refine px_aload_n (i := 0) (pc' := 13) dX5_dx_12 rfl rfl rfl ?_
  refine pi_getr (pc' := 16) fl_5_9 dX5_dx_13 rfl (by repeat (first | assumption | refine pm_I.up ?_ rfl | refine pm_I.uf ?_ rfl)) rfl rfl ?_
  refine px_iload_n (i := 1) (pc' := 17) dX5_dx_16 rfl rfl rfl ?_
  refine px_iald (pc' := 18) dX5_dx_17 rfl (by first | assumption | (repeat (first | exact pm_up_e rfl | refine pm_up_o (by decide) ?_)) <;> assumption) (vp_in_nI (by omega) (by omega)) ?_
  refine px_goto (tgt := 22) dX5_dx_18 (by decide) ?_
  rw [hc]
  exact px_iret dX5_dx_22 rfl rfl (⟨rfl, rfl, rfl⟩)
theorem c_dy {s n : Nat} {f : Nat → Int32} (I : pm_I h g) (e : g 6 4 = .int (nI n)) (hn : n ≤ 12) (hs : s < n) (e1 : h 8 = pm_ia 0 12 f) : pm_Met G mX5_dy [.ref 6, .int (nI s)] z z h g (pm_q (.int (f s)) h g) := by
  have hc : (nI s).toNatClampNeg = s := nI_clamp (by omega)
  refine enX5_dy pm_le.rf ?_
  refine px_iload_n (i := 1) (pc' := 1) dX5_dy_0 rfl rfl rfl ?_
  refine px_if_lt (tgt := 21) (pc' := 4) dX5_dy_1 (by decide) rfl (fun q_ => absurd q_ (nI_pos (by omega))) (fun _ => ?_)
  refine px_iload_n (i := 1) (pc' := 5) dX5_dy_4 rfl rfl rfl ?_
  refine px_aload_n (i := 0) (pc' := 6) dX5_dy_5 rfl rfl rfl ?_
  refine pi_geti (pc' := 9) fl_5_24 dX5_dy_6 rfl (by repeat (first | assumption | refine pm_I.up ?_ rfl | refine pm_I.uf ?_ rfl)) rfl (by first | assumption | (repeat (first | exact pm_uf_e rfl | refine pm_uf_o (by decide) ?_)) <;> assumption) ?_
  refine px_icmp_ge (tgt := 21) (pc' := 12) dX5_dy_9 (by decide) rfl (fun q_ => absurd q_ (nI_ge hs (by omega))) (fun _ => ?_)
  refine px_aload_n (i := 0) (pc' := 13) dX5_dy_12 rfl rfl rfl ?_
  refine pi_getr (pc' := 16) fl_5_15 dX5_dy_13 rfl (by repeat (first | assumption | refine pm_I.up ?_ rfl | refine pm_I.uf ?_ rfl)) rfl rfl ?_
  refine px_iload_n (i := 1) (pc' := 17) dX5_dy_16 rfl rfl rfl ?_
  refine px_iald (pc' := 18) dX5_dy_17 rfl (by first | assumption | (repeat (first | exact pm_up_e rfl | refine pm_up_o (by decide) ?_)) <;> assumption) (vp_in_nI (by omega) (by omega)) ?_
  refine px_goto (tgt := 22) dX5_dy_18 (by decide) ?_
  rw [hc]
  exact px_iret dX5_dy_22 rfl rfl (⟨rfl, rfl, rfl⟩)
theorem c_size {v : Int32} (I : pm_I h g) (e : g 1 1 = .int v) : pm_Met G mX6_size [.ref 1] z z h g (pm_q (.int v) h g) := by
  refine enX6_size pm_le.rf ?_
  refine px_aload_n (i := 0) (pc' := 1) dX6_size_0 rfl rfl rfl ?_
  refine pi_geti (pc' := 4) fl_6_15 dX6_size_1 rfl (by repeat (first | assumption | refine pm_I.up ?_ rfl | refine pm_I.uf ?_ rfl)) rfl (by first | assumption | (repeat (first | exact pm_uf_e rfl | refine pm_uf_o (by decide) ?_)) <;> assumption) ?_
  exact px_iret dX6_size_4 rfl rfl (⟨rfl, rfl, rfl⟩)
theorem c_cut_t {c : Int32} {n : Nat} (I : pm_I h g) (e : g 1 1 = .int (nI n)) (hn : n ≤ 160) (hc : 0 ≤ c.toInt ∧ c.toInt ≤ n) : pm_Met G mX6_cut [.ref 1, .int c] z z h g (pm_q (.int 1) h (pm_uf g 1 1 (.int c))) := by
  have en : (nI n).toInt = n := nI_toInt (by omega)
  refine enX6_cut pm_le.rf ?_
  refine px_iload_n (i := 1) (pc' := 1) dX6_cut_0 rfl rfl rfl ?_
  refine px_if_lt (tgt := 12) (pc' := 4) dX6_cut_1 (by decide) rfl (fun q_ => absurd q_ (by rw [i_lt, i_0]; omega)) (fun _ => ?_)
  refine px_iload_n (i := 1) (pc' := 5) dX6_cut_4 rfl rfl rfl ?_
  refine px_aload_n (i := 0) (pc' := 6) dX6_cut_5 rfl rfl rfl ?_
  refine pi_geti (pc' := 9) fl_6_15 dX6_cut_6 rfl (by repeat (first | assumption | refine pm_I.up ?_ rfl | refine pm_I.uf ?_ rfl)) rfl (by first | assumption | (repeat (first | exact pm_uf_e rfl | refine pm_uf_o (by decide) ?_)) <;> assumption) ?_
  refine px_icmp_le (tgt := 14) (pc' := 12) dX6_cut_9 (by decide) rfl (fun _ => ?_) (fun q_ => absurd (by rw [i_le, en]; omega) q_)
  refine px_aload_n (i := 0) (pc' := 15) dX6_cut_14 rfl rfl rfl ?_
  refine px_iload_n (i := 1) (pc' := 16) dX6_cut_15 rfl rfl rfl ?_
  refine pi_puti (pc' := 19) fi_6_15 dX6_cut_16 rfl (by repeat (first | assumption | refine pm_I.up ?_ rfl | refine pm_I.uf ?_ rfl)) rfl ?_
  refine px_iconst (v := 1) (pc' := 20) dX6_cut_19 rfl (by decide) ?_
  exact px_zret (ty := .boolean) dX6_cut_20 rfl (rfl) rfl (⟨rfl, rfl, rfl⟩)
theorem c_cut_f {c : Int32} {n : Nat} (I : pm_I h g) (e : g 1 1 = .int (nI n)) (hn : n ≤ 160) (hc : ¬ (0 ≤ c.toInt ∧ c.toInt ≤ n)) : pm_Met G mX6_cut [.ref 1, .int c] z z h g (pm_q (.int 0) h g) := by
  have en : (nI n).toInt = n := nI_toInt (by omega)
  refine enX6_cut pm_le.rf ?_
  refine px_iload_n (i := 1) (pc' := 1) dX6_cut_0 rfl rfl rfl ?_
  refine px_if_lt (tgt := 12) (pc' := 4) dX6_cut_1 (by decide) rfl (fun q => ?_) (fun q => ?_)
  · refine px_iconst (v := 0) (pc' := 13) dX6_cut_12 rfl (by decide) ?_
    exact px_zret (ty := .boolean) dX6_cut_13 rfl (rfl) rfl (⟨rfl, rfl, rfl⟩)
  rw [i_lt, i_0] at q
  refine px_iload_n (i := 1) (pc' := 5) dX6_cut_4 rfl rfl rfl ?_
  refine px_aload_n (i := 0) (pc' := 6) dX6_cut_5 rfl rfl rfl ?_
  refine pi_geti (pc' := 9) fl_6_15 dX6_cut_6 rfl (by repeat (first | assumption | refine pm_I.up ?_ rfl | refine pm_I.uf ?_ rfl)) rfl (by first | assumption | (repeat (first | exact pm_uf_e rfl | refine pm_uf_o (by decide) ?_)) <;> assumption) ?_
  refine px_icmp_le (tgt := 14) (pc' := 12) dX6_cut_9 (by decide) rfl (fun q_ => absurd q_ (by rw [i_le, en]; omega)) (fun _ => ?_)
  refine px_iconst (v := 0) (pc' := 13) dX6_cut_12 rfl (by decide) ?_
  exact px_zret (ty := .boolean) dX6_cut_13 rfl (rfl) rfl (⟨rfl, rfl, rfl⟩)
theorem c_signedAt {s n : Nat} {T : Nat → Int32} (I : pm_I h g) (e : g 1 1 = .int (nI n)) (hn : n ≤ 160) (hs : s < n) (e1 : h 2 = pm_ia 1 160 T) : pm_Met G mX6_signedAt [.ref 1, .int (nI s)] z z h g (pm_q (.int (T s)) h g) := by
  have hc : (nI s).toNatClampNeg = s := nI_clamp (by omega)
  refine enX6_signedAt pm_le.rf ?_
  refine px_iload_n (i := 1) (pc' := 1) dX6_signedAt_0 rfl rfl rfl ?_
  refine px_if_lt (tgt := 21) (pc' := 4) dX6_signedAt_1 (by decide) rfl (fun q_ => absurd q_ (nI_pos (by omega))) (fun _ => ?_)
  refine px_iload_n (i := 1) (pc' := 5) dX6_signedAt_4 rfl rfl rfl ?_
  refine px_aload_n (i := 0) (pc' := 6) dX6_signedAt_5 rfl rfl rfl ?_
  refine pi_geti (pc' := 9) fl_6_15 dX6_signedAt_6 rfl (by repeat (first | assumption | refine pm_I.up ?_ rfl | refine pm_I.uf ?_ rfl)) rfl (by first | assumption | (repeat (first | exact pm_uf_e rfl | refine pm_uf_o (by decide) ?_)) <;> assumption) ?_
  refine px_icmp_ge (tgt := 21) (pc' := 12) dX6_signedAt_9 (by decide) rfl (fun q_ => absurd q_ (nI_ge hs (by omega))) (fun _ => ?_)
  refine px_aload_n (i := 0) (pc' := 13) dX6_signedAt_12 rfl rfl rfl ?_
  refine pi_getr (pc' := 16) fl_6_9 dX6_signedAt_13 rfl (by repeat (first | assumption | refine pm_I.up ?_ rfl | refine pm_I.uf ?_ rfl)) rfl rfl ?_
  refine px_iload_n (i := 1) (pc' := 17) dX6_signedAt_16 rfl rfl rfl ?_
  first | refine px_bald (pc' := 18) dX6_signedAt_17 rfl (by first | assumption | (repeat (first | exact pm_up_e rfl | refine pm_up_o (by decide) ?_)) <;> assumption) (vp_in_nI (by omega) (by omega)) ?_ | refine px_zald (pc' := 18) dX6_signedAt_17 rfl (by first | assumption | (repeat (first | exact pm_up_e rfl | refine pm_up_o (by decide) ?_)) <;> assumption) (vp_in_nI (by omega) (by omega)) ?_
  refine px_goto (tgt := 22) dX6_signedAt_18 (by decide) ?_
  rw [hc]
  exact px_iret dX6_signedAt_22 rfl rfl (⟨rfl, rfl, rfl⟩)
theorem c_unsignedAt {s n : Nat} {T : Nat → Int32} (I : pm_I h g) (e : g 1 1 = .int (nI n)) (hn : n ≤ 160) (hs : s < n) (e1 : h 2 = pm_ia 1 160 T) : pm_Met G mX6_unsignedAt [.ref 1, .int (nI s)] z z h g (pm_q (.int (T s &&& 255)) h g) := by
  refine enX6_unsignedAt pm_le.rf ?_
  refine px_aload_n (i := 0) (pc' := 1) dX6_unsignedAt_0 rfl rfl rfl ?_
  refine px_iload_n (i := 1) (pc' := 2) dX6_unsignedAt_1 rfl rfl rfl ?_
  refine pi_callV (pc' := 5) (c_signedAt I e hn hs e1) okX6_signedAt ivX6_signedAt ml_X6_19 ⟨Nat.le_of_ble_eq_true rfl, Nat.le_of_ble_eq_true rfl⟩ dX6_unsignedAt_2 rfl rfl rfl (Nat.le_of_ble_eq_true rfl) (by repeat (first | assumption | refine pm_I.up ?_ rfl | refine pm_I.uf ?_ rfl)) rfl cl_6 pm_le.rf pm_le.rf ?_
  rintro _ _ _ ⟨rfl, rfl, rfl⟩
  refine px_sipush (v := 255) (pc' := 8) dX6_unsignedAt_5 rfl (by decide) ?_
  refine px_iand (pc' := 9) dX6_unsignedAt_8 rfl ?_
  exact px_iret dX6_unsignedAt_9 rfl rfl (⟨rfl, rfl, rfl⟩)
/-- four bytes laid -/
def m_b (v : Int32) (k : Int32) : Int32 := vp_nar .byte (v >>> (k &&& 31)).toInt8.toInt32
def m_app (T : Nat → Int32) (n : Nat) (v : Int32) : Nat → Int32 := upd (upd (upd (upd T n (m_b v 24)) (n + 1) (m_b v 16)) (n + 2) (m_b v 8)) (n + 3) (m_b v 0)
theorem c_append {v : Int32} {n : Nat} {T : Nat → Int32} (I : pm_I h g) (e : g 1 1 = .int (nI n)) (hn : n + 4 ≤ 160) (e1 : h 2 = pm_ia 1 160 T) : pm_Met G mX6_append [.ref 1, .int v] z z h g (pm_qv (pm_up h 2 (pm_ia 1 160 (m_app T n v))) (pm_uf g 1 1 (.int (nI (n + 4))))) := by
  have hc : ∀ k, k < 4 → (nI (n + k)).toNatClampNeg = n + k := fun k hk => nI_clamp (by omega)
  have hc0 : (nI n).toNatClampNeg = n := nI_clamp (by omega)
  refine enX6_append pm_le.rf ?_
  refine px_bipush (v := 24) (pc' := 2) dX6_append_0 rfl (by decide) ?_
  refine sx_i_n_3_2 (pc' := 3) dX6_append_2 rfl rfl rfl rfl ?_
  refine px_iload_n (i := 2) (pc' := 4) dX6_append_3 rfl rfl rfl ?_
  refine px_if_lt (tgt := 46) (pc' := 7) dX6_append_4 (by decide) rfl (fun q_ => absurd q_ (by decide)) (fun _ => ?_)
  refine px_aload_n (i := 0) (pc' := 8) dX6_append_7 rfl rfl rfl ?_
  refine pi_geti (pc' := 11) fl_6_15 dX6_append_8 rfl (by repeat (first | assumption | refine pm_I.up ?_ rfl | refine pm_I.uf ?_ rfl)) rfl (by first | assumption | (repeat (first | exact pm_uf_e rfl | refine pm_uf_o (by decide) ?_)) <;> assumption) ?_
  refine px_sipush (v := 160) (pc' := 14) dX6_append_11 rfl (by decide) ?_
  refine px_icmp_ge (tgt := 46) (pc' := 17) dX6_append_14 (by decide) rfl (fun q_ => absurd q_ (nI_ge (b := 160) (by omega) (by omega))) (fun _ => ?_)
  refine px_aload_n (i := 0) (pc' := 18) dX6_append_17 rfl rfl rfl ?_
  refine pi_getr (pc' := 21) fl_6_9 dX6_append_18 rfl (by repeat (first | assumption | refine pm_I.up ?_ rfl | refine pm_I.uf ?_ rfl)) rfl rfl ?_
  refine px_aload_n (i := 0) (pc' := 22) dX6_append_21 rfl rfl rfl ?_
  refine pi_geti (pc' := 25) fl_6_15 dX6_append_22 rfl (by repeat (first | assumption | refine pm_I.up ?_ rfl | refine pm_I.uf ?_ rfl)) rfl (by first | assumption | (repeat (first | exact pm_uf_e rfl | refine pm_uf_o (by decide) ?_)) <;> assumption) ?_
  refine px_iload_n (i := 1) (pc' := 26) dX6_append_25 rfl rfl rfl ?_
  refine px_iload_n (i := 2) (pc' := 27) dX6_append_26 rfl rfl rfl ?_
  refine px_ishr (pc' := 28) dX6_append_27 rfl ?_
  refine px_i2b (pc' := 29) dX6_append_28 rfl ?_
  first | refine px_bast (pc' := 30) dX6_append_29 rfl (by first | assumption | (repeat (first | exact pm_up_e rfl | refine pm_up_o (by decide) ?_)) <;> assumption) (vp_in_nI (by omega) (by omega)) ?_ | refine px_zast (pc' := 30) dX6_append_29 rfl (by first | assumption | (repeat (first | exact pm_up_e rfl | refine pm_up_o (by decide) ?_)) <;> assumption) (vp_in_nI (by omega) (by omega)) ?_
  refine px_aload_n (i := 0) (pc' := 31) dX6_append_30 rfl rfl rfl ?_
  refine px_dup (pc' := 32) dX6_append_31 rfl rfl ?_
  refine pi_geti (pc' := 35) fl_6_15 dX6_append_32 rfl (by repeat (first | assumption | refine pm_I.up ?_ rfl | refine pm_I.uf ?_ rfl)) rfl (by first | assumption | (repeat (first | exact pm_uf_e rfl | refine pm_uf_o (by decide) ?_)) <;> assumption) ?_
  refine px_iconst (v := 1) (pc' := 36) dX6_append_35 rfl (by decide) ?_
  refine px_iadd (pc' := 37) dX6_append_36 rfl ?_
  refine pi_puti (pc' := 40) fi_6_15 dX6_append_37 rfl (by repeat (first | assumption | refine pm_I.up ?_ rfl | refine pm_I.uf ?_ rfl)) rfl ?_
  refine sx_inc_3_2 (w := -8) (pc' := 43) dX6_append_40 rfl rfl (by decide) rfl ?_
  refine px_goto (tgt := 3) dX6_append_43 (by decide) ?_
  rw [nI_1, hc0, show (24 : Int32) + -8 = 16 from by decide]
  refine px_iload_n (i := 2) (pc' := 4) dX6_append_3 rfl rfl rfl ?_
  refine px_if_lt (tgt := 46) (pc' := 7) dX6_append_4 (by decide) rfl (fun q_ => absurd q_ (by decide)) (fun _ => ?_)
  refine px_aload_n (i := 0) (pc' := 8) dX6_append_7 rfl rfl rfl ?_
  refine pi_geti (pc' := 11) fl_6_15 dX6_append_8 rfl (by repeat (first | assumption | refine pm_I.up ?_ rfl | refine pm_I.uf ?_ rfl)) rfl (by first | assumption | (repeat (first | exact pm_uf_e rfl | refine pm_uf_o (by decide) ?_)) <;> assumption) ?_
  refine px_sipush (v := 160) (pc' := 14) dX6_append_11 rfl (by decide) ?_
  refine px_icmp_ge (tgt := 46) (pc' := 17) dX6_append_14 (by decide) rfl (fun q_ => absurd q_ (nI_ge (b := 160) (by omega) (by omega))) (fun _ => ?_)
  refine px_aload_n (i := 0) (pc' := 18) dX6_append_17 rfl rfl rfl ?_
  refine pi_getr (pc' := 21) fl_6_9 dX6_append_18 rfl (by repeat (first | assumption | refine pm_I.up ?_ rfl | refine pm_I.uf ?_ rfl)) rfl rfl ?_
  refine px_aload_n (i := 0) (pc' := 22) dX6_append_21 rfl rfl rfl ?_
  refine pi_geti (pc' := 25) fl_6_15 dX6_append_22 rfl (by repeat (first | assumption | refine pm_I.up ?_ rfl | refine pm_I.uf ?_ rfl)) rfl (by first | assumption | (repeat (first | exact pm_uf_e rfl | refine pm_uf_o (by decide) ?_)) <;> assumption) ?_
  refine px_iload_n (i := 1) (pc' := 26) dX6_append_25 rfl rfl rfl ?_
  refine px_iload_n (i := 2) (pc' := 27) dX6_append_26 rfl rfl rfl ?_
  refine px_ishr (pc' := 28) dX6_append_27 rfl ?_
  refine px_i2b (pc' := 29) dX6_append_28 rfl ?_
  first | refine px_bast (pc' := 30) dX6_append_29 rfl (by first | assumption | (repeat (first | exact pm_up_e rfl | refine pm_up_o (by decide) ?_)) <;> assumption) (vp_in_nI (by omega) (by omega)) ?_ | refine px_zast (pc' := 30) dX6_append_29 rfl (by first | assumption | (repeat (first | exact pm_up_e rfl | refine pm_up_o (by decide) ?_)) <;> assumption) (vp_in_nI (by omega) (by omega)) ?_
  refine px_aload_n (i := 0) (pc' := 31) dX6_append_30 rfl rfl rfl ?_
  refine px_dup (pc' := 32) dX6_append_31 rfl rfl ?_
  refine pi_geti (pc' := 35) fl_6_15 dX6_append_32 rfl (by repeat (first | assumption | refine pm_I.up ?_ rfl | refine pm_I.uf ?_ rfl)) rfl (by first | assumption | (repeat (first | exact pm_uf_e rfl | refine pm_uf_o (by decide) ?_)) <;> assumption) ?_
  refine px_iconst (v := 1) (pc' := 36) dX6_append_35 rfl (by decide) ?_
  refine px_iadd (pc' := 37) dX6_append_36 rfl ?_
  refine pi_puti (pc' := 40) fi_6_15 dX6_append_37 rfl (by repeat (first | assumption | refine pm_I.up ?_ rfl | refine pm_I.uf ?_ rfl)) rfl ?_
  refine sx_inc_3_2 (w := -8) (pc' := 43) dX6_append_40 rfl rfl (by decide) rfl ?_
  refine px_goto (tgt := 3) dX6_append_43 (by decide) ?_
  rw [nI_1, hc 1 (by omega), show (16 : Int32) + -8 = 8 from by decide]
  refine px_iload_n (i := 2) (pc' := 4) dX6_append_3 rfl rfl rfl ?_
  refine px_if_lt (tgt := 46) (pc' := 7) dX6_append_4 (by decide) rfl (fun q_ => absurd q_ (by decide)) (fun _ => ?_)
  refine px_aload_n (i := 0) (pc' := 8) dX6_append_7 rfl rfl rfl ?_
  refine pi_geti (pc' := 11) fl_6_15 dX6_append_8 rfl (by repeat (first | assumption | refine pm_I.up ?_ rfl | refine pm_I.uf ?_ rfl)) rfl (by first | assumption | (repeat (first | exact pm_uf_e rfl | refine pm_uf_o (by decide) ?_)) <;> assumption) ?_
  refine px_sipush (v := 160) (pc' := 14) dX6_append_11 rfl (by decide) ?_
  refine px_icmp_ge (tgt := 46) (pc' := 17) dX6_append_14 (by decide) rfl (fun q_ => absurd q_ (nI_ge (b := 160) (by omega) (by omega))) (fun _ => ?_)
  refine px_aload_n (i := 0) (pc' := 18) dX6_append_17 rfl rfl rfl ?_
  refine pi_getr (pc' := 21) fl_6_9 dX6_append_18 rfl (by repeat (first | assumption | refine pm_I.up ?_ rfl | refine pm_I.uf ?_ rfl)) rfl rfl ?_
  refine px_aload_n (i := 0) (pc' := 22) dX6_append_21 rfl rfl rfl ?_
  refine pi_geti (pc' := 25) fl_6_15 dX6_append_22 rfl (by repeat (first | assumption | refine pm_I.up ?_ rfl | refine pm_I.uf ?_ rfl)) rfl (by first | assumption | (repeat (first | exact pm_uf_e rfl | refine pm_uf_o (by decide) ?_)) <;> assumption) ?_
  refine px_iload_n (i := 1) (pc' := 26) dX6_append_25 rfl rfl rfl ?_
  refine px_iload_n (i := 2) (pc' := 27) dX6_append_26 rfl rfl rfl ?_
  refine px_ishr (pc' := 28) dX6_append_27 rfl ?_
  refine px_i2b (pc' := 29) dX6_append_28 rfl ?_
  first | refine px_bast (pc' := 30) dX6_append_29 rfl (by first | assumption | (repeat (first | exact pm_up_e rfl | refine pm_up_o (by decide) ?_)) <;> assumption) (vp_in_nI (by omega) (by omega)) ?_ | refine px_zast (pc' := 30) dX6_append_29 rfl (by first | assumption | (repeat (first | exact pm_up_e rfl | refine pm_up_o (by decide) ?_)) <;> assumption) (vp_in_nI (by omega) (by omega)) ?_
  refine px_aload_n (i := 0) (pc' := 31) dX6_append_30 rfl rfl rfl ?_
  refine px_dup (pc' := 32) dX6_append_31 rfl rfl ?_
  refine pi_geti (pc' := 35) fl_6_15 dX6_append_32 rfl (by repeat (first | assumption | refine pm_I.up ?_ rfl | refine pm_I.uf ?_ rfl)) rfl (by first | assumption | (repeat (first | exact pm_uf_e rfl | refine pm_uf_o (by decide) ?_)) <;> assumption) ?_
  refine px_iconst (v := 1) (pc' := 36) dX6_append_35 rfl (by decide) ?_
  refine px_iadd (pc' := 37) dX6_append_36 rfl ?_
  refine pi_puti (pc' := 40) fi_6_15 dX6_append_37 rfl (by repeat (first | assumption | refine pm_I.up ?_ rfl | refine pm_I.uf ?_ rfl)) rfl ?_
  refine sx_inc_3_2 (w := -8) (pc' := 43) dX6_append_40 rfl rfl (by decide) rfl ?_
  refine px_goto (tgt := 3) dX6_append_43 (by decide) ?_
  rw [nI_1, hc 2 (by omega), show (8 : Int32) + -8 = 0 from by decide]
  refine px_iload_n (i := 2) (pc' := 4) dX6_append_3 rfl rfl rfl ?_
  refine px_if_lt (tgt := 46) (pc' := 7) dX6_append_4 (by decide) rfl (fun q_ => absurd q_ (by decide)) (fun _ => ?_)
  refine px_aload_n (i := 0) (pc' := 8) dX6_append_7 rfl rfl rfl ?_
  refine pi_geti (pc' := 11) fl_6_15 dX6_append_8 rfl (by repeat (first | assumption | refine pm_I.up ?_ rfl | refine pm_I.uf ?_ rfl)) rfl (by first | assumption | (repeat (first | exact pm_uf_e rfl | refine pm_uf_o (by decide) ?_)) <;> assumption) ?_
  refine px_sipush (v := 160) (pc' := 14) dX6_append_11 rfl (by decide) ?_
  refine px_icmp_ge (tgt := 46) (pc' := 17) dX6_append_14 (by decide) rfl (fun q_ => absurd q_ (nI_ge (b := 160) (by omega) (by omega))) (fun _ => ?_)
  refine px_aload_n (i := 0) (pc' := 18) dX6_append_17 rfl rfl rfl ?_
  refine pi_getr (pc' := 21) fl_6_9 dX6_append_18 rfl (by repeat (first | assumption | refine pm_I.up ?_ rfl | refine pm_I.uf ?_ rfl)) rfl rfl ?_
  refine px_aload_n (i := 0) (pc' := 22) dX6_append_21 rfl rfl rfl ?_
  refine pi_geti (pc' := 25) fl_6_15 dX6_append_22 rfl (by repeat (first | assumption | refine pm_I.up ?_ rfl | refine pm_I.uf ?_ rfl)) rfl (by first | assumption | (repeat (first | exact pm_uf_e rfl | refine pm_uf_o (by decide) ?_)) <;> assumption) ?_
  refine px_iload_n (i := 1) (pc' := 26) dX6_append_25 rfl rfl rfl ?_
  refine px_iload_n (i := 2) (pc' := 27) dX6_append_26 rfl rfl rfl ?_
  refine px_ishr (pc' := 28) dX6_append_27 rfl ?_
  refine px_i2b (pc' := 29) dX6_append_28 rfl ?_
  first | refine px_bast (pc' := 30) dX6_append_29 rfl (by first | assumption | (repeat (first | exact pm_up_e rfl | refine pm_up_o (by decide) ?_)) <;> assumption) (vp_in_nI (by omega) (by omega)) ?_ | refine px_zast (pc' := 30) dX6_append_29 rfl (by first | assumption | (repeat (first | exact pm_up_e rfl | refine pm_up_o (by decide) ?_)) <;> assumption) (vp_in_nI (by omega) (by omega)) ?_
  refine px_aload_n (i := 0) (pc' := 31) dX6_append_30 rfl rfl rfl ?_
  refine px_dup (pc' := 32) dX6_append_31 rfl rfl ?_
  refine pi_geti (pc' := 35) fl_6_15 dX6_append_32 rfl (by repeat (first | assumption | refine pm_I.up ?_ rfl | refine pm_I.uf ?_ rfl)) rfl (by first | assumption | (repeat (first | exact pm_uf_e rfl | refine pm_uf_o (by decide) ?_)) <;> assumption) ?_
  refine px_iconst (v := 1) (pc' := 36) dX6_append_35 rfl (by decide) ?_
  refine px_iadd (pc' := 37) dX6_append_36 rfl ?_
  refine pi_puti (pc' := 40) fi_6_15 dX6_append_37 rfl (by repeat (first | assumption | refine pm_I.up ?_ rfl | refine pm_I.uf ?_ rfl)) rfl ?_
  refine sx_inc_3_2 (w := -8) (pc' := 43) dX6_append_40 rfl rfl (by decide) rfl ?_
  refine px_goto (tgt := 3) dX6_append_43 (by decide) ?_
  rw [nI_1, hc 3 (by omega), show (0 : Int32) + -8 = -8 from by decide]
  refine px_iload_n (i := 2) (pc' := 4) dX6_append_3 rfl rfl rfl ?_
  refine px_if_lt (tgt := 46) (pc' := 7) dX6_append_4 (by decide) rfl (fun _ => ?_) (fun q_ => absurd (by decide) q_)
  rw [pm_up_up, pm_up_up, pm_up_up, pm_uf_uf, pm_uf_uf, pm_uf_uf]
  exact px_vret dX6_append_46 rfl rfl (⟨rfl, rfl, rfl⟩)
/-- the fault of the readings of a stage at a height, of the first n readings -/
def m_fa (ra rv : Nat → Int32) (s hh : Int) : Nat → Int
  | 0 => 0
  | n + 1 => m_fa ra rv s hh n + if (ra n).toInt = s then (((rv n).toInt - hh).natAbs : Int) else 0
theorem m_fa_bd {ra rv : Nat → Int32} {s hh : Int} : ∀ n : Nat, (∀ i, i < n → 0 ≤ (rv i).toInt ∧ (rv i).toInt ≤ 255) → 0 ≤ hh → hh ≤ 255 → 0 ≤ m_fa ra rv s hh n ∧ m_fa ra rv s hh n ≤ 255 * n
  | 0, _, _, _ => ⟨Int.le_refl _, by simp [m_fa]⟩
  | n + 1, hv, h1, h2 => by
    have ih := m_fa_bd (ra := ra) (s := s) n (fun i hi => hv i (by omega)) h1 h2
    have := hv n (by omega)
    unfold m_fa
    split <;> omega
theorem c_faultAt {n : Nat} {s hh : Int32} {ra rv : Nat → Int32} (I : pm_I h g) (e : g 6 5 = .int (nI n)) (hn : n ≤ 40) (e1 : h 9 = pm_ia 0 40 rv) (e2 : h 10 = pm_ia 0 40 ra) (hv : ∀ i, i < n → 0 ≤ (rv i).toInt ∧ (rv i).toInt ≤ 255) (hb : -1 ≤ hh.toInt ∧ hh.toInt ≤ 255) :
    pm_Met G mX5_faultAt [.ref 6, .int s, .int hh] z z h g (pm_q (.int (if hh.toInt = -1 then 0 else iZ (m_fa ra rv s.toInt hh.toInt n))) h g) := by
  have l1 : (-1 : Int32).toInt = -1 := by decide
  refine enX5_faultAt pm_le.rf ?_
  refine px_iload_n (i := 2) (pc' := 1) dX5_faultAt_0 rfl rfl rfl ?_
  refine px_iconst (v := -1) (pc' := 2) dX5_faultAt_1 rfl (by decide) ?_
  refine px_icmp_ne (tgt := 7) (pc' := 5) dX5_faultAt_2 (by decide) rfl (fun q => ?_) (fun q => ?_)
  rotate_left
  · rw [i_eq, l1] at q
    refine px_iconst (v := 0) (pc' := 6) dX5_faultAt_5 rfl (by decide) ?_
    exact px_iret dX5_faultAt_6 rfl rfl (⟨by rw [if_pos (by omega)], rfl, rfl⟩)
  rw [i_eq, l1] at q
  have hh0 : 0 ≤ hh.toInt := by omega
  refine px_iconst (v := 0) (pc' := 8) dX5_faultAt_7 rfl (by decide) ?_
  refine sx_i_n_5_3 (pc' := 9) dX5_faultAt_8 rfl rfl rfl rfl ?_
  refine px_iconst (v := 0) (pc' := 10) dX5_faultAt_9 rfl (by decide) ?_
  refine sx_i_5_4 (pc' := 12) dX5_faultAt_10 rfl rfl rfl ?_
  have loop : ∀ k i : Nat, i + k = n → pm_W G mX5_faultAt z (pm_Φ G z (pm_q (.int (if hh.toInt = -1 then 0 else iZ (m_fa ra rv s.toInt hh.toInt n))) h g)) 12 [.ref 6, .int s, .int hh, .int (iZ (m_fa ra rv s.toInt hh.toInt i)), .int (nI i)] [] z h g := by
    intro k
    induction k with
    | zero =>
      intro i hi
      have : i = n := by omega
      subst this
      refine px_iload (i := 4) (pc' := 14) dX5_faultAt_12 rfl rfl ?_
      refine px_aload_n (i := 0) (pc' := 15) dX5_faultAt_14 rfl rfl rfl ?_
      refine pi_geti (pc' := 18) fl_5_28 dX5_faultAt_15 rfl (by repeat (first | assumption | refine pm_I.up ?_ rfl | refine pm_I.uf ?_ rfl)) rfl (by first | assumption | (repeat (first | exact pm_uf_e rfl | refine pm_uf_o (by decide) ?_)) <;> assumption) ?_
      refine px_icmp_ge (tgt := 53) (pc' := 21) dX5_faultAt_18 (by decide) rfl (fun _ => ?_) (fun q_ => absurd (nI_le (Nat.le_refl _) (by omega)) q_)
      refine px_iload_n (i := 3) (pc' := 54) dX5_faultAt_53 rfl rfl rfl ?_
      exact px_iret dX5_faultAt_54 rfl rfl (⟨by rw [if_neg q], rfl, rfl⟩)
    | succ k ih =>
      intro i hi
      have hc : (nI i).toNatClampNeg = i := nI_clamp (by omega)
      have hvi := hv i (by omega)
      have hbd := m_fa_bd (ra := ra) (rv := rv) (s := s.toInt) (hh := hh.toInt) i (fun j hj => hv j (by omega)) hh0 hb.2
      refine px_iload (i := 4) (pc' := 14) dX5_faultAt_12 rfl rfl ?_
      refine px_aload_n (i := 0) (pc' := 15) dX5_faultAt_14 rfl rfl rfl ?_
      refine pi_geti (pc' := 18) fl_5_28 dX5_faultAt_15 rfl (by repeat (first | assumption | refine pm_I.up ?_ rfl | refine pm_I.uf ?_ rfl)) rfl (by first | assumption | (repeat (first | exact pm_uf_e rfl | refine pm_uf_o (by decide) ?_)) <;> assumption) ?_
      refine px_icmp_ge (tgt := 53) (pc' := 21) dX5_faultAt_18 (by decide) rfl (fun q_ => absurd q_ (nI_ge (by omega) (by omega))) (fun _ => ?_)
      refine px_aload_n (i := 0) (pc' := 22) dX5_faultAt_21 rfl rfl rfl ?_
      refine pi_getr (pc' := 25) fl_5_21 dX5_faultAt_22 rfl (by repeat (first | assumption | refine pm_I.up ?_ rfl | refine pm_I.uf ?_ rfl)) rfl rfl ?_
      refine px_iload (i := 4) (pc' := 27) dX5_faultAt_25 rfl rfl ?_
      refine px_iald (pc' := 28) dX5_faultAt_27 rfl (by first | assumption | (repeat (first | exact pm_up_e rfl | refine pm_up_o (by decide) ?_)) <;> assumption) (vp_in_nI (by omega) (by omega)) ?_
      refine px_iload_n (i := 1) (pc' := 29) dX5_faultAt_28 rfl rfl rfl ?_
      rw [hc]
      refine px_icmp_ne (tgt := 47) (pc' := 32) dX5_faultAt_29 (by decide) rfl (fun q2 => ?_) (fun q2 => ?_)
      · rw [i_eq] at q2
        refine sx_inc_5_4 (w := 1) (pc' := 50) dX5_faultAt_47 rfl rfl (by decide) rfl ?_
        refine px_goto (tgt := 12) dX5_faultAt_50 (by decide) ?_
        rw [nI_1]
        have := ih (i + 1) (by omega)
        rw [m_fa, if_neg q2, Int.add_zero] at this
        exact this
      · rw [i_eq] at q2
        refine px_iload_n (i := 3) (pc' := 33) dX5_faultAt_32 rfl rfl rfl ?_
        refine px_aload_n (i := 0) (pc' := 34) dX5_faultAt_33 rfl rfl rfl ?_
        refine pi_getr (pc' := 37) fl_5_18 dX5_faultAt_34 rfl (by repeat (first | assumption | refine pm_I.up ?_ rfl | refine pm_I.uf ?_ rfl)) rfl rfl ?_
        refine px_iload (i := 4) (pc' := 39) dX5_faultAt_37 rfl rfl ?_
        refine px_iald (pc' := 40) dX5_faultAt_39 rfl (by first | assumption | (repeat (first | exact pm_up_e rfl | refine pm_up_o (by decide) ?_)) <;> assumption) (vp_in_nI (by omega) (by omega)) ?_
        refine px_iload_n (i := 2) (pc' := 41) dX5_faultAt_40 rfl rfl rfl ?_
        refine px_isub (pc' := 42) dX5_faultAt_41 rfl ?_
        refine px_mabs (pc' := 45) ml_X5_34 wd_abs_s wd_ini_math wd_abs_c dX5_faultAt_42 rfl (Nat.le_of_ble_eq_true rfl) (Nat.le_of_ble_eq_true rfl) ?_
        refine px_iadd (pc' := 46) dX5_faultAt_45 rfl ?_
        refine sx_i_n_5_3 (pc' := 47) dX5_faultAt_46 rfl rfl rfl rfl ?_
        refine sx_inc_5_4 (w := 1) (pc' := 50) dX5_faultAt_47 rfl rfl (by decide) rfl ?_
        refine px_goto (tgt := 12) dX5_faultAt_50 (by decide) ?_
        rw [nI_1, hc]
        have := ih (i + 1) (by omega)
        rw [m_fa, if_pos q2] at this
        have es : (rv i - hh).toInt = (rv i).toInt - hh.toInt := i_sub (by omega) (by omega)
        have ea := i_abs (x := rv i - hh) (by omega)
        rw [← iZ_i (if 0 ≤ rv i - hh then rv i - hh else 0 - (rv i - hh)), ea, es, iZ_add]
        exact this
  exact loop n 0 (by omega)
end LEAF
