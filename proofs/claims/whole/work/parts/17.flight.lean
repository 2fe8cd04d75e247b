/-! Flight: object 15, shares 16, moved 17 -/
theorem l64_1 : (1 : Int64) = lN 1 := by decide
theorem l64_0 : (0 : Int64) = lN 0 := by decide
theorem lc_le0 {n : Nat} (h : n < 2 ^ 63) : lg_cmp (lN n) 0 ≤ 0 ↔ n = 0 := by
  rw [lg_cmp_le, l64_0, pk_lLE h (by omega)]
  omega
theorem lc_le {a b : Nat} (ha : a < 2 ^ 63) (hb : b < 2 ^ 63) : lg_cmp (lN a) (lN b) ≤ 0 ↔ a ≤ b := by
  rw [lg_cmp_le, pk_lLE ha hb]
section FL
variable {G : pm_G} {z : pm_z} {h : pm_h} {g : pm_g}
theorem c_losses {v : Int32} (I : pm_I h g) (e : g 15 5 = .int v) : pm_Met G mX1_losses [.ref 15] z z h g (pm_q (.int v) h g) := by
  refine enX1_losses pm_le.rf ?_
  refine px_aload_n (i := 0) (pc' := 1) dX1_losses_0 rfl rfl rfl ?_
  refine pi_geti (pc' := 4) fl_1_18 dX1_losses_1 rfl (by repeat (first | assumption | refine pm_I.up ?_ rfl | refine pm_I.uf ?_ rfl)) rfl (by first | assumption | (repeat (first | exact pm_uf_e rfl | refine pm_uf_o (by decide) ?_)) <;> assumption) ?_
  exact px_iret dX1_losses_4 rfl rfl (⟨rfl, rfl, rfl⟩)
theorem c_forgetLosses (I : pm_I h g) : pm_Met G mX1_forgetLosses [.ref 15] z z h g (pm_qv h (pm_uf g 15 5 (.int 0))) := by
  refine enX1_forgetLosses pm_le.rf ?_
  refine px_aload_n (i := 0) (pc' := 1) dX1_forgetLosses_0 rfl rfl rfl ?_
  refine px_iconst (v := 0) (pc' := 2) dX1_forgetLosses_1 rfl (by decide) ?_
  refine pi_puti (pc' := 5) fi_1_18 dX1_forgetLosses_2 rfl (by repeat (first | assumption | refine pm_I.up ?_ rfl | refine pm_I.uf ?_ rfl)) rfl ?_
  exact px_vret dX1_forgetLosses_5 rfl rfl (⟨rfl, rfl, rfl⟩)
theorem c_shareOf {c : Nat} {f : Nat → Int64} (I : pm_I h g) (e : h 16 = pm_la 144 f) (hc : c < 144) : pm_Met G mX1_shareOf [.ref 15, .int (nI c)] z z h g (pm_q (.long (f c)) h g) := by
  have hcl : (nI c).toNatClampNeg = c := nI_clamp (by omega)
  refine enX1_shareOf pm_le.rf ?_
  refine px_iload_n (i := 1) (pc' := 1) dX1_shareOf_0 rfl rfl rfl ?_
  refine px_if_lt (tgt := 20) (pc' := 4) dX1_shareOf_1 (by decide) rfl (fun q_ => absurd q_ (nI_pos (by omega))) (fun _ => ?_)
  refine px_iload_n (i := 1) (pc' := 5) dX1_shareOf_4 rfl rfl rfl ?_
  refine px_sipush (v := 144) (pc' := 8) dX1_shareOf_5 rfl (by decide) ?_
  refine px_icmp_ge (tgt := 20) (pc' := 11) dX1_shareOf_8 (by decide) rfl (fun q_ => absurd q_ (nI_ge (b := 144) hc (by omega))) (fun _ => ?_)
  refine px_aload_n (i := 0) (pc' := 12) dX1_shareOf_11 rfl rfl rfl ?_
  refine pi_getr (pc' := 15) fl_1_9 dX1_shareOf_12 rfl (by repeat (first | assumption | refine pm_I.up ?_ rfl | refine pm_I.uf ?_ rfl)) rfl rfl ?_
  refine px_iload_n (i := 1) (pc' := 16) dX1_shareOf_15 rfl rfl rfl ?_
  refine px_lald (pc' := 17) dX1_shareOf_16 rfl (by first | assumption | (repeat (first | exact pm_up_e rfl | refine pm_up_o (by decide) ?_)) <;> assumption) (vp_in_nI hc (by omega)) ?_
  refine px_goto (tgt := 21) dX1_shareOf_17 (by decide) ?_
  rw [hcl]
  exact px_lret dX1_shareOf_21 rfl rfl (⟨rfl, rfl, rfl⟩)
def m_rst (g : pm_g) (c : Int32) : pm_g := pm_uf (pm_uf (pm_uf g 6 4 (.int 0)) 6 5 (.int 0)) 6 6 (.int c)
theorem c_start {w d : Nat} {o : Int32} {f : Nat → Int64} (I : pm_I h g) (e1 : g 3 1 = .int (nI w)) (e2 : g 3 2 = .int (nI d)) (hw : w ≤ 12) (hd : d ≤ 12) (e : h 16 = pm_la 144 f) :
    pm_Met G mX1_start [.ref 15, .int o] z z h g (pm_qv (pm_up h 16 (pm_la 144 (m_L (m_init (w * d) o)))) (m_rst g o)) := by
  have hwd := m_wd hw hd
  refine enX1_start pm_le.rf ?_
  refine px_aload_n (i := 0) (pc' := 1) dX1_start_0 rfl rfl rfl ?_
  refine pi_getr (pc' := 4) fl_1_30 dX1_start_1 rfl (by repeat (first | assumption | refine pm_I.up ?_ rfl | refine pm_I.uf ?_ rfl)) rfl rfl ?_
  refine px_iload_n (i := 1) (pc' := 5) dX1_start_4 rfl rfl rfl ?_
  refine pi_callV (pc' := 8) (c_restart I) okX5_restart ivX5_restart ml_X1_34 ⟨Nat.le_of_ble_eq_true rfl, Nat.le_of_ble_eq_true rfl⟩ dX1_start_5 rfl rfl rfl (Nat.le_of_ble_eq_true rfl) (by repeat (first | assumption | refine pm_I.up ?_ rfl | refine pm_I.uf ?_ rfl)) rfl cl_5 pm_le.rf pm_le.rf ?_
  rintro _ _ _ ⟨rfl, rfl, rfl⟩
  refine px_iconst (v := 0) (pc' := 9) dX1_start_8 rfl (by decide) ?_
  refine sx_i_n_3_2 (pc' := 10) dX1_start_9 rfl rfl rfl rfl ?_
  have I' : pm_I h (m_rst g o) := by unfold m_rst; exact (by repeat (first | assumption | refine pm_I.up ?_ rfl | refine pm_I.uf ?_ rfl))
  have e1' : m_rst g o 3 1 = .int (nI w) := by unfold m_rst; exact (by first | assumption | (repeat (first | exact pm_uf_e rfl | refine pm_uf_o (by decide) ?_)) <;> assumption)
  have e2' : m_rst g o 3 2 = .int (nI d) := by unfold m_rst; exact (by first | assumption | (repeat (first | exact pm_uf_e rfl | refine pm_uf_o (by decide) ?_)) <;> assumption)
  show pm_W G mX1_start z _ 10 _ _ z h (m_rst g o)
  have loop : ∀ k i : Nat, i + k = 144 → pm_W G mX1_start z (pm_Φ G z (pm_qv (pm_up h 16 (pm_la 144 (m_L (m_init (w * d) o)))) (m_rst g o))) 10 [.ref 15, .int o, .int (nI i)] [] z (pm_up h 16 (pm_la 144 (fun j => if j < i then m_L (m_init (w * d) o) j else f j))) (m_rst g o) := by
    intro k
    induction k with
    | zero =>
      intro i hi
      have : i = 144 := by omega
      subst this
      refine px_iload_n (i := 2) (pc' := 11) dX1_start_10 rfl rfl rfl ?_
      refine px_sipush (v := 144) (pc' := 14) dX1_start_11 rfl (by decide) ?_
      refine px_icmp_ge (tgt := 55) (pc' := 17) dX1_start_14 (by decide) rfl (fun _ => ?_) (fun q_ => absurd (nI_le (a := 144) (by omega) (by omega)) q_)
      refine px_extl (a := 16) (by first | assumption | (repeat (first | exact pm_up_e rfl | refine pm_up_o (by decide) ?_)) <;> assumption) (f' := m_L (m_init (w * d) o)) (fun j hj => if_pos hj) ?_
      rw [pm_up_up]
      exact px_vret dX1_start_55 rfl rfl (⟨rfl, rfl, rfl⟩)
    | succ k ih =>
      intro i hi
      have hc : (nI i).toNatClampNeg = i := nI_clamp (by omega)
      have hci : (nI i).toInt = i := nI_toInt (by omega)
      have fin : ∀ x : Int64, x = m_L (m_init (w * d) o) i → pm_W G mX1_start z (pm_Φ G z (pm_qv (pm_up h 16 (pm_la 144 (m_L (m_init (w * d) o)))) (m_rst g o))) 48 [.ref 15, .int o, .int (nI i)] [.long x, .int (nI i), .ref 16] z (pm_up h 16 (pm_la 144 (fun j => if j < i then m_L (m_init (w * d) o) j else f j))) (m_rst g o) := by
        intro x hx
        refine px_last (pc' := 49) dX1_start_48 rfl (by first | assumption | (repeat (first | exact pm_up_e rfl | refine pm_up_o (by decide) ?_)) <;> assumption) (vp_in_nI (by omega) (by omega)) ?_
        refine sx_inc_3_2 (w := 1) (pc' := 52) dX1_start_49 rfl rfl (by decide) rfl ?_
        refine px_goto (tgt := 10) dX1_start_52 (by decide) ?_
        rw [nI_1, pm_up_up, hc, updL_fill hx]
        exact ih (i + 1) (by omega)
      refine px_iload_n (i := 2) (pc' := 11) dX1_start_10 rfl rfl rfl ?_
      refine px_sipush (v := 144) (pc' := 14) dX1_start_11 rfl (by decide) ?_
      refine px_icmp_ge (tgt := 55) (pc' := 17) dX1_start_14 (by decide) rfl (fun q_ => absurd q_ (nI_ge (b := 144) (by omega) (by omega))) (fun _ => ?_)
      refine px_aload_n (i := 0) (pc' := 18) dX1_start_17 rfl rfl rfl ?_
      refine pi_getr (pc' := 21) fl_1_9 dX1_start_18 rfl (by repeat (first | assumption | refine pm_I.up ?_ rfl | refine pm_I.uf ?_ rfl)) rfl rfl ?_
      refine px_iload_n (i := 2) (pc' := 22) dX1_start_21 rfl rfl rfl ?_
      refine px_aload_n (i := 0) (pc' := 23) dX1_start_22 rfl rfl rfl ?_
      refine pi_getr (pc' := 26) fl_1_22 dX1_start_23 rfl (by repeat (first | assumption | refine pm_I.up ?_ rfl | refine pm_I.uf ?_ rfl)) rfl rfl ?_
      refine px_iload_n (i := 2) (pc' := 27) dX1_start_26 rfl rfl rfl ?_
      refine pi_callV (pc' := 30) (c_has (by repeat (first | assumption | refine pm_I.up ?_ rfl | refine pm_I.uf ?_ rfl)) e1' e2' hw hd) okX3_has ivX3_has ml_X1_40 ⟨Nat.le_of_ble_eq_true rfl, Nat.le_of_ble_eq_true rfl⟩ dX1_start_27 rfl rfl rfl (Nat.le_of_ble_eq_true rfl) (by repeat (first | assumption | refine pm_I.up ?_ rfl | refine pm_I.uf ?_ rfl)) rfl cl_3 pm_le.rf pm_le.rf ?_
      rintro _ _ _ ⟨rfl, rfl, rfl⟩
      refine px_if_eq (tgt := 47) (pc' := 33) dX1_start_30 (by decide) rfl (fun q => ?_) (fun q => ?_)
      · rw [b_0, hci] at q
        refine px_lconst (v := 0) (pc' := 48) dX1_start_47 rfl (by decide) ?_
        refine fin _ ?_
        show (0 : Int64) = lN (m_init (w * d) o i)
        rw [m_init, if_neg (by omega)]
        exact l64_0
      rw [b_n0, hci] at q
      refine px_iload_n (i := 1) (pc' := 34) dX1_start_33 rfl rfl rfl ?_
      refine px_iconst (v := -1) (pc' := 35) dX1_start_34 rfl (by decide) ?_
      refine px_icmp_eq (tgt := 43) (pc' := 38) dX1_start_35 (by decide) rfl (fun q2 => ?_) (fun q2 => ?_)
      · refine px_lconst (v := 1) (pc' := 44) dX1_start_43 rfl (by decide) ?_
        refine px_goto (tgt := 48) dX1_start_44 (by decide) ?_
        refine fin _ ?_
        show (1 : Int64) = lN (m_init (w * d) o i)
        rw [m_init, if_pos ⟨by omega, Or.inl q2⟩]
        exact l64_1
      refine px_iload_n (i := 2) (pc' := 39) dX1_start_38 rfl rfl rfl ?_
      refine px_iload_n (i := 1) (pc' := 40) dX1_start_39 rfl rfl rfl ?_
      refine px_icmp_ne (tgt := 47) (pc' := 43) dX1_start_40 (by decide) rfl (fun q3 => ?_) (fun q3 => ?_)
      · refine px_lconst (v := 0) (pc' := 48) dX1_start_47 rfl (by decide) ?_
        refine fin _ ?_
        show (0 : Int64) = lN (m_init (w * d) o i)
        rw [m_init, if_neg (fun hh => hh.2.elim q2 q3)]
        exact l64_0
      · refine px_lconst (v := 1) (pc' := 44) dX1_start_43 rfl (by decide) ?_
        refine px_goto (tgt := 48) dX1_start_44 (by decide) ?_
        refine fin _ ?_
        show (1 : Int64) = lN (m_init (w * d) o i)
        rw [m_init, if_pos ⟨by omega, Or.inr q3⟩]
        exact l64_1
  have := loop 144 0 rfl
  rw [fill_0, pm_up_self e] at this
  exact this
theorem c_clearMoved {f : Nat → Int64} (I : pm_I h g) (e : h 17 = pm_la 144 f) : pm_Met G mX1_clearMoved [.ref 15] z z h g (pm_qv (pm_up h 17 (pm_la 144 (m_L (fun _ => 0)))) g) := by
  refine enX1_clearMoved pm_le.rf ?_
  refine px_iconst (v := 0) (pc' := 1) dX1_clearMoved_0 rfl (by decide) ?_
  refine sx_i_n_2_1 (pc' := 2) dX1_clearMoved_1 rfl rfl rfl rfl ?_
  have loop : ∀ k i : Nat, i + k = 144 → pm_W G mX1_clearMoved z (pm_Φ G z (pm_qv (pm_up h 17 (pm_la 144 (m_L (fun _ => 0)))) g)) 2 [.ref 15, .int (nI i)] [] z (pm_up h 17 (pm_la 144 (fun j => if j < i then m_L (fun _ => 0) j else f j))) g := by
    intro k
    induction k with
    | zero =>
      intro i hi
      have : i = 144 := by omega
      subst this
      refine px_iload_n (i := 1) (pc' := 3) dX1_clearMoved_2 rfl rfl rfl ?_
      refine px_sipush (v := 144) (pc' := 6) dX1_clearMoved_3 rfl (by decide) ?_
      refine px_icmp_ge (tgt := 22) (pc' := 9) dX1_clearMoved_6 (by decide) rfl (fun _ => ?_) (fun q_ => absurd (nI_le (a := 144) (by omega) (by omega)) q_)
      refine px_extl (a := 17) (by first | assumption | (repeat (first | exact pm_up_e rfl | refine pm_up_o (by decide) ?_)) <;> assumption) (f' := m_L (fun _ => 0)) (fun j hj => if_pos hj) ?_
      rw [pm_up_up]
      exact px_vret dX1_clearMoved_22 rfl rfl (⟨rfl, rfl, rfl⟩)
    | succ k ih =>
      intro i hi
      have hc : (nI i).toNatClampNeg = i := nI_clamp (by omega)
      refine px_iload_n (i := 1) (pc' := 3) dX1_clearMoved_2 rfl rfl rfl ?_
      refine px_sipush (v := 144) (pc' := 6) dX1_clearMoved_3 rfl (by decide) ?_
      refine px_icmp_ge (tgt := 22) (pc' := 9) dX1_clearMoved_6 (by decide) rfl (fun q_ => absurd q_ (nI_ge (b := 144) (by omega) (by omega))) (fun _ => ?_)
      refine px_aload_n (i := 0) (pc' := 10) dX1_clearMoved_9 rfl rfl rfl ?_
      refine pi_getr (pc' := 13) fl_1_15 dX1_clearMoved_10 rfl (by repeat (first | assumption | refine pm_I.up ?_ rfl | refine pm_I.uf ?_ rfl)) rfl rfl ?_
      refine px_iload_n (i := 1) (pc' := 14) dX1_clearMoved_13 rfl rfl rfl ?_
      refine px_lconst (v := 0) (pc' := 15) dX1_clearMoved_14 rfl (by decide) ?_
      refine px_last (pc' := 16) dX1_clearMoved_15 rfl (by first | assumption | (repeat (first | exact pm_up_e rfl | refine pm_up_o (by decide) ?_)) <;> assumption) (vp_in_nI (by omega) (by omega)) ?_
      refine sx_inc_2_1 (w := 1) (pc' := 19) dX1_clearMoved_16 rfl rfl (by decide) rfl ?_
      refine px_goto (tgt := 2) dX1_clearMoved_19 (by decide) ?_
      rw [nI_1, pm_up_up, hc, updL_fill (a := m_L (fun _ => 0)) (i := i) l64_0]
      exact ih (i + 1) (by omega)
  have := loop 144 0 rfl
  rw [fill_0, pm_up_self e] at this
  exact this
theorem c_spread {w d w0 w1 s : Nat} {X Y : Int32} {F : Nat → Nat} (I : pm_I h g) (e1 : g 3 1 = .int (nI w)) (e2 : g 3 2 = .int (nI d)) (hw : w ≤ 12) (hd : d ≤ 12) (e3 : g 5 1 = .int (nI w0)) (e4 : g 5 2 = .int (nI w1)) (h0 : w0 ≤ 3) (h1 : w1 ≤ 3) (hX : -100 ≤ X.toInt ∧ X.toInt ≤ 100) (hY : -100 ≤ Y.toInt ∧ Y.toInt ≤ 100) (e : h 17 = pm_la 144 (m_L F)) :
    pm_Met G mX1_spread [.ref 15, .long (lN s), .int X, .int Y] z z h g (pm_qv (pm_up h 17 (pm_la 144 (m_L (m_ou w d w0 w1 s X.toInt Y.toInt F 3)))) g) := by
  have hwd := m_wd hw hd
  refine enX1_spread pm_le.rf ?_
  refine px_iconst (v := -1) (pc' := 1) dX1_spread_0 rfl (by decide) ?_
  refine sx_i_8_5 (pc' := 3) dX1_spread_1 rfl rfl rfl ?_
  have zt : ∀ i : Nat, i ≤ 3 → (iZ ((i : Int) - 1)).toInt = (i : Int) - 1 := fun i hi => iZ_t (by omega) (by omega)
  have z0 : ∀ i : Nat, i ≤ 3 → (iZ ((i : Int) - 1) = 0 ↔ (i : Int) - 1 = 0) := fun i hi => by rw [i_eq, zt i hi, i_0]
  have outer : ∀ k j : Nat, j + k = 3 → ∀ v6 v7 : Value, v6.category = 1 → v7.category = 1 → pm_W G mX1_spread z (pm_Φ G z (pm_qv (pm_up h 17 (pm_la 144 (m_L (m_ou w d w0 w1 s X.toInt Y.toInt F 3)))) g)) 3 [.ref 15, .long (lN s), pm_u, .int X, .int Y, .int (iZ ((j : Int) - 1)), v6, v7] [] z (pm_up h 17 (pm_la 144 (m_L (m_ou w d w0 w1 s X.toInt Y.toInt F j)))) g := by
    intro k
    induction k with
    | zero =>
      intro j hj v6 v7 c6 c7
      have : j = 3 := by omega
      subst this
      refine px_iload (i := 5) (pc' := 5) dX1_spread_3 rfl rfl ?_
      refine px_iconst (v := 1) (pc' := 6) dX1_spread_5 rfl (by decide) ?_
      refine px_icmp_gt (tgt := 85) (pc' := 9) dX1_spread_6 (by decide) rfl (fun _ => ?_) (fun q_ => absurd (by rw [i_lt, zt 3 (by omega), l_1]; omega) q_)
      exact px_vret dX1_spread_85 rfl rfl (⟨rfl, rfl, rfl⟩)
    | succ k ih =>
      intro j hj v6 v7 c6 c7
      refine px_iload (i := 5) (pc' := 5) dX1_spread_3 rfl rfl ?_
      refine px_iconst (v := 1) (pc' := 6) dX1_spread_5 rfl (by decide) ?_
      refine px_icmp_gt (tgt := 85) (pc' := 9) dX1_spread_6 (by decide) rfl (fun q_ => absurd q_ (by rw [i_lt, zt j (by omega), l_1]; omega)) (fun _ => ?_)
      refine px_iconst (v := -1) (pc' := 10) dX1_spread_9 rfl (by decide) ?_
      refine sx_i_8_6 (pc' := 12) dX1_spread_10 rfl rfl rfl ?_
      have inner : ∀ k2 i : Nat, i + k2 = 3 → ∀ v7 : Value, v7.category = 1 → pm_W G mX1_spread z (pm_Φ G z (pm_qv (pm_up h 17 (pm_la 144 (m_L (m_ou w d w0 w1 s X.toInt Y.toInt F 3)))) g)) 12 [.ref 15, .long (lN s), pm_u, .int X, .int Y, .int (iZ ((j : Int) - 1)), .int (iZ ((i : Int) - 1)), v7] [] z (pm_up h 17 (pm_la 144 (m_L (m_in w d w0 w1 s X.toInt Y.toInt ((j : Int) - 1) (m_ou w d w0 w1 s X.toInt Y.toInt F j) i)))) g := by
        intro k2
        induction k2 with
        | zero =>
          intro i hi v7 c7
          have : i = 3 := by omega
          subst this
          refine px_iload (i := 6) (pc' := 14) dX1_spread_12 rfl rfl ?_
          refine px_iconst (v := 1) (pc' := 15) dX1_spread_14 rfl (by decide) ?_
          refine px_icmp_gt (tgt := 79) (pc' := 18) dX1_spread_15 (by decide) rfl (fun _ => ?_) (fun q_ => absurd (by rw [i_lt, zt 3 (by omega), l_1]; omega) q_)
          refine sx_inc_8_5 (w := 1) (pc' := 82) dX1_spread_79 rfl rfl (by decide) rfl ?_
          refine px_goto (tgt := 3) dX1_spread_82 (by decide) ?_
          have e5 : iZ ((j : Int) - 1) + 1 = iZ (((j + 1 : Nat) : Int) - 1) := by
            rw [show (1 : Int32) = iZ 1 from rfl, iZ_add]
            congr 1
            omega
          rw [e5]
          exact ih (j + 1) (by omega) _ _ rfl c7
        | succ k2 ih2 =>
          intro i hi v7 c7
          have e5 : iZ ((i : Int) - 1) + 1 = iZ (((i + 1 : Nat) : Int) - 1) := by
            rw [show (1 : Int32) = iZ 1 from rfl, iZ_add]
            congr 1
            omega
          have ex : (X + iZ ((i : Int) - 1)).toInt = X.toInt + ((i : Int) - 1) := by
            rw [i_add (by rw [zt i (by omega)]; omega) (by rw [zt i (by omega)]; omega), zt i (by omega)]
          have ey : (Y + iZ ((j : Int) - 1)).toInt = Y.toInt + ((j : Int) - 1) := by
            rw [i_add (by rw [zt j (by omega)]; omega) (by rw [zt j (by omega)]; omega), zt j (by omega)]
          refine px_iload (i := 6) (pc' := 14) dX1_spread_12 rfl rfl ?_
          refine px_iconst (v := 1) (pc' := 15) dX1_spread_14 rfl (by decide) ?_
          refine px_icmp_gt (tgt := 79) (pc' := 18) dX1_spread_15 (by decide) rfl (fun q_ => absurd q_ (by rw [i_lt, zt i (by omega), l_1]; omega)) (fun _ => ?_)
          refine px_aload_n (i := 0) (pc' := 19) dX1_spread_18 rfl rfl rfl ?_
          refine pi_getr (pc' := 22) fl_1_22 dX1_spread_19 rfl (by repeat (first | assumption | refine pm_I.up ?_ rfl | refine pm_I.uf ?_ rfl)) rfl rfl ?_
          refine px_iload_n (i := 3) (pc' := 23) dX1_spread_22 rfl rfl rfl ?_
          refine px_iload (i := 6) (pc' := 25) dX1_spread_23 rfl rfl ?_
          refine px_iadd (pc' := 26) dX1_spread_25 rfl ?_
          refine px_iload (i := 4) (pc' := 28) dX1_spread_26 rfl rfl ?_
          refine px_iload (i := 5) (pc' := 30) dX1_spread_28 rfl rfl ?_
          refine px_iadd (pc' := 31) dX1_spread_30 rfl ?_
          refine pi_callV (pc' := 34) (c_cellAt (by repeat (first | assumption | refine pm_I.up ?_ rfl | refine pm_I.uf ?_ rfl)) (by first | assumption | (repeat (first | exact pm_uf_e rfl | refine pm_uf_o (by decide) ?_)) <;> assumption) (by first | assumption | (repeat (first | exact pm_uf_e rfl | refine pm_uf_o (by decide) ?_)) <;> assumption) hw hd) okX3_cellAt ivX3_cellAt ml_X1_56 ⟨Nat.le_of_ble_eq_true rfl, Nat.le_of_ble_eq_true rfl⟩ dX1_spread_31 rfl rfl rfl (Nat.le_of_ble_eq_true rfl) (by repeat (first | assumption | refine pm_I.up ?_ rfl | refine pm_I.uf ?_ rfl)) rfl cl_3 pm_le.rf pm_le.rf ?_
          rintro _ _ _ ⟨rfl, rfl, rfl⟩
          refine sx_i_8_7 (pc' := 36) dX1_spread_34 rfl rfl rfl ?_
          rw [ex, ey]
          have ht := m_off_lt (w := w) (d := d) (X.toInt + ((i : Int) - 1)) (Y.toInt + ((j : Int) - 1))
          have nx := ih2 (i + 1) (by omega) (.int (iZ (m_off w d (X.toInt + ((i : Int) - 1)) (Y.toInt + ((j : Int) - 1))))) rfl
          rw [m_in] at nx
          generalize m_off w d (X.toInt + ((i : Int) - 1)) (Y.toInt + ((j : Int) - 1)) = t at ht nx ⊢
          have tt : (iZ t).toInt = t := iZ_t (by omega) (by omega)
          refine px_iload (i := 7) (pc' := 38) dX1_spread_36 rfl rfl ?_
          refine px_if_lt (tgt := 73) (pc' := 41) dX1_spread_38 (by decide) rfl (fun q => ?_) (fun q => ?_)
          · rw [i_lt, tt, i_0] at q
            refine sx_inc_8_6 (w := 1) (pc' := 76) dX1_spread_73 rfl rfl (by decide) rfl ?_
            refine px_goto (tgt := 12) dX1_spread_76 (by decide) ?_
            rw [e5]
            have : t = -1 := by omega
            subst this
            rw [show m_add (m_in w d w0 w1 s X.toInt Y.toInt ((j : Int) - 1) (m_ou w d w0 w1 s X.toInt Y.toInt F j) i) (-1) (s * m_wt w0 w1 ((i : Int) - 1) ((j : Int) - 1)) = m_in w d w0 w1 s X.toInt Y.toInt ((j : Int) - 1) (m_ou w d w0 w1 s X.toInt Y.toInt F j) i from funext fun x => by unfold m_add; rw [if_neg (by omega)]; rfl] at nx
            exact nx
          · rw [i_lt, tt, i_0] at q
            obtain ⟨tn, rfl⟩ : ∃ tn : Nat, t = tn := ⟨t.toNat, by omega⟩
            have hcl : (iZ (tn : Int)).toNatClampNeg = tn := iZ_clamp (by omega)
            refine px_iload (i := 7) (pc' := 43) dX1_spread_41 rfl rfl ?_
            refine px_sipush (v := 144) (pc' := 46) dX1_spread_43 rfl (by decide) ?_
            refine px_icmp_ge (tgt := 73) (pc' := 49) dX1_spread_46 (by decide) rfl (fun q_ => absurd q_ (by rw [i_le, l_144, tt]; omega)) (fun _ => ?_)
            refine px_aload_n (i := 0) (pc' := 50) dX1_spread_49 rfl rfl rfl ?_
            refine pi_getr (pc' := 53) fl_1_15 dX1_spread_50 rfl (by repeat (first | assumption | refine pm_I.up ?_ rfl | refine pm_I.uf ?_ rfl)) rfl rfl ?_
            refine px_iload (i := 7) (pc' := 55) dX1_spread_53 rfl rfl ?_
            refine px_dup2 (pc' := 56) dX1_spread_55 rfl rfl rfl ?_
            refine px_lald (pc' := 57) dX1_spread_56 rfl (by first | assumption | (repeat (first | exact pm_up_e rfl | refine pm_up_o (by decide) ?_)) <;> assumption) (i_in (by omega) (by omega)) ?_
            refine px_lload_n (i := 1) (pc' := 58) dX1_spread_57 rfl rfl rfl ?_
            refine px_aload_n (i := 0) (pc' := 59) dX1_spread_58 rfl rfl rfl ?_
            refine pi_getr (pc' := 62) fl_1_26 dX1_spread_59 rfl (by repeat (first | assumption | refine pm_I.up ?_ rfl | refine pm_I.uf ?_ rfl)) rfl rfl ?_
            refine px_iload (i := 6) (pc' := 64) dX1_spread_62 rfl rfl ?_
            refine px_iload (i := 5) (pc' := 66) dX1_spread_64 rfl rfl ?_
            refine pi_callV (pc' := 69) (c_weight (by repeat (first | assumption | refine pm_I.up ?_ rfl | refine pm_I.uf ?_ rfl)) (by first | assumption | (repeat (first | exact pm_uf_e rfl | refine pm_uf_o (by decide) ?_)) <;> assumption) (by first | assumption | (repeat (first | exact pm_uf_e rfl | refine pm_uf_o (by decide) ?_)) <;> assumption)) okX2_weight ivX2_weight ml_X1_84 ⟨Nat.le_of_ble_eq_true rfl, Nat.le_of_ble_eq_true rfl⟩ dX1_spread_66 rfl rfl rfl (Nat.le_of_ble_eq_true rfl) (by repeat (first | assumption | refine pm_I.up ?_ rfl | refine pm_I.uf ?_ rfl)) rfl cl_2 pm_le.rf pm_le.rf ?_
            rintro _ _ _ ⟨rfl, rfl, rfl⟩
            refine px_i2l (pc' := 70) dX1_spread_69 rfl ?_
            refine px_lmul (pc' := 71) dX1_spread_70 rfl ?_
            refine px_ladd (pc' := 72) dX1_spread_71 rfl ?_
            refine px_last (pc' := 73) dX1_spread_72 rfl (by first | assumption | (repeat (first | exact pm_up_e rfl | refine pm_up_o (by decide) ?_)) <;> assumption) (i_in (by omega) (by omega)) ?_
            rw [hcl]
            refine sx_inc_8_6 (w := 1) (pc' := 76) dX1_spread_73 rfl rfl (by decide) rfl ?_
            refine px_goto (tgt := 12) dX1_spread_76 (by decide) ?_
            rw [e5, pm_up_up]
            have ew : ((if iZ ((i : Int) - 1) = 0 then nI w0 else nI w1) * (if iZ ((j : Int) - 1) = 0 then nI w0 else nI w1)).toInt64 = lN (m_wt w0 w1 ((i : Int) - 1) ((j : Int) - 1)) := by
              simp only [z0 i (by omega), z0 j (by omega)]
              unfold m_wt
              have hm : ∀ a b : Nat, a ≤ 3 → b ≤ 3 → (nI a * nI b).toInt64 = lN (a * b) := fun a b ha hb => by
                rw [pk_mul]
                have : a * b ≤ 3 * 3 := Nat.mul_le_mul ha hb
                exact nI_l (by omega)
              split <;> split <;> exact hm _ _ (by omega) (by omega)
            rw [ew, show m_L (m_in w d w0 w1 s X.toInt Y.toInt ((j : Int) - 1) (m_ou w d w0 w1 s X.toInt Y.toInt F j) i) tn = lN (m_in w d w0 w1 s X.toInt Y.toInt ((j : Int) - 1) (m_ou w d w0 w1 s X.toInt Y.toInt F j) i tn) from rfl, lN_mul, lN_add, m_L_upd]
            have ef : (fun j_1 => if j_1 = tn then m_in w d w0 w1 s X.toInt Y.toInt ((j : Int) - 1) (m_ou w d w0 w1 s X.toInt Y.toInt F j) i tn + s * m_wt w0 w1 ((i : Int) - 1) ((j : Int) - 1) else m_in w d w0 w1 s X.toInt Y.toInt ((j : Int) - 1) (m_ou w d w0 w1 s X.toInt Y.toInt F j) i j_1) = m_add (m_in w d w0 w1 s X.toInt Y.toInt ((j : Int) - 1) (m_ou w d w0 w1 s X.toInt Y.toInt F j) i) tn (s * m_wt w0 w1 ((i : Int) - 1) ((j : Int) - 1)) := by
              funext x
              unfold m_add
              by_cases hx : x = tn
              · subst hx
                rw [if_pos rfl, if_pos rfl]
              · rw [if_neg hx, if_neg (by omega)]
                rfl
            rw [ef]
            exact nx
      exact inner 3 0 rfl _ c7
  have := outer 3 0 rfl pm_u pm_u rfl rfl
  rw [show m_ou w d w0 w1 s X.toInt Y.toInt F 0 = F from rfl, pm_up_self e] at this
  exact this
/-- which cells a reading fits -/
def m_fit (f : Nat → Int32) (err : Nat) (v : Int) (c : Nat) : Prop := (f c).toInt = -1 ∨ (((f c).toInt - v).natAbs : Int) ≤ err
def m_drop (n : Nat) (f : Nat → Int32) (err : Nat) (v : Int) (S : Nat → Nat) : Nat → Nat := fun c => if c < n ∧ ¬ ((f c).toInt = -1 ∨ (((f c).toInt - v).natAbs : Int) ≤ err) then 0 else S c
theorem c_dropUnfit {w d err : Nat} {v : Int32} {f : Nat → Int32} {S : Nat → Nat} (I : pm_I h g) (e1 : g 3 1 = .int (nI w)) (e2 : g 3 2 = .int (nI d)) (hw : w ≤ 12) (hd : d ≤ 12) (e3 : h 4 = pm_ia 0 144 f) (hf : ∀ c, c < 144 → -1 ≤ (f c).toInt ∧ (f c).toInt ≤ 255) (hv : 0 ≤ v.toInt ∧ v.toInt ≤ 255) (e4 : g 5 0 = .int (nI err)) (he : err ≤ 20) (e : h 16 = pm_la 144 (m_L S)) :
    pm_Met G mX1_dropUnfit [.ref 15, .int v] z z h g (pm_qv (pm_up h 16 (pm_la 144 (m_L (m_drop (w * d) f err v.toInt S)))) g) := by
  have hwd := m_wd hw hd
  have ee : (nI err).toInt = err := nI_toInt (by omega)
  refine enX1_dropUnfit pm_le.rf ?_
  refine px_iconst (v := 0) (pc' := 1) dX1_dropUnfit_0 rfl (by decide) ?_
  refine sx_i_n_3_2 (pc' := 2) dX1_dropUnfit_1 rfl rfl rfl rfl ?_
  have loop : ∀ k i : Nat, i + k = 144 → pm_W G mX1_dropUnfit z (pm_Φ G z (pm_qv (pm_up h 16 (pm_la 144 (m_L (m_drop (w * d) f err v.toInt S)))) g)) 2 [.ref 15, .int v, .int (nI i)] [] z (pm_up h 16 (pm_la 144 (fun j => if j < i then m_L (m_drop (w * d) f err v.toInt S) j else m_L S j))) g := by
    intro k
    induction k with
    | zero =>
      intro i hi
      have : i = 144 := by omega
      subst this
      refine px_iload_n (i := 2) (pc' := 3) dX1_dropUnfit_2 rfl rfl rfl ?_
      refine px_sipush (v := 144) (pc' := 6) dX1_dropUnfit_3 rfl (by decide) ?_
      refine px_icmp_ge (tgt := 41) (pc' := 9) dX1_dropUnfit_6 (by decide) rfl (fun _ => ?_) (fun q_ => absurd (nI_le (a := 144) (by omega) (by omega)) q_)
      refine px_extl (a := 16) (by first | assumption | (repeat (first | exact pm_up_e rfl | refine pm_up_o (by decide) ?_)) <;> assumption) (f' := m_L (m_drop (w * d) f err v.toInt S)) (fun j hj => if_pos hj) ?_
      rw [pm_up_up]
      exact px_vret dX1_dropUnfit_41 rfl rfl (⟨rfl, rfl, rfl⟩)
    | succ k ih =>
      intro i hi
      have hc : (nI i).toNatClampNeg = i := nI_clamp (by omega)
      have hci : (nI i).toInt = i := nI_toInt (by omega)
      have hfi := hf i (by omega)
      have hb : -1 ≤ (if 0 ≤ (nI i).toInt ∧ (nI i).toInt < (w * d : Nat) then f (nI i).toInt.toNat else -1).toInt ∧ (if 0 ≤ (nI i).toInt ∧ (nI i).toInt < (w * d : Nat) then f (nI i).toInt.toNat else -1).toInt ≤ 255 := by
        rw [hci, Int.toNat_natCast]
        split
        · exact hfi
        · rw [l_m1]; omega
      refine px_iload_n (i := 2) (pc' := 3) dX1_dropUnfit_2 rfl rfl rfl ?_
      refine px_sipush (v := 144) (pc' := 6) dX1_dropUnfit_3 rfl (by decide) ?_
      refine px_icmp_ge (tgt := 41) (pc' := 9) dX1_dropUnfit_6 (by decide) rfl (fun q_ => absurd q_ (nI_ge (b := 144) (by omega) (by omega))) (fun _ => ?_)
      refine px_aload_n (i := 0) (pc' := 10) dX1_dropUnfit_9 rfl rfl rfl ?_
      refine pi_getr (pc' := 13) fl_1_26 dX1_dropUnfit_10 rfl (by repeat (first | assumption | refine pm_I.up ?_ rfl | refine pm_I.uf ?_ rfl)) rfl rfl ?_
      refine px_iload_n (i := 1) (pc' := 14) dX1_dropUnfit_13 rfl rfl rfl ?_
      refine px_aload_n (i := 0) (pc' := 15) dX1_dropUnfit_14 rfl rfl rfl ?_
      refine pi_getr (pc' := 18) fl_1_22 dX1_dropUnfit_15 rfl (by repeat (first | assumption | refine pm_I.up ?_ rfl | refine pm_I.uf ?_ rfl)) rfl rfl ?_
      refine px_iload_n (i := 2) (pc' := 19) dX1_dropUnfit_18 rfl rfl rfl ?_
      refine pi_callV (pc' := 22) (c_heightOf (by repeat (first | assumption | refine pm_I.up ?_ rfl | refine pm_I.uf ?_ rfl)) (by first | assumption | (repeat (first | exact pm_uf_e rfl | refine pm_uf_o (by decide) ?_)) <;> assumption) (by first | assumption | (repeat (first | exact pm_uf_e rfl | refine pm_uf_o (by decide) ?_)) <;> assumption) (by first | assumption | (repeat (first | exact pm_up_e rfl | refine pm_up_o (by decide) ?_)) <;> assumption) hw hd) okX3_heightOf ivX3_heightOf ml_X1_98 ⟨Nat.le_of_ble_eq_true rfl, Nat.le_of_ble_eq_true rfl⟩ dX1_dropUnfit_19 rfl rfl rfl (Nat.le_of_ble_eq_true rfl) (by repeat (first | assumption | refine pm_I.up ?_ rfl | refine pm_I.uf ?_ rfl)) rfl cl_3 pm_le.rf pm_le.rf ?_
      rintro _ _ _ ⟨rfl, rfl, rfl⟩
      refine pi_callV (pc' := 25) (c_fits (by repeat (first | assumption | refine pm_I.up ?_ rfl | refine pm_I.uf ?_ rfl)) (by first | assumption | (repeat (first | exact pm_uf_e rfl | refine pm_uf_o (by decide) ?_)) <;> assumption) hv hb) okX2_fits ivX2_fits ml_X1_102 ⟨Nat.le_of_ble_eq_true rfl, Nat.le_of_ble_eq_true rfl⟩ dX1_dropUnfit_22 rfl rfl rfl (Nat.le_of_ble_eq_true rfl) (by repeat (first | assumption | refine pm_I.up ?_ rfl | refine pm_I.uf ?_ rfl)) rfl cl_2 pm_le.rf pm_le.rf ?_
      rintro _ _ _ ⟨rfl, rfl, rfl⟩
      rw [hci, Int.toNat_natCast, ee]
      refine px_if_ne (tgt := 35) (pc' := 28) dX1_dropUnfit_25 (by decide) rfl (fun q => ?_) (fun q => ?_)
      · rw [b_n0] at q
        refine sx_inc_3_2 (w := 1) (pc' := 38) dX1_dropUnfit_35 rfl rfl (by decide) rfl ?_
        refine px_goto (tgt := 2) dX1_dropUnfit_38 (by decide) ?_
        rw [nI_1]
        have hx : m_L S i = m_L (m_drop (w * d) f err v.toInt S) i := by
          show lN (S i) = lN (m_drop (w * d) f err v.toInt S i)
          unfold m_drop
          by_cases hl : i < w * d
          · rw [if_pos (by omega)] at q
            rw [if_neg (fun hh => hh.2 q)]
          · rw [if_neg (fun hh => hl hh.1)]
        have ef := updL_fill (f := m_L S) hx
        have eu : vp_updL (fun j => if j < i then m_L (m_drop (w * d) f err v.toInt S) j else m_L S j) i (m_L S i) = fun j => if j < i then m_L (m_drop (w * d) f err v.toInt S) j else m_L S j := by
          funext j
          show (if j = i then m_L S i else if j < i then m_L (m_drop (w * d) f err v.toInt S) j else m_L S j) = if j < i then m_L (m_drop (w * d) f err v.toInt S) j else m_L S j
          by_cases hj : j = i
          · subst hj
            rw [if_pos rfl, if_neg (by omega)]
          · rw [if_neg hj]
        rw [eu] at ef
        rw [ef]
        exact ih (i + 1) (by omega)
      · rw [b_0] at q
        refine px_aload_n (i := 0) (pc' := 29) dX1_dropUnfit_28 rfl rfl rfl ?_
        refine pi_getr (pc' := 32) fl_1_9 dX1_dropUnfit_29 rfl (by repeat (first | assumption | refine pm_I.up ?_ rfl | refine pm_I.uf ?_ rfl)) rfl rfl ?_
        refine px_iload_n (i := 2) (pc' := 33) dX1_dropUnfit_32 rfl rfl rfl ?_
        refine px_lconst (v := 0) (pc' := 34) dX1_dropUnfit_33 rfl (by decide) ?_
        refine px_last (pc' := 35) dX1_dropUnfit_34 rfl (by first | assumption | (repeat (first | exact pm_up_e rfl | refine pm_up_o (by decide) ?_)) <;> assumption) (vp_in_nI (by omega) (by omega)) ?_
        refine sx_inc_3_2 (w := 1) (pc' := 38) dX1_dropUnfit_35 rfl rfl (by decide) rfl ?_
        refine px_goto (tgt := 2) dX1_dropUnfit_38 (by decide) ?_
        rw [nI_1, pm_up_up, hc, updL_fill (x := 0) ?_]
        · exact ih (i + 1) (by omega)
        · show (0 : Int64) = lN (m_drop (w * d) f err v.toInt S i)
          by_cases hl : i < w * d
          · rw [if_pos (by omega)] at q
            rw [m_drop, if_pos ⟨hl, q⟩]
            exact l64_0
          · rw [if_neg (by omega)] at q
            exact absurd (Or.inl l_m1) q
  have := loop 144 0 rfl
  rw [fill_0, pm_up_self e] at this
  exact this
theorem c_holders {S : Nat → Nat} (I : pm_I h g) (e : h 16 = pm_la 144 (m_L S)) (hS : ∀ j, j < 144 → S j < 2 ^ 63) : pm_Met G mX1_holders [.ref 15] z z h g (pm_q (.int (nI (m_cnt S 144))) h g) := by
  refine enX1_holders pm_le.rf ?_
  refine px_iconst (v := 0) (pc' := 1) dX1_holders_0 rfl (by decide) ?_
  refine sx_i_n_3_1 (pc' := 2) dX1_holders_1 rfl rfl rfl rfl ?_
  refine px_iconst (v := 0) (pc' := 3) dX1_holders_2 rfl (by decide) ?_
  refine sx_i_n_3_2 (pc' := 4) dX1_holders_3 rfl rfl rfl rfl ?_
  have loop : ∀ k i : Nat, i + k = 144 → pm_W G mX1_holders z (pm_Φ G z (pm_q (.int (nI (m_cnt S 144))) h g)) 4 [.ref 15, .int (nI (m_cnt S i)), .int (nI i)] [] z h g := by
    intro k
    induction k with
    | zero =>
      intro i hi
      have : i = 144 := by omega
      subst this
      refine px_iload_n (i := 2) (pc' := 5) dX1_holders_4 rfl rfl rfl ?_
      refine px_sipush (v := 144) (pc' := 8) dX1_holders_5 rfl (by decide) ?_
      refine px_icmp_ge (tgt := 31) (pc' := 11) dX1_holders_8 (by decide) rfl (fun _ => ?_) (fun q_ => absurd (nI_le (a := 144) (by omega) (by omega)) q_)
      refine px_iload_n (i := 1) (pc' := 32) dX1_holders_31 rfl rfl rfl ?_
      exact px_iret dX1_holders_32 rfl rfl (⟨rfl, rfl, rfl⟩)
    | succ k ih =>
      intro i hi
      have hc : (nI i).toNatClampNeg = i := nI_clamp (by omega)
      have nx := ih (i + 1) (by omega)
      refine px_iload_n (i := 2) (pc' := 5) dX1_holders_4 rfl rfl rfl ?_
      refine px_sipush (v := 144) (pc' := 8) dX1_holders_5 rfl (by decide) ?_
      refine px_icmp_ge (tgt := 31) (pc' := 11) dX1_holders_8 (by decide) rfl (fun q_ => absurd q_ (nI_ge (b := 144) (by omega) (by omega))) (fun _ => ?_)
      refine px_aload_n (i := 0) (pc' := 12) dX1_holders_11 rfl rfl rfl ?_
      refine pi_getr (pc' := 15) fl_1_9 dX1_holders_12 rfl (by repeat (first | assumption | refine pm_I.up ?_ rfl | refine pm_I.uf ?_ rfl)) rfl rfl ?_
      refine px_iload_n (i := 2) (pc' := 16) dX1_holders_15 rfl rfl rfl ?_
      refine px_lald (pc' := 17) dX1_holders_16 rfl (by first | assumption | (repeat (first | exact pm_up_e rfl | refine pm_up_o (by decide) ?_)) <;> assumption) (vp_in_nI (by omega) (by omega)) ?_
      refine px_lconst (v := 0) (pc' := 18) dX1_holders_17 rfl (by decide) ?_
      refine px_lcmp (pc' := 19) dX1_holders_18 rfl ?_
      rw [hc]
      refine px_if_le (tgt := 25) (pc' := 22) dX1_holders_19 (by decide) rfl (fun q => ?_) (fun q => ?_)
      · have q := (lc_le0 (hS i (by omega))).mp q
        rw [m_cnt_s S i, if_neg (by omega)] at nx
        refine sx_inc_3_2 (w := 1) (pc' := 28) dX1_holders_25 rfl rfl (by decide) rfl ?_
        refine px_goto (tgt := 4) dX1_holders_28 (by decide) ?_
        rw [nI_1]
        exact nx
      · have q : ¬ S i = 0 := fun hh => q ((lc_le0 (hS i (by omega))).mpr hh)
        rw [m_cnt_s S i, if_pos (by omega)] at nx
        refine sx_inc_3_1 (w := 1) (pc' := 25) dX1_holders_22 rfl rfl (by decide) rfl ?_
        refine sx_inc_3_2 (w := 1) (pc' := 28) dX1_holders_25 rfl rfl (by decide) rfl ?_
        refine px_goto (tgt := 4) dX1_holders_28 (by decide) ?_
        rw [nI_1, nI_1]
        exact nx
  exact loop 144 0 rfl
theorem c_total {S : Nat → Nat} (I : pm_I h g) (e : h 16 = pm_la 144 (m_L S)) : pm_Met G mX1_total [.ref 15] z z h g (pm_q (.long (lN (m_sum S 144))) h g) := by
  refine enX1_total pm_le.rf ?_
  refine px_lconst (v := 0) (pc' := 1) dX1_total_0 rfl (by decide) ?_
  refine sx_l_n_4_1 (pc' := 2) dX1_total_1 rfl rfl rfl rfl ?_
  refine px_iconst (v := 0) (pc' := 3) dX1_total_2 rfl (by decide) ?_
  refine sx_i_n_4_3 (pc' := 4) dX1_total_3 rfl rfl rfl rfl ?_
  rw [l64_0]
  have loop : ∀ k i : Nat, i + k = 144 → pm_W G mX1_total z (pm_Φ G z (pm_q (.long (lN (m_sum S 144))) h g)) 4 [.ref 15, .long (lN (m_sum S i)), pm_u, .int (nI i)] [] z h g := by
    intro k
    induction k with
    | zero =>
      intro i hi
      have : i = 144 := by omega
      subst this
      refine px_iload_n (i := 3) (pc' := 5) dX1_total_4 rfl rfl rfl ?_
      refine px_sipush (v := 144) (pc' := 8) dX1_total_5 rfl (by decide) ?_
      refine px_icmp_ge (tgt := 26) (pc' := 11) dX1_total_8 (by decide) rfl (fun _ => ?_) (fun q_ => absurd (nI_le (a := 144) (by omega) (by omega)) q_)
      refine px_lload_n (i := 1) (pc' := 27) dX1_total_26 rfl rfl rfl ?_
      exact px_lret dX1_total_27 rfl rfl (⟨rfl, rfl, rfl⟩)
    | succ k ih =>
      intro i hi
      have hc : (nI i).toNatClampNeg = i := nI_clamp (by omega)
      have nx := ih (i + 1) (by omega)
      rw [m_sum_s S i] at nx
      refine px_iload_n (i := 3) (pc' := 5) dX1_total_4 rfl rfl rfl ?_
      refine px_sipush (v := 144) (pc' := 8) dX1_total_5 rfl (by decide) ?_
      refine px_icmp_ge (tgt := 26) (pc' := 11) dX1_total_8 (by decide) rfl (fun q_ => absurd q_ (nI_ge (b := 144) (by omega) (by omega))) (fun _ => ?_)
      refine px_lload_n (i := 1) (pc' := 12) dX1_total_11 rfl rfl rfl ?_
      refine px_aload_n (i := 0) (pc' := 13) dX1_total_12 rfl rfl rfl ?_
      refine pi_getr (pc' := 16) fl_1_9 dX1_total_13 rfl (by repeat (first | assumption | refine pm_I.up ?_ rfl | refine pm_I.uf ?_ rfl)) rfl rfl ?_
      refine px_iload_n (i := 3) (pc' := 17) dX1_total_16 rfl rfl rfl ?_
      refine px_lald (pc' := 18) dX1_total_17 rfl (by first | assumption | (repeat (first | exact pm_up_e rfl | refine pm_up_o (by decide) ?_)) <;> assumption) (vp_in_nI (by omega) (by omega)) ?_
      refine px_ladd (pc' := 19) dX1_total_18 rfl ?_
      refine sx_l_n_4_1 (pc' := 20) dX1_total_19 rfl rfl rfl rfl ?_
      refine sx_inc_4_3 (w := 1) (pc' := 23) dX1_total_20 rfl rfl (by decide) rfl ?_
      refine px_goto (tgt := 4) dX1_total_23 (by decide) ?_
      rw [hc, nI_1, show m_L S i = lN (S i) from rfl, lN_add]
      exact nx
  exact loop 144 0 rfl
theorem c_likeliest {S : Nat → Nat} (I : pm_I h g) (e : h 16 = pm_la 144 (m_L S)) (hS : ∀ j, j < 144 → S j < 2 ^ 63) : pm_Met G mX1_likeliest [.ref 15] z z h g (pm_q (.int (nI (m_lk S 143))) h g) := by
  refine enX1_likeliest pm_le.rf ?_
  refine px_iconst (v := 0) (pc' := 1) dX1_likeliest_0 rfl (by decide) ?_
  refine sx_i_n_3_1 (pc' := 2) dX1_likeliest_1 rfl rfl rfl rfl ?_
  refine px_iconst (v := 1) (pc' := 3) dX1_likeliest_2 rfl (by decide) ?_
  refine sx_i_n_3_2 (pc' := 4) dX1_likeliest_3 rfl rfl rfl rfl ?_
  have loop : ∀ k i : Nat, i + k = 143 → pm_W G mX1_likeliest z (pm_Φ G z (pm_q (.int (nI (m_lk S 143))) h g)) 4 [.ref 15, .int (nI (m_lk S i)), .int (nI (i + 1))] [] z h g := by
    intro k
    induction k with
    | zero =>
      intro i hi
      have : i = 143 := by omega
      subst this
      refine px_iload_n (i := 2) (pc' := 5) dX1_likeliest_4 rfl rfl rfl ?_
      refine px_sipush (v := 144) (pc' := 8) dX1_likeliest_5 rfl (by decide) ?_
      refine px_icmp_ge (tgt := 35) (pc' := 11) dX1_likeliest_8 (by decide) rfl (fun _ => ?_) (fun q_ => absurd (nI_le (a := 144) (by omega) (by omega)) q_)
      refine px_iload_n (i := 1) (pc' := 36) dX1_likeliest_35 rfl rfl rfl ?_
      exact px_iret dX1_likeliest_36 rfl rfl (⟨rfl, rfl, rfl⟩)
    | succ k ih =>
      intro i hi
      have hc : (nI (i + 1)).toNatClampNeg = i + 1 := nI_clamp (by omega)
      have hle := m_lk_le S i
      have hc2 : (nI (m_lk S i)).toNatClampNeg = m_lk S i := nI_clamp (by omega)
      have nx := ih (i + 1) (by omega)
      refine px_iload_n (i := 2) (pc' := 5) dX1_likeliest_4 rfl rfl rfl ?_
      refine px_sipush (v := 144) (pc' := 8) dX1_likeliest_5 rfl (by decide) ?_
      refine px_icmp_ge (tgt := 35) (pc' := 11) dX1_likeliest_8 (by decide) rfl (fun q_ => absurd q_ (nI_ge (b := 144) (by omega) (by omega))) (fun _ => ?_)
      refine px_aload_n (i := 0) (pc' := 12) dX1_likeliest_11 rfl rfl rfl ?_
      refine pi_getr (pc' := 15) fl_1_9 dX1_likeliest_12 rfl (by repeat (first | assumption | refine pm_I.up ?_ rfl | refine pm_I.uf ?_ rfl)) rfl rfl ?_
      refine px_iload_n (i := 2) (pc' := 16) dX1_likeliest_15 rfl rfl rfl ?_
      refine px_lald (pc' := 17) dX1_likeliest_16 rfl (by first | assumption | (repeat (first | exact pm_up_e rfl | refine pm_up_o (by decide) ?_)) <;> assumption) (vp_in_nI (by omega) (by omega)) ?_
      refine px_aload_n (i := 0) (pc' := 18) dX1_likeliest_17 rfl rfl rfl ?_
      refine pi_getr (pc' := 21) fl_1_9 dX1_likeliest_18 rfl (by repeat (first | assumption | refine pm_I.up ?_ rfl | refine pm_I.uf ?_ rfl)) rfl rfl ?_
      refine px_iload_n (i := 1) (pc' := 22) dX1_likeliest_21 rfl rfl rfl ?_
      refine px_lald (pc' := 23) dX1_likeliest_22 rfl (by first | assumption | (repeat (first | exact pm_up_e rfl | refine pm_up_o (by decide) ?_)) <;> assumption) (vp_in_nI (by omega) (by omega)) ?_
      refine px_lcmp (pc' := 24) dX1_likeliest_23 rfl ?_
      rw [hc, hc2]
      refine px_if_le (tgt := 29) (pc' := 27) dX1_likeliest_24 (by decide) rfl (fun q => ?_) (fun q => ?_)
      · have q := (lc_le (hS _ (by omega)) (hS _ (by omega))).mp q
        rw [m_lk_s S i, if_neg (by omega)] at nx
        refine sx_inc_3_2 (w := 1) (pc' := 32) dX1_likeliest_29 rfl rfl (by decide) rfl ?_
        refine px_goto (tgt := 4) dX1_likeliest_32 (by decide) ?_
        rw [nI_1]
        exact nx
      · have q : ¬ S (i + 1) ≤ S (m_lk S i) := fun hh => q ((lc_le (hS _ (by omega)) (hS _ (by omega))).mpr hh)
        rw [m_lk_s S i, if_pos (by omega)] at nx
        refine px_iload_n (i := 2) (pc' := 28) dX1_likeliest_27 rfl rfl rfl ?_
        refine sx_i_n_3_1 (pc' := 29) dX1_likeliest_28 rfl rfl rfl rfl ?_
        refine sx_inc_3_2 (w := 1) (pc' := 32) dX1_likeliest_29 rfl rfl (by decide) rfl ?_
        refine px_goto (tgt := 4) dX1_likeliest_32 (by decide) ?_
        rw [nI_1]
        exact nx
  exact loop 143 0 rfl
theorem c_beginAgain {w d n : Nat} {f : Nat → Int64} (I : pm_I h g) (e1 : g 3 1 = .int (nI w)) (e2 : g 3 2 = .int (nI d)) (hw : w ≤ 12) (hd : d ≤ 12) (e : h 16 = pm_la 144 f) (e3 : g 15 5 = .int (nI n)) :
    pm_Met G mX1_beginAgain [.ref 15] z z h g (pm_qv (pm_up h 16 (pm_la 144 (m_L (m_init (w * d) (-1))))) (m_rst (pm_uf g 15 5 (.int (nI (n + 1)))) (-1))) := by
  refine enX1_beginAgain pm_le.rf ?_
  refine px_aload_n (i := 0) (pc' := 1) dX1_beginAgain_0 rfl rfl rfl ?_
  refine px_dup (pc' := 2) dX1_beginAgain_1 rfl rfl ?_
  refine pi_geti (pc' := 5) fl_1_18 dX1_beginAgain_2 rfl (by repeat (first | assumption | refine pm_I.up ?_ rfl | refine pm_I.uf ?_ rfl)) rfl (by first | assumption | (repeat (first | exact pm_uf_e rfl | refine pm_uf_o (by decide) ?_)) <;> assumption) ?_
  refine px_iconst (v := 1) (pc' := 6) dX1_beginAgain_5 rfl (by decide) ?_
  refine px_iadd (pc' := 7) dX1_beginAgain_6 rfl ?_
  refine pi_puti (pc' := 10) fi_1_18 dX1_beginAgain_7 rfl (by repeat (first | assumption | refine pm_I.up ?_ rfl | refine pm_I.uf ?_ rfl)) rfl ?_
  rw [nI_1]
  refine px_aload_n (i := 0) (pc' := 11) dX1_beginAgain_10 rfl rfl rfl ?_
  refine px_iconst (v := -1) (pc' := 12) dX1_beginAgain_11 rfl (by decide) ?_
  refine pi_callV (pc' := 15) (c_start (by repeat (first | assumption | refine pm_I.up ?_ rfl | refine pm_I.uf ?_ rfl)) (by first | assumption | (repeat (first | exact pm_uf_e rfl | refine pm_uf_o (by decide) ?_)) <;> assumption) (by first | assumption | (repeat (first | exact pm_uf_e rfl | refine pm_uf_o (by decide) ?_)) <;> assumption) hw hd e) okX1_start ivX1_start ml_X1_95 ⟨Nat.le_of_ble_eq_true rfl, Nat.le_of_ble_eq_true rfl⟩ dX1_beginAgain_12 rfl rfl rfl (Nat.le_of_ble_eq_true rfl) (by repeat (first | assumption | refine pm_I.up ?_ rfl | refine pm_I.uf ?_ rfl)) rfl cl_1 pm_le.rf pm_le.rf ?_
  rintro _ _ _ ⟨rfl, rfl, rfl⟩
  exact px_vret dX1_beginAgain_15 rfl rfl (⟨rfl, rfl, rfl⟩)
end FL
