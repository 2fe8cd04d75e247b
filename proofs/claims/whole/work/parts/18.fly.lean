/-! Flight: fly, sight, edge -/
theorem m_off_in {w d x y : Nat} (hx : x < w) (hy : y < d) : m_off w d x y = ((w * y + x : Nat) : Int) := by
  unfold m_off
  rw [if_pos (by omega)]
  simp
theorem m_yx {w d x y : Nat} (hx : x < w) (hy : y < d) : w * y + x < w * d := by
  have : w * (y + 1) ≤ w * d := Nat.mul_le_mul (Nat.le_refl w) hy
  rw [Nat.mul_add, Nat.mul_one] at this
  omega
section FL2
variable {G : pm_G} {z : pm_z} {h : pm_h} {g : pm_g}
theorem c_fly_loop {w d w0 w1 : Nat} {dx dy : Int32} {S : Nat → Nat} {f17 : Nat → Int64} {Q : Option Value → pm_h → pm_g → Prop} (I : pm_I h g) (e1 : g 3 1 = .int (nI w)) (e2 : g 3 2 = .int (nI d)) (hw : w ≤ 12) (hd : d ≤ 12) (e3 : g 5 1 = .int (nI w0)) (e4 : g 5 2 = .int (nI w1)) (h0 : w0 ≤ 3) (h1 : w1 ≤ 3) (hm : m_mv dx dy) (e : h 16 = pm_la 144 (m_L S)) (hS : ∀ j, j < 144 → S j < 2 ^ 63) (e17 : h 17 = pm_la 144 f17)
    (k : pm_W G mX1_fly z (pm_Φ G z Q) 96 [.ref 15, .int dx, .int dy, .int (nI d), pm_u, pm_u, pm_u] [] z (pm_up (pm_up h 17 (pm_la 144 (m_L (m_fl w d w0 w1 dx.toInt dy.toInt S (w * d))))) 16 (pm_la 144 (va_cpy (m_L (m_fl w d w0 w1 dx.toInt dy.toInt S (w * d))) (m_L S) 0 0 144))) g)
    (k2 : ∀ v4 v5 v6 : Value, v4.category = 1 → v6.category = 1 → pm_W G mX1_fly z (pm_Φ G z Q) 96 [.ref 15, .int dx, .int dy, .int (nI d), v4, v5, v6] [] z (pm_up (pm_up h 17 (pm_la 144 (m_L (m_fl w d w0 w1 dx.toInt dy.toInt S (w * d))))) 16 (pm_la 144 (va_cpy (m_L (m_fl w d w0 w1 dx.toInt dy.toInt S (w * d))) (m_L S) 0 0 144))) g) :
    pm_W G mX1_fly z (pm_Φ G z Q) 0 [.ref 15, .int dx, .int dy, pm_u, pm_u, pm_u, pm_u] [] z h g := by
  have hwd := m_wd hw hd
  obtain ⟨m1, m2, m3, m4⟩ := hm
  refine px_aload_n (i := 0) (pc' := 1) dX1_fly_0 rfl rfl rfl ?_
  refine pi_callV (pc' := 4) (c_clearMoved I e17) okX1_clearMoved ivX1_clearMoved ml_X1_46 ⟨Nat.le_of_ble_eq_true rfl, Nat.le_of_ble_eq_true rfl⟩ dX1_fly_1 rfl rfl rfl (Nat.le_of_ble_eq_true rfl) (by repeat (first | assumption | refine pm_I.up ?_ rfl | refine pm_I.uf ?_ rfl)) rfl cl_1 pm_le.rf pm_le.rf ?_
  rintro _ _ _ ⟨rfl, rfl, rfl⟩
  refine px_iconst (v := 0) (pc' := 5) dX1_fly_4 rfl (by decide) ?_
  refine sx_i_n_7_3 (pc' := 6) dX1_fly_5 rfl rfl rfl rfl ?_
  have outer : ∀ k y : Nat, y + k = d → ∀ v4 v5 v6 : Value, v4.category = 1 → v6.category = 1 → pm_W G mX1_fly z (pm_Φ G z Q) 6 [.ref 15, .int dx, .int dy, .int (nI y), v4, v5, v6] [] z (pm_up h 17 (pm_la 144 (m_L (m_fl w d w0 w1 dx.toInt dy.toInt S (w * y))))) g := by
    intro k
    induction k with
    | zero =>
      intro y hy v4 v5 v6 c4 c6
      have : y = d := by omega
      subst this
      refine px_iload_n (i := 3) (pc' := 7) dX1_fly_6 rfl rfl rfl ?_
      refine px_aload_n (i := 0) (pc' := 8) dX1_fly_7 rfl rfl rfl ?_
      refine pi_getr (pc' := 11) fl_1_22 dX1_fly_8 rfl (by repeat (first | assumption | refine pm_I.up ?_ rfl | refine pm_I.uf ?_ rfl)) rfl rfl ?_
      refine pi_callV (pc' := 14) (c_depth (by repeat (first | assumption | refine pm_I.up ?_ rfl | refine pm_I.uf ?_ rfl)) e2) okX3_depth ivX3_depth ml_X1_49 ⟨Nat.le_of_ble_eq_true rfl, Nat.le_of_ble_eq_true rfl⟩ dX1_fly_11 rfl rfl rfl (Nat.le_of_ble_eq_true rfl) (by repeat (first | assumption | refine pm_I.up ?_ rfl | refine pm_I.uf ?_ rfl)) rfl cl_3 pm_le.rf pm_le.rf ?_
      rintro _ _ _ ⟨rfl, rfl, rfl⟩
      refine px_icmp_ge (tgt := 80) (pc' := 17) dX1_fly_14 (by decide) rfl (fun _ => ?_) (fun q_ => absurd (nI_le (by omega) (by omega)) q_)
      refine px_aload_n (i := 0) (pc' := 81) dX1_fly_80 rfl rfl rfl ?_
      refine pi_getr (pc' := 84) fl_1_15 dX1_fly_81 rfl (by repeat (first | assumption | refine pm_I.up ?_ rfl | refine pm_I.uf ?_ rfl)) rfl rfl ?_
      refine px_iconst (v := 0) (pc' := 85) dX1_fly_84 rfl (by decide) ?_
      refine px_aload_n (i := 0) (pc' := 86) dX1_fly_85 rfl rfl rfl ?_
      refine pi_getr (pc' := 89) fl_1_9 dX1_fly_86 rfl (by repeat (first | assumption | refine pm_I.up ?_ rfl | refine pm_I.uf ?_ rfl)) rfl rfl ?_
      refine px_iconst (v := 0) (pc' := 90) dX1_fly_89 rfl (by decide) ?_
      refine px_sipush (v := 144) (pc' := 93) dX1_fly_90 rfl (by decide) ?_
      refine px_copyl (pc' := 96) ml_X1_68 wd_cp_n wd_cp_s wd_ini_sys dX1_fly_93 rfl (Nat.le_of_ble_eq_true rfl) (Nat.le_of_ble_eq_true rfl) (by first | assumption | (repeat (first | exact pm_up_e rfl | refine pm_up_o (by decide) ?_)) <;> assumption) (by first | assumption | (repeat (first | exact pm_up_e rfl | refine pm_up_o (by decide) ?_)) <;> assumption) (by decide) (by decide) (by decide) (by decide) (by decide) ?_
      exact k2 v4 v5 v6 c4 c6
    | succ k ih =>
      intro y hy v4 v5 v6 c4 c6
      refine px_iload_n (i := 3) (pc' := 7) dX1_fly_6 rfl rfl rfl ?_
      refine px_aload_n (i := 0) (pc' := 8) dX1_fly_7 rfl rfl rfl ?_
      refine pi_getr (pc' := 11) fl_1_22 dX1_fly_8 rfl (by repeat (first | assumption | refine pm_I.up ?_ rfl | refine pm_I.uf ?_ rfl)) rfl rfl ?_
      refine pi_callV (pc' := 14) (c_depth (by repeat (first | assumption | refine pm_I.up ?_ rfl | refine pm_I.uf ?_ rfl)) e2) okX3_depth ivX3_depth ml_X1_49 ⟨Nat.le_of_ble_eq_true rfl, Nat.le_of_ble_eq_true rfl⟩ dX1_fly_11 rfl rfl rfl (Nat.le_of_ble_eq_true rfl) (by repeat (first | assumption | refine pm_I.up ?_ rfl | refine pm_I.uf ?_ rfl)) rfl cl_3 pm_le.rf pm_le.rf ?_
      rintro _ _ _ ⟨rfl, rfl, rfl⟩
      refine px_icmp_ge (tgt := 80) (pc' := 17) dX1_fly_14 (by decide) rfl (fun q_ => absurd q_ (nI_ge (by omega) (by omega))) (fun _ => ?_)
      refine px_iconst (v := 0) (pc' := 18) dX1_fly_17 rfl (by decide) ?_
      refine sx_i_7_4 (pc' := 20) dX1_fly_18 rfl rfl rfl ?_
      have inner : ∀ k2 x : Nat, x + k2 = w → ∀ v5 v6 : Value, v6.category = 1 → pm_W G mX1_fly z (pm_Φ G z Q) 20 [.ref 15, .int dx, .int dy, .int (nI y), .int (nI x), v5, v6] [] z (pm_up h 17 (pm_la 144 (m_L (m_fl w d w0 w1 dx.toInt dy.toInt S (w * y + x))))) g := by
        intro k2
        induction k2 with
        | zero =>
          intro x hx v5 v6 c6
          have : x = w := by omega
          subst this
          refine px_iload (i := 4) (pc' := 22) dX1_fly_20 rfl rfl ?_
          refine px_aload_n (i := 0) (pc' := 23) dX1_fly_22 rfl rfl rfl ?_
          refine pi_getr (pc' := 26) fl_1_22 dX1_fly_23 rfl (by repeat (first | assumption | refine pm_I.up ?_ rfl | refine pm_I.uf ?_ rfl)) rfl rfl ?_
          refine pi_callV (pc' := 29) (c_width (x := .null) (by repeat (first | assumption | refine pm_I.up ?_ rfl | refine pm_I.uf ?_ rfl)) e1) okX3_width ivX3_width ml_X1_53 ⟨Nat.le_of_ble_eq_true rfl, Nat.le_of_ble_eq_true rfl⟩ dX1_fly_26 rfl rfl rfl (Nat.le_of_ble_eq_true rfl) (by repeat (first | assumption | refine pm_I.up ?_ rfl | refine pm_I.uf ?_ rfl)) rfl cl_3 pm_le.rf pm_le.rf ?_
          rintro _ _ _ ⟨rfl, rfl, rfl⟩
          refine px_icmp_ge (tgt := 74) (pc' := 32) dX1_fly_29 (by decide) rfl (fun _ => ?_) (fun q_ => absurd (nI_le (by omega) (by omega)) q_)
          refine sx_inc_7_3 (w := 1) (pc' := 77) dX1_fly_74 rfl rfl (by decide) rfl ?_
          refine px_goto (tgt := 6) dX1_fly_77 (by decide) ?_
          rw [nI_1]
          have := ih (y + 1) (by omega) (.int (nI x)) v5 v6 rfl c6
          rw [Nat.mul_add, Nat.mul_one] at this
          exact this
        | succ k2 ih2 =>
          intro x hx v5 v6 c6
          have hlt : w * y + x < w * d := m_yx (by omega) (by omega)
          have hxt : (nI x).toInt = x := nI_toInt (by omega)
          have hyt : (nI y).toInt = y := nI_toInt (by omega)
          refine px_iload (i := 4) (pc' := 22) dX1_fly_20 rfl rfl ?_
          refine px_aload_n (i := 0) (pc' := 23) dX1_fly_22 rfl rfl rfl ?_
          refine pi_getr (pc' := 26) fl_1_22 dX1_fly_23 rfl (by repeat (first | assumption | refine pm_I.up ?_ rfl | refine pm_I.uf ?_ rfl)) rfl rfl ?_
          refine pi_callV (pc' := 29) (c_width (x := .null) (by repeat (first | assumption | refine pm_I.up ?_ rfl | refine pm_I.uf ?_ rfl)) e1) okX3_width ivX3_width ml_X1_53 ⟨Nat.le_of_ble_eq_true rfl, Nat.le_of_ble_eq_true rfl⟩ dX1_fly_26 rfl rfl rfl (Nat.le_of_ble_eq_true rfl) (by repeat (first | assumption | refine pm_I.up ?_ rfl | refine pm_I.uf ?_ rfl)) rfl cl_3 pm_le.rf pm_le.rf ?_
          rintro _ _ _ ⟨rfl, rfl, rfl⟩
          refine px_icmp_ge (tgt := 74) (pc' := 32) dX1_fly_29 (by decide) rfl (fun q_ => absurd q_ (nI_ge (by omega) (by omega))) (fun _ => ?_)
          refine px_aload_n (i := 0) (pc' := 33) dX1_fly_32 rfl rfl rfl ?_
          refine px_aload_n (i := 0) (pc' := 34) dX1_fly_33 rfl rfl rfl ?_
          refine pi_getr (pc' := 37) fl_1_22 dX1_fly_34 rfl (by repeat (first | assumption | refine pm_I.up ?_ rfl | refine pm_I.uf ?_ rfl)) rfl rfl ?_
          refine px_iload (i := 4) (pc' := 39) dX1_fly_37 rfl rfl ?_
          refine px_iload_n (i := 3) (pc' := 40) dX1_fly_39 rfl rfl rfl ?_
          refine pi_callV (pc' := 43) (c_cellAt (by repeat (first | assumption | refine pm_I.up ?_ rfl | refine pm_I.uf ?_ rfl)) e1 e2 hw hd) okX3_cellAt ivX3_cellAt ml_X1_56 ⟨Nat.le_of_ble_eq_true rfl, Nat.le_of_ble_eq_true rfl⟩ dX1_fly_40 rfl rfl rfl (Nat.le_of_ble_eq_true rfl) (by repeat (first | assumption | refine pm_I.up ?_ rfl | refine pm_I.uf ?_ rfl)) rfl cl_3 pm_le.rf pm_le.rf ?_
          rintro _ _ _ ⟨rfl, rfl, rfl⟩
          rw [hxt, hyt, m_off_in (by omega) (by omega), iZ_n]
          refine pi_callV (pc' := 46) (c_shareOf (by repeat (first | assumption | refine pm_I.up ?_ rfl | refine pm_I.uf ?_ rfl)) (by first | assumption | (repeat (first | exact pm_up_e rfl | refine pm_up_o (by decide) ?_)) <;> assumption) (by omega)) okX1_shareOf ivX1_shareOf ml_X1_60 ⟨Nat.le_of_ble_eq_true rfl, Nat.le_of_ble_eq_true rfl⟩ dX1_fly_43 rfl rfl rfl (Nat.le_of_ble_eq_true rfl) (by repeat (first | assumption | refine pm_I.up ?_ rfl | refine pm_I.uf ?_ rfl)) rfl cl_1 pm_le.rf pm_le.rf ?_
          rintro _ _ _ ⟨rfl, rfl, rfl⟩
          refine sx_l_7_5 (pc' := 48) dX1_fly_46 rfl rfl rfl ?_
          refine px_lload (i := 5) (pc' := 50) dX1_fly_48 rfl rfl ?_
          refine px_lconst (v := 0) (pc' := 51) dX1_fly_50 rfl (by decide) ?_
          refine px_lcmp (pc' := 52) dX1_fly_51 rfl ?_
          have nx := fun (v : Value) => ih2 (x + 1) (by omega) v pm_u rfl
          rw [← Nat.add_assoc, m_fl_s, (m_cw (show x < w by omega)).1, (m_cw (show x < w by omega)).2] at nx
          rw [show m_L S (w * y + x) = lN (S (w * y + x)) from rfl]
          refine px_if_le (tgt := 68) (pc' := 55) dX1_fly_52 (by decide) rfl (fun q => ?_) (fun q => ?_)
          · have q := (lc_le0 (hS _ (by omega))).mp q
            rw [q] at nx ⊢
            rw [m_ou_0] at nx
            refine sx_inc_7_4 (w := 1) (pc' := 71) dX1_fly_68 rfl rfl (by decide) rfl ?_
            refine px_goto (tgt := 20) dX1_fly_71 (by decide) ?_
            rw [nI_1]
            exact nx _
          · have ex : (nI x + dx).toInt = x + dx.toInt := by rw [i_add (by omega) (by omega), hxt]
            have ey : (nI y + dy).toInt = y + dy.toInt := by rw [i_add (by omega) (by omega), hyt]
            refine px_aload_n (i := 0) (pc' := 56) dX1_fly_55 rfl rfl rfl ?_
            refine px_lload (i := 5) (pc' := 58) dX1_fly_56 rfl rfl ?_
            refine px_iload (i := 4) (pc' := 60) dX1_fly_58 rfl rfl ?_
            refine px_iload_n (i := 1) (pc' := 61) dX1_fly_60 rfl rfl rfl ?_
            refine px_iadd (pc' := 62) dX1_fly_61 rfl ?_
            refine px_iload_n (i := 3) (pc' := 63) dX1_fly_62 rfl rfl rfl ?_
            refine px_iload_n (i := 2) (pc' := 64) dX1_fly_63 rfl rfl rfl ?_
            refine px_iadd (pc' := 65) dX1_fly_64 rfl ?_
            refine pi_callV (pc' := 68) (c_spread (by repeat (first | assumption | refine pm_I.up ?_ rfl | refine pm_I.uf ?_ rfl)) e1 e2 hw hd e3 e4 h0 h1 (by omega) (by omega) (by first | assumption | (repeat (first | exact pm_up_e rfl | refine pm_up_o (by decide) ?_)) <;> assumption)) okX1_spread ivX1_spread ml_X1_64 ⟨Nat.le_of_ble_eq_true rfl, Nat.le_of_ble_eq_true rfl⟩ dX1_fly_65 rfl rfl rfl (Nat.le_of_ble_eq_true rfl) (by repeat (first | assumption | refine pm_I.up ?_ rfl | refine pm_I.uf ?_ rfl)) rfl cl_1 pm_le.rf pm_le.rf ?_
            rintro _ _ _ ⟨rfl, rfl, rfl⟩
            refine sx_inc_7_4 (w := 1) (pc' := 71) dX1_fly_68 rfl rfl (by decide) rfl ?_
            refine px_goto (tgt := 20) dX1_fly_71 (by decide) ?_
            rw [nI_1, pm_up_up, ex, ey]
            exact nx _
      exact inner w 0 (by omega) v5 v6 c6
  exact outer d 0 (by omega) pm_u pm_u pm_u rfl rfl
theorem m_cpy_L {F S : Nat → Nat} (h1 : ∀ j, 144 ≤ j → F j = 0) (h2 : ∀ j, 144 ≤ j → S j = 0) : va_cpy (m_L F) (m_L S) 0 0 144 = m_L F := by
  funext j
  unfold va_cpy
  by_cases hj : 0 ≤ j ∧ j < 0 + 144
  · rw [if_pos hj]
    congr 1
    omega
  · rw [if_neg hj]
    show lN (S j) = lN (F j)
    rw [h1 j (by omega), h2 j (by omega)]
theorem c_fly_lost {w d w0 w1 n : Nat} {dx dy : Int32} {S : Nat → Nat} {f17 : Nat → Int64} (I : pm_I h g) (e1 : g 3 1 = .int (nI w)) (e2 : g 3 2 = .int (nI d)) (hw : w ≤ 12) (hd : d ≤ 12) (e3 : g 5 1 = .int (nI w0)) (e4 : g 5 2 = .int (nI w1)) (h0 : w0 ≤ 3) (h1 : w1 ≤ 3) (hm : m_mv dx dy) (e : h 16 = pm_la 144 (m_L S)) (hS : ∀ j, j < 144 → S j < 2 ^ 63) (hS0 : ∀ j, 144 ≤ j → S j = 0) (e17 : h 17 = pm_la 144 f17) (hF : ∀ j, j < 144 → m_fl w d w0 w1 dx.toInt dy.toInt S (w * d) j < 2 ^ 63) (e5 : g 15 5 = .int (nI n))
    (hc : m_cnt (m_fl w d w0 w1 dx.toInt dy.toInt S (w * d)) 144 = 0) :
    pm_Met G mX1_fly [.ref 15, .int dx, .int dy] z z h g (pm_q (.int 0) (pm_up (pm_up h 17 (pm_la 144 (m_L (m_fl w d w0 w1 dx.toInt dy.toInt S (w * d))))) 16 (pm_la 144 (m_L (m_init (w * d) (-1))))) (m_rst (pm_uf g 15 5 (.int (nI (n + 1)))) (-1))) := by
  have hwd := m_wd hw hd
  refine enX1_fly pm_le.rf ?_
  have key : ∀ v4 v5 v6 : Value, v4.category = 1 → v6.category = 1 → pm_W G mX1_fly z (pm_Φ G z (pm_q (.int 0) (pm_up (pm_up h 17 (pm_la 144 (m_L (m_fl w d w0 w1 dx.toInt dy.toInt S (w * d))))) 16 (pm_la 144 (m_L (m_init (w * d) (-1))))) (m_rst (pm_uf g 15 5 (.int (nI (n + 1)))) (-1)))) 96 [.ref 15, .int dx, .int dy, .int (nI d), v4, v5, v6] [] z (pm_up (pm_up h 17 (pm_la 144 (m_L (m_fl w d w0 w1 dx.toInt dy.toInt S (w * d))))) 16 (pm_la 144 (va_cpy (m_L (m_fl w d w0 w1 dx.toInt dy.toInt S (w * d))) (m_L S) 0 0 144))) g := by
    intro v4 v5 v6 c4 c6
    rw [m_cpy_L (fun j hj => m_fl_hi _ j (by omega)) hS0]
    refine px_aload_n (i := 0) (pc' := 97) dX1_fly_96 rfl rfl rfl ?_
    refine pi_callV (pc' := 100) (c_holders (by repeat (first | assumption | refine pm_I.up ?_ rfl | refine pm_I.uf ?_ rfl)) (by first | assumption | (repeat (first | exact pm_up_e rfl | refine pm_up_o (by decide) ?_)) <;> assumption) hF) okX1_holders ivX1_holders ml_X1_74 ⟨Nat.le_of_ble_eq_true rfl, Nat.le_of_ble_eq_true rfl⟩ dX1_fly_97 rfl rfl rfl (Nat.le_of_ble_eq_true rfl) (by repeat (first | assumption | refine pm_I.up ?_ rfl | refine pm_I.uf ?_ rfl)) rfl cl_1 pm_le.rf pm_le.rf ?_
    rintro _ _ _ ⟨rfl, rfl, rfl⟩
    rw [hc]
    refine px_if_ne (tgt := 109) (pc' := 103) dX1_fly_100 (by decide) rfl (fun q_ => absurd (rfl) q_) (fun _ => ?_)
    refine px_aload_n (i := 0) (pc' := 104) dX1_fly_103 rfl rfl rfl ?_
    refine pi_callV (pc' := 107) (c_beginAgain (by repeat (first | assumption | refine pm_I.up ?_ rfl | refine pm_I.uf ?_ rfl)) e1 e2 hw hd (by first | assumption | (repeat (first | exact pm_up_e rfl | refine pm_up_o (by decide) ?_)) <;> assumption) e5) okX1_beginAgain ivX1_beginAgain ml_X1_77 ⟨Nat.le_of_ble_eq_true rfl, Nat.le_of_ble_eq_true rfl⟩ dX1_fly_104 rfl rfl rfl (Nat.le_of_ble_eq_true rfl) (by repeat (first | assumption | refine pm_I.up ?_ rfl | refine pm_I.uf ?_ rfl)) rfl cl_1 pm_le.rf pm_le.rf ?_
    rintro _ _ _ ⟨rfl, rfl, rfl⟩
    refine px_iconst (v := 0) (pc' := 108) dX1_fly_107 rfl (by decide) ?_
    rw [pm_up_up]
    exact px_zret (ty := .boolean) dX1_fly_108 rfl (rfl) rfl (⟨rfl, rfl, rfl⟩)
  exact c_fly_loop I e1 e2 hw hd e3 e4 h0 h1 hm e hS e17 (key pm_u pm_u pm_u rfl rfl) key
theorem c_fly_ok {w d w0 w1 n : Nat} {dx dy : Int32} {S : Nat → Nat} {f17 : Nat → Int64} {f1 f2 : Nat → Int32} (I : pm_I h g) (e1 : g 3 1 = .int (nI w)) (e2 : g 3 2 = .int (nI d)) (hw : w ≤ 12) (hd : d ≤ 12) (e3 : g 5 1 = .int (nI w0)) (e4 : g 5 2 = .int (nI w1)) (h0 : w0 ≤ 3) (h1 : w1 ≤ 3) (hm : m_mv dx dy) (e : h 16 = pm_la 144 (m_L S)) (hS : ∀ j, j < 144 → S j < 2 ^ 63) (hS0 : ∀ j, 144 ≤ j → S j = 0) (e17 : h 17 = pm_la 144 f17) (hF : ∀ j, j < 144 → m_fl w d w0 w1 dx.toInt dy.toInt S (w * d) j < 2 ^ 63) (e5 : g 6 4 = .int (nI n)) (hn : n < 12) (e6 : h 7 = pm_ia 0 12 f1) (e7 : h 8 = pm_ia 0 12 f2)
    (hc : ¬ m_cnt (m_fl w d w0 w1 dx.toInt dy.toInt S (w * d)) 144 = 0) :
    pm_Met G mX1_fly [.ref 15, .int dx, .int dy] z z h g (pm_q (.int 1) (pm_up (pm_up (pm_up (pm_up h 17 (pm_la 144 (m_L (m_fl w d w0 w1 dx.toInt dy.toInt S (w * d))))) 16 (pm_la 144 (m_L (m_fl w d w0 w1 dx.toInt dy.toInt S (w * d))))) 7 (pm_ia 0 12 (upd f1 n dx))) 8 (pm_ia 0 12 (upd f2 n dy))) (pm_uf g 6 4 (.int (nI (n + 1))))) := by
  have hwd := m_wd hw hd
  have hcl := m_cnt_le (m_fl w d w0 w1 dx.toInt dy.toInt S (w * d)) 144
  refine enX1_fly pm_le.rf ?_
  have key : ∀ v4 v5 v6 : Value, v4.category = 1 → v6.category = 1 → pm_W G mX1_fly z (pm_Φ G z (pm_q (.int 1) (pm_up (pm_up (pm_up (pm_up h 17 (pm_la 144 (m_L (m_fl w d w0 w1 dx.toInt dy.toInt S (w * d))))) 16 (pm_la 144 (m_L (m_fl w d w0 w1 dx.toInt dy.toInt S (w * d))))) 7 (pm_ia 0 12 (upd f1 n dx))) 8 (pm_ia 0 12 (upd f2 n dy))) (pm_uf g 6 4 (.int (nI (n + 1)))))) 96 [.ref 15, .int dx, .int dy, .int (nI d), v4, v5, v6] [] z (pm_up (pm_up h 17 (pm_la 144 (m_L (m_fl w d w0 w1 dx.toInt dy.toInt S (w * d))))) 16 (pm_la 144 (va_cpy (m_L (m_fl w d w0 w1 dx.toInt dy.toInt S (w * d))) (m_L S) 0 0 144))) g := by
    intro v4 v5 v6 c4 c6
    rw [m_cpy_L (fun j hj => m_fl_hi _ j (by omega)) hS0]
    refine px_aload_n (i := 0) (pc' := 97) dX1_fly_96 rfl rfl rfl ?_
    refine pi_callV (pc' := 100) (c_holders (by repeat (first | assumption | refine pm_I.up ?_ rfl | refine pm_I.uf ?_ rfl)) (by first | assumption | (repeat (first | exact pm_up_e rfl | refine pm_up_o (by decide) ?_)) <;> assumption) hF) okX1_holders ivX1_holders ml_X1_74 ⟨Nat.le_of_ble_eq_true rfl, Nat.le_of_ble_eq_true rfl⟩ dX1_fly_97 rfl rfl rfl (Nat.le_of_ble_eq_true rfl) (by repeat (first | assumption | refine pm_I.up ?_ rfl | refine pm_I.uf ?_ rfl)) rfl cl_1 pm_le.rf pm_le.rf ?_
    rintro _ _ _ ⟨rfl, rfl, rfl⟩
    refine px_if_ne (tgt := 109) (pc' := 103) dX1_fly_100 (by decide) rfl (fun _ => ?_) (fun q_ => absurd q_ (nI_ne0 (by omega) (by omega)))
    refine px_aload_n (i := 0) (pc' := 110) dX1_fly_109 rfl rfl rfl ?_
    refine pi_getr (pc' := 113) fl_1_30 dX1_fly_110 rfl (by repeat (first | assumption | refine pm_I.up ?_ rfl | refine pm_I.uf ?_ rfl)) rfl rfl ?_
    refine px_iload_n (i := 1) (pc' := 114) dX1_fly_113 rfl rfl rfl ?_
    refine px_iload_n (i := 2) (pc' := 115) dX1_fly_114 rfl rfl rfl ?_
    refine pi_callV (pc' := 118) (c_addMove (by repeat (first | assumption | refine pm_I.up ?_ rfl | refine pm_I.uf ?_ rfl)) e5 hn (by first | assumption | (repeat (first | exact pm_up_e rfl | refine pm_up_o (by decide) ?_)) <;> assumption) (by first | assumption | (repeat (first | exact pm_up_e rfl | refine pm_up_o (by decide) ?_)) <;> assumption)) okX5_addMove ivX5_addMove ml_X1_80 ⟨Nat.le_of_ble_eq_true rfl, Nat.le_of_ble_eq_true rfl⟩ dX1_fly_115 rfl rfl rfl (Nat.le_of_ble_eq_true rfl) (by repeat (first | assumption | refine pm_I.up ?_ rfl | refine pm_I.uf ?_ rfl)) rfl cl_5 pm_le.rf pm_le.rf ?_
    rintro _ _ _ ⟨rfl, rfl, rfl⟩
    refine px_iconst (v := 1) (pc' := 119) dX1_fly_118 rfl (by decide) ?_
    exact px_zret (ty := .boolean) dX1_fly_119 rfl (rfl) rfl (⟨rfl, rfl, rfl⟩)
  exact c_fly_loop I e1 e2 hw hd e3 e4 h0 h1 hm e hS e17 (key pm_u pm_u pm_u rfl rfl) key
theorem c_sight_ok {w d err m n : Nat} {v : Int32} {f rv ra : Nat → Int32} {S : Nat → Nat} (I : pm_I h g) (e1 : g 3 1 = .int (nI w)) (e2 : g 3 2 = .int (nI d)) (hw : w ≤ 12) (hd : d ≤ 12) (e3 : h 4 = pm_ia 0 144 f) (hf : ∀ c, c < 144 → -1 ≤ (f c).toInt ∧ (f c).toInt ≤ 255) (hv : 0 ≤ v.toInt ∧ v.toInt ≤ 255) (e4 : g 5 0 = .int (nI err)) (he : err ≤ 20) (e : h 16 = pm_la 144 (m_L S)) (hS : ∀ j, j < 144 → S j < 2 ^ 63) (e5 : g 6 5 = .int (nI n)) (hn : n < 40) (e6 : g 6 4 = .int (nI m)) (e7 : h 9 = pm_ia 0 40 rv) (e8 : h 10 = pm_ia 0 40 ra)
    (hc : ¬ m_cnt (m_drop (w * d) f err v.toInt S) 144 = 0) :
    pm_Met G mX1_sight [.ref 15, .int v] z z h g (pm_q (.int 1) (pm_up (pm_up (pm_up h 16 (pm_la 144 (m_L (m_drop (w * d) f err v.toInt S)))) 9 (pm_ia 0 40 (upd rv n v))) 10 (pm_ia 0 40 (upd ra n (nI m)))) (pm_uf g 6 5 (.int (nI (n + 1))))) := by
  have hcl := m_cnt_le (m_drop (w * d) f err v.toInt S) 144
  have hD : ∀ j, j < 144 → m_drop (w * d) f err v.toInt S j < 2 ^ 63 := fun j hj => by
    have := hS j hj
    unfold m_drop
    split <;> omega
  refine enX1_sight pm_le.rf ?_
  refine px_aload_n (i := 0) (pc' := 1) dX1_sight_0 rfl rfl rfl ?_
  refine px_iload_n (i := 1) (pc' := 2) dX1_sight_1 rfl rfl rfl ?_
  refine pi_callV (pc' := 5) (c_dropUnfit I e1 e2 hw hd e3 hf hv e4 he e) okX1_dropUnfit ivX1_dropUnfit ml_X1_89 ⟨Nat.le_of_ble_eq_true rfl, Nat.le_of_ble_eq_true rfl⟩ dX1_sight_2 rfl rfl rfl (Nat.le_of_ble_eq_true rfl) (by repeat (first | assumption | refine pm_I.up ?_ rfl | refine pm_I.uf ?_ rfl)) rfl cl_1 pm_le.rf pm_le.rf ?_
  rintro _ _ _ ⟨rfl, rfl, rfl⟩
  refine px_aload_n (i := 0) (pc' := 6) dX1_sight_5 rfl rfl rfl ?_
  refine pi_callV (pc' := 9) (c_holders (by repeat (first | assumption | refine pm_I.up ?_ rfl | refine pm_I.uf ?_ rfl)) (by first | assumption | (repeat (first | exact pm_up_e rfl | refine pm_up_o (by decide) ?_)) <;> assumption) hD) okX1_holders ivX1_holders ml_X1_74 ⟨Nat.le_of_ble_eq_true rfl, Nat.le_of_ble_eq_true rfl⟩ dX1_sight_6 rfl rfl rfl (Nat.le_of_ble_eq_true rfl) (by repeat (first | assumption | refine pm_I.up ?_ rfl | refine pm_I.uf ?_ rfl)) rfl cl_1 pm_le.rf pm_le.rf ?_
  rintro _ _ _ ⟨rfl, rfl, rfl⟩
  refine px_if_le (tgt := 22) (pc' := 12) dX1_sight_9 (by decide) rfl (fun q_ => absurd q_ (nI_nle (by omega) (by omega))) (fun _ => ?_)
  refine px_aload_n (i := 0) (pc' := 13) dX1_sight_12 rfl rfl rfl ?_
  refine pi_getr (pc' := 16) fl_1_30 dX1_sight_13 rfl (by repeat (first | assumption | refine pm_I.up ?_ rfl | refine pm_I.uf ?_ rfl)) rfl rfl ?_
  refine px_iload_n (i := 1) (pc' := 17) dX1_sight_16 rfl rfl rfl ?_
  refine pi_callV (pc' := 20) (c_addReading (by repeat (first | assumption | refine pm_I.up ?_ rfl | refine pm_I.uf ?_ rfl)) e5 e6 hn (by first | assumption | (repeat (first | exact pm_up_e rfl | refine pm_up_o (by decide) ?_)) <;> assumption) (by first | assumption | (repeat (first | exact pm_up_e rfl | refine pm_up_o (by decide) ?_)) <;> assumption)) okX5_addReading ivX5_addReading ml_X1_92 ⟨Nat.le_of_ble_eq_true rfl, Nat.le_of_ble_eq_true rfl⟩ dX1_sight_17 rfl rfl rfl (Nat.le_of_ble_eq_true rfl) (by repeat (first | assumption | refine pm_I.up ?_ rfl | refine pm_I.uf ?_ rfl)) rfl cl_5 pm_le.rf pm_le.rf ?_
  rintro _ _ _ ⟨rfl, rfl, rfl⟩
  refine px_iconst (v := 1) (pc' := 21) dX1_sight_20 rfl (by decide) ?_
  exact px_zret (ty := .boolean) dX1_sight_21 rfl (rfl) rfl (⟨rfl, rfl, rfl⟩)
theorem c_sight_lost {w d err l : Nat} {v : Int32} {f rv ra : Nat → Int32} {S : Nat → Nat} (I : pm_I h g) (e1 : g 3 1 = .int (nI w)) (e2 : g 3 2 = .int (nI d)) (hw : w ≤ 12) (hd : d ≤ 12) (e3 : h 4 = pm_ia 0 144 f) (hf : ∀ c, c < 144 → -1 ≤ (f c).toInt ∧ (f c).toInt ≤ 255) (hv : 0 ≤ v.toInt ∧ v.toInt ≤ 255) (e4 : g 5 0 = .int (nI err)) (he : err ≤ 20) (e : h 16 = pm_la 144 (m_L S)) (hS : ∀ j, j < 144 → S j < 2 ^ 63) (el : g 15 5 = .int (nI l)) (e7 : h 9 = pm_ia 0 40 rv) (e8 : h 10 = pm_ia 0 40 ra)
    (hc : m_cnt (m_drop (w * d) f err v.toInt S) 144 = 0) :
    pm_Met G mX1_sight [.ref 15, .int v] z z h g (pm_q (.int 0) (pm_up (pm_up (pm_up h 16 (pm_la 144 (m_L (if m_cnt (m_drop (w * d) f err v.toInt (m_init (w * d) (-1))) 144 = 0 then m_init (w * d) (-1) else m_drop (w * d) f err v.toInt (m_init (w * d) (-1)))))) 9 (pm_ia 0 40 (upd rv 0 v))) 10 (pm_ia 0 40 (upd ra 0 0))) (pm_uf (m_rst (pm_uf g 15 5 (.int (nI (l + 1)))) (-1)) 6 5 (.int (nI 1)))) := by
  have hcl := m_cnt_le (m_drop (w * d) f err v.toInt S) 144
  have hD : ∀ S' : Nat → Nat, (∀ j, j < 144 → S' j < 2 ^ 63) → ∀ j, j < 144 → m_drop (w * d) f err v.toInt S' j < 2 ^ 63 := fun S' hS j hj => by
    have := hS j hj
    unfold m_drop
    split <;> omega
  have hI : ∀ j, j < 144 → m_init (w * d) (-1) j < 2 ^ 63 := fun j hj => by unfold m_init; split <;> omega
  have hcl2 := m_cnt_le (m_drop (w * d) f err v.toInt (m_init (w * d) (-1))) 144
  refine enX1_sight pm_le.rf ?_
  refine px_aload_n (i := 0) (pc' := 1) dX1_sight_0 rfl rfl rfl ?_
  refine px_iload_n (i := 1) (pc' := 2) dX1_sight_1 rfl rfl rfl ?_
  refine pi_callV (pc' := 5) (c_dropUnfit I e1 e2 hw hd e3 hf hv e4 he e) okX1_dropUnfit ivX1_dropUnfit ml_X1_89 ⟨Nat.le_of_ble_eq_true rfl, Nat.le_of_ble_eq_true rfl⟩ dX1_sight_2 rfl rfl rfl (Nat.le_of_ble_eq_true rfl) (by repeat (first | assumption | refine pm_I.up ?_ rfl | refine pm_I.uf ?_ rfl)) rfl cl_1 pm_le.rf pm_le.rf ?_
  rintro _ _ _ ⟨rfl, rfl, rfl⟩
  refine px_aload_n (i := 0) (pc' := 6) dX1_sight_5 rfl rfl rfl ?_
  refine pi_callV (pc' := 9) (c_holders (by repeat (first | assumption | refine pm_I.up ?_ rfl | refine pm_I.uf ?_ rfl)) (by first | assumption | (repeat (first | exact pm_up_e rfl | refine pm_up_o (by decide) ?_)) <;> assumption) (hD S hS)) okX1_holders ivX1_holders ml_X1_74 ⟨Nat.le_of_ble_eq_true rfl, Nat.le_of_ble_eq_true rfl⟩ dX1_sight_6 rfl rfl rfl (Nat.le_of_ble_eq_true rfl) (by repeat (first | assumption | refine pm_I.up ?_ rfl | refine pm_I.uf ?_ rfl)) rfl cl_1 pm_le.rf pm_le.rf ?_
  rintro _ _ _ ⟨rfl, rfl, rfl⟩
  rw [hc]
  refine px_if_le (tgt := 22) (pc' := 12) dX1_sight_9 (by decide) rfl (fun _ => ?_) (fun q_ => absurd (by decide) q_)
  refine px_aload_n (i := 0) (pc' := 23) dX1_sight_22 rfl rfl rfl ?_
  refine pi_callV (pc' := 26) (c_beginAgain (by repeat (first | assumption | refine pm_I.up ?_ rfl | refine pm_I.uf ?_ rfl)) e1 e2 hw hd (by first | assumption | (repeat (first | exact pm_up_e rfl | refine pm_up_o (by decide) ?_)) <;> assumption) el) okX1_beginAgain ivX1_beginAgain ml_X1_77 ⟨Nat.le_of_ble_eq_true rfl, Nat.le_of_ble_eq_true rfl⟩ dX1_sight_23 rfl rfl rfl (Nat.le_of_ble_eq_true rfl) (by repeat (first | assumption | refine pm_I.up ?_ rfl | refine pm_I.uf ?_ rfl)) rfl cl_1 pm_le.rf pm_le.rf ?_
  rintro _ _ _ ⟨rfl, rfl, rfl⟩
  rw [pm_up_up]
  generalize hg1 : m_rst (pm_uf g 15 5 (.int (nI (l + 1)))) (-1) = g1
  have I1 : pm_I h g1 := by rw [← hg1]; unfold m_rst; exact (by repeat (first | assumption | refine pm_I.up ?_ rfl | refine pm_I.uf ?_ rfl))
  have a1 : g1 3 1 = .int (nI w) := by rw [← hg1]; unfold m_rst; exact (by first | assumption | (repeat (first | exact pm_uf_e rfl | refine pm_uf_o (by decide) ?_)) <;> assumption)
  have a2 : g1 3 2 = .int (nI d) := by rw [← hg1]; unfold m_rst; exact (by first | assumption | (repeat (first | exact pm_uf_e rfl | refine pm_uf_o (by decide) ?_)) <;> assumption)
  have a3 : g1 5 0 = .int (nI err) := by rw [← hg1]; unfold m_rst; exact (by first | assumption | (repeat (first | exact pm_uf_e rfl | refine pm_uf_o (by decide) ?_)) <;> assumption)
  have a4 : g1 6 5 = .int (nI 0) := by rw [← hg1]; unfold m_rst; exact pm_uf_o (by decide) (pm_uf_e rfl)
  have a5 : g1 6 4 = .int 0 := by rw [← hg1]; unfold m_rst; exact pm_uf_o (by decide) (pm_uf_o (by decide) (pm_uf_e rfl))
  refine px_aload_n (i := 0) (pc' := 27) dX1_sight_26 rfl rfl rfl ?_
  refine px_iload_n (i := 1) (pc' := 28) dX1_sight_27 rfl rfl rfl ?_
  refine pi_callV (pc' := 31) (c_dropUnfit (by repeat (first | assumption | refine pm_I.up ?_ rfl | refine pm_I.uf ?_ rfl)) a1 a2 hw hd (by first | assumption | (repeat (first | exact pm_up_e rfl | refine pm_up_o (by decide) ?_)) <;> assumption) hf hv a3 he (by first | assumption | (repeat (first | exact pm_up_e rfl | refine pm_up_o (by decide) ?_)) <;> assumption)) okX1_dropUnfit ivX1_dropUnfit ml_X1_89 ⟨Nat.le_of_ble_eq_true rfl, Nat.le_of_ble_eq_true rfl⟩ dX1_sight_28 rfl rfl rfl (Nat.le_of_ble_eq_true rfl) (by repeat (first | assumption | refine pm_I.up ?_ rfl | refine pm_I.uf ?_ rfl)) rfl cl_1 pm_le.rf pm_le.rf ?_
  rintro _ _ _ ⟨rfl, rfl, rfl⟩
  refine px_aload_n (i := 0) (pc' := 32) dX1_sight_31 rfl rfl rfl ?_
  refine pi_callV (pc' := 35) (c_holders (by repeat (first | assumption | refine pm_I.up ?_ rfl | refine pm_I.uf ?_ rfl)) (by first | assumption | (repeat (first | exact pm_up_e rfl | refine pm_up_o (by decide) ?_)) <;> assumption) (hD _ hI)) okX1_holders ivX1_holders ml_X1_74 ⟨Nat.le_of_ble_eq_true rfl, Nat.le_of_ble_eq_true rfl⟩ dX1_sight_32 rfl rfl rfl (Nat.le_of_ble_eq_true rfl) (by repeat (first | assumption | refine pm_I.up ?_ rfl | refine pm_I.uf ?_ rfl)) rfl cl_1 pm_le.rf pm_le.rf ?_
  rintro _ _ _ ⟨rfl, rfl, rfl⟩
  rw [pm_up_up]
  by_cases q : m_cnt (m_drop (w * d) f err v.toInt (m_init (w * d) (-1))) 144 = 0
  · rw [if_pos q, q]
    refine px_if_ne (tgt := 43) (pc' := 38) dX1_sight_35 (by decide) rfl (fun q_ => absurd (rfl) q_) (fun _ => ?_)
    refine px_aload_n (i := 0) (pc' := 39) dX1_sight_38 rfl rfl rfl ?_
    refine px_iconst (v := -1) (pc' := 40) dX1_sight_39 rfl (by decide) ?_
    refine pi_callV (pc' := 43) (c_start (by repeat (first | assumption | refine pm_I.up ?_ rfl | refine pm_I.uf ?_ rfl)) a1 a2 hw hd (by first | assumption | (repeat (first | exact pm_up_e rfl | refine pm_up_o (by decide) ?_)) <;> assumption)) okX1_start ivX1_start ml_X1_95 ⟨Nat.le_of_ble_eq_true rfl, Nat.le_of_ble_eq_true rfl⟩ dX1_sight_40 rfl rfl rfl (Nat.le_of_ble_eq_true rfl) (by repeat (first | assumption | refine pm_I.up ?_ rfl | refine pm_I.uf ?_ rfl)) rfl cl_1 pm_le.rf pm_le.rf ?_
    rintro _ _ _ ⟨rfl, rfl, rfl⟩
    have er : m_rst g1 (-1) = g1 := by
      rw [← hg1]
      unfold m_rst
      funext a k
      simp only [pm_uf]
      repeat' split
      all_goals first | rfl | (exfalso; omega)
    rw [er, pm_up_up]
    refine px_aload_n (i := 0) (pc' := 44) dX1_sight_43 rfl rfl rfl ?_
    refine pi_getr (pc' := 47) fl_1_30 dX1_sight_44 rfl (by repeat (first | assumption | refine pm_I.up ?_ rfl | refine pm_I.uf ?_ rfl)) rfl rfl ?_
    refine px_iload_n (i := 1) (pc' := 48) dX1_sight_47 rfl rfl rfl ?_
    refine pi_callV (pc' := 51) (c_addReading (by repeat (first | assumption | refine pm_I.up ?_ rfl | refine pm_I.uf ?_ rfl)) a4 a5 (by omega) (by first | assumption | (repeat (first | exact pm_up_e rfl | refine pm_up_o (by decide) ?_)) <;> assumption) (by first | assumption | (repeat (first | exact pm_up_e rfl | refine pm_up_o (by decide) ?_)) <;> assumption)) okX5_addReading ivX5_addReading ml_X1_92 ⟨Nat.le_of_ble_eq_true rfl, Nat.le_of_ble_eq_true rfl⟩ dX1_sight_48 rfl rfl rfl (Nat.le_of_ble_eq_true rfl) (by repeat (first | assumption | refine pm_I.up ?_ rfl | refine pm_I.uf ?_ rfl)) rfl cl_5 pm_le.rf pm_le.rf ?_
    rintro _ _ _ ⟨rfl, rfl, rfl⟩
    refine px_iconst (v := 0) (pc' := 52) dX1_sight_51 rfl (by decide) ?_
    exact px_zret (ty := .boolean) dX1_sight_52 rfl (rfl) rfl (⟨rfl, rfl, rfl⟩)
  · rw [if_neg q]
    refine px_if_ne (tgt := 43) (pc' := 38) dX1_sight_35 (by decide) rfl (fun _ => ?_) (fun q_ => absurd q_ (nI_ne0 (by omega) (by omega)))
    refine px_aload_n (i := 0) (pc' := 44) dX1_sight_43 rfl rfl rfl ?_
    refine pi_getr (pc' := 47) fl_1_30 dX1_sight_44 rfl (by repeat (first | assumption | refine pm_I.up ?_ rfl | refine pm_I.uf ?_ rfl)) rfl rfl ?_
    refine px_iload_n (i := 1) (pc' := 48) dX1_sight_47 rfl rfl rfl ?_
    refine pi_callV (pc' := 51) (c_addReading (by repeat (first | assumption | refine pm_I.up ?_ rfl | refine pm_I.uf ?_ rfl)) a4 a5 (by omega) (by first | assumption | (repeat (first | exact pm_up_e rfl | refine pm_up_o (by decide) ?_)) <;> assumption) (by first | assumption | (repeat (first | exact pm_up_e rfl | refine pm_up_o (by decide) ?_)) <;> assumption)) okX5_addReading ivX5_addReading ml_X1_92 ⟨Nat.le_of_ble_eq_true rfl, Nat.le_of_ble_eq_true rfl⟩ dX1_sight_48 rfl rfl rfl (Nat.le_of_ble_eq_true rfl) (by repeat (first | assumption | refine pm_I.up ?_ rfl | refine pm_I.uf ?_ rfl)) rfl cl_5 pm_le.rf pm_le.rf ?_
    rintro _ _ _ ⟨rfl, rfl, rfl⟩
    refine px_iconst (v := 0) (pc' := 52) dX1_sight_51 rfl (by decide) ?_
    exact px_zret (ty := .boolean) dX1_sight_52 rfl (rfl) rfl (⟨rfl, rfl, rfl⟩)
theorem c_edge_n {a : Int32} (ha : ¬ (0 ≤ a.toInt ∧ a.toInt ≤ 3)) : pm_Met G mX1_edge [.ref 15, .int a] z z h g (pm_q (.int (-1)) h g) := by
  refine enX1_edge pm_le.rf ?_
  refine px_iload_n (i := 1) (pc' := 1) dX1_edge_0 rfl rfl rfl ?_
  refine px_if_lt (tgt := 9) (pc' := 4) dX1_edge_1 (by decide) rfl (fun q => ?_) (fun q => ?_)
  · refine px_iconst (v := -1) (pc' := 10) dX1_edge_9 rfl (by decide) ?_
    exact px_iret dX1_edge_10 rfl rfl (⟨rfl, rfl, rfl⟩)
  rw [i_lt, i_0] at q
  refine px_iload_n (i := 1) (pc' := 5) dX1_edge_4 rfl rfl rfl ?_
  refine px_iconst (v := 3) (pc' := 6) dX1_edge_5 rfl (by decide) ?_
  refine px_icmp_le (tgt := 11) (pc' := 9) dX1_edge_6 (by decide) rfl (fun q2 => ?_) (fun q2 => ?_)
  · rw [i_le, l_3] at q2
    exact absurd (by omega) ha
  · refine px_iconst (v := -1) (pc' := 10) dX1_edge_9 rfl (by decide) ?_
    exact px_iret dX1_edge_10 rfl rfl (⟨rfl, rfl, rfl⟩)
theorem c_edge {w d a : Nat} {S : Nat → Nat} (I : pm_I h g) (e1 : g 3 1 = .int (nI w)) (e2 : g 3 2 = .int (nI d)) (hw : w ≤ 12) (hd : d ≤ 12) (e : h 16 = pm_la 144 (m_L S)) (hS : ∀ j, j < 144 → S j < 2 ^ 63) (ha : a ≤ 3) : pm_Met G mX1_edge [.ref 15, .int (nI a)] z z h g (pm_q (.int (iZ (m_ed w S a (w * d)))) h g) := by
  have hwd := m_wd hw hd
  have hat : (nI a).toInt = a := nI_toInt (by omega)
  refine enX1_edge pm_le.rf ?_
  have st : pm_W G mX1_edge z (pm_Φ G z (pm_q (.int (iZ (m_ed w S a (w * d)))) h g)) 26 [.ref 15, .int (nI a), pm_u, pm_u, pm_u, pm_u, pm_u] [.int (if a % 2 = 1 then 1 else 0)] z h g := by
    refine sx_i_n_7_2 (pc' := 27) dX1_edge_26 rfl rfl rfl rfl ?_
    refine px_iconst (v := -1) (pc' := 28) dX1_edge_27 rfl (by decide) ?_
    refine sx_i_n_7_3 (pc' := 29) dX1_edge_28 rfl rfl rfl rfl ?_
    refine px_iconst (v := 0) (pc' := 30) dX1_edge_29 rfl (by decide) ?_
    refine sx_i_7_4 (pc' := 32) dX1_edge_30 rfl rfl rfl ?_
    have outer : ∀ k y : Nat, y + k = d → ∀ v5 v6 : Value, v5.category = 1 → v6.category = 1 → pm_W G mX1_edge z (pm_Φ G z (pm_q (.int (iZ (m_ed w S a (w * d)))) h g)) 32 [.ref 15, .int (nI a), .int (if a % 2 = 1 then 1 else 0), .int (iZ (m_ed w S a (w * y))), .int (nI y), v5, v6] [] z h g := by
      intro k
      induction k with
      | zero =>
        intro y hy v5 v6 c5 c6
        have : y = d := by omega
        subst this
        refine px_iload (i := 4) (pc' := 34) dX1_edge_32 rfl rfl ?_
        refine px_aload_n (i := 0) (pc' := 35) dX1_edge_34 rfl rfl rfl ?_
        refine pi_getr (pc' := 38) fl_1_22 dX1_edge_35 rfl (by repeat (first | assumption | refine pm_I.up ?_ rfl | refine pm_I.uf ?_ rfl)) rfl rfl ?_
        refine pi_callV (pc' := 41) (c_depth (by repeat (first | assumption | refine pm_I.up ?_ rfl | refine pm_I.uf ?_ rfl)) e2) okX3_depth ivX3_depth ml_X1_49 ⟨Nat.le_of_ble_eq_true rfl, Nat.le_of_ble_eq_true rfl⟩ dX1_edge_38 rfl rfl rfl (Nat.le_of_ble_eq_true rfl) (by repeat (first | assumption | refine pm_I.up ?_ rfl | refine pm_I.uf ?_ rfl)) rfl cl_3 pm_le.rf pm_le.rf ?_
        rintro _ _ _ ⟨rfl, rfl, rfl⟩
        refine px_icmp_ge (tgt := 136) (pc' := 44) dX1_edge_41 (by decide) rfl (fun _ => ?_) (fun q_ => absurd (nI_le (by omega) (by omega)) q_)
        refine px_iload_n (i := 3) (pc' := 137) dX1_edge_136 rfl rfl rfl ?_
        exact px_iret dX1_edge_137 rfl rfl (⟨rfl, rfl, rfl⟩)
      | succ k ih =>
        intro y hy v5 v6 c5 c6
        refine px_iload (i := 4) (pc' := 34) dX1_edge_32 rfl rfl ?_
        refine px_aload_n (i := 0) (pc' := 35) dX1_edge_34 rfl rfl rfl ?_
        refine pi_getr (pc' := 38) fl_1_22 dX1_edge_35 rfl (by repeat (first | assumption | refine pm_I.up ?_ rfl | refine pm_I.uf ?_ rfl)) rfl rfl ?_
        refine pi_callV (pc' := 41) (c_depth (by repeat (first | assumption | refine pm_I.up ?_ rfl | refine pm_I.uf ?_ rfl)) e2) okX3_depth ivX3_depth ml_X1_49 ⟨Nat.le_of_ble_eq_true rfl, Nat.le_of_ble_eq_true rfl⟩ dX1_edge_38 rfl rfl rfl (Nat.le_of_ble_eq_true rfl) (by repeat (first | assumption | refine pm_I.up ?_ rfl | refine pm_I.uf ?_ rfl)) rfl cl_3 pm_le.rf pm_le.rf ?_
        rintro _ _ _ ⟨rfl, rfl, rfl⟩
        refine px_icmp_ge (tgt := 136) (pc' := 44) dX1_edge_41 (by decide) rfl (fun q_ => absurd q_ (nI_ge (by omega) (by omega))) (fun _ => ?_)
        refine px_iconst (v := 0) (pc' := 45) dX1_edge_44 rfl (by decide) ?_
        refine sx_i_7_5 (pc' := 47) dX1_edge_45 rfl rfl rfl ?_
        have inner : ∀ k2 x : Nat, x + k2 = w → ∀ v6 : Value, v6.category = 1 → pm_W G mX1_edge z (pm_Φ G z (pm_q (.int (iZ (m_ed w S a (w * d)))) h g)) 47 [.ref 15, .int (nI a), .int (if a % 2 = 1 then 1 else 0), .int (iZ (m_ed w S a (w * y + x))), .int (nI y), .int (nI x), v6] [] z h g := by
          intro k2
          induction k2 with
          | zero =>
            intro x hx v6 c6
            have : x = w := by omega
            subst this
            refine px_iload (i := 5) (pc' := 49) dX1_edge_47 rfl rfl ?_
            refine px_aload_n (i := 0) (pc' := 50) dX1_edge_49 rfl rfl rfl ?_
            refine pi_getr (pc' := 53) fl_1_22 dX1_edge_50 rfl (by repeat (first | assumption | refine pm_I.up ?_ rfl | refine pm_I.uf ?_ rfl)) rfl rfl ?_
            refine pi_callV (pc' := 56) (c_width (x := .null) (by repeat (first | assumption | refine pm_I.up ?_ rfl | refine pm_I.uf ?_ rfl)) e1) okX3_width ivX3_width ml_X1_53 ⟨Nat.le_of_ble_eq_true rfl, Nat.le_of_ble_eq_true rfl⟩ dX1_edge_53 rfl rfl rfl (Nat.le_of_ble_eq_true rfl) (by repeat (first | assumption | refine pm_I.up ?_ rfl | refine pm_I.uf ?_ rfl)) rfl cl_3 pm_le.rf pm_le.rf ?_
            rintro _ _ _ ⟨rfl, rfl, rfl⟩
            refine px_icmp_ge (tgt := 130) (pc' := 59) dX1_edge_56 (by decide) rfl (fun _ => ?_) (fun q_ => absurd (nI_le (by omega) (by omega)) q_)
            refine sx_inc_7_4 (w := 1) (pc' := 133) dX1_edge_130 rfl rfl (by decide) rfl ?_
            refine px_goto (tgt := 32) dX1_edge_133 (by decide) ?_
            rw [nI_1]
            have := ih (y + 1) (by omega) (.int (nI x)) v6 rfl c6
            rw [Nat.mul_add, Nat.mul_one] at this
            exact this
          | succ k2 ih2 =>
            intro x hx v6 c6
            have hlt : w * y + x < w * d := m_yx (by omega) (by omega)
            have hxt : (nI x).toInt = x := nI_toInt (by omega)
            have hyt : (nI y).toInt = y := nI_toInt (by omega)
            refine px_iload (i := 5) (pc' := 49) dX1_edge_47 rfl rfl ?_
            refine px_aload_n (i := 0) (pc' := 50) dX1_edge_49 rfl rfl rfl ?_
            refine pi_getr (pc' := 53) fl_1_22 dX1_edge_50 rfl (by repeat (first | assumption | refine pm_I.up ?_ rfl | refine pm_I.uf ?_ rfl)) rfl rfl ?_
            refine pi_callV (pc' := 56) (c_width (x := .null) (by repeat (first | assumption | refine pm_I.up ?_ rfl | refine pm_I.uf ?_ rfl)) e1) okX3_width ivX3_width ml_X1_53 ⟨Nat.le_of_ble_eq_true rfl, Nat.le_of_ble_eq_true rfl⟩ dX1_edge_53 rfl rfl rfl (Nat.le_of_ble_eq_true rfl) (by repeat (first | assumption | refine pm_I.up ?_ rfl | refine pm_I.uf ?_ rfl)) rfl cl_3 pm_le.rf pm_le.rf ?_
            rintro _ _ _ ⟨rfl, rfl, rfl⟩
            refine px_icmp_ge (tgt := 130) (pc' := 59) dX1_edge_56 (by decide) rfl (fun q_ => absurd q_ (nI_ge (by omega) (by omega))) (fun _ => ?_)
            refine px_aload_n (i := 0) (pc' := 60) dX1_edge_59 rfl rfl rfl ?_
            refine px_aload_n (i := 0) (pc' := 61) dX1_edge_60 rfl rfl rfl ?_
            refine pi_getr (pc' := 64) fl_1_22 dX1_edge_61 rfl (by repeat (first | assumption | refine pm_I.up ?_ rfl | refine pm_I.uf ?_ rfl)) rfl rfl ?_
            refine px_iload (i := 5) (pc' := 66) dX1_edge_64 rfl rfl ?_
            refine px_iload (i := 4) (pc' := 68) dX1_edge_66 rfl rfl ?_
            refine pi_callV (pc' := 71) (c_cellAt (by repeat (first | assumption | refine pm_I.up ?_ rfl | refine pm_I.uf ?_ rfl)) e1 e2 hw hd) okX3_cellAt ivX3_cellAt ml_X1_56 ⟨Nat.le_of_ble_eq_true rfl, Nat.le_of_ble_eq_true rfl⟩ dX1_edge_68 rfl rfl rfl (Nat.le_of_ble_eq_true rfl) (by repeat (first | assumption | refine pm_I.up ?_ rfl | refine pm_I.uf ?_ rfl)) rfl cl_3 pm_le.rf pm_le.rf ?_
            rintro _ _ _ ⟨rfl, rfl, rfl⟩
            rw [hxt, hyt, m_off_in (by omega) (by omega), iZ_n]
            refine pi_callV (pc' := 74) (c_shareOf (by repeat (first | assumption | refine pm_I.up ?_ rfl | refine pm_I.uf ?_ rfl)) (by first | assumption | (repeat (first | exact pm_up_e rfl | refine pm_up_o (by decide) ?_)) <;> assumption) (by omega)) okX1_shareOf ivX1_shareOf ml_X1_60 ⟨Nat.le_of_ble_eq_true rfl, Nat.le_of_ble_eq_true rfl⟩ dX1_edge_71 rfl rfl rfl (Nat.le_of_ble_eq_true rfl) (by repeat (first | assumption | refine pm_I.up ?_ rfl | refine pm_I.uf ?_ rfl)) rfl cl_1 pm_le.rf pm_le.rf ?_
            rintro _ _ _ ⟨rfl, rfl, rfl⟩
            refine px_lconst (v := 0) (pc' := 75) dX1_edge_74 rfl (by decide) ?_
            refine px_lcmp (pc' := 76) dX1_edge_75 rfl ?_
            have nx := fun (v : Value) (hv : v.category = 1) => ih2 (x + 1) (by omega) v hv
            have hbd := m_ed_bd (w := w) (S := S) (what := a) (w * y + x)
            rw [← Nat.add_assoc, m_ed_s, (m_cw (show x < w by omega)).1, (m_cw (show x < w by omega)).2] at nx
            rw [show m_L S (w * y + x) = lN (S (w * y + x)) from rfl]
            generalize m_ed w S a (w * y + x) = fo at hbd nx ⊢
            have hft : (iZ fo).toInt = fo := iZ_t (by omega) (by omega)
            refine px_if_le (tgt := 124) (pc' := 79) dX1_edge_76 (by decide) rfl (fun q => ?_) (fun q => ?_)
            · have q := (lc_le0 (hS _ (by omega))).mp q
              rw [if_neg (show ¬ 0 < S (w * y + x) by omega)] at nx
              refine sx_inc_7_5 (w := 1) (pc' := 127) dX1_edge_124 rfl rfl (by decide) rfl ?_
              refine px_goto (tgt := 47) dX1_edge_127 (by decide) ?_
              rw [nI_1]
              exact nx _ c6
            have q : ¬ S (w * y + x) = 0 := fun hh => q ((lc_le0 (hS _ (by omega))).mpr hh)
            rw [if_pos (show 0 < S (w * y + x) by omega)] at nx
            have mid : ∀ p : Nat, p ≤ 144 → p = (if a < 2 then x else y) → pm_W G mX1_edge z (pm_Φ G z (pm_q (.int (iZ (m_ed w S a (w * d)))) h g)) 91 [.ref 15, .int (nI a), .int (if a % 2 = 1 then 1 else 0), .int (iZ fo), .int (nI y), .int (nI x), v6] [.int (nI p)] z h g := by
              intro p hp1 hp
              rw [← hp] at nx
              have hpt : (nI p).toInt = p := nI_toInt (by omega)
              refine sx_i_7_6 (pc' := 93) dX1_edge_91 rfl rfl rfl ?_
              refine px_iload_n (i := 3) (pc' := 94) dX1_edge_93 rfl rfl rfl ?_
              refine px_iconst (v := -1) (pc' := 95) dX1_edge_94 rfl (by decide) ?_
              refine px_icmp_eq (tgt := 117) (pc' := 98) dX1_edge_95 (by decide) rfl (fun q2 => ?_) (fun q2 => ?_)
              · rw [i_eq, hft, l_m1] at q2
                rw [if_pos (Or.inl q2)] at nx
                refine px_iload (i := 6) (pc' := 119) dX1_edge_117 rfl rfl ?_
                refine px_goto (tgt := 123) dX1_edge_119 (by decide) ?_
                refine sx_i_n_7_3 (pc' := 124) dX1_edge_123 rfl rfl rfl rfl ?_
                refine sx_inc_7_5 (w := 1) (pc' := 127) dX1_edge_124 rfl rfl (by decide) rfl ?_
                refine px_goto (tgt := 47) dX1_edge_127 (by decide) ?_
                rw [nI_1, ← iZ_n p]
                exact nx _ rfl
              · rw [i_eq, hft, l_m1] at q2
                refine px_iload_n (i := 2) (pc' := 99) dX1_edge_98 rfl rfl rfl ?_
                refine px_if_eq (tgt := 111) (pc' := 102) dX1_edge_99 (by decide) rfl (fun q3 => ?_) (fun q3 => ?_)
                · rw [b_0] at q3
                  refine px_iload (i := 6) (pc' := 113) dX1_edge_111 rfl rfl ?_
                  refine px_iload_n (i := 3) (pc' := 114) dX1_edge_113 rfl rfl rfl ?_
                  refine px_icmp_ge (tgt := 122) (pc' := 117) dX1_edge_114 (by decide) rfl (fun q4 => ?_) (fun q4 => ?_)
                  · rw [i_le, hft, hpt] at q4
                    have en : (if fo = -1 ∨ (if a % 2 = 1 then fo < (p : Int) else (p : Int) < fo) then (p : Int) else fo) = fo := if_neg (fun hh => hh.elim q2 (fun h2 => by rw [if_neg q3] at h2; omega))
                    rw [en] at nx
                    refine px_iload_n (i := 3) (pc' := 123) dX1_edge_122 rfl rfl rfl ?_
                    refine sx_i_n_7_3 (pc' := 124) dX1_edge_123 rfl rfl rfl rfl ?_
                    refine sx_inc_7_5 (w := 1) (pc' := 127) dX1_edge_124 rfl rfl (by decide) rfl ?_
                    refine px_goto (tgt := 47) dX1_edge_127 (by decide) ?_
                    rw [nI_1]
                    exact nx _ rfl
                  · rw [i_le, hft, hpt] at q4
                    have en : (if fo = -1 ∨ (if a % 2 = 1 then fo < (p : Int) else (p : Int) < fo) then (p : Int) else fo) = p := if_pos (Or.inr (by rw [if_neg q3]; omega))
                    rw [en] at nx
                    refine px_iload (i := 6) (pc' := 119) dX1_edge_117 rfl rfl ?_
                    refine px_goto (tgt := 123) dX1_edge_119 (by decide) ?_
                    refine sx_i_n_7_3 (pc' := 124) dX1_edge_123 rfl rfl rfl rfl ?_
                    refine sx_inc_7_5 (w := 1) (pc' := 127) dX1_edge_124 rfl rfl (by decide) rfl ?_
                    refine px_goto (tgt := 47) dX1_edge_127 (by decide) ?_
                    rw [nI_1, ← iZ_n p]
                    exact nx _ rfl
                · rw [b_n0] at q3
                  refine px_iload (i := 6) (pc' := 104) dX1_edge_102 rfl rfl ?_
                  refine px_iload_n (i := 3) (pc' := 105) dX1_edge_104 rfl rfl rfl ?_
                  refine px_icmp_le (tgt := 122) (pc' := 108) dX1_edge_105 (by decide) rfl (fun q4 => ?_) (fun q4 => ?_)
                  · rw [i_le, hft, hpt] at q4
                    have en : (if fo = -1 ∨ (if a % 2 = 1 then fo < (p : Int) else (p : Int) < fo) then (p : Int) else fo) = fo := if_neg (fun hh => hh.elim q2 (fun h2 => by rw [if_pos q3] at h2; omega))
                    rw [en] at nx
                    refine px_iload_n (i := 3) (pc' := 123) dX1_edge_122 rfl rfl rfl ?_
                    refine sx_i_n_7_3 (pc' := 124) dX1_edge_123 rfl rfl rfl rfl ?_
                    refine sx_inc_7_5 (w := 1) (pc' := 127) dX1_edge_124 rfl rfl (by decide) rfl ?_
                    refine px_goto (tgt := 47) dX1_edge_127 (by decide) ?_
                    rw [nI_1]
                    exact nx _ rfl
                  · rw [i_le, hft, hpt] at q4
                    have en : (if fo = -1 ∨ (if a % 2 = 1 then fo < (p : Int) else (p : Int) < fo) then (p : Int) else fo) = p := if_pos (Or.inr (by rw [if_pos q3]; omega))
                    rw [en] at nx
                    refine px_goto (tgt := 117) dX1_edge_108 (by decide) ?_
                    refine px_iload (i := 6) (pc' := 119) dX1_edge_117 rfl rfl ?_
                    refine px_goto (tgt := 123) dX1_edge_119 (by decide) ?_
                    refine sx_i_n_7_3 (pc' := 124) dX1_edge_123 rfl rfl rfl rfl ?_
                    refine sx_inc_7_5 (w := 1) (pc' := 127) dX1_edge_124 rfl rfl (by decide) rfl ?_
                    refine px_goto (tgt := 47) dX1_edge_127 (by decide) ?_
                    rw [nI_1, ← iZ_n p]
                    exact nx _ rfl
            refine px_iload_n (i := 1) (pc' := 80) dX1_edge_79 rfl rfl rfl ?_
            refine px_iconst (v := 2) (pc' := 81) dX1_edge_80 rfl (by decide) ?_
            refine px_icmp_ge (tgt := 89) (pc' := 84) dX1_edge_81 (by decide) rfl (fun q5 => ?_) (fun q5 => ?_)
            · rw [i_le, l_2, hat] at q5
              refine px_iload (i := 4) (pc' := 91) dX1_edge_89 rfl rfl ?_
              exact mid y (by omega) (by rw [if_neg (by omega)])
            · rw [i_le, l_2, hat] at q5
              refine px_iload (i := 5) (pc' := 86) dX1_edge_84 rfl rfl ?_
              refine px_goto (tgt := 91) dX1_edge_86 (by decide) ?_
              exact mid x (by omega) (by rw [if_pos (by omega)])
        exact inner w 0 (by omega) v6 c6
    have := outer d 0 (by omega) pm_u pm_u rfl rfl
    exact this
  refine px_iload_n (i := 1) (pc' := 1) dX1_edge_0 rfl rfl rfl ?_
  refine px_if_lt (tgt := 9) (pc' := 4) dX1_edge_1 (by decide) rfl (fun q_ => absurd q_ (by rw [i_lt, i_0]; omega)) (fun _ => ?_)
  refine px_iload_n (i := 1) (pc' := 5) dX1_edge_4 rfl rfl rfl ?_
  refine px_iconst (v := 3) (pc' := 6) dX1_edge_5 rfl (by decide) ?_
  refine px_icmp_le (tgt := 11) (pc' := 9) dX1_edge_6 (by decide) rfl (fun _ => ?_) (fun q_ => absurd (by rw [i_le, l_3]; omega) q_)
  refine px_iload_n (i := 1) (pc' := 12) dX1_edge_11 rfl rfl rfl ?_
  refine px_iconst (v := 1) (pc' := 13) dX1_edge_12 rfl (by decide) ?_
  refine px_icmp_eq (tgt := 21) (pc' := 16) dX1_edge_13 (by decide) rfl (fun q => ?_) (fun q => ?_)
  · rw [i_eq, hat, l_1] at q
    rw [if_pos (by omega)] at st
    refine px_iconst (v := 1) (pc' := 22) dX1_edge_21 rfl (by decide) ?_
    refine px_goto (tgt := 26) dX1_edge_22 (by decide) ?_
    exact st
  · rw [i_eq, hat, l_1] at q
    refine px_iload_n (i := 1) (pc' := 17) dX1_edge_16 rfl rfl rfl ?_
    refine px_iconst (v := 3) (pc' := 18) dX1_edge_17 rfl (by decide) ?_
    refine px_icmp_ne (tgt := 25) (pc' := 21) dX1_edge_18 (by decide) rfl (fun q2 => ?_) (fun q2 => ?_)
    · rw [i_eq, hat, l_3] at q2
      rw [if_neg (by omega)] at st
      refine px_iconst (v := 0) (pc' := 26) dX1_edge_25 rfl (by decide) ?_
      exact st
    · rw [i_eq, hat, l_3] at q2
      rw [if_pos (by omega)] at st
      refine px_iconst (v := 1) (pc' := 22) dX1_edge_21 rfl (by decide) ?_
      refine px_goto (tgt := 26) dX1_edge_22 (by decide) ?_
      exact st
end FL2
