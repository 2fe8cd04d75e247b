section OPS6
variable {G : pm_G}
theorem o_move {x y : Int32} : pm_op G mX8_move mX9_move [.int x, .int y] := by
  intro z h g j
  obtain ⟨I, ⟨n, T, q1⟩, ⟨w, d, η, q2, q3, q4⟩, ⟨e, a0, a1, q5⟩, q6, q7, q8⟩ := id j
  obtain ⟨m1, m2, m3, m4, m5, m6, m7, m8, m9, mA, mB⟩ := id q2
  obtain ⟨S, legs, reads, lost, lx, ly, rv, ra, start, f17, f38, fp, s1, s2, s3, s4, s5, s6, s7, s8, s9, sA, sB, sC, sD, sE, sF, sG, sH, sI, sJ, sK⟩ := id q4
  obtain ⟨u1, u2, u3, u4, u5, u6, u7, u8, u9, uA⟩ := id q5
  have hwd := m_wd m2 m4
  have w4 : 2 * 2 ≤ w * d := Nat.mul_le_mul m1 m3
  have hS25 := fp.S63
  rw [p25] at hS25
  have hS63 : ∀ j, j < 144 → S j < 2 ^ 63 := fun j _ => by have := hS25 j; omega
  obtain ⟨p1, p2, p3, p4, p5, p6, p7, p8⟩ := fp
  have el : (nI legs).toInt = legs := nI_toInt (by omega)
  have ne12 : legs < 12 → ¬ nI legs = 12 := fun hr q => by
    have := congrArg Int32.toInt q
    rw [nI_toInt (by omega), l_12] at this
    omega
  have nz : ∀ k : Nat, k ≤ 144 → nI k = 0 → k = 0 := fun k hk q => by
    have := congrArg Int32.toInt q
    rw [nI_toInt (by omega), i_0] at this
    omega
  by_cases ok : m_mv x y ∧ legs < 12
  rotate_left
  · refine ⟨-1, ?_⟩
    have fin : pm_W G mX8_move z (pm_Φ G z (fun r h1 g1 => r = some (.int (-1)) ∧ pm_I h1 g1 ∧ pm_Met G mX9_move [.ref 30, .int x, .int y] z z h1 g1 (fun r' h2 g2 => r' = some (.int (-1)) ∧ J h2 g2))) 20 [.ref 0, .int x, .int y] [] z h g := by
      refine px_iconst (v := -1) (pc' := 21) dX8_move_20 rfl (by decide) ?_
      refine px_iret dX8_move_21 rfl rfl (⟨rfl, I, ?_⟩)
      refine enX9_move pm_le.rf ?_
      have fin2 : pm_W G mX9_move z (pm_Φ G z (fun r' h2 g2 => r' = some (.int (-1)) ∧ J h2 g2)) 36 [.ref 30, .int x, .int y, pm_u, pm_u, pm_u, pm_u] [] z h (pm_uf g 30 0 (.int 0)) := by
        refine px_iconst (v := -1) (pc' := 37) dX9_move_36 rfl (by decide) ?_
        exact px_iret dX9_move_37 rfl rfl (⟨rfl, j.thr⟩)
      refine px_aload_n (i := 0) (pc' := 1) dX9_move_0 rfl rfl rfl ?_
      refine px_iconst (v := 0) (pc' := 2) dX9_move_1 rfl (by decide) ?_
      refine pi_puti (pc' := 5) fi_9_1 dX9_move_2 rfl (by repeat (first | assumption | refine pm_I.up ?_ rfl | refine pm_I.uf ?_ rfl)) rfl ?_
      refine px_aload_n (i := 0) (pc' := 6) dX9_move_5 rfl rfl rfl ?_
      refine pi_geti (pc' := 9) fl_9_130 dX9_move_6 rfl (by repeat (first | assumption | refine pm_I.up ?_ rfl | refine pm_I.uf ?_ rfl)) rfl (by first | assumption | (repeat (first | exact pm_uf_e rfl | refine pm_uf_o (by decide) ?_ | apply pm_uf_o (by decide))) <;> assumption) ?_
      refine px_bipush (v := 12) (pc' := 11) dX9_move_9 rfl (by decide) ?_
      refine px_icmp_eq (tgt := 36) (pc' := 14) dX9_move_11 (by decide) rfl (fun z0 => ?_) (fun z0 => ?_)
      · exact fin2
      have : legs < 12 := by
        by_cases h12 : legs = 12
        · exact absurd (by rw [h12]; rfl) z0
        · omega
      refine px_iload_n (i := 1) (pc' := 15) dX9_move_14 rfl rfl rfl ?_
      refine px_bipush (v := -5) (pc' := 17) dX9_move_15 rfl (by decide) ?_
      refine px_icmp_lt (tgt := 36) (pc' := 20) dX9_move_17 (by decide) rfl (fun z1 => ?_) (fun z1 => ?_)
      · exact fin2
      refine px_iload_n (i := 1) (pc' := 21) dX9_move_20 rfl rfl rfl ?_
      refine px_iconst (v := 5) (pc' := 22) dX9_move_21 rfl (by decide) ?_
      refine px_icmp_gt (tgt := 36) (pc' := 25) dX9_move_22 (by decide) rfl (fun z2 => ?_) (fun z2 => ?_)
      · exact fin2
      refine px_iload_n (i := 2) (pc' := 26) dX9_move_25 rfl rfl rfl ?_
      refine px_bipush (v := -5) (pc' := 28) dX9_move_26 rfl (by decide) ?_
      refine px_icmp_lt (tgt := 36) (pc' := 31) dX9_move_28 (by decide) rfl (fun z3 => ?_) (fun z3 => ?_)
      · exact fin2
      refine px_iload_n (i := 2) (pc' := 32) dX9_move_31 rfl rfl rfl ?_
      refine px_iconst (v := 5) (pc' := 33) dX9_move_32 rfl (by decide) ?_
      refine px_icmp_le (tgt := 38) (pc' := 36) dX9_move_33 (by decide) rfl (fun z4 => ?_) (fun z4 => ?_)
      · rw [i_lt, l_m5] at z1 z3
        rw [i_lt, l_5] at z2
        rw [i_le, l_5] at z4
        exact absurd ⟨⟨by omega, by omega, by omega, by omega⟩, this⟩ ok
      · exact fin2
    refine enX8_move pm_le.rf ?_
    by_cases o1 : m_mv x y
    · refine px_iload_n (i := 1) (pc' := 1) dX8_move_0 rfl rfl rfl ?_
      refine px_iload_n (i := 2) (pc' := 2) dX8_move_1 rfl rfl rfl ?_
      refine px_callS (pc' := 5) (c_isMove_t o1) okX8_isMove stX8_isMove ml_X8_103 ⟨Nat.le_of_ble_eq_true rfl, Nat.le_of_ble_eq_true rfl⟩ dX8_move_2 rfl rfl rfl (Nat.le_of_ble_eq_true rfl) pm_le.rf pm_le.rf ?_
      rintro _ _ _ ⟨rfl, rfl, rfl⟩
      refine px_if_eq (tgt := 20) (pc' := 8) dX8_move_5 (by decide) rfl (fun q_ => absurd q_ (by decide)) (fun _ => ?_)
      refine px_aload_n (i := 0) (pc' := 9) dX8_move_8 rfl rfl rfl ?_
      refine pi_getr (pc' := 12) fl_8_33 dX8_move_9 rfl (by repeat (first | assumption | refine pm_I.up ?_ rfl | refine pm_I.uf ?_ rfl)) rfl rfl ?_
      refine pi_callV (pc' := 15) (c_moves I s7) okX5_moves ivX5_moves ml_X8_107 ⟨Nat.le_of_ble_eq_true rfl, Nat.le_of_ble_eq_true rfl⟩ dX8_move_12 rfl rfl rfl (Nat.le_of_ble_eq_true rfl) (by repeat (first | assumption | refine pm_I.up ?_ rfl | refine pm_I.uf ?_ rfl)) rfl cl_5 pm_le.rf pm_le.rf ?_
      rintro _ _ _ ⟨rfl, rfl, rfl⟩
      refine px_bipush (v := 12) (pc' := 17) dX8_move_15 rfl (by decide) ?_
      refine px_icmp_lt (tgt := 22) (pc' := 20) dX8_move_17 (by decide) rfl (fun q_ => absurd q_ (by rw [i_lt, el]; show ¬ (legs : Int) < 12; exact fun q => ok ⟨o1, by omega⟩)) (fun _ => ?_)
      exact fin
    · refine px_iload_n (i := 1) (pc' := 1) dX8_move_0 rfl rfl rfl ?_
      refine px_iload_n (i := 2) (pc' := 2) dX8_move_1 rfl rfl rfl ?_
      refine px_callS (pc' := 5) (c_isMove_f o1) okX8_isMove stX8_isMove ml_X8_103 ⟨Nat.le_of_ble_eq_true rfl, Nat.le_of_ble_eq_true rfl⟩ dX8_move_2 rfl rfl rfl (Nat.le_of_ble_eq_true rfl) pm_le.rf pm_le.rf ?_
      rintro _ _ _ ⟨rfl, rfl, rfl⟩
      refine px_if_eq (tgt := 20) (pc' := 8) dX8_move_5 (by decide) rfl (fun _ => ?_) (fun q_ => absurd (rfl) q_)
      exact fin
  obtain ⟨hmv, hl⟩ := ok
  obtain ⟨mv1, mv2, mv3, mv4⟩ := id hmv
  have hll : (nI legs).toNatClampNeg = legs := nI_clamp (by omega)
  obtain ⟨F, hF⟩ : ∃ F, F = m_fl w d a0 a1 x.toInt y.toInt S (w * d) := ⟨_, rfl⟩
  have hFB : ∀ j, F j ≤ 25 ^ (legs + 1) := fun j => by
    rw [hF, Nat.pow_succ, Nat.mul_comm (25 ^ legs)]
    exact m_fl_25 u3 u4 p5 (w * d) j
  have hF63 : ∀ j, j < 144 → F j < 2 ^ 63 := fun j _ => by
    have := hFB j
    have := Nat.pow_le_pow_right (show 25 > 0 by omega) (show legs + 1 ≤ 12 by omega)
    rw [p25] at this
    omega
  have hF0 : ∀ j, w * d ≤ j → F j = 0 := fun j hj => by rw [hF]; exact m_fl_hi (w * d) j hj
  have hcN : ∀ S' : Nat → Nat, (∀ j, w * d ≤ j → S' j = 0) → m_cnt S' (w * d) = m_cnt S' 144 := fun S' hh => by
    have := m_cnt_hi hh (144 - w * d)
    rw [show w * d + (144 - w * d) = 144 by omega] at this
    exact this.symm
  have clear : ∀ k i : Nat, i + k = w * d → ∀ (h1 : pm_h) (g1 : pm_g) (R : Value), pm_I h1 g1 → g1 30 9 = .int (nI w) → g1 30 10 = .int (nI d) →
      pm_W G mX9_move z (pm_Φ G z (fun r' h2 g2 => r' = some R ∧ J h2 g2)) 61 [.ref 30, .int x, .int y, .int (nI (w * d)), pm_u, pm_u, pm_u] [] z (pm_up h1 38 (pm_la 144 (m_mx (w * d) (fun _ => 0) f38))) g1 →
      pm_W G mX9_move z (pm_Φ G z (fun r' h2 g2 => r' = some R ∧ J h2 g2)) 40 [.ref 30, .int x, .int y, .int (nI i), pm_u, pm_u, pm_u] [] z (pm_up h1 38 (pm_la 144 (m_mx i (fun _ => 0) f38))) g1 := by
    intro k
    induction k with
    | zero =>
      intro i hi h1 g1 R I b1 b2 W
      obtain rfl : i = w * d := by omega
      refine px_iload_n (i := 3) (pc' := 41) dX9_move_40 rfl rfl rfl ?_
      refine px_aload_n (i := 0) (pc' := 42) dX9_move_41 rfl rfl rfl ?_
      refine pi_callV (pc' := 45) (d_cells (by repeat (first | assumption | refine pm_I.up ?_ rfl | refine pm_I.uf ?_ rfl)) b1 b2) okX9_cells ivX9_cells ml_X9_108 ⟨Nat.le_of_ble_eq_true rfl, Nat.le_of_ble_eq_true rfl⟩ dX9_move_42 rfl rfl rfl (Nat.le_of_ble_eq_true rfl) (by repeat (first | assumption | refine pm_I.up ?_ rfl | refine pm_I.uf ?_ rfl)) rfl cl_9 pm_le.rf pm_le.rf ?_
      rintro _ _ _ ⟨rfl, rfl, rfl⟩
      refine px_icmp_ge (tgt := 61) (pc' := 48) dX9_move_45 (by decide) rfl (fun _ => ?_) (fun q_ => absurd (nI_le (by omega) (by omega)) q_)
      exact W
    | succ k ih =>
      intro i hi h1 g1 R I b1 b2 W
      have hc : (nI i).toNatClampNeg = i := nI_clamp (by omega)
      refine px_iload_n (i := 3) (pc' := 41) dX9_move_40 rfl rfl rfl ?_
      refine px_aload_n (i := 0) (pc' := 42) dX9_move_41 rfl rfl rfl ?_
      refine pi_callV (pc' := 45) (d_cells (by repeat (first | assumption | refine pm_I.up ?_ rfl | refine pm_I.uf ?_ rfl)) b1 b2) okX9_cells ivX9_cells ml_X9_108 ⟨Nat.le_of_ble_eq_true rfl, Nat.le_of_ble_eq_true rfl⟩ dX9_move_42 rfl rfl rfl (Nat.le_of_ble_eq_true rfl) (by repeat (first | assumption | refine pm_I.up ?_ rfl | refine pm_I.uf ?_ rfl)) rfl cl_9 pm_le.rf pm_le.rf ?_
      rintro _ _ _ ⟨rfl, rfl, rfl⟩
      refine px_icmp_ge (tgt := 61) (pc' := 48) dX9_move_45 (by decide) rfl (fun q_ => absurd q_ (nI_ge (by omega) (by omega))) (fun _ => ?_)
      refine px_aload_n (i := 0) (pc' := 49) dX9_move_48 rfl rfl rfl ?_
      refine pi_getr (pc' := 52) fl_9_56 dX9_move_49 rfl (by repeat (first | assumption | refine pm_I.up ?_ rfl | refine pm_I.uf ?_ rfl)) rfl rfl ?_
      refine px_iload_n (i := 3) (pc' := 53) dX9_move_52 rfl rfl rfl ?_
      refine px_lconst (v := 0) (pc' := 54) dX9_move_53 rfl (by decide) ?_
      refine px_last (pc' := 55) dX9_move_54 rfl (by first | assumption | (repeat (first | exact pm_up_e rfl | refine pm_up_o (by decide) ?_ | apply pm_up_o (by decide))) <;> assumption) (vp_in_nI (by omega) (by omega)) ?_
      refine sx_inc_7_3 (w := 1) (pc' := 58) dX9_move_55 rfl rfl (by decide) rfl ?_
      refine px_goto (tgt := 40) dX9_move_58 (by decide) ?_
      rw [nI_1, pm_up_up, hc, show vp_updL (m_mx i (fun _ => 0) f38) i 0 = m_mx (i + 1) (fun _ => 0) f38 from funext fun j => by
        show (if j = i then (0 : Int64) else m_mx i (fun _ => 0) f38 j) = m_mx (i + 1) (fun _ => 0) f38 j
        unfold m_mx
        by_cases hj : j = i
        · rw [if_pos hj, if_pos (by omega)]; rfl
        · rw [if_neg hj]
          by_cases hl : j < i
          · rw [if_pos hl, if_pos (by omega)]
          · rw [if_neg hl, if_neg (by omega)]]
      exact ih (i + 1) (by omega) h1 g1 R I b1 b2 W
  have z1t : ∀ a : Int, -1 ≤ a ∧ a ≤ 2 → (iZ a).toInt = a := fun a ha => iZ_t (by omega) (by omega)
  have zz : ∀ a : Int, -1 ≤ a ∧ a ≤ 2 → (iZ a = 0 ↔ a = 0) := fun a ha => by rw [i_eq, z1t a ha, i_0]
  have wl : ∀ a : Int, -1 ≤ a ∧ a ≤ 2 → (if iZ a = 0 then nI a0 else nI a1).toInt64 = lN (if a = 0 then a0 else a1) := fun a ha => by
    simp only [zz a ha]
    split <;> exact nI_l (by omega)
  have step : ∀ (c : Nat) (F : Nat → Nat) (a b : Int) (h1 : pm_h) (g1 : pm_g) (R v6 : Value), c < w * d → -1 ≤ a ∧ a ≤ 1 → -1 ≤ b ∧ b ≤ 1 → v6.category = 1 → pm_I h1 g1 → g1 30 9 = .int (nI w) → g1 30 10 = .int (nI d) → g1 30 12 = .int (nI a0) → g1 30 13 = .int (nI a1) → h1 37 = pm_la 144 (m_L S) →
      (∀ v7 : Value, v7.category = 1 → pm_W G mX9_move z (pm_Φ G z (fun r' h2 g2 => r' = some R ∧ J h2 g2)) 83 [.ref 30, .int x, .int y, .int (nI c), .int (iZ a), .int (iZ (b + 1)), v7] [] z (pm_up h1 38 (pm_la 144 (m_mx (w * d) (m_add F (m_off w d (((c % w : Nat) + x.toInt) + a) (((c / w : Nat) + y.toInt) + b)) (S c * m_wt a0 a1 a b)) f38))) g1) →
      pm_W G mX9_move z (pm_Φ G z (fun r' h2 g2 => r' = some R ∧ J h2 g2)) 83 [.ref 30, .int x, .int y, .int (nI c), .int (iZ a), .int (iZ b), v6] [] z (pm_up h1 38 (pm_la 144 (m_mx (w * d) F f38))) g1 := by
    intro c F a b h1 g1 R v6 hc ha hb c6 I b1 b2 b3 b4 b5 W
    have hcl : (nI c).toNatClampNeg = c := nI_clamp (by omega)
    have ex : (x + iZ a).toInt = x.toInt + a := by rw [i_add (by rw [z1t a (by omega)]; omega) (by rw [z1t a (by omega)]; omega), z1t a (by omega)]
    have ey : (y + iZ b).toInt = y.toInt + b := by rw [i_add (by rw [z1t b (by omega)]; omega) (by rw [z1t b (by omega)]; omega), z1t b (by omega)]
    have eb : iZ b + 1 = iZ (b + 1) := by rw [show (1 : Int32) = iZ 1 from rfl, iZ_add]
    refine px_iload (i := 5) (pc' := 85) dX9_move_83 rfl rfl ?_
    refine px_iconst (v := 2) (pc' := 86) dX9_move_85 rfl (by decide) ?_
    refine px_icmp_ge (tgt := 147) (pc' := 89) dX9_move_86 (by decide) rfl (fun q_ => absurd q_ (by rw [i_le, z1t b (by omega), l_2]; omega)) (fun _ => ?_)
    refine px_aload_n (i := 0) (pc' := 90) dX9_move_89 rfl rfl rfl ?_
    refine px_iload_n (i := 3) (pc' := 91) dX9_move_90 rfl rfl rfl ?_
    refine px_iload_n (i := 1) (pc' := 92) dX9_move_91 rfl rfl rfl ?_
    refine px_iload (i := 4) (pc' := 94) dX9_move_92 rfl rfl ?_
    refine px_iadd (pc' := 95) dX9_move_94 rfl ?_
    refine px_iload_n (i := 2) (pc' := 96) dX9_move_95 rfl rfl rfl ?_
    refine px_iload (i := 5) (pc' := 98) dX9_move_96 rfl rfl ?_
    refine px_iadd (pc' := 99) dX9_move_98 rfl ?_
    refine pi_callV (pc' := 102) (d_off (by repeat (first | assumption | refine pm_I.up ?_ rfl | refine pm_I.uf ?_ rfl)) b1 b2 (by omega) m2 m4 (by omega) (by rw [ex]; omega) (by rw [ey]; omega)) okX9_off ivX9_off ml_X9_143 ⟨Nat.le_of_ble_eq_true rfl, Nat.le_of_ble_eq_true rfl⟩ dX9_move_99 rfl rfl rfl (Nat.le_of_ble_eq_true rfl) (by repeat (first | assumption | refine pm_I.up ?_ rfl | refine pm_I.uf ?_ rfl)) rfl cl_9 pm_le.rf pm_le.rf ?_
    rintro _ _ _ ⟨rfl, rfl, rfl⟩
    refine sx_i_7_6 (pc' := 104) dX9_move_102 rfl rfl rfl ?_
    rw [ex, ey, ← Int.add_assoc, ← Int.add_assoc]
    have ht := m_off_lt (w := w) (d := d) ((c % w : Nat) + x.toInt + a) ((c / w : Nat) + y.toInt + b)
    generalize m_off w d ((c % w : Nat) + x.toInt + a) ((c / w : Nat) + y.toInt + b) = t at ht W ⊢
    have tt : (iZ t).toInt = t := iZ_t (by omega) (by omega)
    refine px_iload (i := 6) (pc' := 106) dX9_move_104 rfl rfl ?_
    refine px_if_lt (tgt := 141) (pc' := 109) dX9_move_106 (by decide) rfl (fun q => ?_) (fun q => ?_)
    · rw [i_lt, tt, i_0] at q
      refine sx_inc_7_5 (w := 1) (pc' := 144) dX9_move_141 rfl rfl (by decide) rfl ?_
      refine px_goto (tgt := 83) dX9_move_144 (by decide) ?_
      rw [eb]
      rw [m_mx_no q] at W
      exact W _ rfl
    · rw [i_lt, tt, i_0] at q
      obtain ⟨tn, rfl⟩ : ∃ tn : Nat, t = tn := ⟨t.toNat, by omega⟩
      have hct : (iZ (tn : Int)).toNatClampNeg = tn := iZ_clamp (by omega)
      refine px_aload_n (i := 0) (pc' := 110) dX9_move_109 rfl rfl rfl ?_
      refine pi_getr (pc' := 113) fl_9_56 dX9_move_110 rfl (by repeat (first | assumption | refine pm_I.up ?_ rfl | refine pm_I.uf ?_ rfl)) rfl rfl ?_
      refine px_iload (i := 6) (pc' := 115) dX9_move_113 rfl rfl ?_
      refine px_dup2 (pc' := 116) dX9_move_115 rfl rfl rfl ?_
      refine px_lald (pc' := 117) dX9_move_116 rfl (by first | assumption | (repeat (first | exact pm_up_e rfl | refine pm_up_o (by decide) ?_ | apply pm_up_o (by decide))) <;> assumption) (i_in (by omega) (by omega)) ?_
      refine px_aload_n (i := 0) (pc' := 118) dX9_move_117 rfl rfl rfl ?_
      refine pi_getr (pc' := 121) fl_9_52 dX9_move_118 rfl (by repeat (first | assumption | refine pm_I.up ?_ rfl | refine pm_I.uf ?_ rfl)) rfl rfl ?_
      refine px_iload_n (i := 3) (pc' := 122) dX9_move_121 rfl rfl rfl ?_
      refine px_lald (pc' := 123) dX9_move_122 rfl (by first | assumption | (repeat (first | exact pm_up_e rfl | refine pm_up_o (by decide) ?_ | apply pm_up_o (by decide))) <;> assumption) (vp_in_nI (by omega) (by omega)) ?_
      refine px_aload_n (i := 0) (pc' := 124) dX9_move_123 rfl rfl rfl ?_
      refine px_iload (i := 4) (pc' := 126) dX9_move_124 rfl rfl ?_
      refine pi_callV (pc' := 129) (d_weight (by repeat (first | assumption | refine pm_I.up ?_ rfl | refine pm_I.uf ?_ rfl)) b3 b4) okX9_weight ivX9_weight ml_X9_147 ⟨Nat.le_of_ble_eq_true rfl, Nat.le_of_ble_eq_true rfl⟩ dX9_move_126 rfl rfl rfl (Nat.le_of_ble_eq_true rfl) (by repeat (first | assumption | refine pm_I.up ?_ rfl | refine pm_I.uf ?_ rfl)) rfl cl_9 pm_le.rf pm_le.rf ?_
      rintro _ _ _ ⟨rfl, rfl, rfl⟩
      refine px_i2l (pc' := 130) dX9_move_129 rfl ?_
      refine px_lmul (pc' := 131) dX9_move_130 rfl ?_
      refine px_aload_n (i := 0) (pc' := 132) dX9_move_131 rfl rfl rfl ?_
      refine px_iload (i := 5) (pc' := 134) dX9_move_132 rfl rfl ?_
      refine pi_callV (pc' := 137) (d_weight (by repeat (first | assumption | refine pm_I.up ?_ rfl | refine pm_I.uf ?_ rfl)) b3 b4) okX9_weight ivX9_weight ml_X9_147 ⟨Nat.le_of_ble_eq_true rfl, Nat.le_of_ble_eq_true rfl⟩ dX9_move_134 rfl rfl rfl (Nat.le_of_ble_eq_true rfl) (by repeat (first | assumption | refine pm_I.up ?_ rfl | refine pm_I.uf ?_ rfl)) rfl cl_9 pm_le.rf pm_le.rf ?_
      rintro _ _ _ ⟨rfl, rfl, rfl⟩
      refine px_i2l (pc' := 138) dX9_move_137 rfl ?_
      refine px_lmul (pc' := 139) dX9_move_138 rfl ?_
      refine px_ladd (pc' := 140) dX9_move_139 rfl ?_
      refine px_last (pc' := 141) dX9_move_140 rfl (by first | assumption | (repeat (first | exact pm_up_e rfl | refine pm_up_o (by decide) ?_ | apply pm_up_o (by decide))) <;> assumption) (i_in (by omega) (by omega)) ?_
      refine sx_inc_7_5 (w := 1) (pc' := 144) dX9_move_141 rfl rfl (by decide) rfl ?_
      refine px_goto (tgt := 83) dX9_move_144 (by decide) ?_
      rw [eb, pm_up_up, hct, hcl, wl a (by omega), wl b (by omega), show m_L S c = lN (S c) from rfl, show m_mx (w * d) F f38 tn = lN (F tn) from if_pos (by omega), lN_mul, lN_mul, lN_add, Nat.mul_assoc, m_mx_add (by omega)]
      exact W _ rfl
  have row : ∀ (c : Nat) (F : Nat → Nat) (a : Int) (h1 : pm_h) (g1 : pm_g) (R v5 v6 : Value), c < w * d → -1 ≤ a ∧ a ≤ 1 → v5.category = 1 → v6.category = 1 → pm_I h1 g1 → g1 30 9 = .int (nI w) → g1 30 10 = .int (nI d) → g1 30 12 = .int (nI a0) → g1 30 13 = .int (nI a1) → h1 37 = pm_la 144 (m_L S) →
      (∀ v5 v7 : Value, v5.category = 1 → v7.category = 1 → pm_W G mX9_move z (pm_Φ G z (fun r' h2 g2 => r' = some R ∧ J h2 g2)) 74 [.ref 30, .int x, .int y, .int (nI c), .int (iZ (a + 1)), v5, v7] [] z (pm_up h1 38 (pm_la 144 (m_mx (w * d) (m_add (m_add (m_add F
        (m_off w d (((c % w : Nat) + x.toInt) + a) (((c / w : Nat) + y.toInt) + -1)) (S c * m_wt a0 a1 a (-1))) (m_off w d (((c % w : Nat) + x.toInt) + a) (((c / w : Nat) + y.toInt) + 0)) (S c * m_wt a0 a1 a 0)) (m_off w d (((c % w : Nat) + x.toInt) + a) (((c / w : Nat) + y.toInt) + 1)) (S c * m_wt a0 a1 a 1)) f38))) g1) →
      pm_W G mX9_move z (pm_Φ G z (fun r' h2 g2 => r' = some R ∧ J h2 g2)) 74 [.ref 30, .int x, .int y, .int (nI c), .int (iZ a), v5, v6] [] z (pm_up h1 38 (pm_la 144 (m_mx (w * d) F f38))) g1 := by
    intro c F a h1 g1 R v5 v6 hc ha c5 c6 I b1 b2 b3 b4 b5 W
    have ea : iZ a + 1 = iZ (a + 1) := by rw [show (1 : Int32) = iZ 1 from rfl, iZ_add]
    refine px_iload (i := 4) (pc' := 76) dX9_move_74 rfl rfl ?_
    refine px_iconst (v := 2) (pc' := 77) dX9_move_76 rfl (by decide) ?_
    refine px_icmp_ge (tgt := 153) (pc' := 80) dX9_move_77 (by decide) rfl (fun q_ => absurd q_ (by rw [i_le, z1t a (by omega), l_2]; omega)) (fun _ => ?_)
    refine px_iconst (v := -1) (pc' := 81) dX9_move_80 rfl (by decide) ?_
    refine sx_i_7_5 (pc' := 83) dX9_move_81 rfl rfl rfl ?_
    refine step c F a (-1) h1 g1 R _ hc ha (by omega) c6 I b1 b2 b3 b4 b5 (fun v7 c7 => ?_)
    refine step c _ a 0 h1 g1 R _ hc ha (by omega) c7 I b1 b2 b3 b4 b5 (fun v8 c8 => ?_)
    refine step c _ a 1 h1 g1 R _ hc ha (by omega) c8 I b1 b2 b3 b4 b5 (fun v9 c9 => ?_)
    refine px_iload (i := 5) (pc' := 85) dX9_move_83 rfl rfl ?_
    refine px_iconst (v := 2) (pc' := 86) dX9_move_85 rfl (by decide) ?_
    refine px_icmp_ge (tgt := 147) (pc' := 89) dX9_move_86 (by decide) rfl (fun _ => ?_) (fun q_ => absurd (by decide) q_)
    refine sx_inc_7_4 (w := 1) (pc' := 150) dX9_move_147 rfl rfl (by decide) rfl ?_
    refine px_goto (tgt := 74) dX9_move_150 (by decide) ?_
    rw [ea]
    exact W _ _ rfl c9
  have cell : ∀ (c : Nat) (F : Nat → Nat) (h1 : pm_h) (g1 : pm_g) (R v4 v5 v6 : Value), c < w * d → v4.category = 1 → v5.category = 1 → v6.category = 1 → pm_I h1 g1 → g1 30 9 = .int (nI w) → g1 30 10 = .int (nI d) → g1 30 12 = .int (nI a0) → g1 30 13 = .int (nI a1) → h1 37 = pm_la 144 (m_L S) →
      (∀ v4 v5 v7 : Value, v4.category = 1 → v5.category = 1 → v7.category = 1 → pm_W G mX9_move z (pm_Φ G z (fun r' h2 g2 => r' = some R ∧ J h2 g2)) 63 [.ref 30, .int x, .int y, .int (nI (c + 1)), v4, v5, v7] [] z (pm_up h1 38 (pm_la 144 (m_mx (w * d) (m_ou w d a0 a1 (S c) ((c % w : Nat) + x.toInt) ((c / w : Nat) + y.toInt) F 3) f38))) g1) →
      pm_W G mX9_move z (pm_Φ G z (fun r' h2 g2 => r' = some R ∧ J h2 g2)) 63 [.ref 30, .int x, .int y, .int (nI c), v4, v5, v6] [] z (pm_up h1 38 (pm_la 144 (m_mx (w * d) F f38))) g1 := by
    intro c F h1 g1 R v4 v5 v6 hc c4 c5 c6 I b1 b2 b3 b4 b5 W
    refine px_iload_n (i := 3) (pc' := 64) dX9_move_63 rfl rfl rfl ?_
    refine px_aload_n (i := 0) (pc' := 65) dX9_move_64 rfl rfl rfl ?_
    refine pi_callV (pc' := 68) (d_cells (by repeat (first | assumption | refine pm_I.up ?_ rfl | refine pm_I.uf ?_ rfl)) b1 b2) okX9_cells ivX9_cells ml_X9_108 ⟨Nat.le_of_ble_eq_true rfl, Nat.le_of_ble_eq_true rfl⟩ dX9_move_65 rfl rfl rfl (Nat.le_of_ble_eq_true rfl) (by repeat (first | assumption | refine pm_I.up ?_ rfl | refine pm_I.uf ?_ rfl)) rfl cl_9 pm_le.rf pm_le.rf ?_
    rintro _ _ _ ⟨rfl, rfl, rfl⟩
    refine px_icmp_ge (tgt := 159) (pc' := 71) dX9_move_68 (by decide) rfl (fun q_ => absurd q_ (nI_ge (by omega) (by omega))) (fun _ => ?_)
    refine px_iconst (v := -1) (pc' := 72) dX9_move_71 rfl (by decide) ?_
    refine sx_i_7_4 (pc' := 74) dX9_move_72 rfl rfl rfl ?_
    rw [m_ou9] at W
    refine row c F (-1) h1 g1 R _ _ hc (by omega) c5 c6 I b1 b2 b3 b4 b5 (fun v7 v8 c7 c8 => ?_)
    refine row c _ 0 h1 g1 R _ _ hc (by omega) c7 c8 I b1 b2 b3 b4 b5 (fun v7 v8 c7 c8 => ?_)
    refine row c _ 1 h1 g1 R _ _ hc (by omega) c7 c8 I b1 b2 b3 b4 b5 (fun v7 v8 c7 c8 => ?_)
    refine px_iload (i := 4) (pc' := 76) dX9_move_74 rfl rfl ?_
    refine px_iconst (v := 2) (pc' := 77) dX9_move_76 rfl (by decide) ?_
    refine px_icmp_ge (tgt := 153) (pc' := 80) dX9_move_77 (by decide) rfl (fun _ => ?_) (fun q_ => absurd (by decide) q_)
    refine sx_inc_7_3 (w := 1) (pc' := 156) dX9_move_153 rfl rfl (by decide) rfl ?_
    refine px_goto (tgt := 63) dX9_move_156 (by decide) ?_
    rw [nI_1]
    exact W _ _ _ rfl c7 c8
  have all : ∀ k c : Nat, c + k = w * d → ∀ (h1 : pm_h) (g1 : pm_g) (R v4 v5 v6 : Value), v4.category = 1 → v5.category = 1 → v6.category = 1 → pm_I h1 g1 → g1 30 9 = .int (nI w) → g1 30 10 = .int (nI d) → g1 30 12 = .int (nI a0) → g1 30 13 = .int (nI a1) → h1 37 = pm_la 144 (m_L S) →
      (∀ v4 v5 v7 : Value, v4.category = 1 → v5.category = 1 → v7.category = 1 → pm_W G mX9_move z (pm_Φ G z (fun r' h2 g2 => r' = some R ∧ J h2 g2)) 159 [.ref 30, .int x, .int y, .int (nI (w * d)), v4, v5, v7] [] z (pm_up h1 38 (pm_la 144 (m_mx (w * d) F f38))) g1) →
      pm_W G mX9_move z (pm_Φ G z (fun r' h2 g2 => r' = some R ∧ J h2 g2)) 63 [.ref 30, .int x, .int y, .int (nI c), v4, v5, v6] [] z (pm_up h1 38 (pm_la 144 (m_mx (w * d) (m_fl w d a0 a1 x.toInt y.toInt S c) f38))) g1 := by
    intro k
    induction k with
    | zero =>
      intro c hc h1 g1 R v4 v5 v6 c4 c5 c6 I b1 b2 b3 b4 b5 W
      obtain rfl : c = w * d := by omega
      rw [← hF]
      refine px_iload_n (i := 3) (pc' := 64) dX9_move_63 rfl rfl rfl ?_
      refine px_aload_n (i := 0) (pc' := 65) dX9_move_64 rfl rfl rfl ?_
      refine pi_callV (pc' := 68) (d_cells (by repeat (first | assumption | refine pm_I.up ?_ rfl | refine pm_I.uf ?_ rfl)) b1 b2) okX9_cells ivX9_cells ml_X9_108 ⟨Nat.le_of_ble_eq_true rfl, Nat.le_of_ble_eq_true rfl⟩ dX9_move_65 rfl rfl rfl (Nat.le_of_ble_eq_true rfl) (by repeat (first | assumption | refine pm_I.up ?_ rfl | refine pm_I.uf ?_ rfl)) rfl cl_9 pm_le.rf pm_le.rf ?_
      rintro _ _ _ ⟨rfl, rfl, rfl⟩
      refine px_icmp_ge (tgt := 159) (pc' := 71) dX9_move_68 (by decide) rfl (fun _ => ?_) (fun q_ => absurd (nI_le (by omega) (by omega)) q_)
      exact W _ _ _ c4 c5 c6
    | succ k ih =>
      intro c hc h1 g1 R v4 v5 v6 c4 c5 c6 I b1 b2 b3 b4 b5 W
      exact cell c _ h1 g1 R v4 v5 v6 (by omega) c4 c5 c6 I b1 b2 b3 b4 b5 (fun v4 v5 v7 c4 c5 c7 => ih (c + 1) (by omega) h1 g1 R v4 v5 v7 c4 c5 c7 I b1 b2 b3 b4 b5 W)
  have copy : ∀ k i : Nat, i + k = w * d → ∀ (h1 : pm_h) (g1 : pm_g) (R v4 v5 v6 : Value), v4.category = 1 → v5.category = 1 → v6.category = 1 → pm_I h1 g1 → g1 30 9 = .int (nI w) → g1 30 10 = .int (nI d) → h1 38 = pm_la 144 (m_mx (w * d) F f38) →
      pm_W G mX9_move z (pm_Φ G z (fun r' h2 g2 => r' = some R ∧ J h2 g2)) 187 [.ref 30, .int x, .int y, .int (nI (w * d)), v4, v5, v6] [] z (pm_up h1 37 (pm_la 144 (m_L (fun j => if j < w * d then F j else S j)))) g1 →
      pm_W G mX9_move z (pm_Φ G z (fun r' h2 g2 => r' = some R ∧ J h2 g2)) 161 [.ref 30, .int x, .int y, .int (nI i), v4, v5, v6] [] z (pm_up h1 37 (pm_la 144 (m_L (fun j => if j < i then F j else S j)))) g1 := by
    intro k
    induction k with
    | zero =>
      intro i hi h1 g1 R v4 v5 v6 c4 c5 c6 I b1 b2 b3 W
      obtain rfl : i = w * d := by omega
      refine px_iload_n (i := 3) (pc' := 162) dX9_move_161 rfl rfl rfl ?_
      refine px_aload_n (i := 0) (pc' := 163) dX9_move_162 rfl rfl rfl ?_
      refine pi_callV (pc' := 166) (d_cells (by repeat (first | assumption | refine pm_I.up ?_ rfl | refine pm_I.uf ?_ rfl)) b1 b2) okX9_cells ivX9_cells ml_X9_108 ⟨Nat.le_of_ble_eq_true rfl, Nat.le_of_ble_eq_true rfl⟩ dX9_move_163 rfl rfl rfl (Nat.le_of_ble_eq_true rfl) (by repeat (first | assumption | refine pm_I.up ?_ rfl | refine pm_I.uf ?_ rfl)) rfl cl_9 pm_le.rf pm_le.rf ?_
      rintro _ _ _ ⟨rfl, rfl, rfl⟩
      refine px_icmp_ge (tgt := 187) (pc' := 169) dX9_move_166 (by decide) rfl (fun _ => ?_) (fun q_ => absurd (nI_le (by omega) (by omega)) q_)
      exact W
    | succ k ih =>
      intro i hi h1 g1 R v4 v5 v6 c4 c5 c6 I b1 b2 b3 W
      have hc : (nI i).toNatClampNeg = i := nI_clamp (by omega)
      refine px_iload_n (i := 3) (pc' := 162) dX9_move_161 rfl rfl rfl ?_
      refine px_aload_n (i := 0) (pc' := 163) dX9_move_162 rfl rfl rfl ?_
      refine pi_callV (pc' := 166) (d_cells (by repeat (first | assumption | refine pm_I.up ?_ rfl | refine pm_I.uf ?_ rfl)) b1 b2) okX9_cells ivX9_cells ml_X9_108 ⟨Nat.le_of_ble_eq_true rfl, Nat.le_of_ble_eq_true rfl⟩ dX9_move_163 rfl rfl rfl (Nat.le_of_ble_eq_true rfl) (by repeat (first | assumption | refine pm_I.up ?_ rfl | refine pm_I.uf ?_ rfl)) rfl cl_9 pm_le.rf pm_le.rf ?_
      rintro _ _ _ ⟨rfl, rfl, rfl⟩
      refine px_icmp_ge (tgt := 187) (pc' := 169) dX9_move_166 (by decide) rfl (fun q_ => absurd q_ (nI_ge (by omega) (by omega))) (fun _ => ?_)
      refine px_aload_n (i := 0) (pc' := 170) dX9_move_169 rfl rfl rfl ?_
      refine pi_getr (pc' := 173) fl_9_52 dX9_move_170 rfl (by repeat (first | assumption | refine pm_I.up ?_ rfl | refine pm_I.uf ?_ rfl)) rfl rfl ?_
      refine px_iload_n (i := 3) (pc' := 174) dX9_move_173 rfl rfl rfl ?_
      refine px_aload_n (i := 0) (pc' := 175) dX9_move_174 rfl rfl rfl ?_
      refine pi_getr (pc' := 178) fl_9_56 dX9_move_175 rfl (by repeat (first | assumption | refine pm_I.up ?_ rfl | refine pm_I.uf ?_ rfl)) rfl rfl ?_
      refine px_iload_n (i := 3) (pc' := 179) dX9_move_178 rfl rfl rfl ?_
      refine px_lald (pc' := 180) dX9_move_179 rfl (by first | assumption | (repeat (first | exact pm_up_e rfl | refine pm_up_o (by decide) ?_ | apply pm_up_o (by decide))) <;> assumption) (vp_in_nI (by omega) (by omega)) ?_
      refine px_last (pc' := 181) dX9_move_180 rfl (by first | assumption | (repeat (first | exact pm_up_e rfl | refine pm_up_o (by decide) ?_ | apply pm_up_o (by decide))) <;> assumption) (vp_in_nI (by omega) (by omega)) ?_
      refine sx_inc_7_3 (w := 1) (pc' := 184) dX9_move_181 rfl rfl (by decide) rfl ?_
      refine px_goto (tgt := 161) dX9_move_184 (by decide) ?_
      rw [nI_1, pm_up_up, hc, show m_mx (w * d) F f38 i = lN (F i) from if_pos (by omega), m_L_upd, show (fun j => if j = i then F i else if j < i then F j else S j) = (fun j => if j < i + 1 then F j else S j) from funext fun j => by
        by_cases hj : j = i
        · subst hj; rw [if_pos rfl, if_pos (by omega)]
        · rw [if_neg hj]
          by_cases hl : j < i
          · rw [if_pos hl, if_pos (by omega)]
          · rw [if_neg hl, if_neg (by omega)]]
      exact ih (i + 1) (by omega) h1 g1 R v4 v5 v6 c4 c5 c6 I b1 b2 b3 W
  have hFS : (fun j => if j < w * d then F j else S j) = F := funext fun j => by
    by_cases hj : j < w * d
    · rw [if_pos hj]
    · rw [if_neg hj, hF0 j (by omega), p6 j (by omega)]
  have whole : ∀ (h1 : pm_h) (g1 : pm_g) (R : Int32), pm_I h1 g1 → g1 30 9 = .int (nI w) → g1 30 10 = .int (nI d) → g1 30 12 = .int (nI a0) → g1 30 13 = .int (nI a1) → h1 37 = pm_la 144 (m_L S) → h1 38 = pm_la 144 f38 → g1 30 22 = .int (nI legs) →
      (∀ v4 v5 v7 : Value, v4.category = 1 → v5.category = 1 → v7.category = 1 → pm_W G mX9_move z (pm_Φ G z (fun r' h2 g2 => r' = some (.int R) ∧ J h2 g2)) 187 [.ref 30, .int x, .int y, .int (nI (w * d)), v4, v5, v7] [] z (pm_up (pm_up h1 38 (pm_la 144 (m_mx (w * d) F f38))) 37 (pm_la 144 (m_L F))) (pm_uf g1 30 0 (.int 0))) →
      pm_Met G mX9_move [.ref 30, .int x, .int y] z z h1 g1 (fun r' h2 g2 => r' = some (.int R) ∧ J h2 g2) := by
    intro h1 g1 R I b1 b2 b3 b4 b5 b6 b7 W
    refine enX9_move pm_le.rf ?_
    refine px_aload_n (i := 0) (pc' := 1) dX9_move_0 rfl rfl rfl ?_
    refine px_iconst (v := 0) (pc' := 2) dX9_move_1 rfl (by decide) ?_
    refine pi_puti (pc' := 5) fi_9_1 dX9_move_2 rfl (by repeat (first | assumption | refine pm_I.up ?_ rfl | refine pm_I.uf ?_ rfl)) rfl ?_
    refine px_aload_n (i := 0) (pc' := 6) dX9_move_5 rfl rfl rfl ?_
    refine pi_geti (pc' := 9) fl_9_130 dX9_move_6 rfl (by repeat (first | assumption | refine pm_I.up ?_ rfl | refine pm_I.uf ?_ rfl)) rfl (by first | assumption | (repeat (first | exact pm_uf_e rfl | refine pm_uf_o (by decide) ?_ | apply pm_uf_o (by decide))) <;> assumption) ?_
    refine px_bipush (v := 12) (pc' := 11) dX9_move_9 rfl (by decide) ?_
    refine px_icmp_eq (tgt := 36) (pc' := 14) dX9_move_11 (by decide) rfl (fun q_ => absurd q_ (ne12 hl)) (fun _ => ?_)
    refine px_iload_n (i := 1) (pc' := 15) dX9_move_14 rfl rfl rfl ?_
    refine px_bipush (v := -5) (pc' := 17) dX9_move_15 rfl (by decide) ?_
    refine px_icmp_lt (tgt := 36) (pc' := 20) dX9_move_17 (by decide) rfl (fun q_ => absurd q_ (by rw [i_lt, l_m5]; omega)) (fun _ => ?_)
    refine px_iload_n (i := 1) (pc' := 21) dX9_move_20 rfl rfl rfl ?_
    refine px_iconst (v := 5) (pc' := 22) dX9_move_21 rfl (by decide) ?_
    refine px_icmp_gt (tgt := 36) (pc' := 25) dX9_move_22 (by decide) rfl (fun q_ => absurd q_ (by rw [i_lt, l_5]; omega)) (fun _ => ?_)
    refine px_iload_n (i := 2) (pc' := 26) dX9_move_25 rfl rfl rfl ?_
    refine px_bipush (v := -5) (pc' := 28) dX9_move_26 rfl (by decide) ?_
    refine px_icmp_lt (tgt := 36) (pc' := 31) dX9_move_28 (by decide) rfl (fun q_ => absurd q_ (by rw [i_lt, l_m5]; omega)) (fun _ => ?_)
    refine px_iload_n (i := 2) (pc' := 32) dX9_move_31 rfl rfl rfl ?_
    refine px_iconst (v := 5) (pc' := 33) dX9_move_32 rfl (by decide) ?_
    refine px_icmp_le (tgt := 38) (pc' := 36) dX9_move_33 (by decide) rfl (fun _ => ?_) (fun q_ => absurd (by rw [i_le, l_5]; omega) q_)
    refine px_iconst (v := 0) (pc' := 39) dX9_move_38 rfl (by decide) ?_
    refine sx_i_n_7_3 (pc' := 40) dX9_move_39 rfl rfl rfl rfl ?_
    have c1 := clear (w * d) 0 (by omega) h1 (pm_uf g1 30 0 (.int 0)) (.int R) (by repeat (first | assumption | refine pm_I.up ?_ rfl | refine pm_I.uf ?_ rfl)) b1 b2
    rw [show m_mx 0 (fun _ => 0) f38 = f38 from funext fun j => if_neg (Nat.not_lt_zero j), pm_up_self b6] at c1
    refine c1 ?_
    refine px_iconst (v := 0) (pc' := 62) dX9_move_61 rfl (by decide) ?_
    refine sx_i_n_7_3 (pc' := 63) dX9_move_62 rfl rfl rfl rfl ?_
    refine all (w * d) 0 (by omega) h1 _ (.int R) pm_u pm_u pm_u rfl rfl rfl (by repeat (first | assumption | refine pm_I.up ?_ rfl | refine pm_I.uf ?_ rfl)) b1 b2 b3 b4 b5 (fun v4 v5 v6 c4 c5 c6 => ?_)
    refine px_iconst (v := 0) (pc' := 160) dX9_move_159 rfl (by decide) ?_
    refine sx_i_n_7_3 (pc' := 161) dX9_move_160 rfl rfl rfl rfl ?_
    have c2 := copy (w * d) 0 (by omega) (pm_up h1 38 (pm_la 144 (m_mx (w * d) F f38))) (pm_uf g1 30 0 (.int 0)) (.int R) v4 v5 v6 c4 c5 c6 (by repeat (first | assumption | refine pm_I.up ?_ rfl | refine pm_I.uf ?_ rfl)) b1 b2 (by first | assumption | (repeat (first | exact pm_up_e rfl | refine pm_up_o (by decide) ?_ | apply pm_up_o (by decide))) <;> assumption)
    rw [hFS, show (fun j => if j < 0 then F j else S j) = S from funext fun j => if_neg (Nat.not_lt_zero j), pm_up_self (h := pm_up h1 38 (pm_la 144 (m_mx (w * d) F f38))) (a := 37) (c := pm_la 144 (m_L S)) (by rw [pm_up_n _ _ (by decide)]; exact b5)] at c2
    exact c2 (W v4 v5 v6 c4 c5 c6)
  by_cases hc : m_cnt F 144 = 0
  rotate_left
  · -- some share stays
    refine ⟨nI (m_cnt F 144), ?_⟩
    have fp' : J_Fp (w * d) F (legs + 1) reads (upd lx legs x) (upd ly legs y) rv ra start := by
      refine ⟨by omega, p2, fun i hi => ?_, p4, hFB, hF0, ?_, p8⟩
      · unfold upd
        by_cases hir : i = legs
        · rw [if_pos hir, if_pos hir]; exact hmv
        · rw [if_neg hir, if_neg hir]; exact p3 i (by omega)
      · obtain ⟨j, hj, hj2⟩ := m_cnt_pos 144 hc
        exact ⟨j, Nat.lt_of_not_le fun q => by rw [hF0 j q] at hj2; omega, hj2⟩
    refine enX8_move pm_le.rf ?_
    refine px_iload_n (i := 1) (pc' := 1) dX8_move_0 rfl rfl rfl ?_
    refine px_iload_n (i := 2) (pc' := 2) dX8_move_1 rfl rfl rfl ?_
    refine px_callS (pc' := 5) (c_isMove_t hmv) okX8_isMove stX8_isMove ml_X8_103 ⟨Nat.le_of_ble_eq_true rfl, Nat.le_of_ble_eq_true rfl⟩ dX8_move_2 rfl rfl rfl (Nat.le_of_ble_eq_true rfl) pm_le.rf pm_le.rf ?_
    rintro _ _ _ ⟨rfl, rfl, rfl⟩
    refine px_if_eq (tgt := 20) (pc' := 8) dX8_move_5 (by decide) rfl (fun q_ => absurd q_ (by decide)) (fun _ => ?_)
    refine px_aload_n (i := 0) (pc' := 9) dX8_move_8 rfl rfl rfl ?_
    refine pi_getr (pc' := 12) fl_8_33 dX8_move_9 rfl (by repeat (first | assumption | refine pm_I.up ?_ rfl | refine pm_I.uf ?_ rfl)) rfl rfl ?_
    refine pi_callV (pc' := 15) (c_moves I s7) okX5_moves ivX5_moves ml_X8_107 ⟨Nat.le_of_ble_eq_true rfl, Nat.le_of_ble_eq_true rfl⟩ dX8_move_12 rfl rfl rfl (Nat.le_of_ble_eq_true rfl) (by repeat (first | assumption | refine pm_I.up ?_ rfl | refine pm_I.uf ?_ rfl)) rfl cl_5 pm_le.rf pm_le.rf ?_
    rintro _ _ _ ⟨rfl, rfl, rfl⟩
    refine px_bipush (v := 12) (pc' := 17) dX8_move_15 rfl (by decide) ?_
    refine px_icmp_lt (tgt := 22) (pc' := 20) dX8_move_17 (by decide) rfl (fun _ => ?_) (fun q_ => absurd (by rw [i_lt, el]; show (legs : Int) < 12; omega) q_)
    refine px_aload_n (i := 0) (pc' := 23) dX8_move_22 rfl rfl rfl ?_
    refine pi_getr (pc' := 26) fl_8_51 dX8_move_23 rfl (by repeat (first | assumption | refine pm_I.up ?_ rfl | refine pm_I.uf ?_ rfl)) rfl rfl ?_
    refine px_iload_n (i := 1) (pc' := 27) dX8_move_26 rfl rfl rfl ?_
    refine px_iload_n (i := 2) (pc' := 28) dX8_move_27 rfl rfl rfl ?_
    refine pi_callV (pc' := 31) (c_fly_ok I m6 m7 m2 m4 u6 u7 (by omega) (by omega) hmv s1 hS63 (fun j hj => p6 j (by omega)) s2 (by rw [← hF]; exact hF63) s7 hl s3 s4 (by rw [← hF]; exact hc)) okX1_fly ivX1_fly ml_X8_110 ⟨Nat.le_of_ble_eq_true rfl, Nat.le_of_ble_eq_true rfl⟩ dX8_move_28 rfl rfl rfl (Nat.le_of_ble_eq_true rfl) (by repeat (first | assumption | refine pm_I.up ?_ rfl | refine pm_I.uf ?_ rfl)) rfl cl_1 pm_le.rf pm_le.rf ?_
    rintro _ _ _ ⟨rfl, rfl, rfl⟩
    refine px_if_eq (tgt := 44) (pc' := 34) dX8_move_31 (by decide) rfl (fun q_ => absurd q_ (by decide)) (fun _ => ?_)
    refine px_aload_n (i := 0) (pc' := 35) dX8_move_34 rfl rfl rfl ?_
    refine pi_getr (pc' := 38) fl_8_51 dX8_move_35 rfl (by repeat (first | assumption | refine pm_I.up ?_ rfl | refine pm_I.uf ?_ rfl)) rfl rfl ?_
    refine pi_callV (pc' := 41) (c_holders (by repeat (first | assumption | refine pm_I.up ?_ rfl | refine pm_I.uf ?_ rfl)) (S := F) (by rw [hF]; exact (by first | assumption | (repeat (first | exact pm_up_e rfl | refine pm_up_o (by decide) ?_ | apply pm_up_o (by decide))) <;> assumption)) hF63) okX1_holders ivX1_holders ml_X8_113 ⟨Nat.le_of_ble_eq_true rfl, Nat.le_of_ble_eq_true rfl⟩ dX8_move_38 rfl rfl rfl (Nat.le_of_ble_eq_true rfl) (by repeat (first | assumption | refine pm_I.up ?_ rfl | refine pm_I.uf ?_ rfl)) rfl cl_1 pm_le.rf pm_le.rf ?_
    rintro _ _ _ ⟨rfl, rfl, rfl⟩
    refine px_goto (tgt := 46) dX8_move_41 (by decide) ?_
    rw [← hF]
    refine px_iret dX8_move_46 rfl rfl (⟨rfl, (by repeat (first | assumption | refine pm_I.up ?_ rfl | refine pm_I.uf ?_ rfl)), ?_⟩)
    refine whole _ _ _ (by repeat (first | assumption | refine pm_I.up ?_ rfl | refine pm_I.uf ?_ rfl)) (by first | assumption | (repeat (first | exact pm_uf_e rfl | refine pm_uf_o (by decide) ?_ | apply pm_uf_o (by decide))) <;> assumption) (by first | assumption | (repeat (first | exact pm_uf_e rfl | refine pm_uf_o (by decide) ?_ | apply pm_uf_o (by decide))) <;> assumption) (by first | assumption | (repeat (first | exact pm_uf_e rfl | refine pm_uf_o (by decide) ?_ | apply pm_uf_o (by decide))) <;> assumption) (by first | assumption | (repeat (first | exact pm_uf_e rfl | refine pm_uf_o (by decide) ?_ | apply pm_uf_o (by decide))) <;> assumption) (by first | assumption | (repeat (first | exact pm_up_e rfl | refine pm_up_o (by decide) ?_ | apply pm_up_o (by decide))) <;> assumption) (by first | assumption | (repeat (first | exact pm_up_e rfl | refine pm_up_o (by decide) ?_ | apply pm_up_o (by decide))) <;> assumption) (by first | assumption | (repeat (first | exact pm_uf_e rfl | refine pm_uf_o (by decide) ?_ | apply pm_uf_o (by decide))) <;> assumption) (fun v4 v5 v6 c4 c5 c6 => ?_)
    refine px_aload_n (i := 0) (pc' := 188) dX9_move_187 rfl rfl rfl ?_
    refine pi_callV (pc' := 191) (d_withShare (by repeat (first | assumption | refine pm_I.up ?_ rfl | refine pm_I.uf ?_ rfl)) (by first | assumption | (repeat (first | exact pm_uf_e rfl | refine pm_uf_o (by decide) ?_ | apply pm_uf_o (by decide))) <;> assumption) (by first | assumption | (repeat (first | exact pm_uf_e rfl | refine pm_uf_o (by decide) ?_ | apply pm_uf_o (by decide))) <;> assumption) m2 m4 (by first | assumption | (repeat (first | exact pm_up_e rfl | refine pm_up_o (by decide) ?_ | apply pm_up_o (by decide))) <;> assumption) hF63) okX9_withShare ivX9_withShare ml_X9_150 ⟨Nat.le_of_ble_eq_true rfl, Nat.le_of_ble_eq_true rfl⟩ dX9_move_188 rfl rfl rfl (Nat.le_of_ble_eq_true rfl) (by repeat (first | assumption | refine pm_I.up ?_ rfl | refine pm_I.uf ?_ rfl)) rfl cl_9 pm_le.rf pm_le.rf ?_
    rintro _ _ _ ⟨rfl, rfl, rfl⟩
    refine px_if_ne (tgt := 212) (pc' := 194) dX9_move_191 (by decide) rfl (fun _ => ?_) (fun q_ => absurd q_ (by rw [hcN _ hF0]; exact fun q => hc (nz _ (m_cnt_le _ 144) q)))
    refine px_aload_n (i := 0) (pc' := 213) dX9_move_212 rfl rfl rfl ?_
    refine pi_getr (pc' := 216) fl_9_59 dX9_move_213 rfl (by repeat (first | assumption | refine pm_I.up ?_ rfl | refine pm_I.uf ?_ rfl)) rfl rfl ?_
    refine px_aload_n (i := 0) (pc' := 217) dX9_move_216 rfl rfl rfl ?_
    refine pi_geti (pc' := 220) fl_9_130 dX9_move_217 rfl (by repeat (first | assumption | refine pm_I.up ?_ rfl | refine pm_I.uf ?_ rfl)) rfl (by first | assumption | (repeat (first | exact pm_uf_e rfl | refine pm_uf_o (by decide) ?_ | apply pm_uf_o (by decide))) <;> assumption) ?_
    refine px_iload_n (i := 1) (pc' := 221) dX9_move_220 rfl rfl rfl ?_
    refine px_iast (pc' := 222) dX9_move_221 rfl (by first | assumption | (repeat (first | exact pm_up_e rfl | refine pm_up_o (by decide) ?_ | apply pm_up_o (by decide))) <;> assumption) (vp_in_nI (by omega) (by omega)) ?_
    refine px_aload_n (i := 0) (pc' := 223) dX9_move_222 rfl rfl rfl ?_
    refine pi_getr (pc' := 226) fl_9_62 dX9_move_223 rfl (by repeat (first | assumption | refine pm_I.up ?_ rfl | refine pm_I.uf ?_ rfl)) rfl rfl ?_
    refine px_aload_n (i := 0) (pc' := 227) dX9_move_226 rfl rfl rfl ?_
    refine pi_geti (pc' := 230) fl_9_130 dX9_move_227 rfl (by repeat (first | assumption | refine pm_I.up ?_ rfl | refine pm_I.uf ?_ rfl)) rfl (by first | assumption | (repeat (first | exact pm_uf_e rfl | refine pm_uf_o (by decide) ?_ | apply pm_uf_o (by decide))) <;> assumption) ?_
    refine px_iload_n (i := 2) (pc' := 231) dX9_move_230 rfl rfl rfl ?_
    refine px_iast (pc' := 232) dX9_move_231 rfl (by first | assumption | (repeat (first | exact pm_up_e rfl | refine pm_up_o (by decide) ?_ | apply pm_up_o (by decide))) <;> assumption) (vp_in_nI (by omega) (by omega)) ?_
    refine px_aload_n (i := 0) (pc' := 233) dX9_move_232 rfl rfl rfl ?_
    refine px_dup (pc' := 234) dX9_move_233 rfl rfl ?_
    refine pi_geti (pc' := 237) fl_9_130 dX9_move_234 rfl (by repeat (first | assumption | refine pm_I.up ?_ rfl | refine pm_I.uf ?_ rfl)) rfl (by first | assumption | (repeat (first | exact pm_uf_e rfl | refine pm_uf_o (by decide) ?_ | apply pm_uf_o (by decide))) <;> assumption) ?_
    refine px_iconst (v := 1) (pc' := 238) dX9_move_237 rfl (by decide) ?_
    refine px_iadd (pc' := 239) dX9_move_238 rfl ?_
    refine pi_puti (pc' := 242) fi_9_130 dX9_move_239 rfl (by repeat (first | assumption | refine pm_I.up ?_ rfl | refine pm_I.uf ?_ rfl)) rfl ?_
    refine px_aload_n (i := 0) (pc' := 243) dX9_move_242 rfl rfl rfl ?_
    refine pi_callV (pc' := 246) (d_withShare (by repeat (first | assumption | refine pm_I.up ?_ rfl | refine pm_I.uf ?_ rfl)) (by first | assumption | (repeat (first | exact pm_uf_e rfl | refine pm_uf_o (by decide) ?_ | apply pm_uf_o (by decide))) <;> assumption) (by first | assumption | (repeat (first | exact pm_uf_e rfl | refine pm_uf_o (by decide) ?_ | apply pm_uf_o (by decide))) <;> assumption) m2 m4 (by first | assumption | (repeat (first | exact pm_up_e rfl | refine pm_up_o (by decide) ?_ | apply pm_up_o (by decide))) <;> assumption) hF63) okX9_withShare ivX9_withShare ml_X9_150 ⟨Nat.le_of_ble_eq_true rfl, Nat.le_of_ble_eq_true rfl⟩ dX9_move_243 rfl rfl rfl (Nat.le_of_ble_eq_true rfl) (by repeat (first | assumption | refine pm_I.up ?_ rfl | refine pm_I.uf ?_ rfl)) rfl cl_9 pm_le.rf pm_le.rf ?_
    rintro _ _ _ ⟨rfl, rfl, rfl⟩
    rw [hll, nI_1, hcN _ hF0]
    exact px_iret dX9_move_246 rfl rfl (⟨rfl, (by repeat (first | assumption | refine pm_I.up ?_ rfl | refine pm_I.uf ?_ rfl)), ⟨n, T, q1.keep rfl rfl rfl rfl⟩, ⟨w, d, η, q2.keep rfl rfl rfl rfl rfl rfl, q3.keep rfl rfl rfl rfl rfl rfl rfl rfl rfl, ⟨F, legs + 1, reads, lost, upd lx legs x, upd ly legs y, rv, ra, start, m_L F, m_mx (w * d) F f38, fp', (by first | assumption | (repeat (first | exact pm_up_e rfl | refine pm_up_o (by decide) ?_ | apply pm_up_o (by decide))) <;> assumption), (by first | assumption | (repeat (first | exact pm_up_e rfl | refine pm_up_o (by decide) ?_ | apply pm_up_o (by decide))) <;> assumption), (by first | assumption | (repeat (first | exact pm_up_e rfl | refine pm_up_o (by decide) ?_ | apply pm_up_o (by decide))) <;> assumption), (by first | assumption | (repeat (first | exact pm_up_e rfl | refine pm_up_o (by decide) ?_ | apply pm_up_o (by decide))) <;> assumption), (by first | assumption | (repeat (first | exact pm_up_e rfl | refine pm_up_o (by decide) ?_ | apply pm_up_o (by decide))) <;> assumption), (by first | assumption | (repeat (first | exact pm_up_e rfl | refine pm_up_o (by decide) ?_ | apply pm_up_o (by decide))) <;> assumption), rfl, (by first | assumption | (repeat (first | exact pm_uf_e rfl | refine pm_uf_o (by decide) ?_ | apply pm_uf_o (by decide))) <;> assumption), (by first | assumption | (repeat (first | exact pm_uf_e rfl | refine pm_uf_o (by decide) ?_ | apply pm_uf_o (by decide))) <;> assumption), (by first | assumption | (repeat (first | exact pm_uf_e rfl | refine pm_uf_o (by decide) ?_ | apply pm_uf_o (by decide))) <;> assumption), (by first | assumption | (repeat (first | exact pm_up_e rfl | refine pm_up_o (by decide) ?_ | apply pm_up_o (by decide))) <;> assumption), (by first | assumption | (repeat (first | exact pm_up_e rfl | refine pm_up_o (by decide) ?_ | apply pm_up_o (by decide))) <;> assumption), (by first | assumption | (repeat (first | exact pm_up_e rfl | refine pm_up_o (by decide) ?_ | apply pm_up_o (by decide))) <;> assumption), (by first | assumption | (repeat (first | exact pm_up_e rfl | refine pm_up_o (by decide) ?_ | apply pm_up_o (by decide))) <;> assumption), (by first | assumption | (repeat (first | exact pm_up_e rfl | refine pm_up_o (by decide) ?_ | apply pm_up_o (by decide))) <;> assumption), (by first | assumption | (repeat (first | exact pm_up_e rfl | refine pm_up_o (by decide) ?_ | apply pm_up_o (by decide))) <;> assumption), rfl, (by first | assumption | (repeat (first | exact pm_uf_e rfl | refine pm_uf_o (by decide) ?_ | apply pm_uf_o (by decide))) <;> assumption), (by first | assumption | (repeat (first | exact pm_uf_e rfl | refine pm_uf_o (by decide) ?_ | apply pm_uf_o (by decide))) <;> assumption), (by first | assumption | (repeat (first | exact pm_uf_e rfl | refine pm_uf_o (by decide) ?_ | apply pm_uf_o (by decide))) <;> assumption)⟩⟩, ⟨e, a0, a1, q5.keep rfl rfl rfl rfl rfl rfl⟩, q6.keep rfl rfl rfl rfl rfl rfl rfl rfl rfl rfl rfl rfl rfl rfl rfl, q7.keep rfl rfl rfl rfl rfl rfl rfl rfl rfl, q8⟩)
  · -- all is lost
    refine ⟨-2, ?_⟩
    have fp' : J_Fp (w * d) (m_init (w * d) (-1)) 0 0 lx ly rv ra (-1) := by
      refine ⟨by omega, by omega, fun i hi => by omega, fun i hi => by omega, fun j => by unfold m_init; split <;> simp, fun j hj => by unfold m_init; rw [if_neg (by omega)], ?_, Or.inl rfl⟩
      exact ⟨0, by omega, by unfold m_init; rw [if_pos ⟨by omega, Or.inl rfl⟩]; omega⟩
    refine enX8_move pm_le.rf ?_
    refine px_iload_n (i := 1) (pc' := 1) dX8_move_0 rfl rfl rfl ?_
    refine px_iload_n (i := 2) (pc' := 2) dX8_move_1 rfl rfl rfl ?_
    refine px_callS (pc' := 5) (c_isMove_t hmv) okX8_isMove stX8_isMove ml_X8_103 ⟨Nat.le_of_ble_eq_true rfl, Nat.le_of_ble_eq_true rfl⟩ dX8_move_2 rfl rfl rfl (Nat.le_of_ble_eq_true rfl) pm_le.rf pm_le.rf ?_
    rintro _ _ _ ⟨rfl, rfl, rfl⟩
    refine px_if_eq (tgt := 20) (pc' := 8) dX8_move_5 (by decide) rfl (fun q_ => absurd q_ (by decide)) (fun _ => ?_)
    refine px_aload_n (i := 0) (pc' := 9) dX8_move_8 rfl rfl rfl ?_
    refine pi_getr (pc' := 12) fl_8_33 dX8_move_9 rfl (by repeat (first | assumption | refine pm_I.up ?_ rfl | refine pm_I.uf ?_ rfl)) rfl rfl ?_
    refine pi_callV (pc' := 15) (c_moves I s7) okX5_moves ivX5_moves ml_X8_107 ⟨Nat.le_of_ble_eq_true rfl, Nat.le_of_ble_eq_true rfl⟩ dX8_move_12 rfl rfl rfl (Nat.le_of_ble_eq_true rfl) (by repeat (first | assumption | refine pm_I.up ?_ rfl | refine pm_I.uf ?_ rfl)) rfl cl_5 pm_le.rf pm_le.rf ?_
    rintro _ _ _ ⟨rfl, rfl, rfl⟩
    refine px_bipush (v := 12) (pc' := 17) dX8_move_15 rfl (by decide) ?_
    refine px_icmp_lt (tgt := 22) (pc' := 20) dX8_move_17 (by decide) rfl (fun _ => ?_) (fun q_ => absurd (by rw [i_lt, el]; show (legs : Int) < 12; omega) q_)
    refine px_aload_n (i := 0) (pc' := 23) dX8_move_22 rfl rfl rfl ?_
    refine pi_getr (pc' := 26) fl_8_51 dX8_move_23 rfl (by repeat (first | assumption | refine pm_I.up ?_ rfl | refine pm_I.uf ?_ rfl)) rfl rfl ?_
    refine px_iload_n (i := 1) (pc' := 27) dX8_move_26 rfl rfl rfl ?_
    refine px_iload_n (i := 2) (pc' := 28) dX8_move_27 rfl rfl rfl ?_
    refine pi_callV (pc' := 31) (c_fly_lost I m6 m7 m2 m4 u6 u7 (by omega) (by omega) hmv s1 hS63 (fun j hj => p6 j (by omega)) s2 (by rw [← hF]; exact hF63) sA (by rw [← hF]; exact hc)) okX1_fly ivX1_fly ml_X8_110 ⟨Nat.le_of_ble_eq_true rfl, Nat.le_of_ble_eq_true rfl⟩ dX8_move_28 rfl rfl rfl (Nat.le_of_ble_eq_true rfl) (by repeat (first | assumption | refine pm_I.up ?_ rfl | refine pm_I.uf ?_ rfl)) rfl cl_1 pm_le.rf pm_le.rf ?_
    rintro _ _ _ ⟨rfl, rfl, rfl⟩
    refine px_if_eq (tgt := 44) (pc' := 34) dX8_move_31 (by decide) rfl (fun _ => ?_) (fun q_ => absurd (rfl) q_)
    refine px_bipush (v := -2) (pc' := 46) dX8_move_44 rfl (by decide) ?_
    rw [← hF]
    refine px_iret dX8_move_46 rfl rfl (⟨rfl, (by repeat (first | assumption | refine pm_I.up ?_ rfl | refine pm_I.uf ?_ rfl)), ?_⟩)
    refine whole _ _ _ (by repeat (first | assumption | refine pm_I.up ?_ rfl | refine pm_I.uf ?_ rfl)) (by first | assumption | (repeat (first | exact pm_uf_e rfl | refine pm_uf_o (by decide) ?_ | apply pm_uf_o (by decide))) <;> assumption) (by first | assumption | (repeat (first | exact pm_uf_e rfl | refine pm_uf_o (by decide) ?_ | apply pm_uf_o (by decide))) <;> assumption) (by first | assumption | (repeat (first | exact pm_uf_e rfl | refine pm_uf_o (by decide) ?_ | apply pm_uf_o (by decide))) <;> assumption) (by first | assumption | (repeat (first | exact pm_uf_e rfl | refine pm_uf_o (by decide) ?_ | apply pm_uf_o (by decide))) <;> assumption) (by first | assumption | (repeat (first | exact pm_up_e rfl | refine pm_up_o (by decide) ?_ | apply pm_up_o (by decide))) <;> assumption) (by first | assumption | (repeat (first | exact pm_up_e rfl | refine pm_up_o (by decide) ?_ | apply pm_up_o (by decide))) <;> assumption) (by first | assumption | (repeat (first | exact pm_uf_e rfl | refine pm_uf_o (by decide) ?_ | apply pm_uf_o (by decide))) <;> assumption) (fun v4 v5 v6 c4 c5 c6 => ?_)
    refine px_aload_n (i := 0) (pc' := 188) dX9_move_187 rfl rfl rfl ?_
    refine pi_callV (pc' := 191) (d_withShare (by repeat (first | assumption | refine pm_I.up ?_ rfl | refine pm_I.uf ?_ rfl)) (by first | assumption | (repeat (first | exact pm_uf_e rfl | refine pm_uf_o (by decide) ?_ | apply pm_uf_o (by decide))) <;> assumption) (by first | assumption | (repeat (first | exact pm_uf_e rfl | refine pm_uf_o (by decide) ?_ | apply pm_uf_o (by decide))) <;> assumption) m2 m4 (by first | assumption | (repeat (first | exact pm_up_e rfl | refine pm_up_o (by decide) ?_ | apply pm_up_o (by decide))) <;> assumption) hF63) okX9_withShare ivX9_withShare ml_X9_150 ⟨Nat.le_of_ble_eq_true rfl, Nat.le_of_ble_eq_true rfl⟩ dX9_move_188 rfl rfl rfl (Nat.le_of_ble_eq_true rfl) (by repeat (first | assumption | refine pm_I.up ?_ rfl | refine pm_I.uf ?_ rfl)) rfl cl_9 pm_le.rf pm_le.rf ?_
    rintro _ _ _ ⟨rfl, rfl, rfl⟩
    refine px_if_ne (tgt := 212) (pc' := 194) dX9_move_191 (by decide) rfl (fun q_ => absurd (by rw [hcN _ hF0, hc]; rfl) q_) (fun _ => ?_)
    refine px_aload_n (i := 0) (pc' := 195) dX9_move_194 rfl rfl rfl ?_
    refine px_dup (pc' := 196) dX9_move_195 rfl rfl ?_
    refine pi_geti (pc' := 199) fl_9_115 dX9_move_196 rfl (by repeat (first | assumption | refine pm_I.up ?_ rfl | refine pm_I.uf ?_ rfl)) rfl (by first | assumption | (repeat (first | exact pm_uf_e rfl | refine pm_uf_o (by decide) ?_ | apply pm_uf_o (by decide))) <;> assumption) ?_
    refine px_iconst (v := 1) (pc' := 200) dX9_move_199 rfl (by decide) ?_
    refine px_iadd (pc' := 201) dX9_move_200 rfl ?_
    refine pi_puti (pc' := 204) fi_9_115 dX9_move_201 rfl (by repeat (first | assumption | refine pm_I.up ?_ rfl | refine pm_I.uf ?_ rfl)) rfl ?_
    refine px_aload_n (i := 0) (pc' := 205) dX9_move_204 rfl rfl rfl ?_
    refine px_iconst (v := -1) (pc' := 206) dX9_move_205 rfl (by decide) ?_
    refine pi_callV (pc' := 209) (d_fly (by repeat (first | assumption | refine pm_I.up ?_ rfl | refine pm_I.uf ?_ rfl)) (by first | assumption | (repeat (first | exact pm_uf_e rfl | refine pm_uf_o (by decide) ?_ | apply pm_uf_o (by decide))) <;> assumption) (by first | assumption | (repeat (first | exact pm_uf_e rfl | refine pm_uf_o (by decide) ?_ | apply pm_uf_o (by decide))) <;> assumption) m2 m4 (by first | assumption | (repeat (first | exact pm_up_e rfl | refine pm_up_o (by decide) ?_ | apply pm_up_o (by decide))) <;> assumption)) okX9_fly ivX9_fly ml_X9_105 ⟨Nat.le_of_ble_eq_true rfl, Nat.le_of_ble_eq_true rfl⟩ dX9_move_206 rfl rfl rfl (Nat.le_of_ble_eq_true rfl) (by repeat (first | assumption | refine pm_I.up ?_ rfl | refine pm_I.uf ?_ rfl)) rfl cl_9 pm_le.rf pm_le.rf ?_
    rintro _ _ _ ⟨rfl, rfl, rfl⟩
    refine px_bipush (v := -2) (pc' := 211) dX9_move_209 rfl (by decide) ?_
    rw [nI_1, pm_up_up]
    exact px_iret dX9_move_211 rfl rfl (⟨rfl, (by repeat (first | assumption | refine pm_I.up ?_ rfl | refine pm_I.uf ?_ rfl)), ⟨n, T, q1.keep rfl rfl rfl rfl⟩, ⟨w, d, η, q2.keep rfl rfl rfl rfl rfl rfl, q3.keep rfl rfl rfl rfl rfl rfl rfl rfl rfl, ⟨m_init (w * d) (-1), 0, 0, lost + 1, lx, ly, rv, ra, -1, m_L F, m_mx (w * d) F f38, fp', (by first | assumption | (repeat (first | exact pm_up_e rfl | refine pm_up_o (by decide) ?_ | apply pm_up_o (by decide))) <;> assumption), (by first | assumption | (repeat (first | exact pm_up_e rfl | refine pm_up_o (by decide) ?_ | apply pm_up_o (by decide))) <;> assumption), (by first | assumption | (repeat (first | exact pm_up_e rfl | refine pm_up_o (by decide) ?_ | apply pm_up_o (by decide))) <;> assumption), (by first | assumption | (repeat (first | exact pm_up_e rfl | refine pm_up_o (by decide) ?_ | apply pm_up_o (by decide))) <;> assumption), (by first | assumption | (repeat (first | exact pm_up_e rfl | refine pm_up_o (by decide) ?_ | apply pm_up_o (by decide))) <;> assumption), (by first | assumption | (repeat (first | exact pm_up_e rfl | refine pm_up_o (by decide) ?_ | apply pm_up_o (by decide))) <;> assumption), rfl, rfl, rfl, rfl, (by first | assumption | (repeat (first | exact pm_up_e rfl | refine pm_up_o (by decide) ?_ | apply pm_up_o (by decide))) <;> assumption), (by first | assumption | (repeat (first | exact pm_up_e rfl | refine pm_up_o (by decide) ?_ | apply pm_up_o (by decide))) <;> assumption), (by first | assumption | (repeat (first | exact pm_up_e rfl | refine pm_up_o (by decide) ?_ | apply pm_up_o (by decide))) <;> assumption), (by first | assumption | (repeat (first | exact pm_up_e rfl | refine pm_up_o (by decide) ?_ | apply pm_up_o (by decide))) <;> assumption), (by first | assumption | (repeat (first | exact pm_up_e rfl | refine pm_up_o (by decide) ?_ | apply pm_up_o (by decide))) <;> assumption), (by first | assumption | (repeat (first | exact pm_up_e rfl | refine pm_up_o (by decide) ?_ | apply pm_up_o (by decide))) <;> assumption), rfl, rfl, rfl, rfl⟩⟩, ⟨e, a0, a1, q5.keep rfl rfl rfl rfl rfl rfl⟩, q6.keep rfl rfl rfl rfl rfl rfl rfl rfl rfl rfl rfl rfl rfl rfl rfl, q7.keep rfl rfl rfl rfl rfl rfl rfl rfl rfl, q8⟩)
end OPS6
