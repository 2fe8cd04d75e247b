def m_drp (n : Nat) (f : Nat → Int32) (err : Nat) (v : Int) (S : Nat → Nat) : Nat → Nat := fun c => if c < n ∧ ¬ ((f c).toInt = 255 ∨ (((f c).toInt - v).natAbs : Int) ≤ err) then 0 else S c
theorem m_drp_eq {n : Nat} {η : Nat → Int32} {err : Nat} {v : Int} {S : Nat → Nat} (hn : n ≤ 144) (hb : ∀ c, c < 144 → m_bok (η c)) : m_drop n (m_hc η) err v S = m_drp n η err v S := by
  funext c
  unfold m_drop m_drp
  by_cases hc : c < n
  · have hb := hb c (by omega)
    by_cases hu : (η c).toInt = 255
    · rw [if_neg (fun q => q.2 (Or.inl ((m_hc_u hb).mpr hu))), if_neg (fun q => q.2 (Or.inl hu))]
    · rw [m_hc_k hu]
      unfold m_bok at hb
      have : ((η c).toInt = -1 ∨ (((η c).toInt - v).natAbs : Int) ≤ err) ↔ ((η c).toInt = 255 ∨ (((η c).toInt - v).natAbs : Int) ≤ err) := ⟨fun q => q.elim (fun q => by omega) Or.inr, fun q => q.elim (fun q => by omega) Or.inr⟩
      simp only [this]
  · rw [if_neg (fun q => hc q.1), if_neg (fun q => hc q.1)]
theorem m_drp_0 {η : Nat → Int32} {err : Nat} {v : Int} {S : Nat → Nat} : m_drp 0 η err v S = S := by
  funext c
  unfold m_drp
  rw [if_neg (fun q => Nat.not_lt_zero _ q.1)]
theorem m_drp_s {i : Nat} {η : Nat → Int32} {err : Nat} {v : Int} {S : Nat → Nat} : (fun j => if j = i then (if (η i).toInt = 255 ∨ (((η i).toInt - v).natAbs : Int) ≤ err then S i else 0) else m_drp i η err v S j) = m_drp (i + 1) η err v S := by
  funext j
  unfold m_drp
  by_cases hj : j = i
  · subst hj
    rw [if_pos rfl]
    by_cases hp : (η j).toInt = 255 ∨ (((η j).toInt - v).natAbs : Int) ≤ err
    · rw [if_pos hp, if_neg (fun q => q.2 hp)]
    · rw [if_neg hp, if_pos ⟨by omega, hp⟩]
  · rw [if_neg hj]
    by_cases hl : j < i
    · simp only [hl, show j < i + 1 by omega]
    · rw [if_neg (fun q => hl q.1), if_neg (fun q => hl (by omega))]
theorem m_drp_le {n : Nat} {η : Nat → Int32} {err : Nat} {v : Int} {S : Nat → Nat} (j : Nat) : m_drp n η err v S j ≤ S j := by
  unfold m_drp
  split <;> omega
theorem m_cnt_pos {S : Nat → Nat} : ∀ n, ¬ m_cnt S n = 0 → ∃ j, j < n ∧ 0 < S j
  | 0 => fun h => absurd rfl h
  | n + 1 => fun h => by
    by_cases hp : 0 < S n
    · exact ⟨n, by omega, hp⟩
    · obtain ⟨j, h1, h2⟩ := m_cnt_pos n (fun q => h (by rw [m_cnt_s, q, if_neg hp]))
      exact ⟨j, by omega, h2⟩
theorem m_cnt_zero {S : Nat → Nat} : ∀ n, m_cnt S n = 0 → ∀ j, j < n → S j = 0
  | 0 => fun _ j hj => absurd hj (by omega)
  | n + 1 => fun h j hj => by
    rw [m_cnt_s] at h
    by_cases hp : 0 < S n
    · rw [if_pos hp] at h; omega
    · by_cases hjn : j = n
      · subst hjn; omega
      · exact m_cnt_zero n (by omega) j (by omega)
section OPS5
variable {G : pm_G}
theorem o_read {v : Int32} : pm_op G mX8_read mX9_read [.int v] := by
  intro z h g j
  obtain ⟨I, ⟨n, T, q1⟩, ⟨w, d, η, q2, q3, q4⟩, ⟨e, a0, a1, q5⟩, q6, q7, q8⟩ := id j
  obtain ⟨m1, m2, m3, m4, m5, m6, m7, m8, m9, mA, mB⟩ := id q2
  obtain ⟨S, legs, reads, lost, lx, ly, rv, ra, start, f17, f38, fp, s1, s2, s3, s4, s5, s6, s7, s8, s9, sA, sB, sC, sD, sE, sF, sG, sH, sI, sJ, sK⟩ := id q4
  obtain ⟨u1, u2, u3, u4, u5, u6, u7, u8, u9, uA⟩ := id q5
  have hwd := m_wd m2 m4
  have w4 : 2 * 2 ≤ w * d := Nat.mul_le_mul m1 m3
  have hS25 := fp.S63
  rw [p25] at hS25
  have hS63 : ∀ j, j < 144 → S j < 2 ^ 63 := fun j _ => by have := hS25 j; omega
  obtain ⟨p1, p2, p3, p4, p5, p6, p7, p8⟩ := fp
  have ne40 : reads < 40 → ¬ nI reads = 40 := fun hr q => by
    have := congrArg Int32.toInt q
    rw [nI_toInt (by omega), show (40 : Int32).toInt = 40 from by decide] at this
    omega
  have nz : ∀ k : Nat, k ≤ 144 → nI k = 0 → k = 0 := fun k hk q => by
    have := congrArg Int32.toInt q
    rw [nI_toInt (by omega), i_0] at this
    omega
  have er : (nI reads).toInt = reads := nI_toInt (by omega)
  by_cases ok : (0 ≤ v.toInt ∧ v.toInt ≤ 250) ∧ reads < 40
  rotate_left
  · refine ⟨-1, ?_⟩
    have fin : pm_W G mX8_read z (pm_Φ G z (fun r h1 g1 => r = some (.int (-1)) ∧ pm_I h1 g1 ∧ pm_Met G mX9_read [.ref 30, .int v] z z h1 g1 (fun r' h2 g2 => r' = some (.int (-1)) ∧ J h2 g2))) 19 [.ref 0, .int v] [] z h g := by
      refine px_iconst (v := -1) (pc' := 20) dX8_read_19 rfl (by decide) ?_
      refine px_iret dX8_read_20 rfl rfl (⟨rfl, I, ?_⟩)
      refine enX9_read pm_le.rf ?_
      have fin2 : pm_W G mX9_read z (pm_Φ G z (fun r' h2 g2 => r' = some (.int (-1)) ∧ J h2 g2)) 25 [.ref 30, .int v, pm_u, pm_u] [] z h (pm_uf g 30 0 (.int 0)) := by
        refine px_iconst (v := -1) (pc' := 26) dX9_read_25 rfl (by decide) ?_
        exact px_iret dX9_read_26 rfl rfl (⟨rfl, j.thr⟩)
      refine px_aload_n (i := 0) (pc' := 1) dX9_read_0 rfl rfl rfl ?_
      refine px_iconst (v := 0) (pc' := 2) dX9_read_1 rfl (by decide) ?_
      refine pi_puti (pc' := 5) fi_9_1 dX9_read_2 rfl (by repeat (first | assumption | refine pm_I.up ?_ rfl | refine pm_I.uf ?_ rfl)) rfl ?_
      refine px_iload_n (i := 1) (pc' := 6) dX9_read_5 rfl rfl rfl ?_
      refine px_if_lt (tgt := 25) (pc' := 9) dX9_read_6 (by decide) rfl (fun z1 => ?_) (fun z1 => ?_)
      · exact fin2
      refine px_iload_n (i := 1) (pc' := 10) dX9_read_9 rfl rfl rfl ?_
      refine px_sipush (v := 250) (pc' := 13) dX9_read_10 rfl (by decide) ?_
      refine px_icmp_gt (tgt := 25) (pc' := 16) dX9_read_13 (by decide) rfl (fun z2 => ?_) (fun z2 => ?_)
      · exact fin2
      rw [i_lt, i_0] at z1
      rw [i_lt, l_250] at z2
      have : reads = 40 := by omega
      subst this
      refine px_aload_n (i := 0) (pc' := 17) dX9_read_16 rfl rfl rfl ?_
      refine pi_geti (pc' := 20) fl_9_133 dX9_read_17 rfl (by repeat (first | assumption | refine pm_I.up ?_ rfl | refine pm_I.uf ?_ rfl)) rfl (by first | assumption | (repeat (first | exact pm_uf_e rfl | refine pm_uf_o (by decide) ?_ | apply pm_uf_o (by decide))) <;> assumption) ?_
      refine px_bipush (v := 40) (pc' := 22) dX9_read_20 rfl (by decide) ?_
      refine px_icmp_ne (tgt := 27) (pc' := 25) dX9_read_22 (by decide) rfl (fun q_ => absurd (rfl) q_) (fun _ => ?_)
      exact fin2
    refine enX8_read pm_le.rf ?_
    by_cases o1 : 0 ≤ v.toInt ∧ v.toInt ≤ 250
    · refine px_iload_n (i := 1) (pc' := 1) dX8_read_0 rfl rfl rfl ?_
      refine px_callS (pc' := 4) (c_isReading) okX8_isReading stX8_isReading ml_X8_116 ⟨Nat.le_of_ble_eq_true rfl, Nat.le_of_ble_eq_true rfl⟩ dX8_read_1 rfl rfl rfl (Nat.le_of_ble_eq_true rfl) pm_le.rf pm_le.rf ?_
      rintro _ _ _ ⟨rfl, rfl, rfl⟩
      refine px_if_eq (tgt := 19) (pc' := 7) dX8_read_4 (by decide) rfl (fun q_ => absurd q_ (b_n0.mpr o1)) (fun _ => ?_)
      refine px_aload_n (i := 0) (pc' := 8) dX8_read_7 rfl rfl rfl ?_
      refine pi_getr (pc' := 11) fl_8_33 dX8_read_8 rfl (by repeat (first | assumption | refine pm_I.up ?_ rfl | refine pm_I.uf ?_ rfl)) rfl rfl ?_
      refine pi_callV (pc' := 14) (c_readings I s8) okX5_readings ivX5_readings ml_X8_119 ⟨Nat.le_of_ble_eq_true rfl, Nat.le_of_ble_eq_true rfl⟩ dX8_read_11 rfl rfl rfl (Nat.le_of_ble_eq_true rfl) (by repeat (first | assumption | refine pm_I.up ?_ rfl | refine pm_I.uf ?_ rfl)) rfl cl_5 pm_le.rf pm_le.rf ?_
      rintro _ _ _ ⟨rfl, rfl, rfl⟩
      refine px_bipush (v := 40) (pc' := 16) dX8_read_14 rfl (by decide) ?_
      refine px_icmp_lt (tgt := 21) (pc' := 19) dX8_read_16 (by decide) rfl (fun q_ => absurd q_ (by rw [i_lt, er]; show ¬ (reads : Int) < 40; omega)) (fun _ => ?_)
      exact fin
    · refine px_iload_n (i := 1) (pc' := 1) dX8_read_0 rfl rfl rfl ?_
      refine px_callS (pc' := 4) (c_isReading) okX8_isReading stX8_isReading ml_X8_116 ⟨Nat.le_of_ble_eq_true rfl, Nat.le_of_ble_eq_true rfl⟩ dX8_read_1 rfl rfl rfl (Nat.le_of_ble_eq_true rfl) pm_le.rf pm_le.rf ?_
      rintro _ _ _ ⟨rfl, rfl, rfl⟩
      refine px_if_eq (tgt := 19) (pc' := 7) dX8_read_4 (by decide) rfl (fun _ => ?_) (fun q_ => absurd (b_0.mpr o1) q_)
      exact fin
  obtain ⟨hv, hr⟩ := ok
  have hrl : (nI reads).toNatClampNeg = reads := nI_clamp (by omega)
  have hcN : ∀ S' : Nat → Nat, (∀ j, w * d ≤ j → S' j = 0) → m_cnt S' (w * d) = m_cnt S' 144 := fun S' hh => by
    have := m_cnt_hi hh (144 - w * d)
    rw [show w * d + (144 - w * d) = 144 by omega] at this
    exact this.symm
  have hD0 : ∀ (S' : Nat → Nat) (j : Nat), (∀ j, w * d ≤ j → S' j = 0) → w * d ≤ j → m_drp (w * d) η e v.toInt S' j = 0 := fun S' j h1 h2 => by
    have := m_drp_le (n := w * d) (η := η) (err := e) (v := v.toInt) (S := S') j
    have := h1 j h2
    omega
  have hi0 : ∀ j, w * d ≤ j → m_init (w * d) (-1) j = 0 := fun j hj => by unfold m_init; rw [if_neg (by omega)]
  have hi1 : ∀ j, j < w * d → m_init (w * d) (-1) j = 1 := fun j hj => by unfold m_init; rw [if_pos ⟨hj, Or.inl rfl⟩]
  have hil : ∀ j, m_init (w * d) (-1) j ≤ 1 := fun j => by unfold m_init; split <;> omega
  have hdr : ∀ S' : Nat → Nat, m_drop (w * d) (m_hc η) e v.toInt S' = m_drp (w * d) η e v.toInt S' := fun S' => m_drp_eq hwd m5
  -- the reference drops the unfit
  have drop1 : ∀ k i : Nat, i + k = w * d → ∀ (h1 : pm_h) (g1 : pm_g) (R : Value), pm_I h1 g1 → g1 30 9 = .int (nI w) → g1 30 10 = .int (nI d) → g1 30 11 = .int (nI e) → h1 32 = pm_ia 0 144 η → 
      pm_W G mX9_read z (pm_Φ G z (fun r' h2 g2 => r' = some R ∧ J h2 g2)) 68 [.ref 30, .int v, .int (nI (w * d)), pm_u] [] z (pm_up h1 37 (pm_la 144 (m_L (m_drp (w * d) η e v.toInt S)))) g1 →
      pm_W G mX9_read z (pm_Φ G z (fun r' h2 g2 => r' = some R ∧ J h2 g2)) 29 [.ref 30, .int v, .int (nI i), pm_u] [] z (pm_up h1 37 (pm_la 144 (m_L (m_drp i η e v.toInt S)))) g1 := by
    intro k
    induction k with
    | zero =>
      intro i hi h1 g1 R I b1 b2 b3 b4 W
      obtain rfl : i = w * d := by omega
      refine px_iload_n (i := 2) (pc' := 30) dX9_read_29 rfl rfl rfl ?_
      refine px_aload_n (i := 0) (pc' := 31) dX9_read_30 rfl rfl rfl ?_
      refine pi_callV (pc' := 34) (d_cells (by repeat (first | assumption | refine pm_I.up ?_ rfl | refine pm_I.uf ?_ rfl)) b1 b2) okX9_cells ivX9_cells ml_X9_108 ⟨Nat.le_of_ble_eq_true rfl, Nat.le_of_ble_eq_true rfl⟩ dX9_read_31 rfl rfl rfl (Nat.le_of_ble_eq_true rfl) (by repeat (first | assumption | refine pm_I.up ?_ rfl | refine pm_I.uf ?_ rfl)) rfl cl_9 pm_le.rf pm_le.rf ?_
      rintro _ _ _ ⟨rfl, rfl, rfl⟩
      refine px_icmp_ge (tgt := 68) (pc' := 37) dX9_read_34 (by decide) rfl (fun _ => ?_) (fun q_ => absurd (nI_le (by omega) (by omega)) q_)
      exact W
    | succ k ih =>
      intro i hi h1 g1 R I b1 b2 b3 b4 W
      have hc : (nI i).toNatClampNeg = i := nI_clamp (by omega)
      have hbk := m5 i (by omega)
      unfold m_bok at hbk
      refine px_iload_n (i := 2) (pc' := 30) dX9_read_29 rfl rfl rfl ?_
      refine px_aload_n (i := 0) (pc' := 31) dX9_read_30 rfl rfl rfl ?_
      refine pi_callV (pc' := 34) (d_cells (by repeat (first | assumption | refine pm_I.up ?_ rfl | refine pm_I.uf ?_ rfl)) b1 b2) okX9_cells ivX9_cells ml_X9_108 ⟨Nat.le_of_ble_eq_true rfl, Nat.le_of_ble_eq_true rfl⟩ dX9_read_31 rfl rfl rfl (Nat.le_of_ble_eq_true rfl) (by repeat (first | assumption | refine pm_I.up ?_ rfl | refine pm_I.uf ?_ rfl)) rfl cl_9 pm_le.rf pm_le.rf ?_
      rintro _ _ _ ⟨rfl, rfl, rfl⟩
      refine px_icmp_ge (tgt := 68) (pc' := 37) dX9_read_34 (by decide) rfl (fun q_ => absurd q_ (nI_ge (by omega) (by omega))) (fun _ => ?_)
      refine px_aload_n (i := 0) (pc' := 38) dX9_read_37 rfl rfl rfl ?_
      refine pi_getr (pc' := 41) fl_9_52 dX9_read_38 rfl (by repeat (first | assumption | refine pm_I.up ?_ rfl | refine pm_I.uf ?_ rfl)) rfl rfl ?_
      refine px_iload_n (i := 2) (pc' := 42) dX9_read_41 rfl rfl rfl ?_
      refine px_aload_n (i := 0) (pc' := 43) dX9_read_42 rfl rfl rfl ?_
      refine px_iload_n (i := 2) (pc' := 44) dX9_read_43 rfl rfl rfl ?_
      refine px_iload_n (i := 1) (pc' := 45) dX9_read_44 rfl rfl rfl ?_
      refine pi_callV (pc' := 48) (d_fits (by repeat (first | assumption | refine pm_I.up ?_ rfl | refine pm_I.uf ?_ rfl)) b3 u1 (by first | assumption | (repeat (first | exact pm_up_e rfl | refine pm_up_o (by decide) ?_ | apply pm_up_o (by decide))) <;> assumption) (by omega) (by omega) (by omega)) okX9_fits ivX9_fits ml_X9_153 ⟨Nat.le_of_ble_eq_true rfl, Nat.le_of_ble_eq_true rfl⟩ dX9_read_45 rfl rfl rfl (Nat.le_of_ble_eq_true rfl) (by repeat (first | assumption | refine pm_I.up ?_ rfl | refine pm_I.uf ?_ rfl)) rfl cl_9 pm_le.rf pm_le.rf ?_
      rintro _ _ _ ⟨rfl, rfl, rfl⟩
      have fin : ∀ x : Nat, x = (if (η i).toInt = 255 ∨ (((η i).toInt - v.toInt).natAbs : Int) ≤ e then S i else 0) → pm_W G mX9_read z (pm_Φ G z (fun r' h2 g2 => r' = some R ∧ J h2 g2)) 61 [.ref 30, .int v, .int (nI i), pm_u] [.long (lN x), .int (nI i), .ref 37] z (pm_up h1 37 (pm_la 144 (m_L (m_drp i η e v.toInt S)))) g1 := by
        intro x hx
        refine px_last (pc' := 62) dX9_read_61 rfl (by first | assumption | (repeat (first | exact pm_up_e rfl | refine pm_up_o (by decide) ?_ | apply pm_up_o (by decide))) <;> assumption) (vp_in_nI (by omega) (by omega)) ?_
        refine sx_inc_4_2 (w := 1) (pc' := 65) dX9_read_62 rfl rfl (by decide) rfl ?_
        refine px_goto (tgt := 29) dX9_read_65 (by decide) ?_
        rw [nI_1, pm_up_up, hc, m_L_upd, hx, m_drp_s]
        exact ih (i + 1) (by omega) h1 g1 R I b1 b2 b3 b4 W
      refine px_if_eq (tgt := 60) (pc' := 51) dX9_read_48 (by decide) rfl (fun q => ?_) (fun q => ?_)
      · have q := b_0.mp q
        refine px_lconst (v := 0) (pc' := 61) dX9_read_60 rfl (by decide) ?_
        exact fin 0 (if_neg q).symm
      · have q := b_n0.mp q
        refine px_aload_n (i := 0) (pc' := 52) dX9_read_51 rfl rfl rfl ?_
        refine pi_getr (pc' := 55) fl_9_52 dX9_read_52 rfl (by repeat (first | assumption | refine pm_I.up ?_ rfl | refine pm_I.uf ?_ rfl)) rfl rfl ?_
        refine px_iload_n (i := 2) (pc' := 56) dX9_read_55 rfl rfl rfl ?_
        refine px_lald (pc' := 57) dX9_read_56 rfl (by first | assumption | (repeat (first | exact pm_up_e rfl | refine pm_up_o (by decide) ?_ | apply pm_up_o (by decide))) <;> assumption) (vp_in_nI (by omega) (by omega)) ?_
        refine px_goto (tgt := 61) dX9_read_57 (by decide) ?_
        rw [hc]
        refine fin (m_drp i η e v.toInt S i) ?_
        rw [if_pos q, m_drp, if_neg (by omega)]
  -- both hold the reading fast
  have note : ∀ (fl : Int32) (S' : Nat → Nat) (lg rd lo : Nat) (st' : Int32) (h1 : pm_h) (g1 : pm_g) (R : Int32) (x3 : Value), (∀ j, j < 144 → S' j < 2 ^ 63) → rd < 40 → pm_I h1 g1 → g1 30 9 = .int (nI w) → g1 30 10 = .int (nI d) → h1 37 = pm_la 144 (m_L S') → g1 30 22 = .int (nI lg) → g1 30 23 = .int (nI rd) → h1 41 = pm_ia 0 40 ra → h1 42 = pm_ia 0 40 rv → ((¬ fl = 0 ∧ R = -2) ∨ (fl = 0 ∧ R = nI (m_cnt S' (w * d)))) → 
      J (pm_up (pm_up h1 41 (pm_ia 0 40 (upd ra rd (nI lg)))) 42 (pm_ia 0 40 (upd rv rd v))) (pm_uf g1 30 23 (.int (nI (rd + 1)))) → pm_W G mX9_read z (pm_Φ G z (fun r' h2 g2 => r' = some (.int R) ∧ J h2 g2)) 166 [.ref 30, .int v, .int fl, x3] [] z h1 g1 := by
    intro fl S' lg rd lo st' h1 g1 R x3 hS' hrd I b1 b2 b3 b4 b5 b6 b7 hR j1
    have hrl : (nI rd).toNatClampNeg = rd := nI_clamp (by omega)
    refine px_aload_n (i := 0) (pc' := 167) dX9_read_166 rfl rfl rfl ?_
    refine pi_getr (pc' := 170) fl_9_65 dX9_read_167 rfl (by repeat (first | assumption | refine pm_I.up ?_ rfl | refine pm_I.uf ?_ rfl)) rfl rfl ?_
    refine px_aload_n (i := 0) (pc' := 171) dX9_read_170 rfl rfl rfl ?_
    refine pi_geti (pc' := 174) fl_9_133 dX9_read_171 rfl (by repeat (first | assumption | refine pm_I.up ?_ rfl | refine pm_I.uf ?_ rfl)) rfl (by first | assumption | (repeat (first | exact pm_uf_e rfl | refine pm_uf_o (by decide) ?_ | apply pm_uf_o (by decide))) <;> assumption) ?_
    refine px_aload_n (i := 0) (pc' := 175) dX9_read_174 rfl rfl rfl ?_
    refine pi_geti (pc' := 178) fl_9_130 dX9_read_175 rfl (by repeat (first | assumption | refine pm_I.up ?_ rfl | refine pm_I.uf ?_ rfl)) rfl (by first | assumption | (repeat (first | exact pm_uf_e rfl | refine pm_uf_o (by decide) ?_ | apply pm_uf_o (by decide))) <;> assumption) ?_
    refine px_iast (pc' := 179) dX9_read_178 rfl (by first | assumption | (repeat (first | exact pm_up_e rfl | refine pm_up_o (by decide) ?_ | apply pm_up_o (by decide))) <;> assumption) (vp_in_nI (by omega) (by omega)) ?_
    refine px_aload_n (i := 0) (pc' := 180) dX9_read_179 rfl rfl rfl ?_
    refine pi_getr (pc' := 183) fl_9_68 dX9_read_180 rfl (by repeat (first | assumption | refine pm_I.up ?_ rfl | refine pm_I.uf ?_ rfl)) rfl rfl ?_
    refine px_aload_n (i := 0) (pc' := 184) dX9_read_183 rfl rfl rfl ?_
    refine pi_geti (pc' := 187) fl_9_133 dX9_read_184 rfl (by repeat (first | assumption | refine pm_I.up ?_ rfl | refine pm_I.uf ?_ rfl)) rfl (by first | assumption | (repeat (first | exact pm_uf_e rfl | refine pm_uf_o (by decide) ?_ | apply pm_uf_o (by decide))) <;> assumption) ?_
    refine px_iload_n (i := 1) (pc' := 188) dX9_read_187 rfl rfl rfl ?_
    refine px_iast (pc' := 189) dX9_read_188 rfl (by first | assumption | (repeat (first | exact pm_up_e rfl | refine pm_up_o (by decide) ?_ | apply pm_up_o (by decide))) <;> assumption) (vp_in_nI (by omega) (by omega)) ?_
    refine px_aload_n (i := 0) (pc' := 190) dX9_read_189 rfl rfl rfl ?_
    refine px_dup (pc' := 191) dX9_read_190 rfl rfl ?_
    refine pi_geti (pc' := 194) fl_9_133 dX9_read_191 rfl (by repeat (first | assumption | refine pm_I.up ?_ rfl | refine pm_I.uf ?_ rfl)) rfl (by first | assumption | (repeat (first | exact pm_uf_e rfl | refine pm_uf_o (by decide) ?_ | apply pm_uf_o (by decide))) <;> assumption) ?_
    refine px_iconst (v := 1) (pc' := 195) dX9_read_194 rfl (by decide) ?_
    refine px_iadd (pc' := 196) dX9_read_195 rfl ?_
    refine pi_puti (pc' := 199) fi_9_133 dX9_read_196 rfl (by repeat (first | assumption | refine pm_I.up ?_ rfl | refine pm_I.uf ?_ rfl)) rfl ?_
    refine px_iload_n (i := 2) (pc' := 200) dX9_read_199 rfl rfl rfl ?_
    rw [hrl, nI_1]
    rcases hR with ⟨h0, rfl⟩ | ⟨rfl, rfl⟩
    · refine px_if_eq (tgt := 208) (pc' := 203) dX9_read_200 (by decide) rfl (fun q_ => absurd q_ (h0)) (fun _ => ?_)
      refine px_bipush (v := -2) (pc' := 205) dX9_read_203 rfl (by decide) ?_
      refine px_goto (tgt := 212) dX9_read_205 (by decide) ?_
      exact px_iret dX9_read_212 rfl rfl (⟨rfl, j1⟩)
    · refine px_if_eq (tgt := 208) (pc' := 203) dX9_read_200 (by decide) rfl (fun _ => ?_) (fun q_ => absurd (rfl) q_)
      refine px_aload_n (i := 0) (pc' := 209) dX9_read_208 rfl rfl rfl ?_
      refine pi_callV (pc' := 212) (d_withShare (by repeat (first | assumption | refine pm_I.up ?_ rfl | refine pm_I.uf ?_ rfl)) (by first | assumption | (repeat (first | exact pm_uf_e rfl | refine pm_uf_o (by decide) ?_ | apply pm_uf_o (by decide))) <;> assumption) (by first | assumption | (repeat (first | exact pm_uf_e rfl | refine pm_uf_o (by decide) ?_ | apply pm_uf_o (by decide))) <;> assumption) m2 m4 (by first | assumption | (repeat (first | exact pm_up_e rfl | refine pm_up_o (by decide) ?_ | apply pm_up_o (by decide))) <;> assumption) hS') okX9_withShare ivX9_withShare ml_X9_150 ⟨Nat.le_of_ble_eq_true rfl, Nat.le_of_ble_eq_true rfl⟩ dX9_read_209 rfl rfl rfl (Nat.le_of_ble_eq_true rfl) (by repeat (first | assumption | refine pm_I.up ?_ rfl | refine pm_I.uf ?_ rfl)) rfl cl_9 pm_le.rf pm_le.rf ?_
      rintro _ _ _ ⟨rfl, rfl, rfl⟩
      exact px_iret dX9_read_212 rfl rfl (⟨rfl, j1⟩)
  have hJ1 : ∀ j, j < 144 → m_drp (w * d) η e v.toInt S j < 2 ^ 63 := fun j hj => Nat.lt_of_le_of_lt (m_drp_le j) (hS63 j hj)
  have start1 : ∀ (h1 : pm_h) (g1 : pm_g) (R : Int32), pm_I h1 g1 → g1 30 9 = .int (nI w) → g1 30 10 = .int (nI d) → g1 30 11 = .int (nI e) → h1 32 = pm_ia 0 144 η → h1 37 = pm_la 144 (m_L S) → g1 30 23 = .int (nI reads) → 
      pm_W G mX9_read z (pm_Φ G z (fun r' h2 g2 => r' = some (.int R) ∧ J h2 g2)) 68 [.ref 30, .int v, .int (nI (w * d)), pm_u] [] z (pm_up h1 37 (pm_la 144 (m_L (m_drp (w * d) η e v.toInt S)))) (pm_uf g1 30 0 (.int 0)) →
      pm_Met G mX9_read [.ref 30, .int v] z z h1 g1 (fun r' h2 g2 => r' = some (.int R) ∧ J h2 g2) := by
    intro h1 g1 R I b1 b2 b3 b4 b5 b6 W
    refine enX9_read pm_le.rf ?_
    refine px_aload_n (i := 0) (pc' := 1) dX9_read_0 rfl rfl rfl ?_
    refine px_iconst (v := 0) (pc' := 2) dX9_read_1 rfl (by decide) ?_
    refine pi_puti (pc' := 5) fi_9_1 dX9_read_2 rfl (by repeat (first | assumption | refine pm_I.up ?_ rfl | refine pm_I.uf ?_ rfl)) rfl ?_
    refine px_iload_n (i := 1) (pc' := 6) dX9_read_5 rfl rfl rfl ?_
    refine px_if_lt (tgt := 25) (pc' := 9) dX9_read_6 (by decide) rfl (fun q_ => absurd q_ (by rw [i_lt, i_0]; omega)) (fun _ => ?_)
    refine px_iload_n (i := 1) (pc' := 10) dX9_read_9 rfl rfl rfl ?_
    refine px_sipush (v := 250) (pc' := 13) dX9_read_10 rfl (by decide) ?_
    refine px_icmp_gt (tgt := 25) (pc' := 16) dX9_read_13 (by decide) rfl (fun q_ => absurd q_ (by rw [i_lt, l_250]; omega)) (fun _ => ?_)
    refine px_aload_n (i := 0) (pc' := 17) dX9_read_16 rfl rfl rfl ?_
    refine pi_geti (pc' := 20) fl_9_133 dX9_read_17 rfl (by repeat (first | assumption | refine pm_I.up ?_ rfl | refine pm_I.uf ?_ rfl)) rfl (by first | assumption | (repeat (first | exact pm_uf_e rfl | refine pm_uf_o (by decide) ?_ | apply pm_uf_o (by decide))) <;> assumption) ?_
    refine px_bipush (v := 40) (pc' := 22) dX9_read_20 rfl (by decide) ?_
    refine px_icmp_ne (tgt := 27) (pc' := 25) dX9_read_22 (by decide) rfl (fun _ => ?_) (fun q_ => absurd q_ (ne40 hr))
    refine px_iconst (v := 0) (pc' := 28) dX9_read_27 rfl (by decide) ?_
    refine sx_i_n_4_2 (pc' := 29) dX9_read_28 rfl rfl rfl rfl ?_
    have := drop1 (w * d) 0 (by omega) h1 (pm_uf g1 30 0 (.int 0)) (.int R) (by repeat (first | assumption | refine pm_I.up ?_ rfl | refine pm_I.uf ?_ rfl)) (by first | assumption | (repeat (first | exact pm_uf_e rfl | refine pm_uf_o (by decide) ?_ | apply pm_uf_o (by decide))) <;> assumption) (by first | assumption | (repeat (first | exact pm_uf_e rfl | refine pm_uf_o (by decide) ?_ | apply pm_uf_o (by decide))) <;> assumption) (by first | assumption | (repeat (first | exact pm_uf_e rfl | refine pm_uf_o (by decide) ?_ | apply pm_uf_o (by decide))) <;> assumption) b4 W
    rw [m_drp_0, pm_up_self b5] at this
    exact this
  by_cases hc : m_cnt (m_drp (w * d) η e v.toInt S) 144 = 0
  rotate_left
  · -- some share stays
    refine ⟨nI (m_cnt (m_drp (w * d) η e v.toInt S) 144), ?_⟩
    refine enX8_read pm_le.rf ?_
    refine px_iload_n (i := 1) (pc' := 1) dX8_read_0 rfl rfl rfl ?_
    refine px_callS (pc' := 4) (c_isReading) okX8_isReading stX8_isReading ml_X8_116 ⟨Nat.le_of_ble_eq_true rfl, Nat.le_of_ble_eq_true rfl⟩ dX8_read_1 rfl rfl rfl (Nat.le_of_ble_eq_true rfl) pm_le.rf pm_le.rf ?_
    rintro _ _ _ ⟨rfl, rfl, rfl⟩
    refine px_if_eq (tgt := 19) (pc' := 7) dX8_read_4 (by decide) rfl (fun q_ => absurd q_ (b_n0.mpr hv)) (fun _ => ?_)
    refine px_aload_n (i := 0) (pc' := 8) dX8_read_7 rfl rfl rfl ?_
    refine pi_getr (pc' := 11) fl_8_33 dX8_read_8 rfl (by repeat (first | assumption | refine pm_I.up ?_ rfl | refine pm_I.uf ?_ rfl)) rfl rfl ?_
    refine pi_callV (pc' := 14) (c_readings I s8) okX5_readings ivX5_readings ml_X8_119 ⟨Nat.le_of_ble_eq_true rfl, Nat.le_of_ble_eq_true rfl⟩ dX8_read_11 rfl rfl rfl (Nat.le_of_ble_eq_true rfl) (by repeat (first | assumption | refine pm_I.up ?_ rfl | refine pm_I.uf ?_ rfl)) rfl cl_5 pm_le.rf pm_le.rf ?_
    rintro _ _ _ ⟨rfl, rfl, rfl⟩
    refine px_bipush (v := 40) (pc' := 16) dX8_read_14 rfl (by decide) ?_
    refine px_icmp_lt (tgt := 21) (pc' := 19) dX8_read_16 (by decide) rfl (fun _ => ?_) (fun q_ => absurd (by rw [i_lt, er]; show (reads : Int) < 40; omega) q_)
    refine px_aload_n (i := 0) (pc' := 22) dX8_read_21 rfl rfl rfl ?_
    refine pi_getr (pc' := 25) fl_8_51 dX8_read_22 rfl (by repeat (first | assumption | refine pm_I.up ?_ rfl | refine pm_I.uf ?_ rfl)) rfl rfl ?_
    refine px_iload_n (i := 1) (pc' := 26) dX8_read_25 rfl rfl rfl ?_
    refine pi_callV (pc' := 29) (c_sight_ok I m6 m7 m2 m4 m8 (fun c hc => m_hc_bd (m5 c hc)) (by omega) u5 u1 s1 hS63 s8 hr s7 s5 s6 (by rw [hdr]; exact hc)) okX1_sight ivX1_sight ml_X8_122 ⟨Nat.le_of_ble_eq_true rfl, Nat.le_of_ble_eq_true rfl⟩ dX8_read_26 rfl rfl rfl (Nat.le_of_ble_eq_true rfl) (by repeat (first | assumption | refine pm_I.up ?_ rfl | refine pm_I.uf ?_ rfl)) rfl cl_1 pm_le.rf pm_le.rf ?_
    rintro _ _ _ ⟨rfl, rfl, rfl⟩
    refine px_if_eq (tgt := 42) (pc' := 32) dX8_read_29 (by decide) rfl (fun q_ => absurd q_ (by decide)) (fun _ => ?_)
    refine px_aload_n (i := 0) (pc' := 33) dX8_read_32 rfl rfl rfl ?_
    refine pi_getr (pc' := 36) fl_8_51 dX8_read_33 rfl (by repeat (first | assumption | refine pm_I.up ?_ rfl | refine pm_I.uf ?_ rfl)) rfl rfl ?_
    refine pi_callV (pc' := 39) (c_holders (by repeat (first | assumption | refine pm_I.up ?_ rfl | refine pm_I.uf ?_ rfl)) (by first | assumption | (repeat (first | exact pm_up_e rfl | refine pm_up_o (by decide) ?_ | apply pm_up_o (by decide))) <;> assumption) (by rw [hdr]; exact hJ1)) okX1_holders ivX1_holders ml_X8_113 ⟨Nat.le_of_ble_eq_true rfl, Nat.le_of_ble_eq_true rfl⟩ dX8_read_36 rfl rfl rfl (Nat.le_of_ble_eq_true rfl) (by repeat (first | assumption | refine pm_I.up ?_ rfl | refine pm_I.uf ?_ rfl)) rfl cl_1 pm_le.rf pm_le.rf ?_
    rintro _ _ _ ⟨rfl, rfl, rfl⟩
    refine px_goto (tgt := 44) dX8_read_39 (by decide) ?_
    rw [hdr]
    refine px_iret dX8_read_44 rfl rfl (⟨rfl, (by repeat (first | assumption | refine pm_I.up ?_ rfl | refine pm_I.uf ?_ rfl)), ?_⟩)
    refine start1 _ _ _ (by repeat (first | assumption | refine pm_I.up ?_ rfl | refine pm_I.uf ?_ rfl)) (by first | assumption | (repeat (first | exact pm_uf_e rfl | refine pm_uf_o (by decide) ?_ | apply pm_uf_o (by decide))) <;> assumption) (by first | assumption | (repeat (first | exact pm_uf_e rfl | refine pm_uf_o (by decide) ?_ | apply pm_uf_o (by decide))) <;> assumption) (by first | assumption | (repeat (first | exact pm_uf_e rfl | refine pm_uf_o (by decide) ?_ | apply pm_uf_o (by decide))) <;> assumption) (by first | assumption | (repeat (first | exact pm_up_e rfl | refine pm_up_o (by decide) ?_ | apply pm_up_o (by decide))) <;> assumption) (by first | assumption | (repeat (first | exact pm_up_e rfl | refine pm_up_o (by decide) ?_ | apply pm_up_o (by decide))) <;> assumption) (by first | assumption | (repeat (first | exact pm_uf_e rfl | refine pm_uf_o (by decide) ?_ | apply pm_uf_o (by decide))) <;> assumption) ?_
    have fp' : J_Fp (w * d) (m_drp (w * d) η e v.toInt S) legs (reads + 1) lx ly (upd rv reads v) (upd ra reads (nI legs)) start := by
      refine ⟨p1, by omega, p3, fun i hi => ?_, fun j => Nat.le_trans (m_drp_le j) (p5 j), fun j hj => hD0 S j p6 hj, ?_, p8⟩
      · have el : (nI legs).toInt = legs := nI_toInt (by omega)
        unfold upd
        by_cases hir : i = reads
        · rw [if_pos hir, if_pos hir, el]; omega
        · rw [if_neg hir, if_neg hir]; exact p4 i (by omega)
      · obtain ⟨j, hj, hj2⟩ := m_cnt_pos 144 hc
        exact ⟨j, Nat.lt_of_not_le fun q => by rw [hD0 S j p6 q] at hj2; omega, hj2⟩
    refine px_aload_n (i := 0) (pc' := 69) dX9_read_68 rfl rfl rfl ?_
    refine pi_callV (pc' := 72) (d_withShare (by repeat (first | assumption | refine pm_I.up ?_ rfl | refine pm_I.uf ?_ rfl)) (by first | assumption | (repeat (first | exact pm_uf_e rfl | refine pm_uf_o (by decide) ?_ | apply pm_uf_o (by decide))) <;> assumption) (by first | assumption | (repeat (first | exact pm_uf_e rfl | refine pm_uf_o (by decide) ?_ | apply pm_uf_o (by decide))) <;> assumption) m2 m4 (by first | assumption | (repeat (first | exact pm_up_e rfl | refine pm_up_o (by decide) ?_ | apply pm_up_o (by decide))) <;> assumption) hJ1) okX9_withShare ivX9_withShare ml_X9_150 ⟨Nat.le_of_ble_eq_true rfl, Nat.le_of_ble_eq_true rfl⟩ dX9_read_69 rfl rfl rfl (Nat.le_of_ble_eq_true rfl) (by repeat (first | assumption | refine pm_I.up ?_ rfl | refine pm_I.uf ?_ rfl)) rfl cl_9 pm_le.rf pm_le.rf ?_
    rintro _ _ _ ⟨rfl, rfl, rfl⟩
    refine px_if_ne (tgt := 79) (pc' := 75) dX9_read_72 (by decide) rfl (fun _ => ?_) (fun q_ => absurd q_ (by rw [hcN _ (fun j hj => hD0 S j p6 hj)]; exact fun q => hc (nz _ (m_cnt_le _ 144) q)))
    refine px_iconst (v := 0) (pc' := 80) dX9_read_79 rfl (by decide) ?_
    refine sx_i_n_4_2 (pc' := 81) dX9_read_80 rfl rfl rfl rfl ?_
    refine px_iload_n (i := 2) (pc' := 82) dX9_read_81 rfl rfl rfl ?_
    refine px_if_eq (tgt := 166) (pc' := 85) dX9_read_82 (by decide) rfl (fun _ => ?_) (fun q_ => absurd (rfl) q_)
    refine note 0 (m_drp (w * d) η e v.toInt S) legs reads lost start _ _ _ _ hJ1 hr (by repeat (first | assumption | refine pm_I.up ?_ rfl | refine pm_I.uf ?_ rfl)) (by first | assumption | (repeat (first | exact pm_uf_e rfl | refine pm_uf_o (by decide) ?_ | apply pm_uf_o (by decide))) <;> assumption) (by first | assumption | (repeat (first | exact pm_uf_e rfl | refine pm_uf_o (by decide) ?_ | apply pm_uf_o (by decide))) <;> assumption) (by first | assumption | (repeat (first | exact pm_up_e rfl | refine pm_up_o (by decide) ?_ | apply pm_up_o (by decide))) <;> assumption) (by first | assumption | (repeat (first | exact pm_uf_e rfl | refine pm_uf_o (by decide) ?_ | apply pm_uf_o (by decide))) <;> assumption) (by first | assumption | (repeat (first | exact pm_uf_e rfl | refine pm_uf_o (by decide) ?_ | apply pm_uf_o (by decide))) <;> assumption) (by first | assumption | (repeat (first | exact pm_up_e rfl | refine pm_up_o (by decide) ?_ | apply pm_up_o (by decide))) <;> assumption) (by first | assumption | (repeat (first | exact pm_up_e rfl | refine pm_up_o (by decide) ?_ | apply pm_up_o (by decide))) <;> assumption) (Or.inr ⟨rfl, by rw [hcN _ (fun j hj => hD0 S j p6 hj)]⟩) ?_
    exact ⟨(by repeat (first | assumption | refine pm_I.up ?_ rfl | refine pm_I.uf ?_ rfl)), ⟨n, T, q1.keep rfl rfl rfl rfl⟩, ⟨w, d, η, q2.keep rfl rfl rfl rfl rfl rfl, q3.keep rfl rfl rfl rfl rfl rfl rfl rfl rfl, ⟨m_drp (w * d) η e v.toInt S, legs, reads + 1, lost, lx, ly, upd rv reads v, upd ra reads (nI legs), start, f17, f38, fp', (by first | assumption | (repeat (first | exact pm_up_e rfl | refine pm_up_o (by decide) ?_ | apply pm_up_o (by decide))) <;> assumption), (by first | assumption | (repeat (first | exact pm_up_e rfl | refine pm_up_o (by decide) ?_ | apply pm_up_o (by decide))) <;> assumption), (by first | assumption | (repeat (first | exact pm_up_e rfl | refine pm_up_o (by decide) ?_ | apply pm_up_o (by decide))) <;> assumption), (by first | assumption | (repeat (first | exact pm_up_e rfl | refine pm_up_o (by decide) ?_ | apply pm_up_o (by decide))) <;> assumption), (by first | assumption | (repeat (first | exact pm_up_e rfl | refine pm_up_o (by decide) ?_ | apply pm_up_o (by decide))) <;> assumption), (by first | assumption | (repeat (first | exact pm_up_e rfl | refine pm_up_o (by decide) ?_ | apply pm_up_o (by decide))) <;> assumption), (by first | assumption | (repeat (first | exact pm_uf_e rfl | refine pm_uf_o (by decide) ?_ | apply pm_uf_o (by decide))) <;> assumption), rfl, (by first | assumption | (repeat (first | exact pm_uf_e rfl | refine pm_uf_o (by decide) ?_ | apply pm_uf_o (by decide))) <;> assumption), (by first | assumption | (repeat (first | exact pm_uf_e rfl | refine pm_uf_o (by decide) ?_ | apply pm_uf_o (by decide))) <;> assumption), (by first | assumption | (repeat (first | exact pm_up_e rfl | refine pm_up_o (by decide) ?_ | apply pm_up_o (by decide))) <;> assumption), (by first | assumption | (repeat (first | exact pm_up_e rfl | refine pm_up_o (by decide) ?_ | apply pm_up_o (by decide))) <;> assumption), (by first | assumption | (repeat (first | exact pm_up_e rfl | refine pm_up_o (by decide) ?_ | apply pm_up_o (by decide))) <;> assumption), (by first | assumption | (repeat (first | exact pm_up_e rfl | refine pm_up_o (by decide) ?_ | apply pm_up_o (by decide))) <;> assumption), (by first | assumption | (repeat (first | exact pm_up_e rfl | refine pm_up_o (by decide) ?_ | apply pm_up_o (by decide))) <;> assumption), (by first | assumption | (repeat (first | exact pm_up_e rfl | refine pm_up_o (by decide) ?_ | apply pm_up_o (by decide))) <;> assumption), (by first | assumption | (repeat (first | exact pm_uf_e rfl | refine pm_uf_o (by decide) ?_ | apply pm_uf_o (by decide))) <;> assumption), rfl, (by first | assumption | (repeat (first | exact pm_uf_e rfl | refine pm_uf_o (by decide) ?_ | apply pm_uf_o (by decide))) <;> assumption), (by first | assumption | (repeat (first | exact pm_uf_e rfl | refine pm_uf_o (by decide) ?_ | apply pm_uf_o (by decide))) <;> assumption)⟩⟩, ⟨e, a0, a1, q5.keep rfl rfl rfl rfl rfl rfl⟩, q6.keep rfl rfl rfl rfl rfl rfl rfl rfl rfl rfl rfl rfl rfl rfl rfl, q7.keep rfl rfl rfl rfl rfl rfl rfl rfl rfl, q8⟩
  · -- all is lost
    refine ⟨-2, ?_⟩
    have hil63 : ∀ j, j < 144 → m_init (w * d) (-1) j < 2 ^ 63 := fun j _ => Nat.lt_of_le_of_lt (hil j) (by decide)
    have hJ2 : ∀ j, j < 144 → m_drp (w * d) η e v.toInt (m_init (w * d) (-1)) j < 2 ^ 63 := fun j hj => Nat.lt_of_le_of_lt (m_drp_le j) (hil63 j hj)
    have loop2 : ∀ k i : Nat, i + k = w * d → ∀ (h1 : pm_h) (g1 : pm_g) (R : Value), pm_I h1 g1 → g1 30 9 = .int (nI w) → g1 30 10 = .int (nI d) → g1 30 11 = .int (nI e) → h1 32 = pm_ia 0 144 η → 
        pm_W G mX9_read z (pm_Φ G z (fun r' h2 g2 => r' = some R ∧ J h2 g2)) 136 [.ref 30, .int v, .int 1, .int (nI (w * d))] [] z (pm_up h1 37 (pm_la 144 (m_L (m_drp (w * d) η e v.toInt (m_init (w * d) (-1)))))) g1 →
        pm_W G mX9_read z (pm_Φ G z (fun r' h2 g2 => r' = some R ∧ J h2 g2)) 102 [.ref 30, .int v, .int 1, .int (nI i)] [] z (pm_up h1 37 (pm_la 144 (m_L (m_drp i η e v.toInt (m_init (w * d) (-1)))))) g1 := by
      intro k
      induction k with
      | zero =>
        intro i hi h1 g1 R I b1 b2 b3 b4 W
        obtain rfl : i = w * d := by omega
        refine px_iload_n (i := 3) (pc' := 103) dX9_read_102 rfl rfl rfl ?_
        refine px_aload_n (i := 0) (pc' := 104) dX9_read_103 rfl rfl rfl ?_
        refine pi_callV (pc' := 107) (d_cells (by repeat (first | assumption | refine pm_I.up ?_ rfl | refine pm_I.uf ?_ rfl)) b1 b2) okX9_cells ivX9_cells ml_X9_108 ⟨Nat.le_of_ble_eq_true rfl, Nat.le_of_ble_eq_true rfl⟩ dX9_read_104 rfl rfl rfl (Nat.le_of_ble_eq_true rfl) (by repeat (first | assumption | refine pm_I.up ?_ rfl | refine pm_I.uf ?_ rfl)) rfl cl_9 pm_le.rf pm_le.rf ?_
        rintro _ _ _ ⟨rfl, rfl, rfl⟩
        refine px_icmp_ge (tgt := 136) (pc' := 110) dX9_read_107 (by decide) rfl (fun _ => ?_) (fun q_ => absurd (nI_le (by omega) (by omega)) q_)
        exact W
      | succ k ih =>
        intro i hi h1 g1 R I b1 b2 b3 b4 W
        have hc : (nI i).toNatClampNeg = i := nI_clamp (by omega)
        have hbk := m5 i (by omega)
        unfold m_bok at hbk
        refine px_iload_n (i := 3) (pc' := 103) dX9_read_102 rfl rfl rfl ?_
        refine px_aload_n (i := 0) (pc' := 104) dX9_read_103 rfl rfl rfl ?_
        refine pi_callV (pc' := 107) (d_cells (by repeat (first | assumption | refine pm_I.up ?_ rfl | refine pm_I.uf ?_ rfl)) b1 b2) okX9_cells ivX9_cells ml_X9_108 ⟨Nat.le_of_ble_eq_true rfl, Nat.le_of_ble_eq_true rfl⟩ dX9_read_104 rfl rfl rfl (Nat.le_of_ble_eq_true rfl) (by repeat (first | assumption | refine pm_I.up ?_ rfl | refine pm_I.uf ?_ rfl)) rfl cl_9 pm_le.rf pm_le.rf ?_
        rintro _ _ _ ⟨rfl, rfl, rfl⟩
        refine px_icmp_ge (tgt := 136) (pc' := 110) dX9_read_107 (by decide) rfl (fun q_ => absurd q_ (nI_ge (by omega) (by omega))) (fun _ => ?_)
        refine px_aload_n (i := 0) (pc' := 111) dX9_read_110 rfl rfl rfl ?_
        refine pi_getr (pc' := 114) fl_9_52 dX9_read_111 rfl (by repeat (first | assumption | refine pm_I.up ?_ rfl | refine pm_I.uf ?_ rfl)) rfl rfl ?_
        refine px_iload_n (i := 3) (pc' := 115) dX9_read_114 rfl rfl rfl ?_
        refine px_aload_n (i := 0) (pc' := 116) dX9_read_115 rfl rfl rfl ?_
        refine px_iload_n (i := 3) (pc' := 117) dX9_read_116 rfl rfl rfl ?_
        refine px_iload_n (i := 1) (pc' := 118) dX9_read_117 rfl rfl rfl ?_
        refine pi_callV (pc' := 121) (d_fits (by repeat (first | assumption | refine pm_I.up ?_ rfl | refine pm_I.uf ?_ rfl)) b3 u1 (by first | assumption | (repeat (first | exact pm_up_e rfl | refine pm_up_o (by decide) ?_ | apply pm_up_o (by decide))) <;> assumption) (by omega) (by omega) (by omega)) okX9_fits ivX9_fits ml_X9_153 ⟨Nat.le_of_ble_eq_true rfl, Nat.le_of_ble_eq_true rfl⟩ dX9_read_118 rfl rfl rfl (Nat.le_of_ble_eq_true rfl) (by repeat (first | assumption | refine pm_I.up ?_ rfl | refine pm_I.uf ?_ rfl)) rfl cl_9 pm_le.rf pm_le.rf ?_
        rintro _ _ _ ⟨rfl, rfl, rfl⟩
        have fin : ∀ x : Nat, x = (if (η i).toInt = 255 ∨ (((η i).toInt - v.toInt).natAbs : Int) ≤ e then m_init (w * d) (-1) i else 0) → pm_W G mX9_read z (pm_Φ G z (fun r' h2 g2 => r' = some R ∧ J h2 g2)) 129 [.ref 30, .int v, .int 1, .int (nI i)] [.long (lN x), .int (nI i), .ref 37] z (pm_up h1 37 (pm_la 144 (m_L (m_drp i η e v.toInt (m_init (w * d) (-1)))))) g1 := by
          intro x hx
          refine px_last (pc' := 130) dX9_read_129 rfl (by first | assumption | (repeat (first | exact pm_up_e rfl | refine pm_up_o (by decide) ?_ | apply pm_up_o (by decide))) <;> assumption) (vp_in_nI (by omega) (by omega)) ?_
          refine sx_inc_4_3 (w := 1) (pc' := 133) dX9_read_130 rfl rfl (by decide) rfl ?_
          refine px_goto (tgt := 102) dX9_read_133 (by decide) ?_
          rw [nI_1, pm_up_up, hc, m_L_upd, hx, m_drp_s]
          exact ih (i + 1) (by omega) h1 g1 R I b1 b2 b3 b4 W
        refine px_if_eq (tgt := 128) (pc' := 124) dX9_read_121 (by decide) rfl (fun q => ?_) (fun q => ?_)
        · have q := b_0.mp q
          refine px_lconst (v := 0) (pc' := 129) dX9_read_128 rfl (by decide) ?_
          exact fin 0 (if_neg q).symm
        · have q := b_n0.mp q
          refine px_lconst (v := 1) (pc' := 125) dX9_read_124 rfl (by decide) ?_
          refine px_goto (tgt := 129) dX9_read_125 (by decide) ?_
          refine fin 1 ?_
          rw [if_pos q, hi1 i (by omega)]
    have loop3 : ∀ (D : Nat → Nat) (k i : Nat), i + k = w * d → ∀ (h1 : pm_h) (g1 : pm_g) (R : Value), pm_I h1 g1 → g1 30 9 = .int (nI w) → g1 30 10 = .int (nI d) → 
        pm_W G mX9_read z (pm_Φ G z (fun r' h2 g2 => r' = some R ∧ J h2 g2)) 166 [.ref 30, .int v, .int 1, .int (nI (w * d))] [] z (pm_up h1 37 (pm_la 144 (m_L (fun j => if j < w * d then 1 else D j)))) g1 →
        pm_W G mX9_read z (pm_Φ G z (fun r' h2 g2 => r' = some R ∧ J h2 g2)) 145 [.ref 30, .int v, .int 1, .int (nI i)] [] z (pm_up h1 37 (pm_la 144 (m_L (fun j => if j < i then 1 else D j)))) g1 := by
      intro D k
      induction k with
      | zero =>
        intro i hi h1 g1 R I b1 b2 W
        obtain rfl : i = w * d := by omega
        refine px_iload_n (i := 3) (pc' := 146) dX9_read_145 rfl rfl rfl ?_
        refine px_aload_n (i := 0) (pc' := 147) dX9_read_146 rfl rfl rfl ?_
        refine pi_callV (pc' := 150) (d_cells (by repeat (first | assumption | refine pm_I.up ?_ rfl | refine pm_I.uf ?_ rfl)) b1 b2) okX9_cells ivX9_cells ml_X9_108 ⟨Nat.le_of_ble_eq_true rfl, Nat.le_of_ble_eq_true rfl⟩ dX9_read_147 rfl rfl rfl (Nat.le_of_ble_eq_true rfl) (by repeat (first | assumption | refine pm_I.up ?_ rfl | refine pm_I.uf ?_ rfl)) rfl cl_9 pm_le.rf pm_le.rf ?_
        rintro _ _ _ ⟨rfl, rfl, rfl⟩
        refine px_icmp_ge (tgt := 166) (pc' := 153) dX9_read_150 (by decide) rfl (fun _ => ?_) (fun q_ => absurd (nI_le (by omega) (by omega)) q_)
        exact W
      | succ k ih =>
        intro i hi h1 g1 R I b1 b2 W
        have hc : (nI i).toNatClampNeg = i := nI_clamp (by omega)
        refine px_iload_n (i := 3) (pc' := 146) dX9_read_145 rfl rfl rfl ?_
        refine px_aload_n (i := 0) (pc' := 147) dX9_read_146 rfl rfl rfl ?_
        refine pi_callV (pc' := 150) (d_cells (by repeat (first | assumption | refine pm_I.up ?_ rfl | refine pm_I.uf ?_ rfl)) b1 b2) okX9_cells ivX9_cells ml_X9_108 ⟨Nat.le_of_ble_eq_true rfl, Nat.le_of_ble_eq_true rfl⟩ dX9_read_147 rfl rfl rfl (Nat.le_of_ble_eq_true rfl) (by repeat (first | assumption | refine pm_I.up ?_ rfl | refine pm_I.uf ?_ rfl)) rfl cl_9 pm_le.rf pm_le.rf ?_
        rintro _ _ _ ⟨rfl, rfl, rfl⟩
        refine px_icmp_ge (tgt := 166) (pc' := 153) dX9_read_150 (by decide) rfl (fun q_ => absurd q_ (nI_ge (by omega) (by omega))) (fun _ => ?_)
        refine px_aload_n (i := 0) (pc' := 154) dX9_read_153 rfl rfl rfl ?_
        refine pi_getr (pc' := 157) fl_9_52 dX9_read_154 rfl (by repeat (first | assumption | refine pm_I.up ?_ rfl | refine pm_I.uf ?_ rfl)) rfl rfl ?_
        refine px_iload_n (i := 3) (pc' := 158) dX9_read_157 rfl rfl rfl ?_
        refine px_lconst (v := 1) (pc' := 159) dX9_read_158 rfl (by decide) ?_
        refine px_last (pc' := 160) dX9_read_159 rfl (by first | assumption | (repeat (first | exact pm_up_e rfl | refine pm_up_o (by decide) ?_ | apply pm_up_o (by decide))) <;> assumption) (vp_in_nI (by omega) (by omega)) ?_
        refine sx_inc_4_3 (w := 1) (pc' := 163) dX9_read_160 rfl rfl (by decide) rfl ?_
        refine px_goto (tgt := 145) dX9_read_163 (by decide) ?_
        rw [nI_1, pm_up_up, hc, show (1 : Int64) = lN 1 from rfl, m_L_upd, show (fun j => if j = i then 1 else if j < i then 1 else D j) = (fun j => if j < i + 1 then 1 else D j) from funext fun j => by by_cases hj : j = i <;> by_cases hl : j < i <;> simp [hj, hl, show (j < i + 1) ↔ (j < i ∨ j = i) by omega]]
        exact ih (i + 1) (by omega) h1 g1 R I b1 b2 W
    obtain ⟨S', hS'⟩ : ∃ S', S' = if m_cnt (m_drp (w * d) η e v.toInt (m_init (w * d) (-1))) 144 = 0 then m_init (w * d) (-1) else m_drp (w * d) η e v.toInt (m_init (w * d) (-1)) := ⟨_, rfl⟩
    have hSl : ∀ j, S' j ≤ 1 := fun j => by
      rw [hS']
      split
      · exact hil j
      · exact Nat.le_trans (m_drp_le j) (hil j)
    have hS0 : ∀ j, w * d ≤ j → S' j = 0 := fun j hj => by
      rw [hS']
      split
      · exact hi0 j hj
      · exact hD0 _ j hi0 hj
    have hSp : ∃ j, j < w * d ∧ 0 < S' j := by
      by_cases hq : m_cnt (m_drp (w * d) η e v.toInt (m_init (w * d) (-1))) 144 = 0
      · rw [if_pos hq] at hS'
        exact ⟨0, by omega, by rw [hS', hi1 0 (by omega)]; omega⟩
      · rw [if_neg hq] at hS'
        obtain ⟨j, hj, hj2⟩ := m_cnt_pos 144 hq
        rw [← hS'] at hj2
        exact ⟨j, Nat.lt_of_not_le fun q => by rw [hS0 j q] at hj2; omega, hj2⟩
    have hSc : ∀ j, j < 144 → S' j < 2 ^ 63 := fun j _ => Nat.lt_of_le_of_lt (hSl j) (by decide)
    refine enX8_read pm_le.rf ?_
    refine px_iload_n (i := 1) (pc' := 1) dX8_read_0 rfl rfl rfl ?_
    refine px_callS (pc' := 4) (c_isReading) okX8_isReading stX8_isReading ml_X8_116 ⟨Nat.le_of_ble_eq_true rfl, Nat.le_of_ble_eq_true rfl⟩ dX8_read_1 rfl rfl rfl (Nat.le_of_ble_eq_true rfl) pm_le.rf pm_le.rf ?_
    rintro _ _ _ ⟨rfl, rfl, rfl⟩
    refine px_if_eq (tgt := 19) (pc' := 7) dX8_read_4 (by decide) rfl (fun q_ => absurd q_ (b_n0.mpr hv)) (fun _ => ?_)
    refine px_aload_n (i := 0) (pc' := 8) dX8_read_7 rfl rfl rfl ?_
    refine pi_getr (pc' := 11) fl_8_33 dX8_read_8 rfl (by repeat (first | assumption | refine pm_I.up ?_ rfl | refine pm_I.uf ?_ rfl)) rfl rfl ?_
    refine pi_callV (pc' := 14) (c_readings I s8) okX5_readings ivX5_readings ml_X8_119 ⟨Nat.le_of_ble_eq_true rfl, Nat.le_of_ble_eq_true rfl⟩ dX8_read_11 rfl rfl rfl (Nat.le_of_ble_eq_true rfl) (by repeat (first | assumption | refine pm_I.up ?_ rfl | refine pm_I.uf ?_ rfl)) rfl cl_5 pm_le.rf pm_le.rf ?_
    rintro _ _ _ ⟨rfl, rfl, rfl⟩
    refine px_bipush (v := 40) (pc' := 16) dX8_read_14 rfl (by decide) ?_
    refine px_icmp_lt (tgt := 21) (pc' := 19) dX8_read_16 (by decide) rfl (fun _ => ?_) (fun q_ => absurd (by rw [i_lt, er]; show (reads : Int) < 40; omega) q_)
    refine px_aload_n (i := 0) (pc' := 22) dX8_read_21 rfl rfl rfl ?_
    refine pi_getr (pc' := 25) fl_8_51 dX8_read_22 rfl (by repeat (first | assumption | refine pm_I.up ?_ rfl | refine pm_I.uf ?_ rfl)) rfl rfl ?_
    refine px_iload_n (i := 1) (pc' := 26) dX8_read_25 rfl rfl rfl ?_
    refine pi_callV (pc' := 29) (c_sight_lost I m6 m7 m2 m4 m8 (fun c hc => m_hc_bd (m5 c hc)) (by omega) u5 u1 s1 hS63 sA s5 s6 (by rw [hdr]; exact hc)) okX1_sight ivX1_sight ml_X8_122 ⟨Nat.le_of_ble_eq_true rfl, Nat.le_of_ble_eq_true rfl⟩ dX8_read_26 rfl rfl rfl (Nat.le_of_ble_eq_true rfl) (by repeat (first | assumption | refine pm_I.up ?_ rfl | refine pm_I.uf ?_ rfl)) rfl cl_1 pm_le.rf pm_le.rf ?_
    rintro _ _ _ ⟨rfl, rfl, rfl⟩
    refine px_if_eq (tgt := 42) (pc' := 32) dX8_read_29 (by decide) rfl (fun _ => ?_) (fun q_ => absurd (rfl) q_)
    refine px_bipush (v := -2) (pc' := 44) dX8_read_42 rfl (by decide) ?_
    rw [hdr, ← hS']
    refine px_iret dX8_read_44 rfl rfl (⟨rfl, (by repeat (first | assumption | refine pm_I.up ?_ rfl | refine pm_I.uf ?_ rfl)), ?_⟩)
    refine start1 _ _ _ (by repeat (first | assumption | refine pm_I.up ?_ rfl | refine pm_I.uf ?_ rfl)) (by first | assumption | (repeat (first | exact pm_uf_e rfl | refine pm_uf_o (by decide) ?_ | apply pm_uf_o (by decide))) <;> assumption) (by first | assumption | (repeat (first | exact pm_uf_e rfl | refine pm_uf_o (by decide) ?_ | apply pm_uf_o (by decide))) <;> assumption) (by first | assumption | (repeat (first | exact pm_uf_e rfl | refine pm_uf_o (by decide) ?_ | apply pm_uf_o (by decide))) <;> assumption) (by first | assumption | (repeat (first | exact pm_up_e rfl | refine pm_up_o (by decide) ?_ | apply pm_up_o (by decide))) <;> assumption) (by first | assumption | (repeat (first | exact pm_up_e rfl | refine pm_up_o (by decide) ?_ | apply pm_up_o (by decide))) <;> assumption) (by first | assumption | (repeat (first | exact pm_uf_e rfl | refine pm_uf_o (by decide) ?_ | apply pm_uf_o (by decide))) <;> assumption) ?_
    have fp' : J_Fp (w * d) S' 0 1 lx ly (upd rv 0 v) (upd ra 0 (nI 0)) (-1) := by
      refine ⟨by omega, by omega, fun i hi => by omega, fun i hi => ?_, fun j => hSl j, hS0, hSp, Or.inl rfl⟩
      obtain rfl : i = 0 := by omega
      unfold upd
      rw [if_pos rfl, if_pos rfl]
      refine ⟨hv.1, hv.2, ?_, ?_⟩ <;> decide
    refine px_aload_n (i := 0) (pc' := 69) dX9_read_68 rfl rfl rfl ?_
    refine pi_callV (pc' := 72) (d_withShare (by repeat (first | assumption | refine pm_I.up ?_ rfl | refine pm_I.uf ?_ rfl)) (by first | assumption | (repeat (first | exact pm_uf_e rfl | refine pm_uf_o (by decide) ?_ | apply pm_uf_o (by decide))) <;> assumption) (by first | assumption | (repeat (first | exact pm_uf_e rfl | refine pm_uf_o (by decide) ?_ | apply pm_uf_o (by decide))) <;> assumption) m2 m4 (by first | assumption | (repeat (first | exact pm_up_e rfl | refine pm_up_o (by decide) ?_ | apply pm_up_o (by decide))) <;> assumption) hJ1) okX9_withShare ivX9_withShare ml_X9_150 ⟨Nat.le_of_ble_eq_true rfl, Nat.le_of_ble_eq_true rfl⟩ dX9_read_69 rfl rfl rfl (Nat.le_of_ble_eq_true rfl) (by repeat (first | assumption | refine pm_I.up ?_ rfl | refine pm_I.uf ?_ rfl)) rfl cl_9 pm_le.rf pm_le.rf ?_
    rintro _ _ _ ⟨rfl, rfl, rfl⟩
    refine px_if_ne (tgt := 79) (pc' := 75) dX9_read_72 (by decide) rfl (fun q_ => absurd (by rw [hcN _ (fun j hj => hD0 S j p6 hj), hc]; rfl) q_) (fun _ => ?_)
    refine px_iconst (v := 1) (pc' := 76) dX9_read_75 rfl (by decide) ?_
    refine px_goto (tgt := 80) dX9_read_76 (by decide) ?_
    refine sx_i_n_4_2 (pc' := 81) dX9_read_80 rfl rfl rfl rfl ?_
    refine px_iload_n (i := 2) (pc' := 82) dX9_read_81 rfl rfl rfl ?_
    refine px_if_eq (tgt := 166) (pc' := 85) dX9_read_82 (by decide) rfl (fun q_ => absurd q_ (by decide)) (fun _ => ?_)
    refine px_aload_n (i := 0) (pc' := 86) dX9_read_85 rfl rfl rfl ?_
    refine px_dup (pc' := 87) dX9_read_86 rfl rfl ?_
    refine pi_geti (pc' := 90) fl_9_115 dX9_read_87 rfl (by repeat (first | assumption | refine pm_I.up ?_ rfl | refine pm_I.uf ?_ rfl)) rfl (by first | assumption | (repeat (first | exact pm_uf_e rfl | refine pm_uf_o (by decide) ?_ | apply pm_uf_o (by decide))) <;> assumption) ?_
    refine px_iconst (v := 1) (pc' := 91) dX9_read_90 rfl (by decide) ?_
    refine px_iadd (pc' := 92) dX9_read_91 rfl ?_
    refine pi_puti (pc' := 95) fi_9_115 dX9_read_92 rfl (by repeat (first | assumption | refine pm_I.up ?_ rfl | refine pm_I.uf ?_ rfl)) rfl ?_
    refine px_aload_n (i := 0) (pc' := 96) dX9_read_95 rfl rfl rfl ?_
    refine px_iconst (v := -1) (pc' := 97) dX9_read_96 rfl (by decide) ?_
    refine pi_callV (pc' := 100) (d_fly (by repeat (first | assumption | refine pm_I.up ?_ rfl | refine pm_I.uf ?_ rfl)) (by first | assumption | (repeat (first | exact pm_uf_e rfl | refine pm_uf_o (by decide) ?_ | apply pm_uf_o (by decide))) <;> assumption) (by first | assumption | (repeat (first | exact pm_uf_e rfl | refine pm_uf_o (by decide) ?_ | apply pm_uf_o (by decide))) <;> assumption) m2 m4 (by first | assumption | (repeat (first | exact pm_up_e rfl | refine pm_up_o (by decide) ?_ | apply pm_up_o (by decide))) <;> assumption)) okX9_fly ivX9_fly ml_X9_105 ⟨Nat.le_of_ble_eq_true rfl, Nat.le_of_ble_eq_true rfl⟩ dX9_read_97 rfl rfl rfl (Nat.le_of_ble_eq_true rfl) (by repeat (first | assumption | refine pm_I.up ?_ rfl | refine pm_I.uf ?_ rfl)) rfl cl_9 pm_le.rf pm_le.rf ?_
    rintro _ _ _ ⟨rfl, rfl, rfl⟩
    refine px_iconst (v := 0) (pc' := 101) dX9_read_100 rfl (by decide) ?_
    refine sx_i_n_4_3 (pc' := 102) dX9_read_101 rfl rfl rfl rfl ?_
    have go : ∀ (h1 : pm_h) (g1 : pm_g) (R : Value), pm_I h1 g1 → g1 30 9 = .int (nI w) → g1 30 10 = .int (nI d) → g1 30 11 = .int (nI e) → h1 32 = pm_ia 0 144 η → h1 37 = pm_la 144 (m_L (m_init (w * d) (-1))) → 
        pm_W G mX9_read z (pm_Φ G z (fun r' h2 g2 => r' = some R ∧ J h2 g2)) 136 [.ref 30, .int v, .int 1, .int (nI (w * d))] [] z (pm_up h1 37 (pm_la 144 (m_L (m_drp (w * d) η e v.toInt (m_init (w * d) (-1)))))) g1 →
        pm_W G mX9_read z (pm_Φ G z (fun r' h2 g2 => r' = some R ∧ J h2 g2)) 102 [.ref 30, .int v, .int 1, .int (nI 0)] [] z h1 g1 := by
      intro h1 g1 R I b1 b2 b3 b4 b5 W
      have := loop2 (w * d) 0 (by omega) h1 g1 R I b1 b2 b3 b4 W
      rw [m_drp_0, pm_up_self b5] at this
      exact this
    refine go _ _ _ (by repeat (first | assumption | refine pm_I.up ?_ rfl | refine pm_I.uf ?_ rfl)) (by first | assumption | (repeat (first | exact pm_uf_e rfl | refine pm_uf_o (by decide) ?_ | apply pm_uf_o (by decide))) <;> assumption) (by first | assumption | (repeat (first | exact pm_uf_e rfl | refine pm_uf_o (by decide) ?_ | apply pm_uf_o (by decide))) <;> assumption) (by first | assumption | (repeat (first | exact pm_uf_e rfl | refine pm_uf_o (by decide) ?_ | apply pm_uf_o (by decide))) <;> assumption) (by first | assumption | (repeat (first | exact pm_up_e rfl | refine pm_up_o (by decide) ?_ | apply pm_up_o (by decide))) <;> assumption) (by first | assumption | (repeat (first | exact pm_up_e rfl | refine pm_up_o (by decide) ?_ | apply pm_up_o (by decide))) <;> assumption) ?_
    rw [pm_up_up, pm_up_up, nI_1]
    have last : ∀ x3 : Value, pm_W G mX9_read z (pm_Φ G z (fun r' h2 g2 => r' = some (.int (-2)) ∧ J h2 g2)) 166 [.ref 30, .int v, .int 1, x3] [] z (pm_up (pm_up (pm_up (pm_up h 16 (pm_la 144 (m_L S'))) 9 (pm_ia 0 40 (upd rv 0 v))) 10 (pm_ia 0 40 (upd ra 0 0))) 37 (pm_la 144 (m_L S'))) (m_rst2 (pm_uf (pm_uf (pm_uf (m_rst (pm_uf g 15 5 (.int (nI (lost + 1)))) (-1)) 6 5 (.int (nI 1))) 30 0 (.int 0)) 30 14 (.int (nI (lost + 1)))) (-1)) := by
      intro x3
      refine note 1 S' 0 0 lost start _ _ _ _ hSc (by omega) (by repeat (first | assumption | refine pm_I.up ?_ rfl | refine pm_I.uf ?_ rfl)) (by first | assumption | (repeat (first | exact pm_uf_e rfl | refine pm_uf_o (by decide) ?_ | apply pm_uf_o (by decide))) <;> assumption) (by first | assumption | (repeat (first | exact pm_uf_e rfl | refine pm_uf_o (by decide) ?_ | apply pm_uf_o (by decide))) <;> assumption) (by first | assumption | (repeat (first | exact pm_up_e rfl | refine pm_up_o (by decide) ?_ | apply pm_up_o (by decide))) <;> assumption) rfl rfl (by first | assumption | (repeat (first | exact pm_up_e rfl | refine pm_up_o (by decide) ?_ | apply pm_up_o (by decide))) <;> assumption) (by first | assumption | (repeat (first | exact pm_up_e rfl | refine pm_up_o (by decide) ?_ | apply pm_up_o (by decide))) <;> assumption) (Or.inl ⟨by decide, rfl⟩) ?_
      exact ⟨(by repeat (first | assumption | refine pm_I.up ?_ rfl | refine pm_I.uf ?_ rfl)), ⟨n, T, q1.keep rfl rfl rfl rfl⟩, ⟨w, d, η, q2.keep rfl rfl rfl rfl rfl rfl, q3.keep rfl rfl rfl rfl rfl rfl rfl rfl rfl, ⟨S', 0, 1, lost + 1, lx, ly, upd rv 0 v, upd ra 0 (nI 0), -1, f17, f38, fp', (by first | assumption | (repeat (first | exact pm_up_e rfl | refine pm_up_o (by decide) ?_ | apply pm_up_o (by decide))) <;> assumption), (by first | assumption | (repeat (first | exact pm_up_e rfl | refine pm_up_o (by decide) ?_ | apply pm_up_o (by decide))) <;> assumption), (by first | assumption | (repeat (first | exact pm_up_e rfl | refine pm_up_o (by decide) ?_ | apply pm_up_o (by decide))) <;> assumption), (by first | assumption | (repeat (first | exact pm_up_e rfl | refine pm_up_o (by decide) ?_ | apply pm_up_o (by decide))) <;> assumption), (by first | assumption | (repeat (first | exact pm_up_e rfl | refine pm_up_o (by decide) ?_ | apply pm_up_o (by decide))) <;> assumption), (by first | assumption | (repeat (first | exact pm_up_e rfl | refine pm_up_o (by decide) ?_ | apply pm_up_o (by decide))) <;> assumption), rfl, rfl, rfl, rfl, (by first | assumption | (repeat (first | exact pm_up_e rfl | refine pm_up_o (by decide) ?_ | apply pm_up_o (by decide))) <;> assumption), (by first | assumption | (repeat (first | exact pm_up_e rfl | refine pm_up_o (by decide) ?_ | apply pm_up_o (by decide))) <;> assumption), (by first | assumption | (repeat (first | exact pm_up_e rfl | refine pm_up_o (by decide) ?_ | apply pm_up_o (by decide))) <;> assumption), (by first | assumption | (repeat (first | exact pm_up_e rfl | refine pm_up_o (by decide) ?_ | apply pm_up_o (by decide))) <;> assumption), (by first | assumption | (repeat (first | exact pm_up_e rfl | refine pm_up_o (by decide) ?_ | apply pm_up_o (by decide))) <;> assumption), (by first | assumption | (repeat (first | exact pm_up_e rfl | refine pm_up_o (by decide) ?_ | apply pm_up_o (by decide))) <;> assumption), rfl, rfl, rfl, rfl⟩⟩, ⟨e, a0, a1, q5.keep rfl rfl rfl rfl rfl rfl⟩, q6.keep rfl rfl rfl rfl rfl rfl rfl rfl rfl rfl rfl rfl rfl rfl rfl, q7.keep rfl rfl rfl rfl rfl rfl rfl rfl rfl, q8⟩
    refine px_aload_n (i := 0) (pc' := 137) dX9_read_136 rfl rfl rfl ?_
    refine pi_callV (pc' := 140) (d_withShare (by repeat (first | assumption | refine pm_I.up ?_ rfl | refine pm_I.uf ?_ rfl)) (by first | assumption | (repeat (first | exact pm_uf_e rfl | refine pm_uf_o (by decide) ?_ | apply pm_uf_o (by decide))) <;> assumption) (by first | assumption | (repeat (first | exact pm_uf_e rfl | refine pm_uf_o (by decide) ?_ | apply pm_uf_o (by decide))) <;> assumption) m2 m4 (by first | assumption | (repeat (first | exact pm_up_e rfl | refine pm_up_o (by decide) ?_ | apply pm_up_o (by decide))) <;> assumption) hJ2) okX9_withShare ivX9_withShare ml_X9_150 ⟨Nat.le_of_ble_eq_true rfl, Nat.le_of_ble_eq_true rfl⟩ dX9_read_137 rfl rfl rfl (Nat.le_of_ble_eq_true rfl) (by repeat (first | assumption | refine pm_I.up ?_ rfl | refine pm_I.uf ?_ rfl)) rfl cl_9 pm_le.rf pm_le.rf ?_
    rintro _ _ _ ⟨rfl, rfl, rfl⟩
    have hcc := hcN (m_drp (w * d) η e v.toInt (m_init (w * d) (-1))) (fun j hj => hD0 _ j hi0 hj)
    by_cases hq : m_cnt (m_drp (w * d) η e v.toInt (m_init (w * d) (-1))) 144 = 0
    · rw [if_pos hq] at hS'
      refine px_if_ne (tgt := 166) (pc' := 143) dX9_read_140 (by decide) rfl (fun q_ => absurd (by rw [hcc, hq]; rfl) q_) (fun _ => ?_)
      refine px_iconst (v := 0) (pc' := 144) dX9_read_143 rfl (by decide) ?_
      refine sx_i_n_4_3 (pc' := 145) dX9_read_144 rfl rfl rfl rfl ?_
      have hz : (fun j => if j < w * d then 1 else m_drp (w * d) η e v.toInt (m_init (w * d) (-1)) j) = S' := by
        funext j
        rw [hS']
        by_cases hj : j < w * d
        · rw [if_pos hj, hi1 j hj]
        · rw [if_neg hj, hi0 j (by omega), hD0 _ j hi0 (by omega)]
      have go3 : ∀ (h1 : pm_h) (g1 : pm_g) (R : Value), pm_I h1 g1 → g1 30 9 = .int (nI w) → g1 30 10 = .int (nI d) → h1 37 = pm_la 144 (m_L (m_drp (w * d) η e v.toInt (m_init (w * d) (-1)))) → 
          pm_W G mX9_read z (pm_Φ G z (fun r' h2 g2 => r' = some R ∧ J h2 g2)) 166 [.ref 30, .int v, .int 1, .int (nI (w * d))] [] z (pm_up h1 37 (pm_la 144 (m_L S'))) g1 →
          pm_W G mX9_read z (pm_Φ G z (fun r' h2 g2 => r' = some R ∧ J h2 g2)) 145 [.ref 30, .int v, .int 1, .int (nI 0)] [] z h1 g1 := by
        intro h1 g1 R I b1 b2 b5 W
        rw [← hz] at W
        have := loop3 _ (w * d) 0 (by omega) h1 g1 R I b1 b2 W
        rw [fill_0, pm_up_self b5] at this
        exact this
      refine go3 _ _ _ (by repeat (first | assumption | refine pm_I.up ?_ rfl | refine pm_I.uf ?_ rfl)) (by first | assumption | (repeat (first | exact pm_uf_e rfl | refine pm_uf_o (by decide) ?_ | apply pm_uf_o (by decide))) <;> assumption) (by first | assumption | (repeat (first | exact pm_uf_e rfl | refine pm_uf_o (by decide) ?_ | apply pm_uf_o (by decide))) <;> assumption) (by first | assumption | (repeat (first | exact pm_up_e rfl | refine pm_up_o (by decide) ?_ | apply pm_up_o (by decide))) <;> assumption) ?_
      rw [pm_up_up]
      exact last _
    · rw [if_neg hq] at hS'
      refine px_if_ne (tgt := 166) (pc' := 143) dX9_read_140 (by decide) rfl (fun _ => ?_) (fun q_ => absurd q_ (by rw [hcc]; exact fun q => hq (nz _ (m_cnt_le _ 144) q)))
      rw [← hS']
      exact last _
end OPS5
