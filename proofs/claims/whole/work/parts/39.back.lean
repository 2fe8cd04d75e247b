section SBK
variable {G : pm_G} {z : pm_z} {h : pm_h} {g : pm_g}
/-- the first m cells have been rated for the stage s -/
def b_SI (w d a0 a1 s n m : Nat) (lx ly lf fo0 : Nat → Int32) (LW : Nat → Nat) (E : Nat → Nat → Nat) (h : pm_h) (g : pm_g) (h1 : pm_h) : Prop :=
  pm_I h1 g ∧ (∀ a, a ≠ 19 → a ≠ 20 → a ≠ 23 → h1 a = h a) ∧ ∃ (cf fol : Nat → Int32) (C : Nat → Nat), h1 19 = pm_ia 0 144 cf ∧ h1 20 = pm_la 144 (m_L C) ∧ h1 23 = pm_ia 0 1728 fol ∧ (∀ j, j < 144 → C j ≤ 9 ^ (n + 1)) ∧ (∀ t c, s + 1 ≤ t → c < 144 → fol (t * 144 + c) = fo0 (t * 144 + c)) ∧ (∀ i, w * d ≤ i → i < 144 → cf i = -1) ∧
    ∀ i, i < m → ∃ CF : Int32, b_inv w d a0 a1 lx ly s i lf LW (b_bef 0 2) CF (C i) (fol (s * 144 + i)) ∧ cf i = if CF = -1 then -1 else CF + nI (E s i)
theorem p9 : (9 : Nat) ^ 12 < 2 ^ 59 := by decide
theorem c_stepBack {w d a0 a1 s n nr lg : Nat} {lx ly lf cf0 fo0 η ra rv : Nat → Int32} {LW C0 : Nat → Nat} (I : pm_I h g) (e1 : g 3 1 = .int (nI w)) (e2 : g 3 2 = .int (nI d)) (hw : w ≤ 12) (hd : d ≤ 12) (e3 : g 5 1 = .int (nI a0)) (e4 : g 5 2 = .int (nI a1)) (h0 : a0 ≤ 3) (h1 : a1 ≤ 1) (hs : s < lg) (hlg : lg ≤ 12) (hn : n ≤ 11) (hmv : m_mv (lx s) (ly s))
    (f19 : h 19 = pm_ia 0 144 cf0) (f20 : h 20 = pm_la 144 (m_L C0)) (f21 : h 21 = pm_ia 0 144 lf) (f22 : h 22 = pm_la 144 (m_L LW)) (f23 : h 23 = pm_ia 0 1728 fo0) (hW : ∀ j, j < 144 → LW j ≤ 9 ^ n) (hC : ∀ j, j < 144 → C0 j ≤ 9 ^ (n + 1)) (hcf : ∀ i, w * d ≤ i → i < 144 → cf0 i = -1)
    (e5 : g 6 5 = .int (nI nr)) (hnr : nr ≤ 40) (e6 : g 6 4 = .int (nI lg)) (f7 : h 7 = pm_ia 0 12 lx) (f8 : h 8 = pm_ia 0 12 ly) (f9 : h 9 = pm_ia 0 40 rv) (f10 : h 10 = pm_ia 0 40 ra) (hv : ∀ i, i < nr → 0 ≤ (rv i).toInt ∧ (rv i).toInt ≤ 255) (f4 : h 4 = pm_ia 0 144 (m_hc η)) (hb : ∀ c, c < 144 → m_bok (η c)) :
    pm_Met G mX4_stepBack [.ref 18, .int (nI s)] z z h g (fun r h' g' => r = none ∧ g' = g ∧ b_SI w d a0 a1 s n (w * d) lx ly lf fo0 LW (b_E ra rv η nr) h g h') := by
  have hwd := m_wd hw hd
  have h9 : (9 : Nat) ^ (n + 1) ≤ 9 ^ 12 := Nat.pow_le_pow_right (by omega) (by omega)
  have h9' : (9 : Nat) ^ n ≤ 9 ^ 12 := Nat.pow_le_pow_right (by omega) (by omega)
  have hp := p9
  refine enX4_stepBack pm_le.rf ?_
  generalize hΦ : (pm_Φ G z (fun r h' g' => r = none ∧ g' = g ∧ b_SI w d a0 a1 s n (w * d) lx ly lf fo0 LW (b_E ra rv η nr) h g h')) = Φ
  have row : ∀ y, y < d → ∀ k x : Nat, x + k = w → ∀ h1 : pm_h, b_SI w d a0 a1 s n (w * y + x) lx ly lf fo0 LW (b_E ra rv η nr) h g h1 →
      (∀ h1 : pm_h, b_SI w d a0 a1 s n (w * y + w) lx ly lf fo0 LW (b_E ra rv η nr) h g h1 → pm_W G mX4_stepBack z Φ 66 [.ref 18, .int (nI s), .int (nI y), .int (nI w)] [] z h1 g) → pm_W G mX4_stepBack z Φ 15 [.ref 18, .int (nI s), .int (nI y), .int (nI x)] [] z h1 g := by
    intro y hy k
    induction k with
    | zero =>
      intro x hx h2 SI K
      obtain rfl : x = w := by omega
      obtain ⟨I2, -⟩ := id SI
      refine px_iload_n (i := 3) (pc' := 16) dX4_stepBack_15 rfl rfl rfl ?_
      refine px_aload_n (i := 0) (pc' := 17) dX4_stepBack_16 rfl rfl rfl ?_
      refine pi_getr (pc' := 20) fl_4_35 dX4_stepBack_17 rfl (by repeat (first | assumption | refine pm_I.up ?_ rfl | refine pm_I.uf ?_ rfl)) rfl rfl ?_
      refine pi_callV (pc' := 23) (c_width (x := .null) I2 e1) okX3_width ivX3_width ml_X4_89 ⟨Nat.le_of_ble_eq_true rfl, Nat.le_of_ble_eq_true rfl⟩ dX4_stepBack_20 rfl rfl rfl (Nat.le_of_ble_eq_true rfl) (by repeat (first | assumption | refine pm_I.up ?_ rfl | refine pm_I.uf ?_ rfl)) rfl cl_3 pm_le.rf pm_le.rf ?_
      rintro _ _ _ ⟨rfl, rfl, rfl⟩
      refine px_icmp_ge (tgt := 66) (pc' := 26) dX4_stepBack_23 (by decide) rfl (fun _ => ?_) (fun q_ => absurd (nI_le (by omega) (by omega)) q_)
      exact K h2 SI
    | succ k ih =>
      intro x hx h2 SI K
      obtain ⟨I2, fr, cf, fol, C, s1, s2, s3, s4, s5, s7, s6⟩ := id SI
      have hxy : w * y + x < w * d := by
        have : w * (y + 1) ≤ w * d := Nat.mul_le_mul_left _ hy
        rw [Nat.mul_add] at this
        omega
      obtain ⟨cw1, cw2⟩ := m_cw (w := w) (x := x) (y := y) (by omega)
      have exi : (nI x).toInt = x := nI_toInt (by omega)
      have eyi : (nI y).toInt = y := nI_toInt (by omega)
      obtain ⟨v1, v2, v3, v4⟩ := id hmv
      have ax : (nI x + lx s).toInt = x + (lx s).toInt := by rw [i_add (by omega) (by omega), exi]
      have ay : (nI y + ly s).toInt = y + (ly s).toInt := by rw [i_add (by omega) (by omega), eyi]
      have q := fun a (n1 : a ≠ 19) (n2 : a ≠ 20) (n3 : a ≠ 23) => fr a n1 n2 n3
      refine px_iload_n (i := 3) (pc' := 16) dX4_stepBack_15 rfl rfl rfl ?_
      refine px_aload_n (i := 0) (pc' := 17) dX4_stepBack_16 rfl rfl rfl ?_
      refine pi_getr (pc' := 20) fl_4_35 dX4_stepBack_17 rfl (by repeat (first | assumption | refine pm_I.up ?_ rfl | refine pm_I.uf ?_ rfl)) rfl rfl ?_
      refine pi_callV (pc' := 23) (c_width (x := .null) I2 e1) okX3_width ivX3_width ml_X4_89 ⟨Nat.le_of_ble_eq_true rfl, Nat.le_of_ble_eq_true rfl⟩ dX4_stepBack_20 rfl rfl rfl (Nat.le_of_ble_eq_true rfl) (by repeat (first | assumption | refine pm_I.up ?_ rfl | refine pm_I.uf ?_ rfl)) rfl cl_3 pm_le.rf pm_le.rf ?_
      rintro _ _ _ ⟨rfl, rfl, rfl⟩
      refine px_icmp_ge (tgt := 66) (pc' := 26) dX4_stepBack_23 (by decide) rfl (fun q_ => absurd q_ (nI_ge (by omega) (by omega))) (fun _ => ?_)
      refine px_aload_n (i := 0) (pc' := 27) dX4_stepBack_26 rfl rfl rfl ?_
      refine px_iload_n (i := 1) (pc' := 28) dX4_stepBack_27 rfl rfl rfl ?_
      refine px_aload_n (i := 0) (pc' := 29) dX4_stepBack_28 rfl rfl rfl ?_
      refine pi_getr (pc' := 32) fl_4_35 dX4_stepBack_29 rfl (by repeat (first | assumption | refine pm_I.up ?_ rfl | refine pm_I.uf ?_ rfl)) rfl rfl ?_
      refine px_iload_n (i := 3) (pc' := 33) dX4_stepBack_32 rfl rfl rfl ?_
      refine px_iload_n (i := 2) (pc' := 34) dX4_stepBack_33 rfl rfl rfl ?_
      refine pi_callV (pc' := 37) (c_cellAt I2 e1 e2 hw hd) okX3_cellAt ivX3_cellAt ml_X4_92 ⟨Nat.le_of_ble_eq_true rfl, Nat.le_of_ble_eq_true rfl⟩ dX4_stepBack_34 rfl rfl rfl (Nat.le_of_ble_eq_true rfl) (by repeat (first | assumption | refine pm_I.up ?_ rfl | refine pm_I.uf ?_ rfl)) rfl cl_3 pm_le.rf pm_le.rf ?_
      rintro _ _ _ ⟨rfl, rfl, rfl⟩
      rw [exi, eyi, m_off_in (by omega) hy, iZ_n]
      refine px_iload_n (i := 3) (pc' := 38) dX4_stepBack_37 rfl rfl rfl ?_
      refine px_aload_n (i := 0) (pc' := 39) dX4_stepBack_38 rfl rfl rfl ?_
      refine pi_getr (pc' := 42) fl_4_43 dX4_stepBack_39 rfl (by repeat (first | assumption | refine pm_I.up ?_ rfl | refine pm_I.uf ?_ rfl)) rfl rfl ?_
      refine px_iload_n (i := 1) (pc' := 43) dX4_stepBack_42 rfl rfl rfl ?_
      refine pi_callV (pc' := 46) (c_dx I2 e6 hlg hs ((q 7 (by decide) (by decide) (by decide)).trans f7)) okX5_dx ivX5_dx ml_X4_95 ⟨Nat.le_of_ble_eq_true rfl, Nat.le_of_ble_eq_true rfl⟩ dX4_stepBack_43 rfl rfl rfl (Nat.le_of_ble_eq_true rfl) (by repeat (first | assumption | refine pm_I.up ?_ rfl | refine pm_I.uf ?_ rfl)) rfl cl_5 pm_le.rf pm_le.rf ?_
      rintro _ _ _ ⟨rfl, rfl, rfl⟩
      refine px_iadd (pc' := 47) dX4_stepBack_46 rfl ?_
      refine px_iload_n (i := 2) (pc' := 48) dX4_stepBack_47 rfl rfl rfl ?_
      refine px_aload_n (i := 0) (pc' := 49) dX4_stepBack_48 rfl rfl rfl ?_
      refine pi_getr (pc' := 52) fl_4_43 dX4_stepBack_49 rfl (by repeat (first | assumption | refine pm_I.up ?_ rfl | refine pm_I.uf ?_ rfl)) rfl rfl ?_
      refine px_iload_n (i := 1) (pc' := 53) dX4_stepBack_52 rfl rfl rfl ?_
      refine pi_callV (pc' := 56) (c_dy I2 e6 hlg hs ((q 8 (by decide) (by decide) (by decide)).trans f8)) okX5_dy ivX5_dy ml_X4_98 ⟨Nat.le_of_ble_eq_true rfl, Nat.le_of_ble_eq_true rfl⟩ dX4_stepBack_53 rfl rfl rfl (Nat.le_of_ble_eq_true rfl) (by repeat (first | assumption | refine pm_I.up ?_ rfl | refine pm_I.uf ?_ rfl)) rfl cl_5 pm_le.rf pm_le.rf ?_
      rintro _ _ _ ⟨rfl, rfl, rfl⟩
      refine px_iadd (pc' := 57) dX4_stepBack_56 rfl ?_
      refine pi_callV (pc' := 60) (c_rate (lx := lx) (ly := ly) (η := η) (ra := ra) (rv := rv) (LW := LW) I2 e1 e2 hw hd e3 e4 h0 h1 (by omega) hxy (by rw [ax, cw1]) (by rw [ay, cw2]) hmv s1 s2 ((q 21 (by decide) (by decide) (by decide)).trans f21) ((q 22 (by decide) (by decide) (by decide)).trans f22) s3 (fun j hj => by have := hW j hj; omega) (fun j hj => by have := s4 j hj; omega) e5 hnr ((q 9 (by decide) (by decide) (by decide)).trans f9) ((q 10 (by decide) (by decide) (by decide)).trans f10) hv ((q 4 (by decide) (by decide) (by decide)).trans f4) hb) okX4_rate ivX4_rate ml_X4_101 ⟨Nat.le_of_ble_eq_true rfl, Nat.le_of_ble_eq_true rfl⟩ dX4_stepBack_57 rfl rfl rfl (Nat.le_of_ble_eq_true rfl) (by repeat (first | assumption | refine pm_I.up ?_ rfl | refine pm_I.uf ?_ rfl)) rfl cl_4 pm_le.rf pm_le.rf ?_
      rintro _ _ _ ⟨rfl, rfl, CF, CW, CL, inv, rfl⟩
      refine sx_inc_4_3 (w := 1) (pc' := 63) dX4_stepBack_60 rfl rfl (by decide) rfl ?_
      refine px_goto (tgt := 15) dX4_stepBack_63 (by decide) ?_
      rw [nI_1]
      have hCW : CW ≤ 9 ^ (n + 1) := by
        rcases inv with ⟨_, c2, _⟩ | ⟨j, j1, _, _, _, c2, _⟩
        · rw [c2]; exact Nat.zero_le _
        · rw [c2, Nat.pow_succ]
          exact Nat.mul_le_mul (hW j (by omega)) (b_V_le h0 h1)
      refine ih (x + 1) (by omega) _ ⟨(by repeat (first | assumption | refine pm_I.up ?_ rfl | refine pm_I.uf ?_ rfl)), fun a n1 n2 n3 => by rw [pm_up_n _ _ n3, pm_up_n _ _ n2, pm_up_n _ _ n1]; exact fr a n1 n2 n3, _, _, _, (by first | assumption | (repeat (first | exact pm_up_e rfl | refine pm_up_o (by decide) ?_ | apply pm_up_o (by decide))) <;> assumption), (by first | assumption | (repeat (first | exact pm_up_e rfl | refine pm_up_o (by decide) ?_ | apply pm_up_o (by decide))) <;> assumption), (by first | assumption | (repeat (first | exact pm_up_e rfl | refine pm_up_o (by decide) ?_ | apply pm_up_o (by decide))) <;> assumption), fun j hj => ?_, fun t c ht hc => ?_, fun i hi hi2 => (if_neg (by omega)).trans (s7 i hi hi2), fun i hi => ?_⟩ K
      · show (if j = w * y + x then CW else C j) ≤ _
        split
        · exact hCW
        · exact s4 j hj
      · rw [show upd fol (s * 144 + (w * y + x)) CL (t * 144 + c) = fol (t * 144 + c) from if_neg (by omega)]
        exact s5 t c ht hc
      · by_cases hii : i = w * y + x
        · subst hii
          refine ⟨CF, ?_, if_pos rfl⟩
          rw [show upd fol (s * 144 + (w * y + x)) CL (s * 144 + (w * y + x)) = CL from if_pos rfl, if_pos rfl]
          exact inv
        · obtain ⟨CF', t1, t2⟩ := s6 i (by omega)
          refine ⟨CF', ?_, (if_neg hii).trans t2⟩
          rw [show upd fol (s * 144 + (w * y + x)) CL (s * 144 + i) = fol (s * 144 + i) from if_neg (by omega), if_neg hii]
          exact t1
  have rows : ∀ k y : Nat, y + k = d → ∀ (v3 : Value) (h1 : pm_h), v3.category = 1 → b_SI w d a0 a1 s n (w * y) lx ly lf fo0 LW (b_E ra rv η nr) h g h1 → pm_W G mX4_stepBack z Φ 2 [.ref 18, .int (nI s), .int (nI y), v3] [] z h1 g := by
    intro k
    induction k with
    | zero =>
      intro y hy v3 h2 c3 SI
      obtain rfl : y = d := by omega
      obtain ⟨I2, -⟩ := id SI
      refine px_iload_n (i := 2) (pc' := 3) dX4_stepBack_2 rfl rfl rfl ?_
      refine px_aload_n (i := 0) (pc' := 4) dX4_stepBack_3 rfl rfl rfl ?_
      refine pi_getr (pc' := 7) fl_4_35 dX4_stepBack_4 rfl (by repeat (first | assumption | refine pm_I.up ?_ rfl | refine pm_I.uf ?_ rfl)) rfl rfl ?_
      refine pi_callV (pc' := 10) (c_depth I2 e2) okX3_depth ivX3_depth ml_X4_86 ⟨Nat.le_of_ble_eq_true rfl, Nat.le_of_ble_eq_true rfl⟩ dX4_stepBack_7 rfl rfl rfl (Nat.le_of_ble_eq_true rfl) (by repeat (first | assumption | refine pm_I.up ?_ rfl | refine pm_I.uf ?_ rfl)) rfl cl_3 pm_le.rf pm_le.rf ?_
      rintro _ _ _ ⟨rfl, rfl, rfl⟩
      refine px_icmp_ge (tgt := 72) (pc' := 13) dX4_stepBack_10 (by decide) rfl (fun _ => ?_) (fun q_ => absurd (nI_le (by omega) (by omega)) q_)
      subst hΦ
      exact px_vret dX4_stepBack_72 rfl rfl (⟨rfl, rfl, SI⟩)
    | succ k ih =>
      intro y hy v3 h2 c3 SI
      obtain ⟨I2, -⟩ := id SI
      refine px_iload_n (i := 2) (pc' := 3) dX4_stepBack_2 rfl rfl rfl ?_
      refine px_aload_n (i := 0) (pc' := 4) dX4_stepBack_3 rfl rfl rfl ?_
      refine pi_getr (pc' := 7) fl_4_35 dX4_stepBack_4 rfl (by repeat (first | assumption | refine pm_I.up ?_ rfl | refine pm_I.uf ?_ rfl)) rfl rfl ?_
      refine pi_callV (pc' := 10) (c_depth I2 e2) okX3_depth ivX3_depth ml_X4_86 ⟨Nat.le_of_ble_eq_true rfl, Nat.le_of_ble_eq_true rfl⟩ dX4_stepBack_7 rfl rfl rfl (Nat.le_of_ble_eq_true rfl) (by repeat (first | assumption | refine pm_I.up ?_ rfl | refine pm_I.uf ?_ rfl)) rfl cl_3 pm_le.rf pm_le.rf ?_
      rintro _ _ _ ⟨rfl, rfl, rfl⟩
      refine px_icmp_ge (tgt := 72) (pc' := 13) dX4_stepBack_10 (by decide) rfl (fun q_ => absurd q_ (nI_ge (by omega) (by omega))) (fun _ => ?_)
      refine px_iconst (v := 0) (pc' := 14) dX4_stepBack_13 rfl (by decide) ?_
      refine sx_i_n_4_3 (pc' := 15) dX4_stepBack_14 rfl rfl rfl rfl ?_
      refine row y (by omega) w 0 (by omega) h2 SI (fun h3 SI3 => ?_)
      refine sx_inc_4_2 (w := 1) (pc' := 69) dX4_stepBack_66 rfl rfl (by decide) rfl ?_
      refine px_goto (tgt := 2) dX4_stepBack_69 (by decide) ?_
      rw [nI_1]
      exact ih (y + 1) (by omega) _ h3 rfl SI3
  refine px_iconst (v := 0) (pc' := 1) dX4_stepBack_0 rfl (by decide) ?_
  refine sx_i_n_4_2 (pc' := 2) dX4_stepBack_1 rfl rfl rfl rfl ?_
  exact rows d 0 (by omega) _ h rfl ⟨I, fun _ _ _ _ => rfl, cf0, fo0, C0, f19, f20, f23, hC, fun _ _ _ _ => rfl, hcf, fun i hi => absurd hi (by omega)⟩
end SBK
