theorem r3_0 (h : pm_h) (a f l a' : pm_C) : pm_up (pm_up (pm_up (pm_up h 19 a) 20 f) 23 l) 19 a' = pm_up (pm_up (pm_up h 19 a') 20 f) 23 l := by
  rw [pm_up_comm (a := 23) (b := 19) _ _ _ (by decide), pm_up_comm (a := 20) (b := 19) _ _ _ (by decide), pm_up_up]
theorem r3_1 (h : pm_h) (a f l a' : pm_C) : pm_up (pm_up (pm_up (pm_up h 19 a) 20 f) 23 l) 20 a' = pm_up (pm_up (pm_up h 19 a) 20 a') 23 l := by
  rw [pm_up_comm (a := 23) (b := 20) _ _ _ (by decide), pm_up_up]
theorem upd_upd' (f : Nat → Int32) (i : Nat) (a b : Int32) : upd (upd f i a) i b = upd f i b := by
  funext j
  unfold upd
  by_cases hj : j = i <;> simp [hj]
section RT2
variable {G : pm_G} {z : pm_z} {h : pm_h} {g : pm_g}
theorem c_rate {w d a0 a1 s i n : Nat} {x y : Int32} {lx ly lf cf0 fo0 η ra rv : Nat → Int32} {LW C0 : Nat → Nat} (I : pm_I h g) (e1 : g 3 1 = .int (nI w)) (e2 : g 3 2 = .int (nI d)) (hw : w ≤ 12) (hd : d ≤ 12) (e3 : g 5 1 = .int (nI a0)) (e4 : g 5 2 = .int (nI a1)) (h0 : a0 ≤ 3) (h1 : a1 ≤ 1) (hs : s < 12) (hi : i < w * d) (hx : x.toInt = (i % w : Nat) + (lx s).toInt) (hy : y.toInt = (i / w : Nat) + (ly s).toInt) (hmv : m_mv (lx s) (ly s))
    (f19 : h 19 = pm_ia 0 144 cf0) (f20 : h 20 = pm_la 144 (m_L C0)) (f21 : h 21 = pm_ia 0 144 lf) (f22 : h 22 = pm_la 144 (m_L LW)) (f23 : h 23 = pm_ia 0 1728 fo0) (hW : ∀ j, j < 144 → LW j < 2 ^ 59) (hC : ∀ j, j < 144 → C0 j < 2 ^ 63)
    (e5 : g 6 5 = .int (nI n)) (hn : n ≤ 40) (f9 : h 9 = pm_ia 0 40 rv) (f10 : h 10 = pm_ia 0 40 ra) (hv : ∀ i, i < n → 0 ≤ (rv i).toInt ∧ (rv i).toInt ≤ 255) (f4 : h 4 = pm_ia 0 144 (m_hc η)) (hb : ∀ c, c < 144 → m_bok (η c)) :
    pm_Met G mX4_rate [.ref 18, .int (nI s), .int (nI i), .int x, .int y] z z h g (fun r h' g' => r = none ∧ g' = g ∧ ∃ (CF : Int32) (CW : Nat) (CL : Int32), b_inv w d a0 a1 lx ly s i lf LW (b_bef 0 2) CF CW CL ∧ h' = (pm_up (pm_up (pm_up h 19 (pm_ia 0 144 (upd cf0 i (if CF = -1 then -1 else CF + nI (b_E ra rv η n s i))))) 20 (pm_la 144 (m_L (fun j => if j = i then CW else C0 j)))) 23 (pm_ia 0 1728 (upd fo0 (s * 144 + i) (CL))))) := by
  have hwd := m_wd hw hd
  obtain ⟨mv1, mv2, mv3, mv4⟩ := hmv
  have him := Nat.mod_le i w
  have hid := Nat.div_le_self i w
  have hid0 : (0 : Int) ≤ ((i / w : Nat) : Int) := Int.natCast_nonneg _
  have him0 : (0 : Int) ≤ ((i % w : Nat) : Int) := Int.natCast_nonneg _
  have hil : (nI i).toNatClampNeg = i := nI_clamp (by omega)
  have hii : (nI i).toInt = i := nI_toInt (by omega)
  have hxl : (nI (s * 144 + i)).toNatClampNeg = s * 144 + i := nI_clamp (by omega)
  have hxi : (nI (s * 144 + i)).toInt = ((s * 144 + i : Nat) : Int) := nI_toInt (by omega)
  have us : ∀ (f : Nat → Int32) (x : Int32), upd f i x i = x := fun f x => if_pos rfl
  refine enX4_rate pm_le.rf ?_
  generalize hΦ : (pm_Φ G z (fun r h' g' => r = none ∧ g' = g ∧ ∃ (CF : Int32) (CW : Nat) (CL : Int32), b_inv w d a0 a1 lx ly s i lf LW (b_bef 0 2) CF CW CL ∧ h' = (pm_up (pm_up (pm_up h 19 (pm_ia 0 144 (upd cf0 i (if CF = -1 then -1 else CF + nI (b_E ra rv η n s i))))) 20 (pm_la 144 (m_L (fun j => if j = i then CW else C0 j)))) 23 (pm_ia 0 1728 (upd fo0 (s * 144 + i) (CL)))))) = Φ
  refine px_iload_n (i := 1) (pc' := 1) dX4_rate_0 rfl rfl rfl ?_
  refine px_sipush (v := 144) (pc' := 4) dX4_rate_1 rfl (by decide) ?_
  refine px_imul (pc' := 5) dX4_rate_4 rfl ?_
  refine px_iload_n (i := 2) (pc' := 6) dX4_rate_5 rfl rfl rfl ?_
  refine px_iadd (pc' := 7) dX4_rate_6 rfl ?_
  rw [show (144 : Int32) = nI 144 from rfl, pk_mul, nI_add]
  refine sx_i_9_5 (pc' := 9) dX4_rate_7 rfl rfl rfl ?_
  refine px_iload_n (i := 2) (pc' := 10) dX4_rate_9 rfl rfl rfl ?_
  refine px_if_lt (tgt := 35) (pc' := 13) dX4_rate_10 (by decide) rfl (fun q_ => absurd q_ (by rw [i_lt, hii, i_0]; omega)) (fun _ => ?_)
  refine px_iload_n (i := 2) (pc' := 14) dX4_rate_13 rfl rfl rfl ?_
  refine px_sipush (v := 144) (pc' := 17) dX4_rate_14 rfl (by decide) ?_
  refine px_icmp_ge (tgt := 35) (pc' := 20) dX4_rate_17 (by decide) rfl (fun q_ => absurd q_ (by rw [i_le, hii, l_144]; omega)) (fun _ => ?_)
  refine px_iload (i := 5) (pc' := 22) dX4_rate_20 rfl rfl ?_
  refine px_if_lt (tgt := 35) (pc' := 25) dX4_rate_22 (by decide) rfl (fun q_ => absurd q_ (by rw [i_lt, hxi, i_0]; omega)) (fun _ => ?_)
  refine px_iload (i := 5) (pc' := 27) dX4_rate_25 rfl rfl ?_
  refine px_aload_n (i := 0) (pc' := 28) dX4_rate_27 rfl rfl rfl ?_
  refine pi_getr (pc' := 31) fl_4_25 dX4_rate_28 rfl (by repeat (first | assumption | refine pm_I.up ?_ rfl | refine pm_I.uf ?_ rfl)) rfl rfl ?_
  refine px_aleni (kd := 0) (pc' := 32) (by decide) dX4_rate_31 rfl (by first | assumption | (repeat (first | exact pm_up_e rfl | refine pm_up_o (by decide) ?_ | apply pm_up_o (by decide))) <;> assumption) ?_
  refine px_icmp_lt (tgt := 36) (pc' := 35) dX4_rate_32 (by decide) rfl (fun _ => ?_) (fun q_ => absurd (by rw [i_lt, hxi]; show ((s * 144 + i : Nat) : Int) < 1728; omega) q_)
  refine px_aload_n (i := 0) (pc' := 37) dX4_rate_36 rfl rfl rfl ?_
  refine pi_getr (pc' := 40) fl_4_9 dX4_rate_37 rfl (by repeat (first | assumption | refine pm_I.up ?_ rfl | refine pm_I.uf ?_ rfl)) rfl rfl ?_
  refine px_iload_n (i := 2) (pc' := 41) dX4_rate_40 rfl rfl rfl ?_
  refine px_iconst (v := -1) (pc' := 42) dX4_rate_41 rfl (by decide) ?_
  refine px_iast (pc' := 43) dX4_rate_42 rfl (by first | assumption | (repeat (first | exact pm_up_e rfl | refine pm_up_o (by decide) ?_ | apply pm_up_o (by decide))) <;> assumption) (vp_in_nI (by omega) (by omega)) ?_
  refine px_aload_n (i := 0) (pc' := 44) dX4_rate_43 rfl rfl rfl ?_
  refine pi_getr (pc' := 47) fl_4_15 dX4_rate_44 rfl (by repeat (first | assumption | refine pm_I.up ?_ rfl | refine pm_I.uf ?_ rfl)) rfl rfl ?_
  refine px_iload_n (i := 2) (pc' := 48) dX4_rate_47 rfl rfl rfl ?_
  refine px_lconst (v := 0) (pc' := 49) dX4_rate_48 rfl (by decide) ?_
  refine px_last (pc' := 50) dX4_rate_49 rfl (by first | assumption | (repeat (first | exact pm_up_e rfl | refine pm_up_o (by decide) ?_ | apply pm_up_o (by decide))) <;> assumption) (vp_in_nI (by omega) (by omega)) ?_
  refine px_aload_n (i := 0) (pc' := 51) dX4_rate_50 rfl rfl rfl ?_
  refine pi_getr (pc' := 54) fl_4_25 dX4_rate_51 rfl (by repeat (first | assumption | refine pm_I.up ?_ rfl | refine pm_I.uf ?_ rfl)) rfl rfl ?_
  refine px_iload (i := 5) (pc' := 56) dX4_rate_54 rfl rfl ?_
  refine px_iconst (v := -1) (pc' := 57) dX4_rate_56 rfl (by decide) ?_
  refine px_iast (pc' := 58) dX4_rate_57 rfl (by first | assumption | (repeat (first | exact pm_up_e rfl | refine pm_up_o (by decide) ?_ | apply pm_up_o (by decide))) <;> assumption) (vp_in_nI (by omega) (by omega)) ?_
  rw [hil, hxl, show (0 : Int64) = lN 0 from rfl, m_L_upd]
  have z1t : ∀ a : Int, -1 ≤ a ∧ a ≤ 2 → (iZ a).toInt = a := fun a ha => iZ_t (by omega) (by omega)
  have zz : ∀ a : Int, -1 ≤ a ∧ a ≤ 2 → (iZ a = 0 ↔ a = 0) := fun a ha => by rw [i_eq, z1t a ha, i_0]
  have wt : ∀ a b : Int, -1 ≤ a ∧ a ≤ 2 → -1 ≤ b ∧ b ≤ 2 → (if iZ a = 0 then nI a0 else nI a1) * (if iZ b = 0 then nI a0 else nI a1) = nI (m_wt a0 a1 a b) := fun a b ha hb => by
    simp only [zz a ha, zz b hb]
    unfold m_wt
    split <;> split <;> exact pk_mul _ _
  have wt9 : ∀ a b : Int, m_wt a0 a1 a b ≤ 9 := fun a b => by
    unfold m_wt
    have p : ∀ x y : Nat, x ≤ 3 → y ≤ 3 → x * y ≤ 3 * 3 := fun _ _ => Nat.mul_le_mul
    split <;> split <;> exact p _ _ (by omega) (by omega)
  have hWv : ∀ j v, j < 144 → v ≤ 9 → LW j * v < 2 ^ 63 := fun j v hj hv => by
    have h1 := Nat.mul_le_mul (Nat.le_of_lt (hW j hj)) hv
    have h2 : (2 : Nat) ^ 59 * 9 < 2 ^ 63 := by decide
    omega
  have step : ∀ (a b : Int) (CF : Int32) (CW : Nat) (CL : Int32) (v8 : Value), -1 ≤ a ∧ a ≤ 1 → -1 ≤ b ∧ b ≤ 1 → v8.category = 1 → CW < 2 ^ 63 → b_inv w d a0 a1 lx ly s i lf LW (b_bef a b) CF CW CL →
      (∀ (CF : Int32) (CW : Nat) (CL : Int32) (v8 : Value), v8.category = 1 → CW < 2 ^ 63 → b_inv w d a0 a1 lx ly s i lf LW (b_bef (a + 1) b) CF CW CL → pm_W G mX4_rate z Φ 70 [.ref 18, .int (nI s), .int (nI i), .int x, .int y, .int (nI (s * 144 + i)), .int (iZ b), .int (iZ (a + 1)), v8] [] z (pm_up (pm_up (pm_up h 19 (pm_ia 0 144 (upd cf0 i (CF)))) 20 (pm_la 144 (m_L (fun j => if j = i then CW else C0 j)))) 23 (pm_ia 0 1728 (upd fo0 (s * 144 + i) (CL)))) g) → pm_W G mX4_rate z Φ 70 [.ref 18, .int (nI s), .int (nI i), .int x, .int y, .int (nI (s * 144 + i)), .int (iZ b), .int (iZ a), v8] [] z (pm_up (pm_up (pm_up h 19 (pm_ia 0 144 (upd cf0 i (CF)))) 20 (pm_la 144 (m_L (fun j => if j = i then CW else C0 j)))) 23 (pm_ia 0 1728 (upd fo0 (s * 144 + i) (CL)))) g := by
    intro a b CF CW CL v8 ha hbb c8 hCW inv K
    have ex : (x + iZ a).toInt = x.toInt + a := by rw [i_add (by rw [z1t a (by omega)]; omega) (by rw [z1t a (by omega)]; omega), z1t a (by omega)]
    have ey : (y + iZ b).toInt = y.toInt + b := by rw [i_add (by rw [z1t b (by omega)]; omega) (by rw [z1t b (by omega)]; omega), z1t b (by omega)]
    have ea : iZ a + 1 = iZ (a + 1) := by rw [show (1 : Int32) = iZ 1 from rfl, iZ_add]
    have sx := fun t ht => b_inv_s (t := t) ha hbb ht inv
    refine px_iload (i := 7) (pc' := 72) dX4_rate_70 rfl rfl ?_
    refine px_iconst (v := 1) (pc' := 73) dX4_rate_72 rfl (by decide) ?_
    refine px_icmp_gt (tgt := 169) (pc' := 76) dX4_rate_73 (by decide) rfl (fun q_ => absurd q_ (by rw [i_lt, l_1, z1t a (by omega)]; omega)) (fun _ => ?_)
    refine px_aload_n (i := 0) (pc' := 77) dX4_rate_76 rfl rfl rfl ?_
    refine pi_getr (pc' := 80) fl_4_35 dX4_rate_77 rfl (by repeat (first | assumption | refine pm_I.up ?_ rfl | refine pm_I.uf ?_ rfl)) rfl rfl ?_
    refine px_iload_n (i := 3) (pc' := 81) dX4_rate_80 rfl rfl rfl ?_
    refine px_iload (i := 7) (pc' := 83) dX4_rate_81 rfl rfl ?_
    refine px_iadd (pc' := 84) dX4_rate_83 rfl ?_
    refine px_iload (i := 4) (pc' := 86) dX4_rate_84 rfl rfl ?_
    refine px_iload (i := 6) (pc' := 88) dX4_rate_86 rfl rfl ?_
    refine px_iadd (pc' := 89) dX4_rate_88 rfl ?_
    refine pi_callV (pc' := 92) (c_cellAt (by repeat (first | assumption | refine pm_I.up ?_ rfl | refine pm_I.uf ?_ rfl)) e1 e2 hw hd) okX3_cellAt ivX3_cellAt ml_X4_92 ⟨Nat.le_of_ble_eq_true rfl, Nat.le_of_ble_eq_true rfl⟩ dX4_rate_89 rfl rfl rfl (Nat.le_of_ble_eq_true rfl) (by repeat (first | assumption | refine pm_I.up ?_ rfl | refine pm_I.uf ?_ rfl)) rfl cl_3 pm_le.rf pm_le.rf ?_
    rintro _ _ _ ⟨rfl, rfl, rfl⟩
    rw [ex, ey, hx, hy]
    have ht := m_off_lt (w := w) (d := d) (((i % w : Nat) : Int) + (lx s).toInt + a) (((i / w : Nat) : Int) + (ly s).toInt + b)
    have sx := sx _ rfl
    generalize m_off w d (((i % w : Nat) : Int) + (lx s).toInt + a) (((i / w : Nat) : Int) + (ly s).toInt + b) = t at ht sx ⊢
    refine sx_i_9_8 (pc' := 94) dX4_rate_92 rfl rfl rfl ?_
    refine px_aload_n (i := 0) (pc' := 95) dX4_rate_94 rfl rfl rfl ?_
    refine px_iload (i := 8) (pc' := 97) dX4_rate_95 rfl rfl ?_
    refine px_aload_n (i := 0) (pc' := 98) dX4_rate_97 rfl rfl rfl ?_
    refine pi_getr (pc' := 101) fl_4_39 dX4_rate_98 rfl (by repeat (first | assumption | refine pm_I.up ?_ rfl | refine pm_I.uf ?_ rfl)) rfl rfl ?_
    refine px_iload (i := 7) (pc' := 103) dX4_rate_101 rfl rfl ?_
    refine px_iload (i := 6) (pc' := 105) dX4_rate_103 rfl rfl ?_
    refine pi_callV (pc' := 108) (c_weight (by repeat (first | assumption | refine pm_I.up ?_ rfl | refine pm_I.uf ?_ rfl)) e3 e4) okX2_weight ivX2_weight ml_X4_105 ⟨Nat.le_of_ble_eq_true rfl, Nat.le_of_ble_eq_true rfl⟩ dX4_rate_105 rfl rfl rfl (Nat.le_of_ble_eq_true rfl) (by repeat (first | assumption | refine pm_I.up ?_ rfl | refine pm_I.uf ?_ rfl)) rfl cl_2 pm_le.rf pm_le.rf ?_
    rintro _ _ _ ⟨rfl, rfl, rfl⟩
    rw [wt a b (by omega) (by omega)]
    refine px_iload_n (i := 2) (pc' := 109) dX4_rate_108 rfl rfl rfl ?_
    refine pi_callV (pc' := 112) (c_leads (by repeat (first | assumption | refine pm_I.up ?_ rfl | refine pm_I.uf ?_ rfl)) (t := t) (v := m_wt a0 a1 a b) (c := i) (LW := LW) (CW := fun j => if j = i then CW else C0 j) (lf := lf) (cf := upd cf0 i CF) (by omega) (wt9 a b) (by omega) (by first | assumption | (repeat (first | exact pm_up_e rfl | refine pm_up_o (by decide) ?_ | apply pm_up_o (by decide))) <;> assumption) (by first | assumption | (repeat (first | exact pm_up_e rfl | refine pm_up_o (by decide) ?_ | apply pm_up_o (by decide))) <;> assumption) (by first | assumption | (repeat (first | exact pm_up_e rfl | refine pm_up_o (by decide) ?_ | apply pm_up_o (by decide))) <;> assumption) (by first | assumption | (repeat (first | exact pm_up_e rfl | refine pm_up_o (by decide) ?_ | apply pm_up_o (by decide))) <;> assumption) (fun j hj => hWv j _ hj (wt9 a b)) (fun j hj => by (show (if j = i then CW else C0 j) < 2 ^ 63); split; exact hCW; exact hC j hj)) okX4_leads ivX4_leads ml_X4_110 ⟨Nat.le_of_ble_eq_true rfl, Nat.le_of_ble_eq_true rfl⟩ dX4_rate_109 rfl rfl rfl (Nat.le_of_ble_eq_true rfl) (by repeat (first | assumption | refine pm_I.up ?_ rfl | refine pm_I.uf ?_ rfl)) rfl cl_4 pm_le.rf pm_le.rf ?_
    rintro _ _ _ ⟨rfl, rfl, rfl⟩
    rw [us, if_pos rfl]
    have lift : ∀ v8 : Value, v8.category = 1 → ∀ (CF : Int32) (CW : Nat) (CL : Int32), CW < 2 ^ 63 → b_inv w d a0 a1 lx ly s i lf LW (b_bef (a + 1) b) CF CW CL → pm_W G mX4_rate z Φ 163 [.ref 18, .int (nI s), .int (nI i), .int x, .int y, .int (nI (s * 144 + i)), .int (iZ b), .int (iZ a), v8] [] z (pm_up (pm_up (pm_up h 19 (pm_ia 0 144 (upd cf0 i (CF)))) 20 (pm_la 144 (m_L (fun j => if j = i then CW else C0 j)))) 23 (pm_ia 0 1728 (upd fo0 (s * 144 + i) (CL)))) g := by
      intro v8 c8 CF CW CL hCW inv'
      refine sx_inc_9_7 (w := 1) (pc' := 166) dX4_rate_163 rfl rfl (by decide) rfl ?_
      refine px_goto (tgt := 70) dX4_rate_166 (by decide) ?_
      rw [ea]
      exact K CF CW CL v8 c8 hCW inv'
    by_cases q : 0 ≤ t ∧ 0 < m_wt a0 a1 a b ∧ ¬ lf t.toNat = -1 ∧ (CF = -1 ∨ (lf t.toNat).toInt < CF.toInt ∨ ((lf t.toNat).toInt = CF.toInt ∧ CW < LW t.toNat * m_wt a0 a1 a b))
    rotate_left
    · rw [if_neg q] at sx
      rw [if_neg q]
      refine px_if_eq (tgt := 163) (pc' := 115) dX4_rate_112 (by decide) rfl (fun _ => ?_) (fun q_ => absurd (rfl) q_)
      exact lift _ rfl CF CW CL hCW sx
    · rw [if_pos q] at sx
      rw [if_pos q]
      obtain ⟨tn, rfl⟩ : ∃ tn : Nat, t = tn := ⟨t.toNat, by omega⟩
      rw [Int.toNat_natCast] at sx
      have tt : (iZ (tn : Int)).toInt = tn := iZ_t (by omega) (by omega)
      have htl : (iZ (tn : Int)).toNatClampNeg = tn := iZ_clamp (by omega)
      refine px_if_eq (tgt := 163) (pc' := 115) dX4_rate_112 (by decide) rfl (fun q_ => absurd q_ (by decide)) (fun _ => ?_)
      refine px_aload_n (i := 0) (pc' := 116) dX4_rate_115 rfl rfl rfl ?_
      refine pi_getr (pc' := 119) fl_4_9 dX4_rate_116 rfl (by repeat (first | assumption | refine pm_I.up ?_ rfl | refine pm_I.uf ?_ rfl)) rfl rfl ?_
      refine px_iload_n (i := 2) (pc' := 120) dX4_rate_119 rfl rfl rfl ?_
      refine px_aload_n (i := 0) (pc' := 121) dX4_rate_120 rfl rfl rfl ?_
      refine pi_getr (pc' := 124) fl_4_19 dX4_rate_121 rfl (by repeat (first | assumption | refine pm_I.up ?_ rfl | refine pm_I.uf ?_ rfl)) rfl rfl ?_
      refine px_iload (i := 8) (pc' := 126) dX4_rate_124 rfl rfl ?_
      refine px_iald (pc' := 127) dX4_rate_126 rfl (by first | assumption | (repeat (first | exact pm_up_e rfl | refine pm_up_o (by decide) ?_ | apply pm_up_o (by decide))) <;> assumption) (i_in (by omega) (by omega)) ?_
      refine px_iast (pc' := 128) dX4_rate_127 rfl (by first | assumption | (repeat (first | exact pm_up_e rfl | refine pm_up_o (by decide) ?_ | apply pm_up_o (by decide))) <;> assumption) (vp_in_nI (by omega) (by omega)) ?_
      refine px_aload_n (i := 0) (pc' := 129) dX4_rate_128 rfl rfl rfl ?_
      refine pi_getr (pc' := 132) fl_4_15 dX4_rate_129 rfl (by repeat (first | assumption | refine pm_I.up ?_ rfl | refine pm_I.uf ?_ rfl)) rfl rfl ?_
      refine px_iload_n (i := 2) (pc' := 133) dX4_rate_132 rfl rfl rfl ?_
      refine px_aload_n (i := 0) (pc' := 134) dX4_rate_133 rfl rfl rfl ?_
      refine pi_getr (pc' := 137) fl_4_22 dX4_rate_134 rfl (by repeat (first | assumption | refine pm_I.up ?_ rfl | refine pm_I.uf ?_ rfl)) rfl rfl ?_
      refine px_iload (i := 8) (pc' := 139) dX4_rate_137 rfl rfl ?_
      refine px_lald (pc' := 140) dX4_rate_139 rfl (by first | assumption | (repeat (first | exact pm_up_e rfl | refine pm_up_o (by decide) ?_ | apply pm_up_o (by decide))) <;> assumption) (i_in (by omega) (by omega)) ?_
      refine px_aload_n (i := 0) (pc' := 141) dX4_rate_140 rfl rfl rfl ?_
      refine pi_getr (pc' := 144) fl_4_39 dX4_rate_141 rfl (by repeat (first | assumption | refine pm_I.up ?_ rfl | refine pm_I.uf ?_ rfl)) rfl rfl ?_
      refine px_iload (i := 7) (pc' := 146) dX4_rate_144 rfl rfl ?_
      refine px_iload (i := 6) (pc' := 148) dX4_rate_146 rfl rfl ?_
      refine pi_callV (pc' := 151) (c_weight (by repeat (first | assumption | refine pm_I.up ?_ rfl | refine pm_I.uf ?_ rfl)) e3 e4) okX2_weight ivX2_weight ml_X4_105 ⟨Nat.le_of_ble_eq_true rfl, Nat.le_of_ble_eq_true rfl⟩ dX4_rate_148 rfl rfl rfl (Nat.le_of_ble_eq_true rfl) (by repeat (first | assumption | refine pm_I.up ?_ rfl | refine pm_I.uf ?_ rfl)) rfl cl_2 pm_le.rf pm_le.rf ?_
      rintro _ _ _ ⟨rfl, rfl, rfl⟩
      rw [wt a b (by omega) (by omega), htl, hil]
      refine px_i2l (pc' := 152) dX4_rate_151 rfl ?_
      refine px_lmul (pc' := 153) dX4_rate_152 rfl ?_
      refine px_last (pc' := 154) dX4_rate_153 rfl (by first | assumption | (repeat (first | exact pm_up_e rfl | refine pm_up_o (by decide) ?_ | apply pm_up_o (by decide))) <;> assumption) (vp_in_nI (by omega) (by omega)) ?_
      refine px_aload_n (i := 0) (pc' := 155) dX4_rate_154 rfl rfl rfl ?_
      refine pi_getr (pc' := 158) fl_4_25 dX4_rate_155 rfl (by repeat (first | assumption | refine pm_I.up ?_ rfl | refine pm_I.uf ?_ rfl)) rfl rfl ?_
      refine px_iload (i := 5) (pc' := 160) dX4_rate_158 rfl rfl ?_
      refine px_iload (i := 8) (pc' := 162) dX4_rate_160 rfl rfl ?_
      refine px_iast (pc' := 163) dX4_rate_162 rfl (by first | assumption | (repeat (first | exact pm_up_e rfl | refine pm_up_o (by decide) ?_ | apply pm_up_o (by decide))) <;> assumption) (vp_in_nI (by omega) (by omega)) ?_
      rw [hil, hxl, r3_0, nI_l (by have := wt9 a b; omega), show m_L LW tn = lN (LW tn) from rfl, lN_mul, r3_1, m_L_upd, pm_up_up, upd_upd', upd_upd', show (fun j => if j = i then LW tn * m_wt a0 a1 a b else if j = i then CW else C0 j) = (fun j => if j = i then LW tn * m_wt a0 a1 a b else C0 j) from funext fun j => by by_cases hj : j = i <;> simp [hj]]
      exact lift _ rfl _ _ _ (hWv tn _ (by omega) (wt9 a b)) sx
  have row : ∀ (b : Int) (CF : Int32) (CW : Nat) (CL : Int32) (v7 v8 : Value), -1 ≤ b ∧ b ≤ 1 → v7.category = 1 → v8.category = 1 → CW < 2 ^ 63 → b_inv w d a0 a1 lx ly s i lf LW (b_bef (-1) b) CF CW CL →
      (∀ (CF : Int32) (CW : Nat) (CL : Int32) (v7 v8 : Value), v7.category = 1 → v8.category = 1 → CW < 2 ^ 63 → b_inv w d a0 a1 lx ly s i lf LW (b_bef (-1) (b + 1)) CF CW CL → pm_W G mX4_rate z Φ 61 [.ref 18, .int (nI s), .int (nI i), .int x, .int y, .int (nI (s * 144 + i)), .int (iZ (b + 1)), v7, v8] [] z (pm_up (pm_up (pm_up h 19 (pm_ia 0 144 (upd cf0 i (CF)))) 20 (pm_la 144 (m_L (fun j => if j = i then CW else C0 j)))) 23 (pm_ia 0 1728 (upd fo0 (s * 144 + i) (CL)))) g) → pm_W G mX4_rate z Φ 61 [.ref 18, .int (nI s), .int (nI i), .int x, .int y, .int (nI (s * 144 + i)), .int (iZ b), v7, v8] [] z (pm_up (pm_up (pm_up h 19 (pm_ia 0 144 (upd cf0 i (CF)))) 20 (pm_la 144 (m_L (fun j => if j = i then CW else C0 j)))) 23 (pm_ia 0 1728 (upd fo0 (s * 144 + i) (CL)))) g := by
    intro b CF CW CL v7 v8 hbb c7 c8 hCW inv K
    have eb : iZ b + 1 = iZ (b + 1) := by rw [show (1 : Int32) = iZ 1 from rfl, iZ_add]
    have eP : b_bef (1 + 1) b = b_bef (-1) (b + 1) := by
      funext a' b'
      unfold b_bef
      exact propext ⟨fun q => by omega, fun q => by omega⟩
    refine px_iload (i := 6) (pc' := 63) dX4_rate_61 rfl rfl ?_
    refine px_iconst (v := 1) (pc' := 64) dX4_rate_63 rfl (by decide) ?_
    refine px_icmp_gt (tgt := 175) (pc' := 67) dX4_rate_64 (by decide) rfl (fun q_ => absurd q_ (by rw [i_lt, l_1, z1t b (by omega)]; omega)) (fun _ => ?_)
    refine px_iconst (v := -1) (pc' := 68) dX4_rate_67 rfl (by decide) ?_
    refine sx_i_9_7 (pc' := 70) dX4_rate_68 rfl rfl rfl ?_
    refine step (-1) b CF CW CL v8 (by omega) hbb c8 hCW inv (fun CF CW CL v8 c8 hCW inv => ?_)
    refine step 0 b CF CW CL v8 (by omega) hbb c8 hCW inv (fun CF CW CL v8 c8 hCW inv => ?_)
    refine step 1 b CF CW CL v8 (by omega) hbb c8 hCW inv (fun CF CW CL v8 c8 hCW inv => ?_)
    rw [eP] at inv
    refine px_iload (i := 7) (pc' := 72) dX4_rate_70 rfl rfl ?_
    refine px_iconst (v := 1) (pc' := 73) dX4_rate_72 rfl (by decide) ?_
    refine px_icmp_gt (tgt := 169) (pc' := 76) dX4_rate_73 (by decide) rfl (fun _ => ?_) (fun q_ => absurd (by decide) q_)
    refine sx_inc_9_6 (w := 1) (pc' := 172) dX4_rate_169 rfl rfl (by decide) rfl ?_
    refine px_goto (tgt := 61) dX4_rate_172 (by decide) ?_
    rw [eb]
    exact K CF CW CL _ v8 rfl c8 hCW inv
  have emp : b_inv w d a0 a1 lx ly s i lf LW (b_bef (-1) (-1)) (-1) 0 (-1) := Or.inl ⟨rfl, rfl, rfl, fun a b q => by unfold b_bef at q; omega⟩
  refine px_iconst (v := -1) (pc' := 59) dX4_rate_58 rfl (by decide) ?_
  refine sx_i_9_6 (pc' := 61) dX4_rate_59 rfl rfl rfl ?_
  refine row (-1) (-1) 0 (-1) _ _ (by omega) rfl rfl (by decide) emp (fun CF CW CL v7 v8 c7 c8 hCW inv => ?_)
  refine row 0 CF CW CL _ _ (by omega) c7 c8 hCW inv (fun CF CW CL v7 v8 c7 c8 hCW inv => ?_)
  refine row 1 CF CW CL _ _ (by omega) c7 c8 hCW inv (fun CF CW CL v7 v8 c7 c8 hCW inv => ?_)
  have eP : b_bef (-1) (1 + 1) = b_bef 0 2 := by
    funext a' b'
    unfold b_bef
    exact propext ⟨fun q => by omega, fun q => by omega⟩
  rw [eP] at inv
  refine px_iload (i := 6) (pc' := 63) dX4_rate_61 rfl rfl ?_
  refine px_iconst (v := 1) (pc' := 64) dX4_rate_63 rfl (by decide) ?_
  refine px_icmp_gt (tgt := 175) (pc' := 67) dX4_rate_64 (by decide) rfl (fun _ => ?_) (fun q_ => absurd (by decide) q_)
  refine px_aload_n (i := 0) (pc' := 176) dX4_rate_175 rfl rfl rfl ?_
  refine pi_getr (pc' := 179) fl_4_9 dX4_rate_176 rfl (by repeat (first | assumption | refine pm_I.up ?_ rfl | refine pm_I.uf ?_ rfl)) rfl rfl ?_
  refine px_iload_n (i := 2) (pc' := 180) dX4_rate_179 rfl rfl rfl ?_
  refine px_iald (pc' := 181) dX4_rate_180 rfl (by first | assumption | (repeat (first | exact pm_up_e rfl | refine pm_up_o (by decide) ?_ | apply pm_up_o (by decide))) <;> assumption) (vp_in_nI (by omega) (by omega)) ?_
  rw [hil, us]
  by_cases q : CF = -1
  · refine px_iconst (v := -1) (pc' := 182) dX4_rate_181 rfl (by decide) ?_
    refine px_icmp_eq (tgt := 210) (pc' := 185) dX4_rate_182 (by decide) rfl (fun _ => ?_) (fun q_ => absurd (q) q_)
    subst hΦ
    exact px_vret dX4_rate_210 rfl rfl (⟨rfl, rfl, CF, CW, CL, inv, by rw [if_pos q, ← q]⟩)
  · refine px_iconst (v := -1) (pc' := 182) dX4_rate_181 rfl (by decide) ?_
    refine px_icmp_eq (tgt := 210) (pc' := 185) dX4_rate_182 (by decide) rfl (fun q_ => absurd q_ (q)) (fun _ => ?_)
    refine px_aload_n (i := 0) (pc' := 186) dX4_rate_185 rfl rfl rfl ?_
    refine pi_getr (pc' := 189) fl_4_9 dX4_rate_186 rfl (by repeat (first | assumption | refine pm_I.up ?_ rfl | refine pm_I.uf ?_ rfl)) rfl rfl ?_
    refine px_iload_n (i := 2) (pc' := 190) dX4_rate_189 rfl rfl rfl ?_
    refine px_dup2 (pc' := 191) dX4_rate_190 rfl rfl rfl ?_
    refine px_iald (pc' := 192) dX4_rate_191 rfl (by first | assumption | (repeat (first | exact pm_up_e rfl | refine pm_up_o (by decide) ?_ | apply pm_up_o (by decide))) <;> assumption) (vp_in_nI (by omega) (by omega)) ?_
    refine px_aload_n (i := 0) (pc' := 193) dX4_rate_192 rfl rfl rfl ?_
    refine pi_getr (pc' := 196) fl_4_43 dX4_rate_193 rfl (by repeat (first | assumption | refine pm_I.up ?_ rfl | refine pm_I.uf ?_ rfl)) rfl rfl ?_
    refine px_iload_n (i := 1) (pc' := 197) dX4_rate_196 rfl rfl rfl ?_
    refine px_aload_n (i := 0) (pc' := 198) dX4_rate_197 rfl rfl rfl ?_
    refine pi_getr (pc' := 201) fl_4_35 dX4_rate_198 rfl (by repeat (first | assumption | refine pm_I.up ?_ rfl | refine pm_I.uf ?_ rfl)) rfl rfl ?_
    refine px_iload_n (i := 2) (pc' := 202) dX4_rate_201 rfl rfl rfl ?_
    refine pi_callV (pc' := 205) (c_heightOf (by repeat (first | assumption | refine pm_I.up ?_ rfl | refine pm_I.uf ?_ rfl)) e1 e2 (by first | assumption | (repeat (first | exact pm_up_e rfl | refine pm_up_o (by decide) ?_ | apply pm_up_o (by decide))) <;> assumption) hw hd) okX3_heightOf ivX3_heightOf ml_X4_78 ⟨Nat.le_of_ble_eq_true rfl, Nat.le_of_ble_eq_true rfl⟩ dX4_rate_202 rfl rfl rfl (Nat.le_of_ble_eq_true rfl) (by repeat (first | assumption | refine pm_I.up ?_ rfl | refine pm_I.uf ?_ rfl)) rfl cl_3 pm_le.rf pm_le.rf ?_
    rintro _ _ _ ⟨rfl, rfl, rfl⟩
    rw [hil, us, hii, if_pos ⟨by omega, by omega⟩, Int.toNat_natCast]
    refine pi_callV (pc' := 208) (c_faultAt (by repeat (first | assumption | refine pm_I.up ?_ rfl | refine pm_I.uf ?_ rfl)) e5 hn (by first | assumption | (repeat (first | exact pm_up_e rfl | refine pm_up_o (by decide) ?_ | apply pm_up_o (by decide))) <;> assumption) (by first | assumption | (repeat (first | exact pm_up_e rfl | refine pm_up_o (by decide) ?_ | apply pm_up_o (by decide))) <;> assumption) hv (m_hc_bd (hb i (by omega)))) okX5_faultAt ivX5_faultAt ml_X4_82 ⟨Nat.le_of_ble_eq_true rfl, Nat.le_of_ble_eq_true rfl⟩ dX4_rate_205 rfl rfl rfl (Nat.le_of_ble_eq_true rfl) (by repeat (first | assumption | refine pm_I.up ?_ rfl | refine pm_I.uf ?_ rfl)) rfl cl_5 pm_le.rf pm_le.rf ?_
    rintro _ _ _ ⟨rfl, rfl, rfl⟩
    refine px_iadd (pc' := 209) dX4_rate_208 rfl ?_
    refine px_iast (pc' := 210) dX4_rate_209 rfl (by first | assumption | (repeat (first | exact pm_up_e rfl | refine pm_up_o (by decide) ?_ | apply pm_up_o (by decide))) <;> assumption) (vp_in_nI (by omega) (by omega)) ?_
    rw [b_E_c hn hv (hb i (by omega)) (by omega), hil, r3_0, upd_upd']
    subst hΦ
    exact px_vret dX4_rate_210 rfl rfl (⟨rfl, rfl, CF, CW, CL, inv, by rw [if_neg q]⟩)
end RT2
