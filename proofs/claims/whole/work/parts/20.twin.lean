/-! TwinSearch: object 25, offXs 26, offYs 27, starts 28, profiles 29 -/
section TS
variable {G : pm_G} {z : pm_z} {h : pm_h} {g : pm_g}
theorem c_firstPair {v : Int32} (I : pm_I h g) (e : g 25 10 = .int v) : pm_Met G mX7_firstPair [.ref 25] z z h g (pm_q (.int v) h g) := by
  refine enX7_firstPair pm_le.rf ?_
  refine px_aload_n (i := 0) (pc' := 1) dX7_firstPair_0 rfl rfl rfl ?_
  refine pi_geti (pc' := 4) fl_7_34 dX7_firstPair_1 rfl (by repeat (first | assumption | refine pm_I.up ?_ rfl | refine pm_I.uf ?_ rfl)) rfl (by first | assumption | (repeat (first | exact pm_uf_e rfl | refine pm_uf_o (by decide) ?_)) <;> assumption) ?_
  exact px_iret dX7_firstPair_4 rfl rfl (⟨rfl, rfl, rfl⟩)
theorem c_layRoute_s {fr sz : Nat} (I : pm_I h g) (hsz : sz ≤ 160) (bad : ¬ (sz % 2 = 0 ∧ sz ≤ 16)) : pm_Met G mX7_layRoute [.ref 25, .int (nI fr), .int (nI sz)] z z h g (pm_q (.int 0) h g) := by
  refine enX7_layRoute pm_le.rf ?_
  refine px_iload_n (i := 2) (pc' := 1) dX7_layRoute_0 rfl rfl rfl ?_
  refine px_iconst (v := 2) (pc' := 2) dX7_layRoute_1 rfl (by decide) ?_
  refine px_irem (pc' := 3) dX7_layRoute_2 rfl (by decide) ?_
  rw [show (2 : Int32) = nI 2 from rfl, pk_rem (by omega) (by omega) (by omega)]
  refine px_if_ne (tgt := 12) (pc' := 6) dX7_layRoute_3 (by decide) rfl (fun q => ?_) (fun q => ?_)
  · refine px_iconst (v := 0) (pc' := 13) dX7_layRoute_12 rfl (by decide) ?_
    exact px_zret (ty := .boolean) dX7_layRoute_13 rfl (rfl) rfl (⟨rfl, rfl, rfl⟩)
  · have q : sz % 2 = 0 := by
      rw [show (0 : Int32) = nI 0 from rfl, nI_eq (by omega) (by omega)] at q
      exact q
    refine px_iload_n (i := 2) (pc' := 7) dX7_layRoute_6 rfl rfl rfl ?_
    refine px_bipush (v := 16) (pc' := 9) dX7_layRoute_7 rfl (by decide) ?_
    refine px_icmp_le (tgt := 14) (pc' := 12) dX7_layRoute_9 (by decide) rfl (fun q_ => absurd q_ (by rw [show (16 : Int32) = nI 16 from rfl, nI_leI (by omega) (by omega)]; omega)) (fun _ => ?_)
    refine px_iconst (v := 0) (pc' := 13) dX7_layRoute_12 rfl (by decide) ?_
    exact px_zret (ty := .boolean) dX7_layRoute_13 rfl (rfl) rfl (⟨rfl, rfl, rfl⟩)
/-- the loop of layRoute: as many moves as are good; k: moves left -/
theorem c_layRoute {fr m n : Nat} {T f1 f2 : Nat → Int32} (I : pm_I h g) (e : g 1 1 = .int (nI n)) (hn : n ≤ 160) (e1 : h 2 = pm_ia 1 160 T) (hm : m ≤ 8) (hfr : fr + 2 * m ≤ n) (e2 : h 26 = pm_ia 0 9 f1) (e3 : h 27 = pm_ia 0 9 f2) (z1 : f1 0 = 0) (z2 : f2 0 = 0) :
    pm_Met G mX7_layRoute [.ref 25, .int (nI fr), .int (nI (2 * m))] z z h g (fun r h' g' => ∃ f1' f2' : Nat → Int32, f1' 0 = 0 ∧ f2' 0 = 0 ∧ h' = pm_up (pm_up h 26 (pm_ia 0 9 f1')) 27 (pm_ia 0 9 f2') ∧ g' = pm_uf g 25 5 (.int (nI m)) ∧
      ((m_rt T fr (2 * m) ∧ r = some (.int 1) ∧ ∀ i, i ≤ m → f1' i = iZ (m_ox T fr i) ∧ f2' i = iZ (m_oy T fr i)) ∨ (¬ m_rt T fr (2 * m) ∧ r = some (.int 0)))) := by
  refine enX7_layRoute pm_le.rf ?_
  refine px_iload_n (i := 2) (pc' := 1) dX7_layRoute_0 rfl rfl rfl ?_
  refine px_iconst (v := 2) (pc' := 2) dX7_layRoute_1 rfl (by decide) ?_
  refine px_irem (pc' := 3) dX7_layRoute_2 rfl (by decide) ?_
  rw [show (2 : Int32) = nI 2 from rfl, pk_rem (by omega) (by omega) (by omega), Nat.mul_mod_right]
  refine px_if_ne (tgt := 12) (pc' := 6) dX7_layRoute_3 (by decide) rfl (fun q_ => absurd (rfl) q_) (fun _ => ?_)
  refine px_iload_n (i := 2) (pc' := 7) dX7_layRoute_6 rfl rfl rfl ?_
  refine px_bipush (v := 16) (pc' := 9) dX7_layRoute_7 rfl (by decide) ?_
  refine px_icmp_le (tgt := 14) (pc' := 12) dX7_layRoute_9 (by decide) rfl (fun _ => ?_) (fun q_ => absurd (by rw [show (16 : Int32) = nI 16 from rfl, nI_leI (by omega) (by omega)]; omega) q_)
  refine px_aload_n (i := 0) (pc' := 15) dX7_layRoute_14 rfl rfl rfl ?_
  refine px_iload_n (i := 2) (pc' := 16) dX7_layRoute_15 rfl rfl rfl ?_
  refine px_iconst (v := 2) (pc' := 17) dX7_layRoute_16 rfl (by decide) ?_
  refine px_idiv (pc' := 18) dX7_layRoute_17 rfl (by decide) ?_
  rw [show (2 : Int32) = nI 2 from rfl, pk_div (by omega) (by omega) (by omega), Nat.mul_div_cancel_left m (by omega)]
  refine pi_puti (pc' := 21) fi_7_18 dX7_layRoute_18 rfl (by repeat (first | assumption | refine pm_I.up ?_ rfl | refine pm_I.uf ?_ rfl)) rfl ?_
  refine px_iconst (v := 0) (pc' := 22) dX7_layRoute_21 rfl (by decide) ?_
  refine sx_i_n_6_3 (pc' := 23) dX7_layRoute_22 rfl rfl rfl rfl ?_
  have loop : ∀ k i : Nat, i + k = m → ∀ f1 f2 : Nat → Int32, (∀ j, j < 2 * i → -5 ≤ (T (fr + j)).toInt ∧ (T (fr + j)).toInt ≤ 5) → (∀ j, j ≤ i → f1 j = iZ (m_ox T fr j) ∧ f2 j = iZ (m_oy T fr j)) → ∀ v4 v5 : Value, v4.category = 1 → v5.category = 1 →
      pm_W G mX7_layRoute z (pm_Φ G z (fun r h' g' => ∃ f1' f2' : Nat → Int32, f1' 0 = 0 ∧ f2' 0 = 0 ∧ h' = pm_up (pm_up h 26 (pm_ia 0 9 f1')) 27 (pm_ia 0 9 f2') ∧ g' = pm_uf g 25 5 (.int (nI m)) ∧
        ((m_rt T fr (2 * m) ∧ r = some (.int 1) ∧ ∀ i, i ≤ m → f1' i = iZ (m_ox T fr i) ∧ f2' i = iZ (m_oy T fr i)) ∨ (¬ m_rt T fr (2 * m) ∧ r = some (.int 0))))) 23 [.ref 25, .int (nI fr), .int (nI (2 * m)), .int (nI i), v4, v5] [] z (pm_up (pm_up h 26 (pm_ia 0 9 f1)) 27 (pm_ia 0 9 f2)) (pm_uf g 25 5 (.int (nI m))) := by
    intro k
    induction k with
    | zero =>
      intro i hi f1 f2 hb hf v4 v5 c4 c5
      have : i = m := by omega
      subst this
      refine px_iload_n (i := 3) (pc' := 24) dX7_layRoute_23 rfl rfl rfl ?_
      refine px_aload_n (i := 0) (pc' := 25) dX7_layRoute_24 rfl rfl rfl ?_
      refine pi_geti (pc' := 28) fl_7_18 dX7_layRoute_25 rfl (by repeat (first | assumption | refine pm_I.up ?_ rfl | refine pm_I.uf ?_ rfl)) rfl (by first | assumption | (repeat (first | exact pm_uf_e rfl | refine pm_uf_o (by decide) ?_)) <;> assumption) ?_
      refine px_icmp_ge (tgt := 113) (pc' := 31) dX7_layRoute_28 (by decide) rfl (fun _ => ?_) (fun q_ => absurd (nI_le (by omega) (by omega)) q_)
      refine px_iconst (v := 1) (pc' := 114) dX7_layRoute_113 rfl (by decide) ?_
      exact px_zret (ty := .boolean) dX7_layRoute_114 rfl (rfl) rfl (⟨f1, f2, (hf 0 (by omega)).1, (hf 0 (by omega)).2, rfl, rfl, Or.inl ⟨⟨by omega, by omega, hb⟩, rfl, hf⟩⟩)
    | succ k ih =>
      intro i hi f1 f2 hb hf v4 v5 c4 c5
      have hc : (nI i).toNatClampNeg = i := nI_clamp (by omega)
      have hc1 : (nI (i + 1)).toNatClampNeg = i + 1 := nI_clamp (by omega)
      refine px_iload_n (i := 3) (pc' := 24) dX7_layRoute_23 rfl rfl rfl ?_
      refine px_aload_n (i := 0) (pc' := 25) dX7_layRoute_24 rfl rfl rfl ?_
      refine pi_geti (pc' := 28) fl_7_18 dX7_layRoute_25 rfl (by repeat (first | assumption | refine pm_I.up ?_ rfl | refine pm_I.uf ?_ rfl)) rfl (by first | assumption | (repeat (first | exact pm_uf_e rfl | refine pm_uf_o (by decide) ?_)) <;> assumption) ?_
      refine px_icmp_ge (tgt := 113) (pc' := 31) dX7_layRoute_28 (by decide) rfl (fun q_ => absurd q_ (nI_ge (by omega) (by omega))) (fun _ => ?_)
      refine px_aload_n (i := 0) (pc' := 32) dX7_layRoute_31 rfl rfl rfl ?_
      refine pi_getr (pc' := 35) fl_7_45 dX7_layRoute_32 rfl (by repeat (first | assumption | refine pm_I.up ?_ rfl | refine pm_I.uf ?_ rfl)) rfl rfl ?_
      refine px_iload_n (i := 1) (pc' := 36) dX7_layRoute_35 rfl rfl rfl ?_
      refine px_iconst (v := 2) (pc' := 37) dX7_layRoute_36 rfl (by decide) ?_
      refine px_iload_n (i := 3) (pc' := 38) dX7_layRoute_37 rfl rfl rfl ?_
      refine px_imul (pc' := 39) dX7_layRoute_38 rfl ?_
      refine px_iadd (pc' := 40) dX7_layRoute_39 rfl ?_
      rw [show (2 : Int32) = nI 2 from rfl, pk_mul, nI_add]
      refine pi_callV (pc' := 43) (c_signedAt (by repeat (first | assumption | refine pm_I.up ?_ rfl | refine pm_I.uf ?_ rfl)) (by first | assumption | (repeat (first | exact pm_uf_e rfl | refine pm_uf_o (by decide) ?_)) <;> assumption) hn (by omega) (by first | assumption | (repeat (first | exact pm_up_e rfl | refine pm_up_o (by decide) ?_)) <;> assumption)) okX6_signedAt ivX6_signedAt ml_X7_69 ⟨Nat.le_of_ble_eq_true rfl, Nat.le_of_ble_eq_true rfl⟩ dX7_layRoute_40 rfl rfl rfl (Nat.le_of_ble_eq_true rfl) (by repeat (first | assumption | refine pm_I.up ?_ rfl | refine pm_I.uf ?_ rfl)) rfl cl_6 pm_le.rf pm_le.rf ?_
      rintro _ _ _ ⟨rfl, rfl, rfl⟩
      refine sx_i_6_4 (pc' := 45) dX7_layRoute_43 rfl rfl rfl ?_
      refine px_aload_n (i := 0) (pc' := 46) dX7_layRoute_45 rfl rfl rfl ?_
      refine pi_getr (pc' := 49) fl_7_45 dX7_layRoute_46 rfl (by repeat (first | assumption | refine pm_I.up ?_ rfl | refine pm_I.uf ?_ rfl)) rfl rfl ?_
      refine px_iload_n (i := 1) (pc' := 50) dX7_layRoute_49 rfl rfl rfl ?_
      refine px_iconst (v := 2) (pc' := 51) dX7_layRoute_50 rfl (by decide) ?_
      refine px_iload_n (i := 3) (pc' := 52) dX7_layRoute_51 rfl rfl rfl ?_
      refine px_imul (pc' := 53) dX7_layRoute_52 rfl ?_
      refine px_iadd (pc' := 54) dX7_layRoute_53 rfl ?_
      refine px_iconst (v := 1) (pc' := 55) dX7_layRoute_54 rfl (by decide) ?_
      refine px_iadd (pc' := 56) dX7_layRoute_55 rfl ?_
      rw [show (2 : Int32) = nI 2 from rfl, pk_mul, nI_add, nI_1]
      refine pi_callV (pc' := 59) (c_signedAt (by repeat (first | assumption | refine pm_I.up ?_ rfl | refine pm_I.uf ?_ rfl)) (by first | assumption | (repeat (first | exact pm_uf_e rfl | refine pm_uf_o (by decide) ?_)) <;> assumption) hn (by omega) (by first | assumption | (repeat (first | exact pm_up_e rfl | refine pm_up_o (by decide) ?_)) <;> assumption)) okX6_signedAt ivX6_signedAt ml_X7_69 ⟨Nat.le_of_ble_eq_true rfl, Nat.le_of_ble_eq_true rfl⟩ dX7_layRoute_56 rfl rfl rfl (Nat.le_of_ble_eq_true rfl) (by repeat (first | assumption | refine pm_I.up ?_ rfl | refine pm_I.uf ?_ rfl)) rfl cl_6 pm_le.rf pm_le.rf ?_
      rintro _ _ _ ⟨rfl, rfl, rfl⟩
      refine sx_i_6_5 (pc' := 61) dX7_layRoute_59 rfl rfl rfl ?_
      refine px_iload (i := 4) (pc' := 63) dX7_layRoute_61 rfl rfl ?_
      refine px_iload (i := 5) (pc' := 65) dX7_layRoute_63 rfl rfl ?_
      have bd := m_ox_bd hb i (by omega)
      by_cases ok : m_mv (T (fr + 2 * i)) (T (fr + 2 * i + 1))
      · refine px_callNS (pc' := 68) (c_isMove_t ok) okX8_isMove stX8_isMove mn_X7_73 ⟨Nat.le_of_ble_eq_true rfl, Nat.le_of_ble_eq_true rfl⟩ dX7_layRoute_65 rfl rfl rfl (Nat.le_of_ble_eq_true rfl) pm_le.rf pm_le.rf ?_
        rintro _ _ _ ⟨rfl, rfl, rfl⟩
        refine px_if_ne (tgt := 73) (pc' := 71) dX7_layRoute_68 (by decide) rfl (fun _ => ?_) (fun q_ => absurd q_ (by decide))
        refine px_aload_n (i := 0) (pc' := 74) dX7_layRoute_73 rfl rfl rfl ?_
        refine pi_getr (pc' := 77) fl_7_9 dX7_layRoute_74 rfl (by repeat (first | assumption | refine pm_I.up ?_ rfl | refine pm_I.uf ?_ rfl)) rfl rfl ?_
        refine px_iload_n (i := 3) (pc' := 78) dX7_layRoute_77 rfl rfl rfl ?_
        refine px_iconst (v := 1) (pc' := 79) dX7_layRoute_78 rfl (by decide) ?_
        refine px_iadd (pc' := 80) dX7_layRoute_79 rfl ?_
        refine px_aload_n (i := 0) (pc' := 81) dX7_layRoute_80 rfl rfl rfl ?_
        refine pi_getr (pc' := 84) fl_7_9 dX7_layRoute_81 rfl (by repeat (first | assumption | refine pm_I.up ?_ rfl | refine pm_I.uf ?_ rfl)) rfl rfl ?_
        refine px_iload_n (i := 3) (pc' := 85) dX7_layRoute_84 rfl rfl rfl ?_
        refine px_iald (pc' := 86) dX7_layRoute_85 rfl (by first | assumption | (repeat (first | exact pm_up_e rfl | refine pm_up_o (by decide) ?_)) <;> assumption) (vp_in_nI (by omega) (by omega)) ?_
        rw [hc]
        refine px_iload (i := 4) (pc' := 88) dX7_layRoute_86 rfl rfl ?_
        refine px_iadd (pc' := 89) dX7_layRoute_88 rfl ?_
        refine px_iast (pc' := 90) dX7_layRoute_89 rfl (by first | assumption | (repeat (first | exact pm_up_e rfl | refine pm_up_o (by decide) ?_)) <;> assumption) (by rw [nI_1]; exact vp_in_nI (by omega) (by omega)) ?_
        rw [nI_1, hc1, pm_up_comm _ _ _ (show (27 : Nat) ≠ 26 by decide), pm_up_up]
        refine px_aload_n (i := 0) (pc' := 91) dX7_layRoute_90 rfl rfl rfl ?_
        refine pi_getr (pc' := 94) fl_7_15 dX7_layRoute_91 rfl (by repeat (first | assumption | refine pm_I.up ?_ rfl | refine pm_I.uf ?_ rfl)) rfl rfl ?_
        refine px_iload_n (i := 3) (pc' := 95) dX7_layRoute_94 rfl rfl rfl ?_
        refine px_iconst (v := 1) (pc' := 96) dX7_layRoute_95 rfl (by decide) ?_
        refine px_iadd (pc' := 97) dX7_layRoute_96 rfl ?_
        refine px_aload_n (i := 0) (pc' := 98) dX7_layRoute_97 rfl rfl rfl ?_
        refine pi_getr (pc' := 101) fl_7_15 dX7_layRoute_98 rfl (by repeat (first | assumption | refine pm_I.up ?_ rfl | refine pm_I.uf ?_ rfl)) rfl rfl ?_
        refine px_iload_n (i := 3) (pc' := 102) dX7_layRoute_101 rfl rfl rfl ?_
        refine px_iald (pc' := 103) dX7_layRoute_102 rfl (by first | assumption | (repeat (first | exact pm_up_e rfl | refine pm_up_o (by decide) ?_)) <;> assumption) (vp_in_nI (by omega) (by omega)) ?_
        rw [hc]
        refine px_iload (i := 5) (pc' := 105) dX7_layRoute_103 rfl rfl ?_
        refine px_iadd (pc' := 106) dX7_layRoute_105 rfl ?_
        refine px_iast (pc' := 107) dX7_layRoute_106 rfl (by first | assumption | (repeat (first | exact pm_up_e rfl | refine pm_up_o (by decide) ?_)) <;> assumption) (by rw [nI_1]; exact vp_in_nI (by omega) (by omega)) ?_
        refine sx_inc_6_3 (w := 1) (pc' := 110) dX7_layRoute_107 rfl rfl (by decide) rfl ?_
        refine px_goto (tgt := 23) dX7_layRoute_110 (by decide) ?_
        rw [nI_1, hc1, pm_up_up]
        obtain ⟨k1, k2, k3, k4⟩ := ok
        refine ih (i + 1) (by omega) _ _ (fun j hj => ?_) (fun j hj => ?_) _ _ rfl rfl
        · by_cases a1 : j < 2 * i
          · exact hb j a1
          · by_cases a2 : j = 2 * i
            · subst a2; exact ⟨k1, k2⟩
            · have : j = 2 * i + 1 := by omega
              subst this
              rw [← Nat.add_assoc]; exact ⟨k3, k4⟩
        · unfold upd
          by_cases a1 : j = i + 1
          · subst a1
            rw [if_pos rfl, if_pos rfl, (hf i (by omega)).1, (hf i (by omega)).2, m_ox, m_oy, ← iZ_add, ← iZ_add, iZ_i, iZ_i]
            exact ⟨rfl, rfl⟩
          · rw [if_neg a1, if_neg a1]
            exact hf j (by omega)
      · refine px_callNS (pc' := 68) (c_isMove_f ok) okX8_isMove stX8_isMove mn_X7_73 ⟨Nat.le_of_ble_eq_true rfl, Nat.le_of_ble_eq_true rfl⟩ dX7_layRoute_65 rfl rfl rfl (Nat.le_of_ble_eq_true rfl) pm_le.rf pm_le.rf ?_
        rintro _ _ _ ⟨rfl, rfl, rfl⟩
        refine px_if_ne (tgt := 73) (pc' := 71) dX7_layRoute_68 (by decide) rfl (fun q_ => absurd (rfl) q_) (fun _ => ?_)
        refine px_iconst (v := 0) (pc' := 72) dX7_layRoute_71 rfl (by decide) ?_
        exact px_zret (ty := .boolean) dX7_layRoute_72 rfl (rfl) rfl (⟨f1, f2, (hf 0 (by omega)).1, (hf 0 (by omega)).2, rfl, rfl, Or.inr ⟨fun hh => ok ⟨(hh.2.2 (2 * i) (by omega)).1, (hh.2.2 (2 * i) (by omega)).2, (hh.2.2 (2 * i + 1) (by omega)).1, (hh.2.2 (2 * i + 1) (by omega)).2⟩, rfl⟩⟩)
  have := loop m 0 (by omega) f1 f2 (fun j hj => by omega) (fun j hj => by
    have : j = 0 := by omega
    subst this
    exact ⟨z1, z2⟩) pm_u pm_u rfl rfl
  rw [pm_up_self e2, pm_up_self e3] at this
  exact this
theorem c_isFlown {w d m cn x y fr : Nat} {T f f1 f2 p : Nat → Int32} (I : pm_I h g) (e1 : g 3 1 = .int (nI w)) (e2 : g 3 2 = .int (nI d)) (hw : w ≤ 12) (hd : d ≤ 12) (e3 : h 4 = pm_ia 0 144 f) (e4 : h 26 = pm_ia 0 9 f1) (e5 : h 27 = pm_ia 0 9 f2) (e6 : g 25 5 = .int (nI m)) (hm : m ≤ 8) (e7 : g 25 7 = .int (nI cn)) (hcn : cn < 144) (e8 : h 29 = pm_ia 0 1296 p) (hx : x < w) (hy : y < d)
    (ho : ∀ i, i ≤ m → f1 i = iZ (m_ox T fr i) ∧ f2 i = iZ (m_oy T fr i)) (hb : ∀ i, i ≤ m → -5 * (i : Int) ≤ m_ox T fr i ∧ m_ox T fr i ≤ 5 * i ∧ -5 * (i : Int) ≤ m_oy T fr i ∧ m_oy T fr i ≤ 5 * i) :
    pm_Met G mX7_isFlown [.ref 25, .int (nI x), .int (nI y)] z z h g (fun r h' g' => ∃ p' : Nat → Int32, (∀ j, j < cn * 9 → p' j = p j) ∧ h' = pm_up h 29 (pm_ia 0 1296 p') ∧ g' = g ∧
      ((m_fw w d T fr m (w * y + x) ∧ r = some (.int 1) ∧ ∀ i, i ≤ m → p' (cn * 9 + i) = m_hp w d T f fr (w * y + x) i) ∨ (¬ m_fw w d T fr m (w * y + x) ∧ r = some (.int 0)))) := by
  have hwd := m_wd hw hd
  have hxt : (nI x).toInt = x := nI_toInt (by omega)
  have hyt : (nI y).toInt = y := nI_toInt (by omega)
  refine enX7_isFlown pm_le.rf ?_
  refine px_iconst (v := 0) (pc' := 1) dX7_isFlown_0 rfl (by decide) ?_
  refine sx_i_n_6_3 (pc' := 2) dX7_isFlown_1 rfl rfl rfl rfl ?_
  have loop : ∀ k i : Nat, i + k = m + 1 → ∀ p' : Nat → Int32, (∀ j, j < cn * 9 → p' j = p j) → (∀ j, j < i → 0 ≤ m_ps w d T fr (w * y + x) j ∧ p' (cn * 9 + j) = m_hp w d T f fr (w * y + x) j) → ∀ v4 v5 : Value, v4.category = 1 → v5.category = 1 →
      pm_W G mX7_isFlown z (pm_Φ G z (fun r h' g' => ∃ p' : Nat → Int32, (∀ j, j < cn * 9 → p' j = p j) ∧ h' = pm_up h 29 (pm_ia 0 1296 p') ∧ g' = g ∧
        ((m_fw w d T fr m (w * y + x) ∧ r = some (.int 1) ∧ ∀ i, i ≤ m → p' (cn * 9 + i) = m_hp w d T f fr (w * y + x) i) ∨ (¬ m_fw w d T fr m (w * y + x) ∧ r = some (.int 0))))) 2 [.ref 25, .int (nI x), .int (nI y), .int (nI i), v4, v5] [] z (pm_up h 29 (pm_ia 0 1296 p')) g := by
    intro k
    induction k with
    | zero =>
      intro i hi p' hp hf v4 v5 c4 c5
      have : i = m + 1 := by omega
      subst this
      refine px_iload_n (i := 3) (pc' := 3) dX7_isFlown_2 rfl rfl rfl ?_
      refine px_aload_n (i := 0) (pc' := 4) dX7_isFlown_3 rfl rfl rfl ?_
      refine pi_geti (pc' := 7) fl_7_18 dX7_isFlown_4 rfl (by repeat (first | assumption | refine pm_I.up ?_ rfl | refine pm_I.uf ?_ rfl)) rfl (by first | assumption | (repeat (first | exact pm_uf_e rfl | refine pm_uf_o (by decide) ?_)) <;> assumption) ?_
      refine px_icmp_gt (tgt := 91) (pc' := 10) dX7_isFlown_7 (by decide) rfl (fun _ => ?_) (fun q_ => absurd (nI_lt (by omega) (by omega)) q_)
      refine px_iconst (v := 1) (pc' := 92) dX7_isFlown_91 rfl (by decide) ?_
      exact px_zret (ty := .boolean) dX7_isFlown_92 rfl (rfl) rfl (⟨p', hp, rfl, rfl, Or.inl ⟨fun j hj => (hf j (by omega)).1, rfl, fun j hj => (hf j (by omega)).2⟩⟩)
    | succ k ih =>
      intro i hi p' hp hf v4 v5 c4 c5
      have hc : (nI i).toNatClampNeg = i := nI_clamp (by omega)
      have b := hb i (by omega)
      have o := ho i (by omega)
      have ox : (iZ (m_ox T fr i)).toInt = m_ox T fr i := iZ_t (by omega) (by omega)
      have oy : (iZ (m_oy T fr i)).toInt = m_oy T fr i := iZ_t (by omega) (by omega)
      have ex : (nI x + iZ (m_ox T fr i)).toInt = (((w * y + x) % w : Nat) : Int) + m_ox T fr i := by rw [i_add (by omega) (by omega), hxt, ox, (m_cw hx).1]
      have ey : (nI y + iZ (m_oy T fr i)).toInt = (((w * y + x) / w : Nat) : Int) + m_oy T fr i := by rw [i_add (by omega) (by omega), hyt, oy, (m_cw hx).2]
      have ep : m_off w d ((((w * y + x) % w : Nat) : Int) + m_ox T fr i) ((((w * y + x) / w : Nat) : Int) + m_oy T fr i) = m_ps w d T fr (w * y + x) i := rfl
      refine px_iload_n (i := 3) (pc' := 3) dX7_isFlown_2 rfl rfl rfl ?_
      refine px_aload_n (i := 0) (pc' := 4) dX7_isFlown_3 rfl rfl rfl ?_
      refine pi_geti (pc' := 7) fl_7_18 dX7_isFlown_4 rfl (by repeat (first | assumption | refine pm_I.up ?_ rfl | refine pm_I.uf ?_ rfl)) rfl (by first | assumption | (repeat (first | exact pm_uf_e rfl | refine pm_uf_o (by decide) ?_)) <;> assumption) ?_
      refine px_icmp_gt (tgt := 91) (pc' := 10) dX7_isFlown_7 (by decide) rfl (fun q_ => absurd q_ (nI_nlt (by omega) (by omega))) (fun _ => ?_)
      refine px_aload_n (i := 0) (pc' := 11) dX7_isFlown_10 rfl rfl rfl ?_
      refine pi_getr (pc' := 14) fl_7_37 dX7_isFlown_11 rfl (by repeat (first | assumption | refine pm_I.up ?_ rfl | refine pm_I.uf ?_ rfl)) rfl rfl ?_
      refine px_iload_n (i := 1) (pc' := 15) dX7_isFlown_14 rfl rfl rfl ?_
      refine px_aload_n (i := 0) (pc' := 16) dX7_isFlown_15 rfl rfl rfl ?_
      refine pi_getr (pc' := 19) fl_7_9 dX7_isFlown_16 rfl (by repeat (first | assumption | refine pm_I.up ?_ rfl | refine pm_I.uf ?_ rfl)) rfl rfl ?_
      refine px_iload_n (i := 3) (pc' := 20) dX7_isFlown_19 rfl rfl rfl ?_
      refine px_iald (pc' := 21) dX7_isFlown_20 rfl (by first | assumption | (repeat (first | exact pm_up_e rfl | refine pm_up_o (by decide) ?_)) <;> assumption) (vp_in_nI (by omega) (by omega)) ?_
      rw [hc, o.1]
      refine px_iadd (pc' := 22) dX7_isFlown_21 rfl ?_
      refine px_iload_n (i := 2) (pc' := 23) dX7_isFlown_22 rfl rfl rfl ?_
      refine px_aload_n (i := 0) (pc' := 24) dX7_isFlown_23 rfl rfl rfl ?_
      refine pi_getr (pc' := 27) fl_7_15 dX7_isFlown_24 rfl (by repeat (first | assumption | refine pm_I.up ?_ rfl | refine pm_I.uf ?_ rfl)) rfl rfl ?_
      refine px_iload_n (i := 3) (pc' := 28) dX7_isFlown_27 rfl rfl rfl ?_
      refine px_iald (pc' := 29) dX7_isFlown_28 rfl (by first | assumption | (repeat (first | exact pm_up_e rfl | refine pm_up_o (by decide) ?_)) <;> assumption) (vp_in_nI (by omega) (by omega)) ?_
      rw [hc, o.2]
      refine px_iadd (pc' := 30) dX7_isFlown_29 rfl ?_
      refine pi_callV (pc' := 33) (c_cellAt (by repeat (first | assumption | refine pm_I.up ?_ rfl | refine pm_I.uf ?_ rfl)) e1 e2 hw hd) okX3_cellAt ivX3_cellAt ml_X7_87 ⟨Nat.le_of_ble_eq_true rfl, Nat.le_of_ble_eq_true rfl⟩ dX7_isFlown_30 rfl rfl rfl (Nat.le_of_ble_eq_true rfl) (by repeat (first | assumption | refine pm_I.up ?_ rfl | refine pm_I.uf ?_ rfl)) rfl cl_3 pm_le.rf pm_le.rf ?_
      rintro _ _ _ ⟨rfl, rfl, rfl⟩
      refine sx_i_6_4 (pc' := 35) dX7_isFlown_33 rfl rfl rfl ?_
      refine px_aload_n (i := 0) (pc' := 36) dX7_isFlown_35 rfl rfl rfl ?_
      refine pi_geti (pc' := 39) fl_7_25 dX7_isFlown_36 rfl (by repeat (first | assumption | refine pm_I.up ?_ rfl | refine pm_I.uf ?_ rfl)) rfl (by first | assumption | (repeat (first | exact pm_uf_e rfl | refine pm_uf_o (by decide) ?_)) <;> assumption) ?_
      refine px_bipush (v := 9) (pc' := 41) dX7_isFlown_39 rfl (by decide) ?_
      rw [ex, ey, ep]
      have bd : -1 ≤ m_ps w d T fr (w * y + x) i ∧ m_ps w d T fr (w * y + x) i < (w * d : Nat) := m_off_lt _ _
      have pt : (iZ (m_ps w d T fr (w * y + x) i)).toInt = m_ps w d T fr (w * y + x) i := iZ_t (by omega) (by omega)
      rw [show (9 : Int32) = nI 9 from rfl]
      refine px_imul (pc' := 42) dX7_isFlown_41 rfl ?_
      rw [pk_mul]
      refine px_iload_n (i := 3) (pc' := 43) dX7_isFlown_42 rfl rfl rfl ?_
      refine px_iadd (pc' := 44) dX7_isFlown_43 rfl ?_
      rw [nI_add]
      refine sx_i_6_5 (pc' := 46) dX7_isFlown_44 rfl rfl rfl ?_
      refine px_iload (i := 4) (pc' := 48) dX7_isFlown_46 rfl rfl ?_
      refine px_iconst (v := -1) (pc' := 49) dX7_isFlown_48 rfl (by decide) ?_
      refine px_icmp_eq (tgt := 67) (pc' := 52) dX7_isFlown_49 (by decide) rfl (fun q => ?_) (fun q => ?_)
      · rw [i_eq, pt, l_m1] at q
        refine px_iconst (v := 0) (pc' := 68) dX7_isFlown_67 rfl (by decide) ?_
        exact px_zret (ty := .boolean) dX7_isFlown_68 rfl (rfl) rfl (⟨p', hp, rfl, rfl, Or.inr ⟨fun hh => by have := hh i (by omega); omega, rfl⟩⟩)
      · rw [i_eq, pt, l_m1] at q
        refine px_iload (i := 5) (pc' := 54) dX7_isFlown_52 rfl rfl ?_
        refine px_if_lt (tgt := 67) (pc' := 57) dX7_isFlown_54 (by decide) rfl (fun q_ => absurd q_ (nI_pos (by omega))) (fun _ => ?_)
        refine px_iload (i := 5) (pc' := 59) dX7_isFlown_57 rfl rfl ?_
        refine px_aload_n (i := 0) (pc' := 60) dX7_isFlown_59 rfl rfl rfl ?_
        refine pi_getr (pc' := 63) fl_7_28 dX7_isFlown_60 rfl (by repeat (first | assumption | refine pm_I.up ?_ rfl | refine pm_I.uf ?_ rfl)) rfl rfl ?_
        refine px_aleni (kd := 0) (pc' := 64) (by decide) dX7_isFlown_63 rfl (by first | assumption | (repeat (first | exact pm_up_e rfl | refine pm_up_o (by decide) ?_)) <;> assumption) ?_
        refine px_icmp_lt (tgt := 69) (pc' := 67) dX7_isFlown_64 (by decide) rfl (fun _ => ?_) (fun q_ => absurd (nI_lt (b := 1296) (by omega) (by omega)) q_)
        refine px_aload_n (i := 0) (pc' := 70) dX7_isFlown_69 rfl rfl rfl ?_
        refine pi_getr (pc' := 73) fl_7_28 dX7_isFlown_70 rfl (by repeat (first | assumption | refine pm_I.up ?_ rfl | refine pm_I.uf ?_ rfl)) rfl rfl ?_
        refine px_iload (i := 5) (pc' := 75) dX7_isFlown_73 rfl rfl ?_
        refine px_aload_n (i := 0) (pc' := 76) dX7_isFlown_75 rfl rfl rfl ?_
        refine pi_getr (pc' := 79) fl_7_37 dX7_isFlown_76 rfl (by repeat (first | assumption | refine pm_I.up ?_ rfl | refine pm_I.uf ?_ rfl)) rfl rfl ?_
        refine px_iload (i := 4) (pc' := 81) dX7_isFlown_79 rfl rfl ?_
        refine pi_callV (pc' := 84) (c_heightOf (by repeat (first | assumption | refine pm_I.up ?_ rfl | refine pm_I.uf ?_ rfl)) e1 e2 (by first | assumption | (repeat (first | exact pm_up_e rfl | refine pm_up_o (by decide) ?_)) <;> assumption) hw hd) okX3_heightOf ivX3_heightOf ml_X7_90 ⟨Nat.le_of_ble_eq_true rfl, Nat.le_of_ble_eq_true rfl⟩ dX7_isFlown_81 rfl rfl rfl (Nat.le_of_ble_eq_true rfl) (by repeat (first | assumption | refine pm_I.up ?_ rfl | refine pm_I.uf ?_ rfl)) rfl cl_3 pm_le.rf pm_le.rf ?_
        rintro _ _ _ ⟨rfl, rfl, rfl⟩
        rw [pt, if_pos (by omega)]
        refine px_iast (pc' := 85) dX7_isFlown_84 rfl (by first | assumption | (repeat (first | exact pm_up_e rfl | refine pm_up_o (by decide) ?_)) <;> assumption) (vp_in_nI (by omega) (by omega)) ?_
        refine sx_inc_6_3 (w := 1) (pc' := 88) dX7_isFlown_85 rfl rfl (by decide) rfl ?_
        refine px_goto (tgt := 2) dX7_isFlown_88 (by decide) ?_
        rw [nI_1, pm_up_up, nI_clamp (by omega)]
        refine ih (i + 1) (by omega) _ (fun j hj => ?_) (fun j hj => ?_) _ _ rfl rfl
        · unfold upd
          rw [if_neg (by omega)]
          exact hp j hj
        · unfold upd
          by_cases a1 : j = i
          · subst a1
            rw [if_pos rfl]
            exact ⟨by omega, rfl⟩
          · rw [if_neg (by omega)]
            exact hf j (by omega)
  have := loop (m + 1) 0 (by omega) p (fun j hj => rfl) (fun j hj => by omega) pm_u pm_u rfl rfl
  rw [pm_up_self e8] at this
  exact this
/-- what lies there of the flown cells below c -/
def m_lie (w d : Nat) (T f : Nat → Int32) (fr m : Nat) (st p : Nat → Int32) (c : Nat) : Prop := ∀ a, a < c → m_fw w d T fr m a → st (m_rk (m_fw w d T fr m) a) = nI a ∧ ∀ i, i ≤ m → p (m_rk (m_fw w d T fr m) a * 9 + i) = m_hp w d T f fr a i
theorem c_flyFromAll {w d m fr : Nat} {T f f1 f2 p st : Nat → Int32} (I : pm_I h g) (e1 : g 3 1 = .int (nI w)) (e2 : g 3 2 = .int (nI d)) (hw : w ≤ 12) (hd : d ≤ 12) (e3 : h 4 = pm_ia 0 144 f) (e4 : h 26 = pm_ia 0 9 f1) (e5 : h 27 = pm_ia 0 9 f2) (e6 : g 25 5 = .int (nI m)) (hm : m ≤ 8) (e8 : h 29 = pm_ia 0 1296 p) (e9 : h 28 = pm_ia 0 144 st)
    (ho : ∀ i, i ≤ m → f1 i = iZ (m_ox T fr i) ∧ f2 i = iZ (m_oy T fr i)) (hb : ∀ i, i ≤ m → -5 * (i : Int) ≤ m_ox T fr i ∧ m_ox T fr i ≤ 5 * i ∧ -5 * (i : Int) ≤ m_oy T fr i ∧ m_oy T fr i ≤ 5 * i) :
    pm_Met G mX7_flyFromAll [.ref 25] z z h g (fun r h' g' => ∃ st' p' : Nat → Int32, m_lie w d T f fr m st' p' (w * d) ∧ r = none ∧ h' = pm_up (pm_up h 28 (pm_ia 0 144 st')) 29 (pm_ia 0 1296 p') ∧ g' = pm_uf g 25 7 (.int (nI (m_rk (m_fw w d T fr m) (w * d))))) := by
  have hwd := m_wd hw hd
  refine enX7_flyFromAll pm_le.rf ?_
  refine px_aload_n (i := 0) (pc' := 1) dX7_flyFromAll_0 rfl rfl rfl ?_
  refine px_iconst (v := 0) (pc' := 2) dX7_flyFromAll_1 rfl (by decide) ?_
  refine pi_puti (pc' := 5) fi_7_25 dX7_flyFromAll_2 rfl (by repeat (first | assumption | refine pm_I.up ?_ rfl | refine pm_I.uf ?_ rfl)) rfl ?_
  refine px_iconst (v := 0) (pc' := 6) dX7_flyFromAll_5 rfl (by decide) ?_
  refine sx_i_n_3_1 (pc' := 7) dX7_flyFromAll_6 rfl rfl rfl rfl ?_
  have outer : ∀ k y : Nat, y + k = d → ∀ st p : Nat → Int32, m_lie w d T f fr m st p (w * y) → ∀ v2 : Value, v2.category = 1 → pm_W G mX7_flyFromAll z (pm_Φ G z (fun r h' g' => ∃ st' p' : Nat → Int32, m_lie w d T f fr m st' p' (w * d) ∧ r = none ∧ h' = pm_up (pm_up h 28 (pm_ia 0 144 st')) 29 (pm_ia 0 1296 p') ∧ g' = pm_uf g 25 7 (.int (nI (m_rk (m_fw w d T fr m) (w * d)))))) 7 [.ref 25, .int (nI y), v2] [] z (pm_up (pm_up h 28 (pm_ia 0 144 st)) 29 (pm_ia 0 1296 p)) (pm_uf g 25 7 (.int (nI (m_rk (m_fw w d T fr m) (w * y))))) := by
    intro k
    induction k with
    | zero =>
      intro y hy st p hl v2 c2
      have : y = d := by omega
      subst this
      refine px_iload_n (i := 1) (pc' := 8) dX7_flyFromAll_7 rfl rfl rfl ?_
      refine px_aload_n (i := 0) (pc' := 9) dX7_flyFromAll_8 rfl rfl rfl ?_
      refine pi_getr (pc' := 12) fl_7_37 dX7_flyFromAll_9 rfl (by repeat (first | assumption | refine pm_I.up ?_ rfl | refine pm_I.uf ?_ rfl)) rfl rfl ?_
      refine pi_callV (pc' := 15) (c_depth (by repeat (first | assumption | refine pm_I.up ?_ rfl | refine pm_I.uf ?_ rfl)) (by first | assumption | (repeat (first | exact pm_uf_e rfl | refine pm_uf_o (by decide) ?_)) <;> assumption)) okX3_depth ivX3_depth ml_X7_76 ⟨Nat.le_of_ble_eq_true rfl, Nat.le_of_ble_eq_true rfl⟩ dX7_flyFromAll_12 rfl rfl rfl (Nat.le_of_ble_eq_true rfl) (by repeat (first | assumption | refine pm_I.up ?_ rfl | refine pm_I.uf ?_ rfl)) rfl cl_3 pm_le.rf pm_le.rf ?_
      rintro _ _ _ ⟨rfl, rfl, rfl⟩
      refine px_icmp_ge (tgt := 90) (pc' := 18) dX7_flyFromAll_15 (by decide) rfl (fun _ => ?_) (fun q_ => absurd (nI_le (by omega) (by omega)) q_)
      exact px_vret dX7_flyFromAll_90 rfl rfl (⟨st, p, hl, rfl, rfl, rfl⟩)
    | succ k ih =>
      intro y hy st p hl v2 c2
      refine px_iload_n (i := 1) (pc' := 8) dX7_flyFromAll_7 rfl rfl rfl ?_
      refine px_aload_n (i := 0) (pc' := 9) dX7_flyFromAll_8 rfl rfl rfl ?_
      refine pi_getr (pc' := 12) fl_7_37 dX7_flyFromAll_9 rfl (by repeat (first | assumption | refine pm_I.up ?_ rfl | refine pm_I.uf ?_ rfl)) rfl rfl ?_
      refine pi_callV (pc' := 15) (c_depth (by repeat (first | assumption | refine pm_I.up ?_ rfl | refine pm_I.uf ?_ rfl)) (by first | assumption | (repeat (first | exact pm_uf_e rfl | refine pm_uf_o (by decide) ?_)) <;> assumption)) okX3_depth ivX3_depth ml_X7_76 ⟨Nat.le_of_ble_eq_true rfl, Nat.le_of_ble_eq_true rfl⟩ dX7_flyFromAll_12 rfl rfl rfl (Nat.le_of_ble_eq_true rfl) (by repeat (first | assumption | refine pm_I.up ?_ rfl | refine pm_I.uf ?_ rfl)) rfl cl_3 pm_le.rf pm_le.rf ?_
      rintro _ _ _ ⟨rfl, rfl, rfl⟩
      refine px_icmp_ge (tgt := 90) (pc' := 18) dX7_flyFromAll_15 (by decide) rfl (fun q_ => absurd q_ (nI_ge (by omega) (by omega))) (fun _ => ?_)
      refine px_iconst (v := 0) (pc' := 19) dX7_flyFromAll_18 rfl (by decide) ?_
      refine sx_i_n_3_2 (pc' := 20) dX7_flyFromAll_19 rfl rfl rfl rfl ?_
      have inner : ∀ k2 x : Nat, x + k2 = w → ∀ st p : Nat → Int32, m_lie w d T f fr m st p (w * y + x) → pm_W G mX7_flyFromAll z (pm_Φ G z (fun r h' g' => ∃ st' p' : Nat → Int32, m_lie w d T f fr m st' p' (w * d) ∧ r = none ∧ h' = pm_up (pm_up h 28 (pm_ia 0 144 st')) 29 (pm_ia 0 1296 p') ∧ g' = pm_uf g 25 7 (.int (nI (m_rk (m_fw w d T fr m) (w * d)))))) 20 [.ref 25, .int (nI y), .int (nI x)] [] z (pm_up (pm_up h 28 (pm_ia 0 144 st)) 29 (pm_ia 0 1296 p)) (pm_uf g 25 7 (.int (nI (m_rk (m_fw w d T fr m) (w * y + x))))) := by
        intro k2
        induction k2 with
        | zero =>
          intro x hx st p hl
          have : x = w := by omega
          subst this
          refine px_iload_n (i := 2) (pc' := 21) dX7_flyFromAll_20 rfl rfl rfl ?_
          refine px_aload_n (i := 0) (pc' := 22) dX7_flyFromAll_21 rfl rfl rfl ?_
          refine pi_getr (pc' := 25) fl_7_37 dX7_flyFromAll_22 rfl (by repeat (first | assumption | refine pm_I.up ?_ rfl | refine pm_I.uf ?_ rfl)) rfl rfl ?_
          refine pi_callV (pc' := 28) (c_width (x := .null) (by repeat (first | assumption | refine pm_I.up ?_ rfl | refine pm_I.uf ?_ rfl)) (by first | assumption | (repeat (first | exact pm_uf_e rfl | refine pm_uf_o (by decide) ?_)) <;> assumption)) okX3_width ivX3_width ml_X7_81 ⟨Nat.le_of_ble_eq_true rfl, Nat.le_of_ble_eq_true rfl⟩ dX7_flyFromAll_25 rfl rfl rfl (Nat.le_of_ble_eq_true rfl) (by repeat (first | assumption | refine pm_I.up ?_ rfl | refine pm_I.uf ?_ rfl)) rfl cl_3 pm_le.rf pm_le.rf ?_
          rintro _ _ _ ⟨rfl, rfl, rfl⟩
          refine px_icmp_ge (tgt := 84) (pc' := 31) dX7_flyFromAll_28 (by decide) rfl (fun _ => ?_) (fun q_ => absurd (nI_le (by omega) (by omega)) q_)
          refine sx_inc_3_1 (w := 1) (pc' := 87) dX7_flyFromAll_84 rfl rfl (by decide) rfl ?_
          refine px_goto (tgt := 7) dX7_flyFromAll_87 (by decide) ?_
          rw [nI_1]
          have := ih (y + 1) (by omega) st p (by rw [Nat.mul_add, Nat.mul_one]; exact hl) (.int (nI x)) rfl
          rw [Nat.mul_add, Nat.mul_one] at this
          exact this
        | succ k2 ih2 =>
          intro x hx st p hl
          have hlt : w * y + x < w * d := m_yx (by omega) (by omega)
          have hr := m_rk_le (F := m_fw w d T fr m) (w * y + x)
          have hxt : (nI x).toInt = x := nI_toInt (by omega)
          have hyt : (nI y).toInt = y := nI_toInt (by omega)
          refine px_iload_n (i := 2) (pc' := 21) dX7_flyFromAll_20 rfl rfl rfl ?_
          refine px_aload_n (i := 0) (pc' := 22) dX7_flyFromAll_21 rfl rfl rfl ?_
          refine pi_getr (pc' := 25) fl_7_37 dX7_flyFromAll_22 rfl (by repeat (first | assumption | refine pm_I.up ?_ rfl | refine pm_I.uf ?_ rfl)) rfl rfl ?_
          refine pi_callV (pc' := 28) (c_width (x := .null) (by repeat (first | assumption | refine pm_I.up ?_ rfl | refine pm_I.uf ?_ rfl)) (by first | assumption | (repeat (first | exact pm_uf_e rfl | refine pm_uf_o (by decide) ?_)) <;> assumption)) okX3_width ivX3_width ml_X7_81 ⟨Nat.le_of_ble_eq_true rfl, Nat.le_of_ble_eq_true rfl⟩ dX7_flyFromAll_25 rfl rfl rfl (Nat.le_of_ble_eq_true rfl) (by repeat (first | assumption | refine pm_I.up ?_ rfl | refine pm_I.uf ?_ rfl)) rfl cl_3 pm_le.rf pm_le.rf ?_
          rintro _ _ _ ⟨rfl, rfl, rfl⟩
          refine px_icmp_ge (tgt := 84) (pc' := 31) dX7_flyFromAll_28 (by decide) rfl (fun q_ => absurd q_ (nI_ge (by omega) (by omega))) (fun _ => ?_)
          refine px_aload_n (i := 0) (pc' := 32) dX7_flyFromAll_31 rfl rfl rfl ?_
          refine pi_geti (pc' := 35) fl_7_25 dX7_flyFromAll_32 rfl (by repeat (first | assumption | refine pm_I.up ?_ rfl | refine pm_I.uf ?_ rfl)) rfl (by first | assumption | (repeat (first | exact pm_uf_e rfl | refine pm_uf_o (by decide) ?_)) <;> assumption) ?_
          refine px_sipush (v := 144) (pc' := 38) dX7_flyFromAll_35 rfl (by decide) ?_
          refine px_icmp_ge (tgt := 78) (pc' := 41) dX7_flyFromAll_38 (by decide) rfl (fun q_ => absurd q_ (nI_ge (b := 144) (by omega) (by omega))) (fun _ => ?_)
          refine px_aload_n (i := 0) (pc' := 42) dX7_flyFromAll_41 rfl rfl rfl ?_
          refine px_iload_n (i := 2) (pc' := 43) dX7_flyFromAll_42 rfl rfl rfl ?_
          refine px_iload_n (i := 1) (pc' := 44) dX7_flyFromAll_43 rfl rfl rfl ?_
          refine pi_callV (pc' := 47) (c_isFlown (cn := m_rk (m_fw w d T fr m) (w * y + x)) (by repeat (first | assumption | refine pm_I.up ?_ rfl | refine pm_I.uf ?_ rfl)) (by first | assumption | (repeat (first | exact pm_uf_e rfl | refine pm_uf_o (by decide) ?_)) <;> assumption) (by first | assumption | (repeat (first | exact pm_uf_e rfl | refine pm_uf_o (by decide) ?_)) <;> assumption) hw hd (by first | assumption | (repeat (first | exact pm_up_e rfl | refine pm_up_o (by decide) ?_)) <;> assumption) (by first | assumption | (repeat (first | exact pm_up_e rfl | refine pm_up_o (by decide) ?_)) <;> assumption) (by first | assumption | (repeat (first | exact pm_up_e rfl | refine pm_up_o (by decide) ?_)) <;> assumption) (by first | assumption | (repeat (first | exact pm_uf_e rfl | refine pm_uf_o (by decide) ?_)) <;> assumption) hm (by first | assumption | (repeat (first | exact pm_uf_e rfl | refine pm_uf_o (by decide) ?_)) <;> assumption) (by omega) (by first | assumption | (repeat (first | exact pm_up_e rfl | refine pm_up_o (by decide) ?_)) <;> assumption) (by omega) (by omega) ho hb) okX7_isFlown ivX7_isFlown ml_X7_84 ⟨Nat.le_of_ble_eq_true rfl, Nat.le_of_ble_eq_true rfl⟩ dX7_flyFromAll_44 rfl rfl rfl (Nat.le_of_ble_eq_true rfl) (by repeat (first | assumption | refine pm_I.up ?_ rfl | refine pm_I.uf ?_ rfl)) rfl cl_7 pm_le.rf pm_le.rf ?_
          rintro _ _ _ ⟨p', hp', rfl, rfl, hcase⟩
          rw [pm_up_up]
          have nx := ih2 (x + 1) (by omega)
          rw [← Nat.add_assoc] at nx
          rcases hcase with ⟨hfw, rfl, hpi⟩ | ⟨hfw, rfl⟩
          · rw [m_rk_t hfw] at nx
            refine px_if_eq (tgt := 78) (pc' := 50) dX7_flyFromAll_47 (by decide) rfl (fun q_ => absurd q_ (by decide)) (fun _ => ?_)
            refine px_aload_n (i := 0) (pc' := 51) dX7_flyFromAll_50 rfl rfl rfl ?_
            refine pi_getr (pc' := 54) fl_7_22 dX7_flyFromAll_51 rfl (by repeat (first | assumption | refine pm_I.up ?_ rfl | refine pm_I.uf ?_ rfl)) rfl rfl ?_
            refine px_aload_n (i := 0) (pc' := 55) dX7_flyFromAll_54 rfl rfl rfl ?_
            refine pi_geti (pc' := 58) fl_7_25 dX7_flyFromAll_55 rfl (by repeat (first | assumption | refine pm_I.up ?_ rfl | refine pm_I.uf ?_ rfl)) rfl (by first | assumption | (repeat (first | exact pm_uf_e rfl | refine pm_uf_o (by decide) ?_)) <;> assumption) ?_
            refine px_aload_n (i := 0) (pc' := 59) dX7_flyFromAll_58 rfl rfl rfl ?_
            refine pi_getr (pc' := 62) fl_7_37 dX7_flyFromAll_59 rfl (by repeat (first | assumption | refine pm_I.up ?_ rfl | refine pm_I.uf ?_ rfl)) rfl rfl ?_
            refine px_iload_n (i := 2) (pc' := 63) dX7_flyFromAll_62 rfl rfl rfl ?_
            refine px_iload_n (i := 1) (pc' := 64) dX7_flyFromAll_63 rfl rfl rfl ?_
            refine pi_callV (pc' := 67) (c_cellAt (by repeat (first | assumption | refine pm_I.up ?_ rfl | refine pm_I.uf ?_ rfl)) (by first | assumption | (repeat (first | exact pm_uf_e rfl | refine pm_uf_o (by decide) ?_)) <;> assumption) (by first | assumption | (repeat (first | exact pm_uf_e rfl | refine pm_uf_o (by decide) ?_)) <;> assumption) hw hd) okX3_cellAt ivX3_cellAt ml_X7_87 ⟨Nat.le_of_ble_eq_true rfl, Nat.le_of_ble_eq_true rfl⟩ dX7_flyFromAll_64 rfl rfl rfl (Nat.le_of_ble_eq_true rfl) (by repeat (first | assumption | refine pm_I.up ?_ rfl | refine pm_I.uf ?_ rfl)) rfl cl_3 pm_le.rf pm_le.rf ?_
            rintro _ _ _ ⟨rfl, rfl, rfl⟩
            rw [hxt, hyt, m_off_in (by omega) (by omega), iZ_n]
            refine px_iast (pc' := 68) dX7_flyFromAll_67 rfl (by first | assumption | (repeat (first | exact pm_up_e rfl | refine pm_up_o (by decide) ?_)) <;> assumption) (vp_in_nI (by omega) (by omega)) ?_
            refine px_aload_n (i := 0) (pc' := 69) dX7_flyFromAll_68 rfl rfl rfl ?_
            refine px_dup (pc' := 70) dX7_flyFromAll_69 rfl rfl ?_
            refine pi_geti (pc' := 73) fl_7_25 dX7_flyFromAll_70 rfl (by repeat (first | assumption | refine pm_I.up ?_ rfl | refine pm_I.uf ?_ rfl)) rfl (by first | assumption | (repeat (first | exact pm_uf_e rfl | refine pm_uf_o (by decide) ?_)) <;> assumption) ?_
            refine px_iconst (v := 1) (pc' := 74) dX7_flyFromAll_73 rfl (by decide) ?_
            refine px_iadd (pc' := 75) dX7_flyFromAll_74 rfl ?_
            rw [nI_1, nI_clamp (by omega), pm_up_comm _ _ _ (show (29 : Nat) ≠ 28 by decide), pm_up_up]
            refine pi_puti (pc' := 78) fi_7_25 dX7_flyFromAll_75 rfl (by repeat (first | assumption | refine pm_I.up ?_ rfl | refine pm_I.uf ?_ rfl)) rfl ?_
            refine sx_inc_3_2 (w := 1) (pc' := 81) dX7_flyFromAll_78 rfl rfl (by decide) rfl ?_
            refine px_goto (tgt := 20) dX7_flyFromAll_81 (by decide) ?_
            rw [nI_1, pm_uf_uf]
            refine nx _ _ (fun a ha hfa => ?_)
            unfold upd
            by_cases hac : a = w * y + x
            · subst hac
              rw [if_pos rfl]
              exact ⟨rfl, hpi⟩
            · have hlt2 := m_rk_lt (show a < w * y + x by omega) hfa
              rw [if_neg (by omega)]
              have := hl a (by omega) hfa
              refine ⟨this.1, fun i hi => ?_⟩
              rw [hp' _ (by omega)]
              exact this.2 i hi
          · rw [m_rk_f hfw] at nx
            refine px_if_eq (tgt := 78) (pc' := 50) dX7_flyFromAll_47 (by decide) rfl (fun _ => ?_) (fun q_ => absurd (rfl) q_)
            refine sx_inc_3_2 (w := 1) (pc' := 81) dX7_flyFromAll_78 rfl rfl (by decide) rfl ?_
            refine px_goto (tgt := 20) dX7_flyFromAll_81 (by decide) ?_
            rw [nI_1]
            refine nx _ _ (fun a ha hfa => ?_)
            by_cases hac : a = w * y + x
            · subst hac
              exact absurd hfa hfw
            · have hlt2 := m_rk_lt (show a < w * y + x by omega) hfa
              have := hl a (by omega) hfa
              refine ⟨this.1, fun i hi => ?_⟩
              rw [hp' _ (by omega)]
              exact this.2 i hi
      exact inner w 0 (by omega) st p hl
  have := outer d 0 (by omega) st p (fun a ha => absurd ha (by omega)) pm_u rfl
  rw [pm_up_self e9, pm_up_self e8] at this
  exact this
theorem c_areTwins {m o1 o2 e : Nat} {p : Nat → Int32} (I : pm_I h g) (e6 : g 25 5 = .int (nI m)) (hm : m ≤ 8) (e8 : h 29 = pm_ia 0 1296 p) (e9 : g 5 0 = .int (nI e)) (he : e ≤ 20) (h1 : o1 < 144) (h2 : o2 < 144) (b1 : ∀ i, i ≤ m → -1 ≤ (p (o1 * 9 + i)).toInt ∧ (p (o1 * 9 + i)).toInt ≤ 255) (b2 : ∀ i, i ≤ m → -1 ≤ (p (o2 * 9 + i)).toInt ∧ (p (o2 * 9 + i)).toInt ≤ 255) :
    pm_Met G mX7_areTwins [.ref 25, .int (nI o1), .int (nI o2)] z z h g (fun r h' g' => h = h' ∧ g = g' ∧ (((∀ i, i ≤ m → m_al e (p (o1 * 9 + i)).toInt (p (o2 * 9 + i)).toInt) ∧ r = some (.int 1)) ∨ ((¬ ∀ i, i ≤ m → m_al e (p (o1 * 9 + i)).toInt (p (o2 * 9 + i)).toInt) ∧ r = some (.int 0)))) := by
  refine enX7_areTwins pm_le.rf ?_
  refine px_iconst (v := 0) (pc' := 1) dX7_areTwins_0 rfl (by decide) ?_
  refine sx_i_n_6_3 (pc' := 2) dX7_areTwins_1 rfl rfl rfl rfl ?_
  have loop : ∀ k i : Nat, i + k = m + 1 → (∀ j, j < i → m_al e (p (o1 * 9 + j)).toInt (p (o2 * 9 + j)).toInt) → ∀ v4 v5 : Value, v4.category = 1 → v5.category = 1 →
      pm_W G mX7_areTwins z (pm_Φ G z (fun r h' g' => h = h' ∧ g = g' ∧ (((∀ i, i ≤ m → m_al e (p (o1 * 9 + i)).toInt (p (o2 * 9 + i)).toInt) ∧ r = some (.int 1)) ∨ ((¬ ∀ i, i ≤ m → m_al e (p (o1 * 9 + i)).toInt (p (o2 * 9 + i)).toInt) ∧ r = some (.int 0))))) 2 [.ref 25, .int (nI o1), .int (nI o2), .int (nI i), v4, v5] [] z h g := by
    intro k
    induction k with
    | zero =>
      intro i hi hj v4 v5 c4 c5
      refine px_iload_n (i := 3) (pc' := 3) dX7_areTwins_2 rfl rfl rfl ?_
      refine px_aload_n (i := 0) (pc' := 4) dX7_areTwins_3 rfl rfl rfl ?_
      refine pi_geti (pc' := 7) fl_7_18 dX7_areTwins_4 rfl (by repeat (first | assumption | refine pm_I.up ?_ rfl | refine pm_I.uf ?_ rfl)) rfl (by first | assumption | (repeat (first | exact pm_uf_e rfl | refine pm_uf_o (by decide) ?_)) <;> assumption) ?_
      refine px_icmp_gt (tgt := 90) (pc' := 10) dX7_areTwins_7 (by decide) rfl (fun _ => ?_) (fun q_ => absurd (nI_lt (by omega) (by omega)) q_)
      refine px_iconst (v := 1) (pc' := 91) dX7_areTwins_90 rfl (by decide) ?_
      exact px_zret (ty := .boolean) dX7_areTwins_91 rfl (rfl) rfl (⟨rfl, rfl, Or.inl ⟨fun j hh => hj j (by omega), rfl⟩⟩)
    | succ k ih =>
      intro i hi hj v4 v5 c4 c5
      refine px_iload_n (i := 3) (pc' := 3) dX7_areTwins_2 rfl rfl rfl ?_
      refine px_aload_n (i := 0) (pc' := 4) dX7_areTwins_3 rfl rfl rfl ?_
      refine pi_geti (pc' := 7) fl_7_18 dX7_areTwins_4 rfl (by repeat (first | assumption | refine pm_I.up ?_ rfl | refine pm_I.uf ?_ rfl)) rfl (by first | assumption | (repeat (first | exact pm_uf_e rfl | refine pm_uf_o (by decide) ?_)) <;> assumption) ?_
      refine px_icmp_gt (tgt := 90) (pc' := 10) dX7_areTwins_7 (by decide) rfl (fun q_ => absurd q_ (nI_nlt (by omega) (by omega))) (fun _ => ?_)
      refine px_iload_n (i := 1) (pc' := 11) dX7_areTwins_10 rfl rfl rfl ?_
      refine px_bipush (v := 9) (pc' := 13) dX7_areTwins_11 rfl (by decide) ?_
      rw [show (9 : Int32) = nI 9 from rfl]
      refine px_imul (pc' := 14) dX7_areTwins_13 rfl ?_
      rw [pk_mul]
      refine px_iload_n (i := 3) (pc' := 15) dX7_areTwins_14 rfl rfl rfl ?_
      refine px_iadd (pc' := 16) dX7_areTwins_15 rfl ?_
      rw [nI_add]
      refine sx_i_6_4 (pc' := 18) dX7_areTwins_16 rfl rfl rfl ?_
      refine px_iload_n (i := 2) (pc' := 19) dX7_areTwins_18 rfl rfl rfl ?_
      refine px_bipush (v := 9) (pc' := 21) dX7_areTwins_19 rfl (by decide) ?_
      rw [show (9 : Int32) = nI 9 from rfl]
      refine px_imul (pc' := 22) dX7_areTwins_21 rfl ?_
      rw [pk_mul]
      refine px_iload_n (i := 3) (pc' := 23) dX7_areTwins_22 rfl rfl rfl ?_
      refine px_iadd (pc' := 24) dX7_areTwins_23 rfl ?_
      rw [nI_add]
      have q1 : (nI (o1 * 9 + i)).toNatClampNeg = o1 * 9 + i := nI_clamp (by omega)
      have q2 : (nI (o2 * 9 + i)).toNatClampNeg = o2 * 9 + i := nI_clamp (by omega)
      refine sx_i_6_5 (pc' := 26) dX7_areTwins_24 rfl rfl rfl ?_
      refine px_iload (i := 4) (pc' := 28) dX7_areTwins_26 rfl rfl ?_
      refine px_if_lt (tgt := 56) (pc' := 31) dX7_areTwins_28 (by decide) rfl (fun q_ => absurd q_ (nI_pos (by omega))) (fun _ => ?_)
      refine px_iload (i := 4) (pc' := 33) dX7_areTwins_31 rfl rfl ?_
      refine px_aload_n (i := 0) (pc' := 34) dX7_areTwins_33 rfl rfl rfl ?_
      refine pi_getr (pc' := 37) fl_7_28 dX7_areTwins_34 rfl (by repeat (first | assumption | refine pm_I.up ?_ rfl | refine pm_I.uf ?_ rfl)) rfl rfl ?_
      refine px_aleni (kd := 0) (pc' := 38) (by decide) dX7_areTwins_37 rfl (by first | assumption | (repeat (first | exact pm_up_e rfl | refine pm_up_o (by decide) ?_)) <;> assumption) ?_
      refine px_icmp_ge (tgt := 56) (pc' := 41) dX7_areTwins_38 (by decide) rfl (fun q_ => absurd q_ (nI_ge (b := 1296) (by omega) (by omega))) (fun _ => ?_)
      refine px_iload (i := 5) (pc' := 43) dX7_areTwins_41 rfl rfl ?_
      refine px_if_lt (tgt := 56) (pc' := 46) dX7_areTwins_43 (by decide) rfl (fun q_ => absurd q_ (nI_pos (by omega))) (fun _ => ?_)
      refine px_iload (i := 5) (pc' := 48) dX7_areTwins_46 rfl rfl ?_
      refine px_aload_n (i := 0) (pc' := 49) dX7_areTwins_48 rfl rfl rfl ?_
      refine pi_getr (pc' := 52) fl_7_28 dX7_areTwins_49 rfl (by repeat (first | assumption | refine pm_I.up ?_ rfl | refine pm_I.uf ?_ rfl)) rfl rfl ?_
      refine px_aleni (kd := 0) (pc' := 53) (by decide) dX7_areTwins_52 rfl (by first | assumption | (repeat (first | exact pm_up_e rfl | refine pm_up_o (by decide) ?_)) <;> assumption) ?_
      refine px_icmp_lt (tgt := 58) (pc' := 56) dX7_areTwins_53 (by decide) rfl (fun _ => ?_) (fun q_ => absurd (nI_lt (b := 1296) (by omega) (by omega)) q_)
      refine px_aload_n (i := 0) (pc' := 59) dX7_areTwins_58 rfl rfl rfl ?_
      refine pi_getr (pc' := 62) fl_7_41 dX7_areTwins_59 rfl (by repeat (first | assumption | refine pm_I.up ?_ rfl | refine pm_I.uf ?_ rfl)) rfl rfl ?_
      refine px_aload_n (i := 0) (pc' := 63) dX7_areTwins_62 rfl rfl rfl ?_
      refine pi_getr (pc' := 66) fl_7_28 dX7_areTwins_63 rfl (by repeat (first | assumption | refine pm_I.up ?_ rfl | refine pm_I.uf ?_ rfl)) rfl rfl ?_
      refine px_iload (i := 4) (pc' := 68) dX7_areTwins_66 rfl rfl ?_
      refine px_iald (pc' := 69) dX7_areTwins_68 rfl (by first | assumption | (repeat (first | exact pm_up_e rfl | refine pm_up_o (by decide) ?_)) <;> assumption) (vp_in_nI (by omega) (by omega)) ?_
      refine px_aload_n (i := 0) (pc' := 70) dX7_areTwins_69 rfl rfl rfl ?_
      refine pi_getr (pc' := 73) fl_7_28 dX7_areTwins_70 rfl (by repeat (first | assumption | refine pm_I.up ?_ rfl | refine pm_I.uf ?_ rfl)) rfl rfl ?_
      refine px_iload (i := 5) (pc' := 75) dX7_areTwins_73 rfl rfl ?_
      refine px_iald (pc' := 76) dX7_areTwins_75 rfl (by first | assumption | (repeat (first | exact pm_up_e rfl | refine pm_up_o (by decide) ?_)) <;> assumption) (vp_in_nI (by omega) (by omega)) ?_
      rw [q1, q2]
      refine pi_callV (pc' := 79) (c_alike I e9 he (b1 i (by omega)) (b2 i (by omega))) okX2_alike ivX2_alike ml_X7_93 ⟨Nat.le_of_ble_eq_true rfl, Nat.le_of_ble_eq_true rfl⟩ dX7_areTwins_76 rfl rfl rfl (Nat.le_of_ble_eq_true rfl) (by repeat (first | assumption | refine pm_I.up ?_ rfl | refine pm_I.uf ?_ rfl)) rfl cl_2 pm_le.rf pm_le.rf ?_
      rintro _ _ _ ⟨rfl, rfl, rfl⟩
      refine px_if_ne (tgt := 84) (pc' := 82) dX7_areTwins_79 (by decide) rfl (fun q => ?_) (fun q => ?_)
      · have q := b_n0.mp q
        refine sx_inc_6_3 (w := 1) (pc' := 87) dX7_areTwins_84 rfl rfl (by decide) rfl ?_
        refine px_goto (tgt := 2) dX7_areTwins_87 (by decide) ?_
        rw [nI_1]
        refine ih (i + 1) (by omega) (fun j hh => ?_) _ _ rfl rfl
        by_cases hji : j = i
        · subst hji; exact q
        · exact hj j (by omega)
      · have q := b_0.mp q
        refine px_iconst (v := 0) (pc' := 83) dX7_areTwins_82 rfl (by decide) ?_
        exact px_zret (ty := .boolean) dX7_areTwins_83 rfl (rfl) rfl (⟨rfl, rfl, Or.inr ⟨fun hh => q (hh i (by omega)), rfl⟩⟩)
  exact loop (m + 1) 0 (by omega) (fun j hh => by omega) pm_u pm_u rfl rfl
/-- what is left behind of a route that is none -/
def m_junk (h : pm_h) (g : pm_g) (v : Value) (h' : pm_h) (g' : pm_g) : Prop := ∃ (f1' f2' : Nat → Int32), f1' 0 = 0 ∧ f2' 0 = 0 ∧ h' = pm_up (pm_up h 26 (pm_ia 0 9 f1')) 27 (pm_ia 0 9 f2') ∧ g' = pm_uf g 25 5 v
/-- .. and of one that is one -/
def m_done (h : pm_h) (g : pm_g) (lp : Int) (h' : pm_h) (g' : pm_g) : Prop := ∃ (f1' f2' st' p' : Nat → Int32) (m n : Nat), f1' 0 = 0 ∧ f2' 0 = 0 ∧ h' = pm_up (pm_up (pm_up (pm_up h 26 (pm_ia 0 9 f1')) 27 (pm_ia 0 9 f2')) 28 (pm_ia 0 144 st')) 29 (pm_ia 0 1296 p') ∧ g' = pm_uf (pm_uf (pm_uf g 25 5 (.int (nI m))) 25 7 (.int (nI n))) 25 9 (.int (iZ lp))
theorem c_countTwins {w d e fr sz n : Nat} {T f f1 f2 p st : Nat → Int32} (I : pm_I h g) (et : g 1 1 = .int (nI n)) (hn : n ≤ 160) (eT : h 2 = pm_ia 1 160 T) (hfr : fr + sz ≤ n) (e1 : g 3 1 = .int (nI w)) (e2 : g 3 2 = .int (nI d)) (hw : w ≤ 12) (hd : d ≤ 12) (e3 : h 4 = pm_ia 0 144 f) (hf : ∀ c, c < 144 → -1 ≤ (f c).toInt ∧ (f c).toInt ≤ 255) (e4 : h 26 = pm_ia 0 9 f1) (e5 : h 27 = pm_ia 0 9 f2) (z1 : f1 0 = 0) (z2 : f2 0 = 0) (e8 : h 29 = pm_ia 0 1296 p) (e9 : h 28 = pm_ia 0 144 st) (e10 : g 5 0 = .int (nI e)) (he : e ≤ 20) :
    pm_Met G mX7_countTwins [.ref 25, .int (nI fr), .int (nI sz)] z z h g (fun r h' g' => (¬ m_rt T fr sz ∧ r = some (.int (-1)) ∧ ∃ v, m_junk h g v h' g') ∨
      (m_rt T fr sz ∧ r = some (.int (nI (m_all (m_tw w d e T f fr (sz / 2)) (w * d) (w * d)).1)) ∧ m_done h g (m_all (m_tw w d e T f fr (sz / 2)) (w * d) (w * d)).2 h' g')) := by
  have hwd := m_wd hw hd
  refine enX7_countTwins pm_le.rf ?_
  by_cases bad : ¬ (sz % 2 = 0 ∧ sz ≤ 16)
  · refine px_aload_n (i := 0) (pc' := 1) dX7_countTwins_0 rfl rfl rfl ?_
    refine px_iload_n (i := 1) (pc' := 2) dX7_countTwins_1 rfl rfl rfl ?_
    refine px_iload_n (i := 2) (pc' := 3) dX7_countTwins_2 rfl rfl rfl ?_
    refine pi_callV (pc' := 6) (c_layRoute_s I (by omega) bad) okX7_layRoute ivX7_layRoute ml_X7_59 ⟨Nat.le_of_ble_eq_true rfl, Nat.le_of_ble_eq_true rfl⟩ dX7_countTwins_3 rfl rfl rfl (Nat.le_of_ble_eq_true rfl) (by repeat (first | assumption | refine pm_I.up ?_ rfl | refine pm_I.uf ?_ rfl)) rfl cl_7 pm_le.rf pm_le.rf ?_
    rintro _ _ _ ⟨rfl, rfl, rfl⟩
    refine px_if_ne (tgt := 11) (pc' := 9) dX7_countTwins_6 (by decide) rfl (fun q_ => absurd (rfl) q_) (fun _ => ?_)
    refine px_iconst (v := -1) (pc' := 10) dX7_countTwins_9 rfl (by decide) ?_
    exact px_iret dX7_countTwins_10 rfl rfl (Or.inl ⟨fun hh => bad ⟨hh.1, hh.2.1⟩, rfl, g 25 5, f1, f2, z1, z2, by rw [pm_up_self e4, pm_up_self e5], by rw [pm_uf_self rfl]⟩)
  have bad := Decidable.not_not.mp bad
  obtain ⟨m, rfl⟩ : ∃ m, sz = 2 * m := ⟨sz / 2, by omega⟩
  rw [show 2 * m / 2 = m by omega]
  refine px_aload_n (i := 0) (pc' := 1) dX7_countTwins_0 rfl rfl rfl ?_
  refine px_iload_n (i := 1) (pc' := 2) dX7_countTwins_1 rfl rfl rfl ?_
  refine px_iload_n (i := 2) (pc' := 3) dX7_countTwins_2 rfl rfl rfl ?_
  refine pi_callV (pc' := 6) (c_layRoute I et hn eT (by omega) hfr e4 e5 z1 z2) okX7_layRoute ivX7_layRoute ml_X7_59 ⟨Nat.le_of_ble_eq_true rfl, Nat.le_of_ble_eq_true rfl⟩ dX7_countTwins_3 rfl rfl rfl (Nat.le_of_ble_eq_true rfl) (by repeat (first | assumption | refine pm_I.up ?_ rfl | refine pm_I.uf ?_ rfl)) rfl cl_7 pm_le.rf pm_le.rf ?_
  rintro _ _ _ ⟨f1', f2', z1', z2', rfl, rfl, hcase⟩
  rcases hcase with ⟨hrt, rfl, ho⟩ | ⟨hrt, rfl⟩
  rotate_left
  · refine px_if_ne (tgt := 11) (pc' := 9) dX7_countTwins_6 (by decide) rfl (fun q_ => absurd (rfl) q_) (fun _ => ?_)
    refine px_iconst (v := -1) (pc' := 10) dX7_countTwins_9 rfl (by decide) ?_
    exact px_iret dX7_countTwins_10 rfl rfl (Or.inl ⟨hrt, rfl, _, f1', f2', z1', z2', rfl, rfl⟩)
  have hbd := fun i (hi : i ≤ m) => m_ox_bd hrt.2.2 i (by omega)
  refine px_if_ne (tgt := 11) (pc' := 9) dX7_countTwins_6 (by decide) rfl (fun _ => ?_) (fun q_ => absurd q_ (by decide))
  refine px_aload_n (i := 0) (pc' := 12) dX7_countTwins_11 rfl rfl rfl ?_
  refine pi_callV (pc' := 15) (c_flyFromAll (m := m) (by repeat (first | assumption | refine pm_I.up ?_ rfl | refine pm_I.uf ?_ rfl)) (by first | assumption | (repeat (first | exact pm_uf_e rfl | refine pm_uf_o (by decide) ?_)) <;> assumption) (by first | assumption | (repeat (first | exact pm_uf_e rfl | refine pm_uf_o (by decide) ?_)) <;> assumption) hw hd (by first | assumption | (repeat (first | exact pm_up_e rfl | refine pm_up_o (by decide) ?_)) <;> assumption) (by first | assumption | (repeat (first | exact pm_up_e rfl | refine pm_up_o (by decide) ?_)) <;> assumption) (by first | assumption | (repeat (first | exact pm_up_e rfl | refine pm_up_o (by decide) ?_)) <;> assumption) (by first | assumption | (repeat (first | exact pm_uf_e rfl | refine pm_uf_o (by decide) ?_)) <;> assumption) (by omega) (by first | assumption | (repeat (first | exact pm_up_e rfl | refine pm_up_o (by decide) ?_)) <;> assumption) (by first | assumption | (repeat (first | exact pm_up_e rfl | refine pm_up_o (by decide) ?_)) <;> assumption) ho hbd) okX7_flyFromAll ivX7_flyFromAll ml_X7_63 ⟨Nat.le_of_ble_eq_true rfl, Nat.le_of_ble_eq_true rfl⟩ dX7_countTwins_12 rfl rfl rfl (Nat.le_of_ble_eq_true rfl) (by repeat (first | assumption | refine pm_I.up ?_ rfl | refine pm_I.uf ?_ rfl)) rfl cl_7 pm_le.rf pm_le.rf ?_
  rintro _ _ _ ⟨st', p', hlie, rfl, rfl, rfl⟩
  generalize hF : m_fw w d T fr m = F at hlie ⊢
  have hF' : ∀ a, m_fw w d T fr m a ↔ F a := fun a => by rw [hF]
  have hrn := m_rk_le (F := F) (w * d)
  have hlie' : ∀ a, a < w * d → F a → st' (m_rk F a) = nI a ∧ ∀ i, i ≤ m → p' (m_rk F a * 9 + i) = m_hp w d T f fr a i := fun a ha hfa => by
    have := hlie a ha ((hF' a).mpr hfa)
    rw [hF] at this
    exact this
  have htw : ∀ a b, m_tw w d e T f fr m a b ↔ F a ∧ F b ∧ ∀ i, i ≤ m → m_al e (m_hp w d T f fr a i).toInt (m_hp w d T f fr b i).toInt := fun a b => by unfold m_tw; rw [hF]
  generalize m_tw w d e T f fr m = P at htw ⊢
  have hhp : ∀ a, a < w * d → F a → ∀ i, i ≤ m → -1 ≤ (m_hp w d T f fr a i).toInt ∧ (m_hp w d T f fr a i).toInt ≤ 255 := fun a ha hfa i hi => by
    have b1 := ((hF' a).mpr hfa) i hi
    have b2 : m_ps w d T fr a i < (w * d : Nat) := (m_off_lt _ _).2
    exact hf _ (by omega)
  refine px_aload_n (i := 0) (pc' := 16) dX7_countTwins_15 rfl rfl rfl ?_
  refine px_iconst (v := -1) (pc' := 17) dX7_countTwins_16 rfl (by decide) ?_
  refine pi_puti (pc' := 20) fi_7_31 dX7_countTwins_17 rfl (by repeat (first | assumption | refine pm_I.up ?_ rfl | refine pm_I.uf ?_ rfl)) rfl ?_
  refine px_iconst (v := 0) (pc' := 21) dX7_countTwins_20 rfl (by decide) ?_
  refine sx_i_n_6_3 (pc' := 22) dX7_countTwins_21 rfl rfl rfl rfl ?_
  refine px_iconst (v := 0) (pc' := 23) dX7_countTwins_22 rfl (by decide) ?_
  refine sx_i_6_4 (pc' := 25) dX7_countTwins_23 rfl rfl rfl ?_
  rw [show (-1 : Int32) = iZ (-1) from by decide, show (0 : Int32) = nI 0 from rfl]
  generalize hh1 : pm_up (pm_up (pm_up (pm_up h 26 (pm_ia 0 9 f1')) 27 (pm_ia 0 9 f2')) 28 (pm_ia 0 144 st')) 29 (pm_ia 0 1296 p') = h1
  have eh : ∀ Q : Option Value → pm_h → pm_g → Prop, (∀ r g', (∃ lp, lp = (m_all P (w * d) (w * d)).2 ∧ r = some (.int (nI (m_all P (w * d) (w * d)).1)) ∧ g' = pm_uf (pm_uf (pm_uf g 25 5 (.int (nI m))) 25 7 (.int (nI (m_rk F (w * d))))) 25 9 (.int (iZ lp))) → Q r h1 g') →
      pm_W G mX7_countTwins z (pm_Φ G z Q) 25 [.ref 25, .int (nI fr), .int (nI (2 * m)), .int (nI 0), .int (nI 0), pm_u] [] z h1 (pm_uf (pm_uf (pm_uf g 25 5 (.int (nI m))) 25 7 (.int (nI (m_rk F (w * d))))) 25 9 (.int (iZ (-1)))) := by
    intro Q hQ
    generalize hg1 : pm_uf (pm_uf g 25 5 (.int (nI m))) 25 7 (.int (nI (m_rk F (w * d)))) = g1 at hQ ⊢
    have I1 : pm_I h1 g1 := by rw [← hh1, ← hg1]; exact (by repeat (first | assumption | refine pm_I.up ?_ rfl | refine pm_I.uf ?_ rfl))
    have k1 : g1 25 7 = .int (nI (m_rk F (w * d))) := by rw [← hg1]; exact (by first | assumption | (repeat (first | exact pm_uf_e rfl | refine pm_uf_o (by decide) ?_)) <;> assumption)
    have k2 : g1 25 5 = .int (nI m) := by rw [← hg1]; exact (by first | assumption | (repeat (first | exact pm_uf_e rfl | refine pm_uf_o (by decide) ?_)) <;> assumption)
    have k3 : h1 29 = pm_ia 0 1296 p' := by rw [← hh1]; exact (by first | assumption | (repeat (first | exact pm_up_e rfl | refine pm_up_o (by decide) ?_)) <;> assumption)
    have k4 : h1 28 = pm_ia 0 144 st' := by rw [← hh1]; exact (by first | assumption | (repeat (first | exact pm_up_e rfl | refine pm_up_o (by decide) ?_)) <;> assumption)
    have k5 : g1 5 0 = .int (nI e) := by rw [← hg1]; exact (by first | assumption | (repeat (first | exact pm_uf_e rfl | refine pm_uf_o (by decide) ?_)) <;> assumption)
    have outer : ∀ q a : Nat, a + q = w * d + 1 → a ≤ w * d → ∀ v5 : Value, v5.category = 1 → pm_W G mX7_countTwins z (pm_Φ G z Q) 25 [.ref 25, .int (nI fr), .int (nI (2 * m)), .int (nI (m_all P (w * d) a).1), .int (nI (m_rk F a)), v5] [] z h1 (pm_uf g1 25 9 (.int (iZ (m_all P (w * d) a).2))) := by
      intro q
      induction q using Nat.strongRecOn with
      | ind q ih =>
        intro a hq ha v5 c5
        have hra := m_rk_mono (F := F) (a := a) (w * d - a)
        rw [show a + (w * d - a) = w * d by omega] at hra
        by_cases hend : m_rk F a = m_rk F (w * d)
        · have hno := m_rk_end ha hend
          have esk := m_all_skip (P := P) (n := w * d) (a := a) (w * d - a) (fun x h1 h2 b hb hp => hno x h1 (by omega) ((htw x b).mp hp).1)
          rw [show a + (w * d - a) = w * d by omega] at esk
          rw [← esk]
          refine px_iload (i := 4) (pc' := 27) dX7_countTwins_25 rfl rfl ?_
          refine px_aload_n (i := 0) (pc' := 28) dX7_countTwins_27 rfl rfl rfl ?_
          refine pi_geti (pc' := 31) fl_7_25 dX7_countTwins_28 rfl (by repeat (first | assumption | refine pm_I.up ?_ rfl | refine pm_I.uf ?_ rfl)) rfl (by first | assumption | (repeat (first | exact pm_uf_e rfl | refine pm_uf_o (by decide) ?_)) <;> assumption) ?_
          refine px_icmp_ge (tgt := 113) (pc' := 34) dX7_countTwins_31 (by decide) rfl (fun _ => ?_) (fun q_ => absurd (by rw [hend]; exact nI_le (Nat.le_refl _) (by omega)) q_)
          refine px_iload_n (i := 3) (pc' := 114) dX7_countTwins_113 rfl rfl rfl ?_
          exact px_iret dX7_countTwins_114 rfl rfl (hQ _ _ ⟨_, rfl, rfl, rfl⟩)
        obtain ⟨c, c1, c2, hFc, hrc, hno⟩ := m_rk_next ha (show m_rk F a < m_rk F (w * d) by omega)
        have esk := m_all_skip (P := P) (n := w * d) (a := a) (c - a) (fun x h1 h2 b hb hp => hno x h1 (by omega) ((htw x b).mp hp).1)
        rw [show a + (c - a) = c by omega] at esk
        rw [← esk, ← hrc]
        have abd := m_all_bd (P := P) (n := w * d) (by omega) c (by omega)
        have lc := hlie' c c2 hFc
        refine px_iload (i := 4) (pc' := 27) dX7_countTwins_25 rfl rfl ?_
        refine px_aload_n (i := 0) (pc' := 28) dX7_countTwins_27 rfl rfl rfl ?_
        refine pi_geti (pc' := 31) fl_7_25 dX7_countTwins_28 rfl (by repeat (first | assumption | refine pm_I.up ?_ rfl | refine pm_I.uf ?_ rfl)) rfl (by first | assumption | (repeat (first | exact pm_uf_e rfl | refine pm_uf_o (by decide) ?_)) <;> assumption) ?_
        refine px_icmp_ge (tgt := 113) (pc' := 34) dX7_countTwins_31 (by decide) rfl (fun q_ => absurd q_ (by exact nI_ge (by omega) (by omega))) (fun _ => ?_)
        refine px_iload (i := 4) (pc' := 36) dX7_countTwins_34 rfl rfl ?_
        refine px_iconst (v := 1) (pc' := 37) dX7_countTwins_36 rfl (by decide) ?_
        refine px_iadd (pc' := 38) dX7_countTwins_37 rfl ?_
        rw [nI_1, ← m_rk_t hFc]
        refine sx_i_6_5 (pc' := 40) dX7_countTwins_38 rfl rfl rfl ?_
        have inner : ∀ q2 b : Nat, b + q2 = w * d + 1 → c < b → b ≤ w * d → pm_W G mX7_countTwins z (pm_Φ G z Q) 40 [.ref 25, .int (nI fr), .int (nI (2 * m)), .int (nI (m_row P c (m_all P (w * d) c) b).1), .int (nI (m_rk F c)), .int (nI (m_rk F b))] [] z h1 (pm_uf g1 25 9 (.int (iZ (m_row P c (m_all P (w * d) c) b).2))) := by
          intro q2
          induction q2 using Nat.strongRecOn with
          | ind q2 ih2 =>
            intro b hq2 hcb hb
            have hrb := m_rk_mono (F := F) (a := b) (w * d - b)
            rw [show b + (w * d - b) = w * d by omega] at hrb
            by_cases hend2 : m_rk F b = m_rk F (w * d)
            · have hno2 := m_rk_end hb hend2
              have esk2 := m_row_skip (P := P) (a := c) (b := b) (s := m_all P (w * d) c) (w * d - b) (fun x h1 h2 hp => hno2 x h1 (by omega) ((htw c x).mp hp.2).2.1)
              rw [show b + (w * d - b) = w * d by omega] at esk2
              rw [← esk2, ← m_all_s]
              refine px_iload (i := 5) (pc' := 42) dX7_countTwins_40 rfl rfl ?_
              refine px_aload_n (i := 0) (pc' := 43) dX7_countTwins_42 rfl rfl rfl ?_
              refine pi_geti (pc' := 46) fl_7_25 dX7_countTwins_43 rfl (by repeat (first | assumption | refine pm_I.up ?_ rfl | refine pm_I.uf ?_ rfl)) rfl (by first | assumption | (repeat (first | exact pm_uf_e rfl | refine pm_uf_o (by decide) ?_)) <;> assumption) ?_
              refine px_icmp_ge (tgt := 107) (pc' := 49) dX7_countTwins_46 (by decide) rfl (fun _ => ?_) (fun q_ => absurd (by rw [hend2]; exact nI_le (Nat.le_refl _) (by omega)) q_)
              refine sx_inc_6_4 (w := 1) (pc' := 110) dX7_countTwins_107 rfl rfl (by decide) rfl ?_
              refine px_goto (tgt := 25) dX7_countTwins_110 (by decide) ?_
              rw [nI_1, ← m_rk_t hFc]
              exact ih (w * d + 1 - (c + 1)) (by omega) (c + 1) (by omega) (by omega) _ rfl
            obtain ⟨c', d1, d2, hFc', hrc', hno2⟩ := m_rk_next hb (show m_rk F b < m_rk F (w * d) by omega)
            have esk2 := m_row_skip (P := P) (a := c) (b := b) (s := m_all P (w * d) c) (c' - b) (fun x h1 h2 hp => hno2 x h1 (by omega) ((htw c x).mp hp.2).2.1)
            rw [show b + (c' - b) = c' by omega] at esk2
            rw [← esk2, ← hrc']
            have rbd := m_row_bd (P := P) (a := c) abd.2 (by omega) c' (by omega)
            have lc' := hlie' c' d2 hFc'
            have t1 := m_rk_lt (show c < w * d by omega) hFc
            have t2 := m_rk_lt (show c' < w * d by omega) hFc'
            have nx := ih2 (w * d + 1 - (c' + 1)) (by omega) (c' + 1) (by omega) (by omega) (by omega)
            refine px_iload (i := 5) (pc' := 42) dX7_countTwins_40 rfl rfl ?_
            refine px_aload_n (i := 0) (pc' := 43) dX7_countTwins_42 rfl rfl rfl ?_
            refine pi_geti (pc' := 46) fl_7_25 dX7_countTwins_43 rfl (by repeat (first | assumption | refine pm_I.up ?_ rfl | refine pm_I.uf ?_ rfl)) rfl (by first | assumption | (repeat (first | exact pm_uf_e rfl | refine pm_uf_o (by decide) ?_)) <;> assumption) ?_
            refine px_icmp_ge (tgt := 107) (pc' := 49) dX7_countTwins_46 (by decide) rfl (fun q_ => absurd q_ (nI_ge (by omega) (by omega))) (fun _ => ?_)
            refine px_aload_n (i := 0) (pc' := 50) dX7_countTwins_49 rfl rfl rfl ?_
            refine px_iload (i := 4) (pc' := 52) dX7_countTwins_50 rfl rfl ?_
            refine px_iload (i := 5) (pc' := 54) dX7_countTwins_52 rfl rfl ?_
            refine pi_callV (pc' := 57) (c_areTwins (by repeat (first | assumption | refine pm_I.up ?_ rfl | refine pm_I.uf ?_ rfl)) (by first | assumption | (repeat (first | exact pm_uf_e rfl | refine pm_uf_o (by decide) ?_)) <;> assumption) (by omega) (by first | assumption | (repeat (first | exact pm_up_e rfl | refine pm_up_o (by decide) ?_)) <;> assumption) (by first | assumption | (repeat (first | exact pm_uf_e rfl | refine pm_uf_o (by decide) ?_)) <;> assumption) he (by omega) (by omega) (fun i hi => by rw [lc.2 i hi]; exact hhp c c2 hFc i hi) (fun i hi => by rw [lc'.2 i hi]; exact hhp c' d2 hFc' i hi)) okX7_areTwins ivX7_areTwins ml_X7_66 ⟨Nat.le_of_ble_eq_true rfl, Nat.le_of_ble_eq_true rfl⟩ dX7_countTwins_54 rfl rfl rfl (Nat.le_of_ble_eq_true rfl) (by repeat (first | assumption | refine pm_I.up ?_ rfl | refine pm_I.uf ?_ rfl)) rfl cl_7 pm_le.rf pm_le.rf ?_
            rintro _ _ _ ⟨rfl, rfl, hcase⟩
            have hal : (∀ i, i ≤ m → m_al e (p' (m_rk F c * 9 + i)).toInt (p' (m_rk F c' * 9 + i)).toInt) ↔ P c c' := by
              rw [htw]
              constructor
              · intro hh
                exact ⟨hFc, hFc', fun i hi => by have := hh i hi; rw [lc.2 i hi, lc'.2 i hi] at this; exact this⟩
              · intro hh i hi
                rw [lc.2 i hi, lc'.2 i hi]
                exact hh.2.2 i hi
            rcases hcase with ⟨hp, rfl⟩ | ⟨hp, rfl⟩
            · have hp := hal.mp hp
              rw [m_row_t ⟨by omega, hp⟩, m_rk_t hFc'] at nx
              unfold m_one at nx
              dsimp only at nx
              generalize m_row P c (m_all P (w * d) c) c' = s at rbd nx ⊢
              obtain ⟨s1, s2⟩ := s
              dsimp only at rbd nx ⊢
              have s2t : (iZ s2).toInt = s2 := iZ_t (by omega) (by omega)
              refine px_if_eq (tgt := 101) (pc' := 60) dX7_countTwins_57 (by decide) rfl (fun q_ => absurd q_ (by decide)) (fun _ => ?_)
              refine sx_inc_6_3 (w := 1) (pc' := 63) dX7_countTwins_60 rfl rfl (by decide) rfl ?_
              refine px_aload_n (i := 0) (pc' := 64) dX7_countTwins_63 rfl rfl rfl ?_
              refine px_aload_n (i := 0) (pc' := 65) dX7_countTwins_64 rfl rfl rfl ?_
              refine pi_geti (pc' := 68) fl_7_31 dX7_countTwins_65 rfl (by repeat (first | assumption | refine pm_I.up ?_ rfl | refine pm_I.uf ?_ rfl)) rfl (by first | assumption | (repeat (first | exact pm_uf_e rfl | refine pm_uf_o (by decide) ?_)) <;> assumption) ?_
              refine px_iconst (v := -1) (pc' := 69) dX7_countTwins_68 rfl (by decide) ?_
              rw [nI_1]
              refine px_icmp_ne (tgt := 94) (pc' := 72) dX7_countTwins_69 (by decide) rfl (fun q3 => ?_) (fun q3 => ?_)
              · rw [i_eq, s2t, l_m1] at q3
                rw [if_neg q3] at nx
                refine px_aload_n (i := 0) (pc' := 95) dX7_countTwins_94 rfl rfl rfl ?_
                refine pi_geti (pc' := 98) fl_7_31 dX7_countTwins_95 rfl (by repeat (first | assumption | refine pm_I.up ?_ rfl | refine pm_I.uf ?_ rfl)) rfl (by first | assumption | (repeat (first | exact pm_uf_e rfl | refine pm_uf_o (by decide) ?_)) <;> assumption) ?_
                refine pi_puti (pc' := 101) fi_7_31 dX7_countTwins_98 rfl (by repeat (first | assumption | refine pm_I.up ?_ rfl | refine pm_I.uf ?_ rfl)) rfl ?_
                refine sx_inc_6_5 (w := 1) (pc' := 104) dX7_countTwins_101 rfl rfl (by decide) rfl ?_
                refine px_goto (tgt := 40) dX7_countTwins_104 (by decide) ?_
                rw [nI_1, pm_uf_uf]
                exact nx
              · rw [i_eq, s2t, l_m1] at q3
                rw [if_pos q3] at nx
                refine px_sipush (v := 200) (pc' := 75) dX7_countTwins_72 rfl (by decide) ?_
                refine px_aload_n (i := 0) (pc' := 76) dX7_countTwins_75 rfl rfl rfl ?_
                refine pi_getr (pc' := 79) fl_7_22 dX7_countTwins_76 rfl (by repeat (first | assumption | refine pm_I.up ?_ rfl | refine pm_I.uf ?_ rfl)) rfl rfl ?_
                refine px_iload (i := 4) (pc' := 81) dX7_countTwins_79 rfl rfl ?_
                refine px_iald (pc' := 82) dX7_countTwins_81 rfl (by first | assumption | (repeat (first | exact pm_up_e rfl | refine pm_up_o (by decide) ?_)) <;> assumption) (vp_in_nI (by omega) (by omega)) ?_
                rw [nI_clamp (by omega), lc.1]
                refine px_imul (pc' := 83) dX7_countTwins_82 rfl ?_
                refine px_aload_n (i := 0) (pc' := 84) dX7_countTwins_83 rfl rfl rfl ?_
                refine pi_getr (pc' := 87) fl_7_22 dX7_countTwins_84 rfl (by repeat (first | assumption | refine pm_I.up ?_ rfl | refine pm_I.uf ?_ rfl)) rfl rfl ?_
                refine px_iload (i := 5) (pc' := 89) dX7_countTwins_87 rfl rfl ?_
                refine px_iald (pc' := 90) dX7_countTwins_89 rfl (by first | assumption | (repeat (first | exact pm_up_e rfl | refine pm_up_o (by decide) ?_)) <;> assumption) (vp_in_nI (by omega) (by omega)) ?_
                rw [nI_clamp (by omega), lc'.1, show (200 : Int32) = nI 200 from rfl, pk_mul]
                refine px_iadd (pc' := 91) dX7_countTwins_90 rfl ?_
                refine px_goto (tgt := 98) dX7_countTwins_91 (by decide) ?_
                refine pi_puti (pc' := 101) fi_7_31 dX7_countTwins_98 rfl (by repeat (first | assumption | refine pm_I.up ?_ rfl | refine pm_I.uf ?_ rfl)) rfl ?_
                refine sx_inc_6_5 (w := 1) (pc' := 104) dX7_countTwins_101 rfl rfl (by decide) rfl ?_
                refine px_goto (tgt := 40) dX7_countTwins_104 (by decide) ?_
                have e7 : nI (200 * c + c') = iZ (200 * (c : Int) + c') := by
                  rw [← iZ_n]
                  congr 1
                rw [nI_1, pm_uf_uf, nI_add, e7]
                exact nx
            · have hp := fun hh => hp (hal.mpr hh)
              rw [m_row_f (fun hh => hp hh.2), m_rk_t hFc'] at nx
              refine px_if_eq (tgt := 101) (pc' := 60) dX7_countTwins_57 (by decide) rfl (fun _ => ?_) (fun q_ => absurd (rfl) q_)
              refine sx_inc_6_5 (w := 1) (pc' := 104) dX7_countTwins_101 rfl rfl (by decide) rfl ?_
              refine px_goto (tgt := 40) dX7_countTwins_104 (by decide) ?_
              rw [nI_1]
              exact nx
        have hrow0 := m_row_skip (P := P) (a := c) (b := 0) (s := m_all P (w * d) c) (c + 1) (fun x h1 h2 hp => by omega)
        rw [Nat.zero_add] at hrow0
        have := inner (w * d + 1 - (c + 1)) (c + 1) (by omega) (by omega) (by omega)
        rw [hrow0] at this
        exact this
    have := outer (w * d + 1) 0 (by omega) (Nat.zero_le _) pm_u rfl
    exact this
  refine eh _ (fun r g' hh => ?_)
  obtain ⟨lp, rfl, rfl, rfl⟩ := hh
  refine Or.inr ⟨hrt, rfl, f1', f2', st', p', m, m_rk F (w * d), z1', z2', hh1.symm, rfl⟩
theorem c_twinsOfTape {w d e n : Nat} {T f f1 f2 p st : Nat → Int32} (I : pm_I h g) (et : g 1 1 = .int (nI n)) (hn : n ≤ 160) (eT : h 2 = pm_ia 1 160 T) (e1 : g 3 1 = .int (nI w)) (e2 : g 3 2 = .int (nI d)) (hw : w ≤ 12) (hd : d ≤ 12) (e3 : h 4 = pm_ia 0 144 f) (hf : ∀ c, c < 144 → -1 ≤ (f c).toInt ∧ (f c).toInt ≤ 255) (e4 : h 26 = pm_ia 0 9 f1) (e5 : h 27 = pm_ia 0 9 f2) (z1 : f1 0 = 0) (z2 : f2 0 = 0) (e8 : h 29 = pm_ia 0 1296 p) (e9 : h 28 = pm_ia 0 144 st) (e10 : g 5 0 = .int (nI e)) (he : e ≤ 20) :
    pm_Met G mX7_twinsOfTape [.ref 25] z z h g (fun r h' g' => (¬ m_rt T 0 n ∧ r = some (.int (-1)) ∧ ∃ v, m_junk h g v h' g') ∨
      (m_rt T 0 n ∧ r = some (.int (nI (m_all (m_tw w d e T f 0 (n / 2)) (w * d) (w * d)).1)) ∧ ∃ g1, m_done h g (m_all (m_tw w d e T f 0 (n / 2)) (w * d) (w * d)).2 h' g1 ∧ g' = pm_uf g1 25 10 (.int (iZ (m_all (m_tw w d e T f 0 (n / 2)) (w * d) (w * d)).2)))) := by
  have hwd := m_wd hw hd
  have abd := m_all_bd (P := m_tw w d e T f 0 (n / 2)) (n := w * d) (by omega) (w * d) (Nat.le_refl _)
  have hcn : (m_all (m_tw w d e T f 0 (n / 2)) (w * d) (w * d)).1 ≤ 144 * 144 := Nat.le_trans abd.1 (Nat.mul_le_mul hwd hwd)
  refine enX7_twinsOfTape pm_le.rf ?_
  refine px_aload_n (i := 0) (pc' := 1) dX7_twinsOfTape_0 rfl rfl rfl ?_
  refine px_iconst (v := 0) (pc' := 2) dX7_twinsOfTape_1 rfl (by decide) ?_
  refine px_aload_n (i := 0) (pc' := 3) dX7_twinsOfTape_2 rfl rfl rfl ?_
  refine pi_getr (pc' := 6) fl_7_45 dX7_twinsOfTape_3 rfl (by repeat (first | assumption | refine pm_I.up ?_ rfl | refine pm_I.uf ?_ rfl)) rfl rfl ?_
  refine pi_callV (pc' := 9) (c_size I et) okX6_size ivX6_size ml_X7_49 ⟨Nat.le_of_ble_eq_true rfl, Nat.le_of_ble_eq_true rfl⟩ dX7_twinsOfTape_6 rfl rfl rfl (Nat.le_of_ble_eq_true rfl) (by repeat (first | assumption | refine pm_I.up ?_ rfl | refine pm_I.uf ?_ rfl)) rfl cl_6 pm_le.rf pm_le.rf ?_
  rintro _ _ _ ⟨rfl, rfl, rfl⟩
  rw [show (0 : Int32) = nI 0 from rfl]
  refine pi_callV (pc' := 12) (c_countTwins I et hn eT (by omega) e1 e2 hw hd e3 hf e4 e5 z1 z2 e8 e9 e10 he) okX7_countTwins ivX7_countTwins ml_X7_55 ⟨Nat.le_of_ble_eq_true rfl, Nat.le_of_ble_eq_true rfl⟩ dX7_twinsOfTape_9 rfl rfl rfl (Nat.le_of_ble_eq_true rfl) (by repeat (first | assumption | refine pm_I.up ?_ rfl | refine pm_I.uf ?_ rfl)) rfl cl_7 pm_le.rf pm_le.rf ?_
  rintro _ _ _ (⟨hrt, rfl, hj⟩ | ⟨hrt, rfl, hj⟩)
  · refine sx_i_n_2_1 (pc' := 13) dX7_twinsOfTape_12 rfl rfl rfl rfl ?_
    refine px_iload_n (i := 1) (pc' := 14) dX7_twinsOfTape_13 rfl rfl rfl ?_
    refine px_iconst (v := -1) (pc' := 15) dX7_twinsOfTape_14 rfl (by decide) ?_
    refine px_icmp_eq (tgt := 26) (pc' := 18) dX7_twinsOfTape_15 (by decide) rfl (fun _ => ?_) (fun q_ => absurd (rfl) q_)
    refine px_iload_n (i := 1) (pc' := 27) dX7_twinsOfTape_26 rfl rfl rfl ?_
    exact px_iret dX7_twinsOfTape_27 rfl rfl (Or.inl ⟨hrt, rfl, hj⟩)
  · obtain ⟨f1', f2', st', p', m, k, y1, y2, rfl, rfl⟩ := id hj
    refine sx_i_n_2_1 (pc' := 13) dX7_twinsOfTape_12 rfl rfl rfl rfl ?_
    refine px_iload_n (i := 1) (pc' := 14) dX7_twinsOfTape_13 rfl rfl rfl ?_
    refine px_iconst (v := -1) (pc' := 15) dX7_twinsOfTape_14 rfl (by decide) ?_
    refine px_icmp_eq (tgt := 26) (pc' := 18) dX7_twinsOfTape_15 (by decide) rfl (fun q_ => absurd q_ (by rw [i_eq, nI_toInt (by omega), l_m1]; omega)) (fun _ => ?_)
    refine px_aload_n (i := 0) (pc' := 19) dX7_twinsOfTape_18 rfl rfl rfl ?_
    refine px_aload_n (i := 0) (pc' := 20) dX7_twinsOfTape_19 rfl rfl rfl ?_
    refine pi_geti (pc' := 23) fl_7_31 dX7_twinsOfTape_20 rfl (by repeat (first | assumption | refine pm_I.up ?_ rfl | refine pm_I.uf ?_ rfl)) rfl (by first | assumption | (repeat (first | exact pm_uf_e rfl | refine pm_uf_o (by decide) ?_)) <;> assumption) ?_
    refine pi_puti (pc' := 26) fi_7_34 dX7_twinsOfTape_23 rfl (by repeat (first | assumption | refine pm_I.up ?_ rfl | refine pm_I.uf ?_ rfl)) rfl ?_
    refine px_iload_n (i := 1) (pc' := 27) dX7_twinsOfTape_26 rfl rfl rfl ?_
    exact px_iret dX7_twinsOfTape_27 rfl rfl (Or.inr ⟨hrt, rfl, _, hj, rfl⟩)
/-- scratch of the twins' search alone is other -/
def m_scr (h : pm_h) (g : pm_g) (h' : pm_h) (g' : pm_g) : Prop := (∀ a, a ≠ 26 → a ≠ 27 → a ≠ 28 → a ≠ 29 → h' a = h a) ∧ (∀ a k, ¬ (a = 25 ∧ (k = 5 ∨ k = 7 ∨ k = 9)) → g' a k = g a k) ∧
  ∃ f1' f2' st' p' : Nat → Int32, f1' 0 = 0 ∧ f2' 0 = 0 ∧ h' 26 = pm_ia 0 9 f1' ∧ h' 27 = pm_ia 0 9 f2' ∧ h' 28 = pm_ia 0 144 st' ∧ h' 29 = pm_ia 0 1296 p'
theorem m_scr.trans {h h1 h2 : pm_h} {g g1 g2 : pm_g} (a : m_scr h g h1 g1) (b : m_scr h1 g1 h2 g2) : m_scr h g h2 g2 :=
  ⟨fun x n1 n2 n3 n4 => (b.1 x n1 n2 n3 n4).trans (a.1 x n1 n2 n3 n4), fun x k n => (b.2.1 x k n).trans (a.2.1 x k n), b.2.2⟩
theorem m_scr.I {h h1 : pm_h} {g g1 : pm_g} (a : m_scr h g h1 g1) (I : pm_I h g) : pm_I h1 g1 := by
  refine ⟨fun x ci hx => ?_, fun x k b hx => ?_⟩
  · rw [a.1 x (fun q => by subst q; cases hx) (fun q => by subst q; cases hx) (fun q => by subst q; cases hx) (fun q => by subst q; cases hx)]
    exact I.1 x ci hx
  · rw [a.2.1 x k (fun q => by obtain ⟨q1, q2⟩ := q; subst q1; rcases q2 with q2 | q2 | q2 <;> subst q2 <;> cases hx)]
    exact I.2 x k b hx
theorem m_junk.scr {h h' : pm_h} {g g' : pm_g} {v : Value} {st p : Nat → Int32} (e9 : h 28 = pm_ia 0 144 st) (e8 : h 29 = pm_ia 0 1296 p) (a : m_junk h g v h' g') : m_scr h g h' g' := by
  obtain ⟨f1', f2', z1, z2, rfl, rfl⟩ := a
  refine ⟨fun x n1 n2 n3 n4 => by rw [pm_up_n _ _ n2, pm_up_n _ _ n1], fun x k n => pm_uf_o (fun q => n ⟨q.1, Or.inl q.2⟩) rfl, f1', f2', st, p, z1, z2, ?_, ?_, ?_, ?_⟩
  · exact (by first | assumption | (repeat (first | exact pm_up_e rfl | refine pm_up_o (by decide) ?_)) <;> assumption)
  · exact (by first | assumption | (repeat (first | exact pm_up_e rfl | refine pm_up_o (by decide) ?_)) <;> assumption)
  · exact (by first | assumption | (repeat (first | exact pm_up_e rfl | refine pm_up_o (by decide) ?_)) <;> assumption)
  · exact (by first | assumption | (repeat (first | exact pm_up_e rfl | refine pm_up_o (by decide) ?_)) <;> assumption)
theorem m_done.scr {h h' : pm_h} {g g' : pm_g} {lp : Int} (a : m_done h g lp h' g') : m_scr h g h' g' := by
  obtain ⟨f1', f2', st', p', m, n, z1, z2, rfl, rfl⟩ := a
  refine ⟨fun x n1 n2 n3 n4 => by rw [pm_up_n _ _ n4, pm_up_n _ _ n3, pm_up_n _ _ n2, pm_up_n _ _ n1], fun x k n => pm_uf_o (fun q => n ⟨q.1, Or.inr (Or.inr q.2)⟩) (pm_uf_o (fun q => n ⟨q.1, Or.inr (Or.inl q.2)⟩) (pm_uf_o (fun q => n ⟨q.1, Or.inl q.2⟩) rfl)), f1', f2', st', p', z1, z2, ?_, ?_, ?_, ?_⟩
  · exact (by first | assumption | (repeat (first | exact pm_up_e rfl | refine pm_up_o (by decide) ?_)) <;> assumption)
  · exact (by first | assumption | (repeat (first | exact pm_up_e rfl | refine pm_up_o (by decide) ?_)) <;> assumption)
  · exact (by first | assumption | (repeat (first | exact pm_up_e rfl | refine pm_up_o (by decide) ?_)) <;> assumption)
  · exact (by first | assumption | (repeat (first | exact pm_up_e rfl | refine pm_up_o (by decide) ?_)) <;> assumption)
/-- the first least of so many -/
def m_bst (c : Nat → Nat) : Nat → Nat
  | 0 => 0
  | k + 1 => if k = 0 ∨ c k < c (m_bst c k) then k else m_bst c k
theorem m_bst_lt (c : Nat → Nat) : ∀ k, 0 < k → m_bst c k < k
  | 0, h => by omega
  | k + 1, _ => by
    have := m_bst_lt c k
    unfold m_bst
    split <;> omega
theorem c_tellingRoute_n {a : Int32} {n : Nat} (I : pm_I h g) (et : g 1 1 = .int (nI n)) (hn : n ≤ 160) (ha : ¬ (1 ≤ a.toInt ∧ a.toInt ≤ 8 ∧ n % a.toInt.toNat = 0)) : pm_Met G mX7_tellingRoute [.ref 25, .int a] z z h g (pm_q (.int (-1)) h g) := by
  refine enX7_tellingRoute pm_le.rf ?_
  refine px_iload_n (i := 1) (pc' := 1) dX7_tellingRoute_0 rfl rfl rfl ?_
  refine px_iconst (v := 1) (pc' := 2) dX7_tellingRoute_1 rfl (by decide) ?_
  refine px_icmp_lt (tgt := 23) (pc' := 5) dX7_tellingRoute_2 (by decide) rfl (fun q => ?_) (fun q => ?_)
  · refine px_iconst (v := -1) (pc' := 24) dX7_tellingRoute_23 rfl (by decide) ?_
    exact px_iret dX7_tellingRoute_24 rfl rfl (⟨rfl, rfl, rfl⟩)
  rw [i_lt, l_1] at q
  refine px_iload_n (i := 1) (pc' := 6) dX7_tellingRoute_5 rfl rfl rfl ?_
  refine px_bipush (v := 8) (pc' := 8) dX7_tellingRoute_6 rfl (by decide) ?_
  refine px_icmp_gt (tgt := 23) (pc' := 11) dX7_tellingRoute_8 (by decide) rfl (fun q2 => ?_) (fun q2 => ?_)
  · refine px_iconst (v := -1) (pc' := 24) dX7_tellingRoute_23 rfl (by decide) ?_
    exact px_iret dX7_tellingRoute_24 rfl rfl (⟨rfl, rfl, rfl⟩)
  rw [i_lt, show (8 : Int32).toInt = 8 from by decide] at q2
  have ek : a = nI a.toInt.toNat := by rw [← iZ_n, Int.toNat_of_nonneg (by omega), iZ_i]
  generalize hk : a.toInt.toNat = k at ha ek
  have hmd := Nat.mod_le n k
  have hk1 : 1 ≤ k ∧ k ≤ 8 := by omega
  subst ek
  refine px_aload_n (i := 0) (pc' := 12) dX7_tellingRoute_11 rfl rfl rfl ?_
  refine pi_getr (pc' := 15) fl_7_45 dX7_tellingRoute_12 rfl (by repeat (first | assumption | refine pm_I.up ?_ rfl | refine pm_I.uf ?_ rfl)) rfl rfl ?_
  refine pi_callV (pc' := 18) (c_size I et) okX6_size ivX6_size ml_X7_49 ⟨Nat.le_of_ble_eq_true rfl, Nat.le_of_ble_eq_true rfl⟩ dX7_tellingRoute_15 rfl rfl rfl (Nat.le_of_ble_eq_true rfl) (by repeat (first | assumption | refine pm_I.up ?_ rfl | refine pm_I.uf ?_ rfl)) rfl cl_6 pm_le.rf pm_le.rf ?_
  rintro _ _ _ ⟨rfl, rfl, rfl⟩
  refine px_iload_n (i := 1) (pc' := 19) dX7_tellingRoute_18 rfl rfl rfl ?_
  refine px_irem (pc' := 20) dX7_tellingRoute_19 rfl (by rw [show (0 : Int32) = nI 0 from rfl, nI_eq (by omega) (by omega)]; omega) ?_
  rw [pk_rem (by omega) (by omega) (by omega)]
  refine px_if_eq (tgt := 25) (pc' := 23) dX7_tellingRoute_20 (by decide) rfl (fun q_ => absurd q_ (by rw [show (0 : Int32) = nI 0 from rfl, nI_eq (by omega) (by omega)]; omega)) (fun _ => ?_)
  refine px_iconst (v := -1) (pc' := 24) dX7_tellingRoute_23 rfl (by decide) ?_
  exact px_iret dX7_tellingRoute_24 rfl rfl (⟨rfl, rfl, rfl⟩)
theorem c_tellingRoute {w d e n k : Nat} {T f f1 f2 p st : Nat → Int32} (I : pm_I h g) (et : g 1 1 = .int (nI n)) (hn : n ≤ 160) (eT : h 2 = pm_ia 1 160 T) (e1 : g 3 1 = .int (nI w)) (e2 : g 3 2 = .int (nI d)) (hw : w ≤ 12) (hd : d ≤ 12) (e3 : h 4 = pm_ia 0 144 f) (hf : ∀ c, c < 144 → -1 ≤ (f c).toInt ∧ (f c).toInt ≤ 255) (e4 : h 26 = pm_ia 0 9 f1) (e5 : h 27 = pm_ia 0 9 f2) (z1 : f1 0 = 0) (z2 : f2 0 = 0) (e8 : h 29 = pm_ia 0 1296 p) (e9 : h 28 = pm_ia 0 144 st) (e10 : g 5 0 = .int (nI e)) (he : e ≤ 20) (hk : 1 ≤ k ∧ k ≤ 8) (hnk : n % k = 0) :
    pm_Met G mX7_tellingRoute [.ref 25, .int (nI k)] z z h g (fun r h' g' => m_scr h g h' g' ∧ ((¬ (∀ i, i < k → m_rt T (n / k * i) (n / k)) ∧ r = some (.int (-1))) ∨
      ((∀ i, i < k → m_rt T (n / k * i) (n / k)) ∧ r = some (.int (nI (m_bst (fun i => (m_all (m_tw w d e T f (n / k * i) (n / k / 2)) (w * d) (w * d)).1) k)))))) := by
  have hwd := m_wd hw hd
  generalize hc : (fun i => (m_all (m_tw w d e T f (n / k * i) (n / k / 2)) (w * d) (w * d)).1) = cf
  have hcf : ∀ i, (m_all (m_tw w d e T f (n / k * i) (n / k / 2)) (w * d) (w * d)).1 = cf i := fun i => by rw [← hc]
  have hcb : ∀ i, cf i ≤ 144 * 144 := fun i => by
    rw [← hcf]
    exact Nat.le_trans (m_all_bd (P := m_tw w d e T f (n / k * i) (n / k / 2)) (n := w * d) (by omega) (w * d) (Nat.le_refl _)).1 (Nat.mul_le_mul hwd hwd)
  have hnd : n = n / k * k := by
    have := Nat.div_add_mod n k
    rw [hnk, Nat.mul_comm] at this
    omega
  refine enX7_tellingRoute pm_le.rf ?_
  refine px_iload_n (i := 1) (pc' := 1) dX7_tellingRoute_0 rfl rfl rfl ?_
  refine px_iconst (v := 1) (pc' := 2) dX7_tellingRoute_1 rfl (by decide) ?_
  refine px_icmp_lt (tgt := 23) (pc' := 5) dX7_tellingRoute_2 (by decide) rfl (fun q_ => absurd q_ (nI_nlt (a := k) (b := 1) (by omega) (by omega))) (fun _ => ?_)
  refine px_iload_n (i := 1) (pc' := 6) dX7_tellingRoute_5 rfl rfl rfl ?_
  refine px_bipush (v := 8) (pc' := 8) dX7_tellingRoute_6 rfl (by decide) ?_
  refine px_icmp_gt (tgt := 23) (pc' := 11) dX7_tellingRoute_8 (by decide) rfl (fun q_ => absurd q_ (nI_nlt (a := 8) (b := k) (by omega) (by omega))) (fun _ => ?_)
  refine px_aload_n (i := 0) (pc' := 12) dX7_tellingRoute_11 rfl rfl rfl ?_
  refine pi_getr (pc' := 15) fl_7_45 dX7_tellingRoute_12 rfl (by repeat (first | assumption | refine pm_I.up ?_ rfl | refine pm_I.uf ?_ rfl)) rfl rfl ?_
  refine pi_callV (pc' := 18) (c_size I et) okX6_size ivX6_size ml_X7_49 ⟨Nat.le_of_ble_eq_true rfl, Nat.le_of_ble_eq_true rfl⟩ dX7_tellingRoute_15 rfl rfl rfl (Nat.le_of_ble_eq_true rfl) (by repeat (first | assumption | refine pm_I.up ?_ rfl | refine pm_I.uf ?_ rfl)) rfl cl_6 pm_le.rf pm_le.rf ?_
  rintro _ _ _ ⟨rfl, rfl, rfl⟩
  refine px_iload_n (i := 1) (pc' := 19) dX7_tellingRoute_18 rfl rfl rfl ?_
  refine px_irem (pc' := 20) dX7_tellingRoute_19 rfl (nI_ne0 (by omega) (by omega)) ?_
  rw [pk_rem (by omega) (by omega) (by omega), hnk]
  refine px_if_eq (tgt := 25) (pc' := 23) dX7_tellingRoute_20 (by decide) rfl (fun _ => ?_) (fun q_ => absurd (rfl) q_)
  refine px_aload_n (i := 0) (pc' := 26) dX7_tellingRoute_25 rfl rfl rfl ?_
  refine pi_getr (pc' := 29) fl_7_45 dX7_tellingRoute_26 rfl (by repeat (first | assumption | refine pm_I.up ?_ rfl | refine pm_I.uf ?_ rfl)) rfl rfl ?_
  refine pi_callV (pc' := 32) (c_size I et) okX6_size ivX6_size ml_X7_49 ⟨Nat.le_of_ble_eq_true rfl, Nat.le_of_ble_eq_true rfl⟩ dX7_tellingRoute_29 rfl rfl rfl (Nat.le_of_ble_eq_true rfl) (by repeat (first | assumption | refine pm_I.up ?_ rfl | refine pm_I.uf ?_ rfl)) rfl cl_6 pm_le.rf pm_le.rf ?_
  rintro _ _ _ ⟨rfl, rfl, rfl⟩
  refine px_iload_n (i := 1) (pc' := 33) dX7_tellingRoute_32 rfl rfl rfl ?_
  refine px_idiv (pc' := 34) dX7_tellingRoute_33 rfl (nI_ne0 (by omega) (by omega)) ?_
  rw [pk_div (by omega) (by omega) (by omega)]
  refine sx_i_n_7_2 (pc' := 35) dX7_tellingRoute_34 rfl rfl rfl rfl ?_
  refine px_iconst (v := -1) (pc' := 36) dX7_tellingRoute_35 rfl (by decide) ?_
  refine sx_i_n_7_3 (pc' := 37) dX7_tellingRoute_36 rfl rfl rfl rfl ?_
  refine px_iconst (v := 0) (pc' := 38) dX7_tellingRoute_37 rfl (by decide) ?_
  refine sx_i_7_4 (pc' := 40) dX7_tellingRoute_38 rfl rfl rfl ?_
  refine px_iconst (v := 0) (pc' := 41) dX7_tellingRoute_40 rfl (by decide) ?_
  refine sx_i_7_5 (pc' := 43) dX7_tellingRoute_41 rfl rfl rfl ?_
  generalize hl : n / k = l at *
  have hlb : l ≤ 160 := by rw [← hl]; exact Nat.le_trans (Nat.div_le_self n k) hn
  have sc0 : m_scr h g h g := ⟨fun _ _ _ _ _ => rfl, fun _ _ _ => rfl, f1, f2, st, p, z1, z2, e4, e5, e9, e8⟩
  have loop : ∀ q i : Nat, i + q = k → ∀ (h' : pm_h) (g' : pm_g), m_scr h g h' g' → (∀ j, j < i → m_rt T (l * j) l) → ∀ v6 : Value, v6.category = 1 → pm_W G mX7_tellingRoute z (pm_Φ G z (fun r h' g' => m_scr h g h' g' ∧ ((¬ (∀ i, i < k → m_rt T (l * i) l) ∧ r = some (.int (-1))) ∨ ((∀ i, i < k → m_rt T (l * i) l) ∧ r = some (.int (nI (m_bst cf k))))))) 43 [.ref 25, .int (nI k), .int (nI l), .int (if i = 0 then -1 else nI (m_bst cf i)), .int (if i = 0 then 0 else nI (cf (m_bst cf i))), .int (nI i), v6] [] z h' g' := by
    intro q
    induction q with
    | zero =>
      intro i hi h' g' sc hr v6 c6
      have : i = k := by omega
      subst this
      rw [if_neg (by omega)]
      refine px_iload (i := 5) (pc' := 45) dX7_tellingRoute_43 rfl rfl ?_
      refine px_iload_n (i := 1) (pc' := 46) dX7_tellingRoute_45 rfl rfl rfl ?_
      refine px_icmp_ge (tgt := 93) (pc' := 49) dX7_tellingRoute_46 (by decide) rfl (fun _ => ?_) (fun q_ => absurd (nI_le (Nat.le_refl _) (by omega)) q_)
      refine px_iload_n (i := 3) (pc' := 94) dX7_tellingRoute_93 rfl rfl rfl ?_
      exact px_iret dX7_tellingRoute_94 rfl rfl (⟨sc, Or.inr ⟨hr, rfl⟩⟩)
    | succ q ih =>
      intro i hi h' g' sc hr v6 c6
      obtain ⟨f1', f2', st', p', y1, y2, y3, y4, y5, y6⟩ := sc.2.2
      have I' := sc.I I
      have hil : l * i + l ≤ n := by
        have : l * (i + 1) ≤ l * k := Nat.mul_le_mul (Nat.le_refl l) (by omega)
        rw [Nat.mul_add, Nat.mul_one] at this
        omega
      have hcb1 := hcb i
      have nx := fun h2 g2 (s2 : m_scr h g h2 g2) (hr2 : m_rt T (l * i) l) (v : Value) (hv : v.category = 1) => ih (i + 1) (by omega) h2 g2 s2 (fun j hj => if hji : j = i then hji ▸ hr2 else hr j (by omega)) v hv
      rw [if_neg (show ¬ i + 1 = 0 by omega), if_neg (show ¬ i + 1 = 0 by omega)] at nx
      refine px_iload (i := 5) (pc' := 45) dX7_tellingRoute_43 rfl rfl ?_
      refine px_iload_n (i := 1) (pc' := 46) dX7_tellingRoute_45 rfl rfl rfl ?_
      refine px_icmp_ge (tgt := 93) (pc' := 49) dX7_tellingRoute_46 (by decide) rfl (fun q_ => absurd q_ (nI_ge (by omega) (by omega))) (fun _ => ?_)
      refine px_aload_n (i := 0) (pc' := 50) dX7_tellingRoute_49 rfl rfl rfl ?_
      refine px_iload (i := 5) (pc' := 52) dX7_tellingRoute_50 rfl rfl ?_
      refine px_iload_n (i := 2) (pc' := 53) dX7_tellingRoute_52 rfl rfl rfl ?_
      refine px_imul (pc' := 54) dX7_tellingRoute_53 rfl ?_
      rw [pk_mul, Nat.mul_comm i l]
      refine px_iload_n (i := 2) (pc' := 55) dX7_tellingRoute_54 rfl rfl rfl ?_
      refine pi_callV (pc' := 58) (c_countTwins (sc.I I) ((sc.2.1 1 1 (by decide)).trans et) hn ((sc.1 2 (by decide) (by decide) (by decide) (by decide)).trans eT) hil ((sc.2.1 3 1 (by decide)).trans e1) ((sc.2.1 3 2 (by decide)).trans e2) hw hd ((sc.1 4 (by decide) (by decide) (by decide) (by decide)).trans e3) hf y3 y4 y1 y2 y6 y5 ((sc.2.1 5 0 (by decide)).trans e10) he) okX7_countTwins ivX7_countTwins ml_X7_55 ⟨Nat.le_of_ble_eq_true rfl, Nat.le_of_ble_eq_true rfl⟩ dX7_tellingRoute_55 rfl rfl rfl (Nat.le_of_ble_eq_true rfl) (by repeat (first | assumption | refine pm_I.up ?_ rfl | refine pm_I.uf ?_ rfl)) rfl cl_7 pm_le.rf pm_le.rf ?_
      rintro _ h2 g2 (⟨hrt, rfl, v, hj⟩ | ⟨hrt, rfl, hj⟩)
      · refine sx_i_7_6 (pc' := 60) dX7_tellingRoute_58 rfl rfl rfl ?_
        refine px_iload (i := 6) (pc' := 62) dX7_tellingRoute_60 rfl rfl ?_
        refine px_iconst (v := -1) (pc' := 63) dX7_tellingRoute_62 rfl (by decide) ?_
        refine px_icmp_ne (tgt := 68) (pc' := 66) dX7_tellingRoute_63 (by decide) rfl (fun q_ => absurd (rfl) q_) (fun _ => ?_)
        refine px_iconst (v := -1) (pc' := 67) dX7_tellingRoute_66 rfl (by decide) ?_
        exact px_iret dX7_tellingRoute_67 rfl rfl (⟨sc.trans (hj.scr y5 y6), Or.inl ⟨fun hh => hrt (hh i (by omega)), rfl⟩⟩)
      · rw [hcf]
        have s2 := sc.trans hj.scr
        refine sx_i_7_6 (pc' := 60) dX7_tellingRoute_58 rfl rfl rfl ?_
        refine px_iload (i := 6) (pc' := 62) dX7_tellingRoute_60 rfl rfl ?_
        refine px_iconst (v := -1) (pc' := 63) dX7_tellingRoute_62 rfl (by decide) ?_
        refine px_icmp_ne (tgt := 68) (pc' := 66) dX7_tellingRoute_63 (by decide) rfl (fun _ => ?_) (fun q_ => absurd q_ (by rw [i_eq, nI_toInt (by omega), l_m1]; omega))
        refine px_iload_n (i := 3) (pc' := 69) dX7_tellingRoute_68 rfl rfl rfl ?_
        refine px_iconst (v := -1) (pc' := 70) dX7_tellingRoute_69 rfl (by decide) ?_
        by_cases hi0 : i = 0
        · subst hi0
          rw [show m_bst cf (0 + 1) = 0 from rfl] at nx
          refine px_icmp_eq (tgt := 80) (pc' := 73) dX7_tellingRoute_70 (by decide) rfl (fun _ => ?_) (fun q_ => absurd (rfl) q_)
          refine px_iload (i := 5) (pc' := 82) dX7_tellingRoute_80 rfl rfl ?_
          refine sx_i_n_7_3 (pc' := 83) dX7_tellingRoute_82 rfl rfl rfl rfl ?_
          refine px_iload (i := 6) (pc' := 85) dX7_tellingRoute_83 rfl rfl ?_
          refine sx_i_7_4 (pc' := 87) dX7_tellingRoute_85 rfl rfl rfl ?_
          refine sx_inc_7_5 (w := 1) (pc' := 90) dX7_tellingRoute_87 rfl rfl (by decide) rfl ?_
          refine px_goto (tgt := 43) dX7_tellingRoute_90 (by decide) ?_
          rw [nI_1]
          exact nx h2 g2 s2 hrt _ rfl
        · have hbl := m_bst_lt cf i (by omega)
          have hcb2 := hcb (m_bst cf i)
          rw [if_neg hi0, if_neg hi0]
          refine px_icmp_eq (tgt := 80) (pc' := 73) dX7_tellingRoute_70 (by decide) rfl (fun q_ => absurd q_ (by rw [i_eq, nI_toInt (by omega), l_m1]; omega)) (fun _ => ?_)
          refine px_iload (i := 6) (pc' := 75) dX7_tellingRoute_73 rfl rfl ?_
          refine px_iload (i := 4) (pc' := 77) dX7_tellingRoute_75 rfl rfl ?_
          refine px_icmp_ge (tgt := 87) (pc' := 80) dX7_tellingRoute_77 (by decide) rfl (fun q2 => ?_) (fun q2 => ?_)
          · rw [nI_leI (by omega) (by omega)] at q2
            rw [show m_bst cf (i + 1) = m_bst cf i from if_neg (by omega)] at nx
            refine sx_inc_7_5 (w := 1) (pc' := 90) dX7_tellingRoute_87 rfl rfl (by decide) rfl ?_
            refine px_goto (tgt := 43) dX7_tellingRoute_90 (by decide) ?_
            rw [nI_1]
            exact nx h2 g2 s2 hrt _ rfl
          · rw [nI_leI (by omega) (by omega)] at q2
            rw [show m_bst cf (i + 1) = i from if_pos (by omega)] at nx
            refine px_iload (i := 5) (pc' := 82) dX7_tellingRoute_80 rfl rfl ?_
            refine sx_i_n_7_3 (pc' := 83) dX7_tellingRoute_82 rfl rfl rfl rfl ?_
            refine px_iload (i := 6) (pc' := 85) dX7_tellingRoute_83 rfl rfl ?_
            refine sx_i_7_4 (pc' := 87) dX7_tellingRoute_85 rfl rfl rfl ?_
            refine sx_inc_7_5 (w := 1) (pc' := 90) dX7_tellingRoute_87 rfl rfl (by decide) rfl ?_
            refine px_goto (tgt := 43) dX7_tellingRoute_90 (by decide) ?_
            rw [nI_1]
            exact nx h2 g2 s2 hrt _ rfl
  exact loop k 0 (by omega) h g sc0 (fun j hj => by omega) pm_u rfl
end TS
