section ENDS
variable {G : pm_G} {z : pm_z} {h : pm_h} {g : pm_g}
theorem c_rateEnds {w d nr lg : Nat} {b1 η ra rv : Nat → Int32} {b2 : Nat → Int64} (I : pm_I h g) (e1 : g 3 1 = .int (nI w)) (e2 : g 3 2 = .int (nI d)) (hw : w ≤ 12) (hd : d ≤ 12) (hlg : lg ≤ 12) (f19 : h 19 = pm_ia 0 144 b1) (f20 : h 20 = pm_la 144 b2)
    (e5 : g 6 5 = .int (nI nr)) (hnr : nr ≤ 40) (e6 : g 6 4 = .int (nI lg)) (f9 : h 9 = pm_ia 0 40 rv) (f10 : h 10 = pm_ia 0 40 ra) (hv : ∀ i, i < nr → 0 ≤ (rv i).toInt ∧ (rv i).toInt ≤ 255) (f4 : h 4 = pm_ia 0 144 (m_hc η)) (hb : ∀ c, c < 144 → m_bok (η c)) :
    pm_Met G mX4_rateEnds [.ref 18] z z h g (pm_qv (pm_up (pm_up h 19 (pm_ia 0 144 (fun j => if j < 144 then (if j < w * d then nI (b_E ra rv η nr lg j) else -1) else b1 j))) 20 (pm_la 144 (m_L (fun _ => 1)))) g) := by
  have hwd := m_wd hw hd
  refine enX4_rateEnds pm_le.rf ?_
  generalize hΦ : (pm_Φ G z (pm_qv (pm_up (pm_up h 19 (pm_ia 0 144 (fun j => if j < 144 then (if j < w * d then nI (b_E ra rv η nr lg j) else -1) else b1 j))) 20 (pm_la 144 (m_L (fun _ => 1)))) g)) = Φ
  refine px_iconst (v := 0) (pc' := 1) dX4_rateEnds_0 rfl (by decide) ?_
  refine sx_i_n_2_1 (pc' := 2) dX4_rateEnds_1 rfl rfl rfl rfl ?_
  have loop : ∀ k i : Nat, i + k = 144 → pm_W G mX4_rateEnds z Φ 2 [.ref 18, .int (nI i)] [] z (pm_up (pm_up h 19 (pm_ia 0 144 (fun j => if j < i then (if j < w * d then nI (b_E ra rv η nr lg j) else -1) else b1 j))) 20 (pm_la 144 (fun j => if j < i then lN 1 else b2 j))) g := by
    intro k
    induction k with
    | zero =>
      intro i hi
      obtain rfl : i = 144 := by omega
      refine px_iload_n (i := 1) (pc' := 3) dX4_rateEnds_2 rfl rfl rfl ?_
      refine px_sipush (v := 144) (pc' := 6) dX4_rateEnds_3 rfl (by decide) ?_
      refine px_icmp_ge (tgt := 65) (pc' := 9) dX4_rateEnds_6 (by decide) rfl (fun _ => ?_) (fun q_ => absurd (nI_le (a := 144) (by omega) (by omega)) q_)
      refine px_extl (a := 20) (by first | assumption | (repeat (first | exact pm_up_e rfl | refine pm_up_o (by decide) ?_ | apply pm_up_o (by decide))) <;> assumption) (f' := m_L (fun _ => 1)) (fun j hj => if_pos hj) ?_
      rw [pm_up_up]
      subst hΦ
      exact px_vret dX4_rateEnds_65 rfl rfl (⟨rfl, rfl, rfl⟩)
    | succ k ih =>
      intro i hi
      have hil : (nI i).toNatClampNeg = i := nI_clamp (by omega)
      have hii : (nI i).toInt = i := nI_toInt (by omega)
      have fin : ∀ v : Int32, v = (if i < w * d then nI (b_E ra rv η nr lg i) else -1) → pm_W G mX4_rateEnds z Φ 51 [.ref 18, .int (nI i)] [.int v, .int (nI i), .ref 19] z (pm_up (pm_up h 19 (pm_ia 0 144 (fun j => if j < i then (if j < w * d then nI (b_E ra rv η nr lg j) else -1) else b1 j))) 20 (pm_la 144 (fun j => if j < i then lN 1 else b2 j))) g := by
        intro v hv'
        refine px_iast (pc' := 52) dX4_rateEnds_51 rfl (by first | assumption | (repeat (first | exact pm_up_e rfl | refine pm_up_o (by decide) ?_ | apply pm_up_o (by decide))) <;> assumption) (vp_in_nI (by omega) (by omega)) ?_
        refine px_aload_n (i := 0) (pc' := 53) dX4_rateEnds_52 rfl rfl rfl ?_
        refine pi_getr (pc' := 56) fl_4_15 dX4_rateEnds_53 rfl (by repeat (first | assumption | refine pm_I.up ?_ rfl | refine pm_I.uf ?_ rfl)) rfl rfl ?_
        refine px_iload_n (i := 1) (pc' := 57) dX4_rateEnds_56 rfl rfl rfl ?_
        refine px_lconst (v := 1) (pc' := 58) dX4_rateEnds_57 rfl (by decide) ?_
        refine px_last (pc' := 59) dX4_rateEnds_58 rfl (by first | assumption | (repeat (first | exact pm_up_e rfl | refine pm_up_o (by decide) ?_ | apply pm_up_o (by decide))) <;> assumption) (vp_in_nI (by omega) (by omega)) ?_
        refine sx_inc_2_1 (w := 1) (pc' := 62) dX4_rateEnds_59 rfl rfl (by decide) rfl ?_
        refine px_goto (tgt := 2) dX4_rateEnds_62 (by decide) ?_
        rw [hil, pm_up_comm (a := 20) (b := 19) _ _ _ (by decide), pm_up_up, pm_up_up, upd_fill hv', nI_1, show vp_updL (fun j => if j < i then lN 1 else b2 j) i 1 = (fun j => if j < i + 1 then lN 1 else b2 j) from funext fun j => by
          show (if j = i then (1 : Int64) else if j < i then lN 1 else b2 j) = _
          by_cases hj : j = i
          · subst hj; rw [if_pos rfl, if_pos (by omega)]; rfl
          · rw [if_neg hj]
            by_cases hl : j < i
            · rw [if_pos hl, if_pos (by omega)]
            · rw [if_neg hl, if_neg (by omega)]]
        exact ih (i + 1) (by omega)
      refine px_iload_n (i := 1) (pc' := 3) dX4_rateEnds_2 rfl rfl rfl ?_
      refine px_sipush (v := 144) (pc' := 6) dX4_rateEnds_3 rfl (by decide) ?_
      refine px_icmp_ge (tgt := 65) (pc' := 9) dX4_rateEnds_6 (by decide) rfl (fun q_ => absurd q_ (nI_ge (b := 144) (a := i) (by omega) (by omega))) (fun _ => ?_)
      refine px_aload_n (i := 0) (pc' := 10) dX4_rateEnds_9 rfl rfl rfl ?_
      refine pi_getr (pc' := 13) fl_4_9 dX4_rateEnds_10 rfl (by repeat (first | assumption | refine pm_I.up ?_ rfl | refine pm_I.uf ?_ rfl)) rfl rfl ?_
      refine px_iload_n (i := 1) (pc' := 14) dX4_rateEnds_13 rfl rfl rfl ?_
      refine px_aload_n (i := 0) (pc' := 15) dX4_rateEnds_14 rfl rfl rfl ?_
      refine pi_getr (pc' := 18) fl_4_35 dX4_rateEnds_15 rfl (by repeat (first | assumption | refine pm_I.up ?_ rfl | refine pm_I.uf ?_ rfl)) rfl rfl ?_
      refine px_iload_n (i := 1) (pc' := 19) dX4_rateEnds_18 rfl rfl rfl ?_
      refine pi_callV (pc' := 22) (c_has (by repeat (first | assumption | refine pm_I.up ?_ rfl | refine pm_I.uf ?_ rfl)) e1 e2 hw hd) okX3_has ivX3_has ml_X4_72 ⟨Nat.le_of_ble_eq_true rfl, Nat.le_of_ble_eq_true rfl⟩ dX4_rateEnds_19 rfl rfl rfl (Nat.le_of_ble_eq_true rfl) (by repeat (first | assumption | refine pm_I.up ?_ rfl | refine pm_I.uf ?_ rfl)) rfl cl_3 pm_le.rf pm_le.rf ?_
      rintro _ _ _ ⟨rfl, rfl, rfl⟩
      refine px_if_eq (tgt := 50) (pc' := 25) dX4_rateEnds_22 (by decide) rfl (fun q => ?_) (fun q => ?_)
      · have q := b_0.mp q
        refine px_iconst (v := -1) (pc' := 51) dX4_rateEnds_50 rfl (by decide) ?_
        exact fin (-1) (by rw [if_neg (by omega)])
      · have q := b_n0.mp q
        refine px_aload_n (i := 0) (pc' := 26) dX4_rateEnds_25 rfl rfl rfl ?_
        refine pi_getr (pc' := 29) fl_4_43 dX4_rateEnds_26 rfl (by repeat (first | assumption | refine pm_I.up ?_ rfl | refine pm_I.uf ?_ rfl)) rfl rfl ?_
        refine px_aload_n (i := 0) (pc' := 30) dX4_rateEnds_29 rfl rfl rfl ?_
        refine pi_getr (pc' := 33) fl_4_43 dX4_rateEnds_30 rfl (by repeat (first | assumption | refine pm_I.up ?_ rfl | refine pm_I.uf ?_ rfl)) rfl rfl ?_
        refine pi_callV (pc' := 36) (c_moves (by repeat (first | assumption | refine pm_I.up ?_ rfl | refine pm_I.uf ?_ rfl)) e6) okX5_moves ivX5_moves ml_X4_50 ⟨Nat.le_of_ble_eq_true rfl, Nat.le_of_ble_eq_true rfl⟩ dX4_rateEnds_33 rfl rfl rfl (Nat.le_of_ble_eq_true rfl) (by repeat (first | assumption | refine pm_I.up ?_ rfl | refine pm_I.uf ?_ rfl)) rfl cl_5 pm_le.rf pm_le.rf ?_
        rintro _ _ _ ⟨rfl, rfl, rfl⟩
        refine px_aload_n (i := 0) (pc' := 37) dX4_rateEnds_36 rfl rfl rfl ?_
        refine pi_getr (pc' := 40) fl_4_35 dX4_rateEnds_37 rfl (by repeat (first | assumption | refine pm_I.up ?_ rfl | refine pm_I.uf ?_ rfl)) rfl rfl ?_
        refine px_iload_n (i := 1) (pc' := 41) dX4_rateEnds_40 rfl rfl rfl ?_
        refine pi_callV (pc' := 44) (c_heightOf (by repeat (first | assumption | refine pm_I.up ?_ rfl | refine pm_I.uf ?_ rfl)) e1 e2 (by first | assumption | (repeat (first | exact pm_up_e rfl | refine pm_up_o (by decide) ?_ | apply pm_up_o (by decide))) <;> assumption) hw hd) okX3_heightOf ivX3_heightOf ml_X4_78 ⟨Nat.le_of_ble_eq_true rfl, Nat.le_of_ble_eq_true rfl⟩ dX4_rateEnds_41 rfl rfl rfl (Nat.le_of_ble_eq_true rfl) (by repeat (first | assumption | refine pm_I.up ?_ rfl | refine pm_I.uf ?_ rfl)) rfl cl_3 pm_le.rf pm_le.rf ?_
        rintro _ _ _ ⟨rfl, rfl, rfl⟩
        rw [hii, if_pos ⟨by omega, by omega⟩, Int.toNat_natCast]
        refine pi_callV (pc' := 47) (c_faultAt (by repeat (first | assumption | refine pm_I.up ?_ rfl | refine pm_I.uf ?_ rfl)) e5 hnr (by first | assumption | (repeat (first | exact pm_up_e rfl | refine pm_up_o (by decide) ?_ | apply pm_up_o (by decide))) <;> assumption) (by first | assumption | (repeat (first | exact pm_up_e rfl | refine pm_up_o (by decide) ?_ | apply pm_up_o (by decide))) <;> assumption) hv (m_hc_bd (hb i (by omega)))) okX5_faultAt ivX5_faultAt ml_X4_82 ⟨Nat.le_of_ble_eq_true rfl, Nat.le_of_ble_eq_true rfl⟩ dX4_rateEnds_44 rfl rfl rfl (Nat.le_of_ble_eq_true rfl) (by repeat (first | assumption | refine pm_I.up ?_ rfl | refine pm_I.uf ?_ rfl)) rfl cl_5 pm_le.rf pm_le.rf ?_
        rintro _ _ _ ⟨rfl, rfl, rfl⟩
        refine px_goto (tgt := 51) dX4_rateEnds_47 (by decide) ?_
        rw [b_E_c hnr hv (hb i (by omega)) (by omega)]
        exact fin _ (by rw [if_pos (by omega)])
  have := loop 144 0 (by omega)
  rw [fill_0, pm_up_self f19, show (fun j => if j < 0 then lN 1 else b2 j) = b2 from funext fun j => if_neg (Nat.not_lt_zero j), pm_up_self f20] at this
  exact this
end ENDS
