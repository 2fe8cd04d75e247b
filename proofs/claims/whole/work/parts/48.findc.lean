section FNC
variable {G : pm_G} {z : pm_z} {h : pm_h} {g : pm_g}
theorem c_findBest {w d a0 a1 nr lg : Nat} {lx ly η ra rv pa b1 b3 b5 : Nat → Int32} {b2 b4 : Nat → Int64} {st : Int32} (I : pm_I h g) (e1 : g 3 1 = .int (nI w)) (e2 : g 3 2 = .int (nI d)) (hw0 : 0 < w) (hw : w ≤ 12) (hd : d ≤ 12) (e3 : g 5 1 = .int (nI a0)) (e4 : g 5 2 = .int (nI a1)) (h0 : a0 ≤ 3) (h1 : a1 ≤ 1) (hlg : lg ≤ 12) (hmv : ∀ s, s < lg → m_mv (lx s) (ly s))
    (e5 : g 6 5 = .int (nI nr)) (hnr : nr ≤ 40) (e6 : g 6 4 = .int (nI lg)) (e7 : g 6 6 = .int st) (f7 : h 7 = pm_ia 0 12 lx) (f8 : h 8 = pm_ia 0 12 ly) (f9 : h 9 = pm_ia 0 40 rv) (f10 : h 10 = pm_ia 0 40 ra) (hv : ∀ i, i < nr → 0 ≤ (rv i).toInt ∧ (rv i).toInt ≤ 255) (f4 : h 4 = pm_ia 0 144 (m_hc η)) (hb : ∀ c, c < 144 → m_bok (η c)) (hE : ∀ t j, b_E ra rv η nr t j ≤ 10200)
    (f19 : h 19 = pm_ia 0 144 b1) (f20 : h 20 = pm_la 144 b2) (f21 : h 21 = pm_ia 0 144 b3) (f22 : h 22 = pm_la 144 b4) (f23 : h 23 = pm_ia 0 1728 b5) (f24 : h 24 = pm_ia 0 13 pa) :
    pm_Met G mX4_findBest [.ref 18] z z h g (fun r h' g' => b_Left h h' ∧ pm_I h' g' ∧
      ((r = some (.int (-1)) ∧ g' = g ∧ h' 24 = h 24 ∧ ¬ ∃ q : Nat → Nat, b_St st (q 0) ∧ b_ok (w * d) (b_V w a0 a1 lx ly) 0 lg q) ∨
       ∃ (p : Nat → Nat) (pa' : Nat → Int32), b_top (w * d) (b_E ra rv η nr) (b_V w a0 a1 lx ly) (b_St st) lg p ∧ r = some (.int (nI (b_fl (b_E ra rv η nr) 0 p lg))) ∧ g' = pm_uf g 18 9 (.int (nI (lg + 1))) ∧ h' 24 = pm_ia 0 13 pa' ∧ ∀ t, t ≤ lg → pa' t = nI (p t))) := by
  have hwd := m_wd hw hd
  refine enX4_findBest pm_le.rf ?_
  refine px_aload_n (i := 0) (pc' := 1) dX4_findBest_0 rfl rfl rfl ?_
  refine pi_callV (pc' := 4) (c_rateEnds I e1 e2 hw hd hlg f19 f20 e5 hnr e6 f9 f10 hv f4 hb) okX4_rateEnds ivX4_rateEnds ml_X4_47 ⟨Nat.le_of_ble_eq_true rfl, Nat.le_of_ble_eq_true rfl⟩ dX4_findBest_1 rfl rfl rfl (Nat.le_of_ble_eq_true rfl) (by repeat (first | assumption | refine pm_I.up ?_ rfl | refine pm_I.uf ?_ rfl)) rfl cl_4 pm_le.rf pm_le.rf ?_
  rintro _ _ _ ⟨rfl, rfl, rfl⟩
  refine px_aload_n (i := 0) (pc' := 5) dX4_findBest_4 rfl rfl rfl ?_
  refine pi_getr (pc' := 8) fl_4_43 dX4_findBest_5 rfl (by repeat (first | assumption | refine pm_I.up ?_ rfl | refine pm_I.uf ?_ rfl)) rfl rfl ?_
  refine pi_callV (pc' := 11) (c_moves (by repeat (first | assumption | refine pm_I.up ?_ rfl | refine pm_I.uf ?_ rfl)) e6) okX5_moves ivX5_moves ml_X4_50 ⟨Nat.le_of_ble_eq_true rfl, Nat.le_of_ble_eq_true rfl⟩ dX4_findBest_8 rfl rfl rfl (Nat.le_of_ble_eq_true rfl) (by repeat (first | assumption | refine pm_I.up ?_ rfl | refine pm_I.uf ?_ rfl)) rfl cl_5 pm_le.rf pm_le.rf ?_
  rintro _ _ _ ⟨rfl, rfl, rfl⟩
  refine px_iconst (v := 1) (pc' := 12) dX4_findBest_11 rfl (by decide) ?_
  refine px_isub (pc' := 13) dX4_findBest_12 rfl ?_
  rw [show nI lg - 1 = iZ ((lg : Int) - 1) by rw [← iZ_n, show (1 : Int32) = iZ 1 from rfl, iZ_sub]]
  refine sx_i_n_2_1 (pc' := 14) dX4_findBest_13 rfl rfl rfl rfl ?_
  refine c_findLoop (lx := lx) (ly := ly) (η := η) (ra := ra) (rv := rv) e1 e2 hw0 hw hd e3 e4 h0 h1 hlg hmv e5 hnr e6 f7 f8 f9 f10 hv f4 hb hE (fun h2 SD => ?_) lg (Nat.le_refl _) _ ?_
  · exact c_findEnd (lx := lx) (ly := ly) (pa := pa) hw0 hw hd hlg e6 e7 f24 hE SD
  · refine ⟨(by repeat (first | assumption | refine pm_I.up ?_ rfl | refine pm_I.uf ?_ rfl)), fun a n1 n2 n3 n4 n5 => by rw [pm_up_n _ _ n2, pm_up_n _ _ n1], _, b3, b5, _, b4, (by first | assumption | (repeat (first | exact pm_up_e rfl | refine pm_up_o (by decide) ?_ | apply pm_up_o (by decide))) <;> assumption), (by first | assumption | (repeat (first | exact pm_up_e rfl | refine pm_up_o (by decide) ?_ | apply pm_up_o (by decide))) <;> assumption), (by first | assumption | (repeat (first | exact pm_up_e rfl | refine pm_up_o (by decide) ?_ | apply pm_up_o (by decide))) <;> assumption), (by first | assumption | (repeat (first | exact pm_up_e rfl | refine pm_up_o (by decide) ?_ | apply pm_up_o (by decide))) <;> assumption), (by first | assumption | (repeat (first | exact pm_up_e rfl | refine pm_up_o (by decide) ?_ | apply pm_up_o (by decide))) <;> assumption), ?_, fun j hj => ?_, fun i hi hi2 => ?_⟩
    · rw [Nat.sub_self]
      refine b_D_0 fun j hj => ?_
      rw [if_pos (by omega), if_pos hj]
    · exact Nat.pow_pos (by omega)
    · rw [if_pos hi2, if_neg (by omega)]
end FNC
