section FND
variable {G : pm_G} {z : pm_z} {h : pm_h} {g : pm_g}
/-- the stage s is done -/
def b_SD (w d a0 a1 lg s : Nat) (lx ly : Nat → Int32) (E : Nat → Nat → Nat) (h : pm_h) (g : pm_g) (h1 : pm_h) : Prop :=
  pm_I h1 g ∧ (∀ a, a ≠ 19 → a ≠ 20 → a ≠ 21 → a ≠ 22 → a ≠ 23 → h1 a = h a) ∧ ∃ (cf lf fol : Nat → Int32) (C : Nat → Nat) (LW : Nat → Int64), h1 19 = pm_ia 0 144 cf ∧ h1 20 = pm_la 144 (m_L C) ∧ h1 21 = pm_ia 0 144 lf ∧ h1 22 = pm_la 144 LW ∧ h1 23 = pm_ia 0 1728 fol ∧
    b_D (w * d) E (b_V w a0 a1 lx ly) (lg - s) s cf C fol ∧ (∀ j, j < 144 → C j ≤ 9 ^ (lg - s)) ∧ (∀ i, w * d ≤ i → i < 144 → cf i = -1)
theorem va_cpy_l {c n : Nat} {a b : Nat → Int64} {j : Nat} (hj : j < n) (hc : c = n) : va_cpy a b 0 0 c j = a j := by
  subst hc
  unfold va_cpy
  simp [hj]
theorem va_cpy_i {c n : Nat} {a b : Nat → Int32} {j : Nat} (hj : j < n) (hc : c = n) : va_cpy a b 0 0 c j = a j := by
  subst hc
  unfold va_cpy
  simp [hj]
theorem c_findLoop {Φ : pm_F} {w d a0 a1 nr lg : Nat} {lx ly η ra rv : Nat → Int32} (e1 : g 3 1 = .int (nI w)) (e2 : g 3 2 = .int (nI d)) (hw0 : 0 < w) (hw : w ≤ 12) (hd : d ≤ 12) (e3 : g 5 1 = .int (nI a0)) (e4 : g 5 2 = .int (nI a1)) (h0 : a0 ≤ 3) (h1 : a1 ≤ 1) (hlg : lg ≤ 12) (hmv : ∀ s, s < lg → m_mv (lx s) (ly s))
    (e5 : g 6 5 = .int (nI nr)) (hnr : nr ≤ 40) (e6 : g 6 4 = .int (nI lg)) (f7 : h 7 = pm_ia 0 12 lx) (f8 : h 8 = pm_ia 0 12 ly) (f9 : h 9 = pm_ia 0 40 rv) (f10 : h 10 = pm_ia 0 40 ra) (hv : ∀ i, i < nr → 0 ≤ (rv i).toInt ∧ (rv i).toInt ≤ 255) (f4 : h 4 = pm_ia 0 144 (m_hc η)) (hb : ∀ c, c < 144 → m_bok (η c)) (hE : ∀ t j, b_E ra rv η nr t j ≤ 10200)
    (K : ∀ h1 : pm_h, b_SD w d a0 a1 lg 0 lx ly (b_E ra rv η nr) h g h1 → pm_W G mX4_findBest z Φ 61 [.ref 18, .int (-1)] [] z h1 g) :
    ∀ s, s ≤ lg → ∀ h1 : pm_h, b_SD w d a0 a1 lg s lx ly (b_E ra rv η nr) h g h1 → pm_W G mX4_findBest z Φ 14 [.ref 18, .int (iZ ((s : Int) - 1))] [] z h1 g := by
  have hwd := m_wd hw hd
  intro s
  induction s with
  | zero =>
    intro hs h2 SD
    refine px_iload_n (i := 1) (pc' := 15) dX4_findBest_14 rfl rfl rfl ?_
    refine px_if_lt (tgt := 61) (pc' := 18) dX4_findBest_15 (by decide) rfl (fun _ => ?_) (fun q_ => absurd (by decide) q_)
    exact K h2 SD
  | succ s ih =>
    intro hs h2 SD
    obtain ⟨I2, fr, cf, lf, fol, C, LW, s1, s2, s3, s4, s5, D, hC, hcf⟩ := id SD
    rw [show ((s + 1 : Nat) : Int) - 1 = (s : Int) by omega, iZ_n]
    refine px_iload_n (i := 1) (pc' := 15) dX4_findBest_14 rfl rfl rfl ?_
    refine px_if_lt (tgt := 61) (pc' := 18) dX4_findBest_15 (by decide) rfl (fun q_ => absurd q_ (nI_pos (by omega))) (fun _ => ?_)
    refine px_aload_n (i := 0) (pc' := 19) dX4_findBest_18 rfl rfl rfl ?_
    refine pi_getr (pc' := 22) fl_4_9 dX4_findBest_19 rfl (by repeat (first | assumption | refine pm_I.up ?_ rfl | refine pm_I.uf ?_ rfl)) rfl rfl ?_
    refine px_iconst (v := 0) (pc' := 23) dX4_findBest_22 rfl (by decide) ?_
    refine px_aload_n (i := 0) (pc' := 24) dX4_findBest_23 rfl rfl rfl ?_
    refine pi_getr (pc' := 27) fl_4_19 dX4_findBest_24 rfl (by repeat (first | assumption | refine pm_I.up ?_ rfl | refine pm_I.uf ?_ rfl)) rfl rfl ?_
    refine px_iconst (v := 0) (pc' := 28) dX4_findBest_27 rfl (by decide) ?_
    refine px_sipush (v := 144) (pc' := 31) dX4_findBest_28 rfl (by decide) ?_
    refine px_copyi (pc' := 34) ml_X4_56 wd_cp_n wd_cp_s wd_ini_sys dX4_findBest_31 rfl (Nat.le_of_ble_eq_true rfl) (Nat.le_of_ble_eq_true rfl) (by first | assumption | (repeat (first | exact pm_up_e rfl | refine pm_up_o (by decide) ?_ | apply pm_up_o (by decide))) <;> assumption) (by first | assumption | (repeat (first | exact pm_up_e rfl | refine pm_up_o (by decide) ?_ | apply pm_up_o (by decide))) <;> assumption) (by decide) (by decide) (by decide) (by decide) (by decide) ?_
    refine px_aload_n (i := 0) (pc' := 35) dX4_findBest_34 rfl rfl rfl ?_
    refine pi_getr (pc' := 38) fl_4_15 dX4_findBest_35 rfl (by repeat (first | assumption | refine pm_I.up ?_ rfl | refine pm_I.uf ?_ rfl)) rfl rfl ?_
    refine px_iconst (v := 0) (pc' := 39) dX4_findBest_38 rfl (by decide) ?_
    refine px_aload_n (i := 0) (pc' := 40) dX4_findBest_39 rfl rfl rfl ?_
    refine pi_getr (pc' := 43) fl_4_22 dX4_findBest_40 rfl (by repeat (first | assumption | refine pm_I.up ?_ rfl | refine pm_I.uf ?_ rfl)) rfl rfl ?_
    refine px_iconst (v := 0) (pc' := 44) dX4_findBest_43 rfl (by decide) ?_
    refine px_sipush (v := 144) (pc' := 47) dX4_findBest_44 rfl (by decide) ?_
    refine px_copyl (pc' := 50) ml_X4_56 wd_cp_n wd_cp_s wd_ini_sys dX4_findBest_47 rfl (Nat.le_of_ble_eq_true rfl) (Nat.le_of_ble_eq_true rfl) (by first | assumption | (repeat (first | exact pm_up_e rfl | refine pm_up_o (by decide) ?_ | apply pm_up_o (by decide))) <;> assumption) (by first | assumption | (repeat (first | exact pm_up_e rfl | refine pm_up_o (by decide) ?_ | apply pm_up_o (by decide))) <;> assumption) (by decide) (by decide) (by decide) (by decide) (by decide) ?_
    refine px_exti (a := 21) (by first | assumption | (repeat (first | exact pm_up_e rfl | refine pm_up_o (by decide) ?_ | apply pm_up_o (by decide))) <;> assumption) (f' := cf) (fun j hj => va_cpy_i hj rfl) ?_
    refine px_extl (a := 22) (by first | assumption | (repeat (first | exact pm_up_e rfl | refine pm_up_o (by decide) ?_ | apply pm_up_o (by decide))) <;> assumption) (f' := m_L C) (fun j hj => va_cpy_l hj rfl) ?_
    have fx := fun a (n : a < 19) => fr a (by omega) (by omega) (by omega) (by omega) (by omega)
    have e9 : lg - s = lg - (s + 1) + 1 := by omega
    refine px_aload_n (i := 0) (pc' := 51) dX4_findBest_50 rfl rfl rfl ?_
    refine px_iload_n (i := 1) (pc' := 52) dX4_findBest_51 rfl rfl rfl ?_
    refine pi_callV (pc' := 55) (c_stepBack (lg := lg) (s := s) (n := lg - (s + 1)) (lx := lx) (ly := ly) (η := η) (ra := ra) (rv := rv) (LW := C) (C0 := C) (by repeat (first | assumption | refine pm_I.up ?_ rfl | refine pm_I.uf ?_ rfl)) e1 e2 hw hd e3 e4 h0 h1 (by omega) hlg (by omega) (hmv s (by omega)) (by first | assumption | (repeat (first | exact pm_up_e rfl | refine pm_up_o (by decide) ?_ | apply pm_up_o (by decide))) <;> assumption) (by first | assumption | (repeat (first | exact pm_up_e rfl | refine pm_up_o (by decide) ?_ | apply pm_up_o (by decide))) <;> assumption) (by first | assumption | (repeat (first | exact pm_up_e rfl | refine pm_up_o (by decide) ?_ | apply pm_up_o (by decide))) <;> assumption) (by first | assumption | (repeat (first | exact pm_up_e rfl | refine pm_up_o (by decide) ?_ | apply pm_up_o (by decide))) <;> assumption) (by first | assumption | (repeat (first | exact pm_up_e rfl | refine pm_up_o (by decide) ?_ | apply pm_up_o (by decide))) <;> assumption) hC (fun j hj => Nat.le_trans (hC j hj) (Nat.pow_le_pow_right (by omega) (by omega))) hcf e5 hnr e6 (by rw [pm_up_n _ _ (by decide), pm_up_n _ _ (by decide), pm_up_n _ _ (by decide), pm_up_n _ _ (by decide)]; exact (fx 7 (by decide)).trans f7) (by rw [pm_up_n _ _ (by decide), pm_up_n _ _ (by decide), pm_up_n _ _ (by decide), pm_up_n _ _ (by decide)]; exact (fx 8 (by decide)).trans f8) (by rw [pm_up_n _ _ (by decide), pm_up_n _ _ (by decide), pm_up_n _ _ (by decide), pm_up_n _ _ (by decide)]; exact (fx 9 (by decide)).trans f9) (by rw [pm_up_n _ _ (by decide), pm_up_n _ _ (by decide), pm_up_n _ _ (by decide), pm_up_n _ _ (by decide)]; exact (fx 10 (by decide)).trans f10) hv (by rw [pm_up_n _ _ (by decide), pm_up_n _ _ (by decide), pm_up_n _ _ (by decide), pm_up_n _ _ (by decide)]; exact (fx 4 (by decide)).trans f4) hb) okX4_stepBack ivX4_stepBack ml_X4_62 ⟨Nat.le_of_ble_eq_true rfl, Nat.le_of_ble_eq_true rfl⟩ dX4_findBest_52 rfl rfl rfl (Nat.le_of_ble_eq_true rfl) (by repeat (first | assumption | refine pm_I.up ?_ rfl | refine pm_I.uf ?_ rfl)) rfl cl_4 pm_le.rf pm_le.rf ?_
    rintro _ _ _ ⟨rfl, rfl, SI⟩
    obtain ⟨J1, fr', cf', fol', C', y1, y2, y3, y4, y5, y7, y6⟩ := SI
    refine sx_inc_2_1 (w := -1) (pc' := 58) dX4_findBest_55 rfl rfl (by decide) rfl ?_
    refine px_goto (tgt := 14) dX4_findBest_58 (by decide) ?_
    rw [show nI s + -1 = iZ ((s : Int) - 1) by rw [← iZ_n, show (-1 : Int32) = iZ (-1) from rfl, iZ_add]; rfl]
    refine ih (by omega) _ ⟨J1, fun a n1 n2 n3 n4 n5 => ?_, cf', cf, fol', C', m_L C, y1, y2, ?_, ?_, y3, ?_, ?_, y7⟩
    · rw [fr' a n1 n2 n5, pm_up_n _ _ n4, pm_up_n _ _ n3, pm_up_n _ _ n4, pm_up_n _ _ n3]
      exact fr a n1 n2 n3 n4 n5
    · rw [fr' 21 (by decide) (by decide) (by decide)]
      exact (by first | assumption | (repeat (first | exact pm_up_e rfl | refine pm_up_o (by decide) ?_ | apply pm_up_o (by decide))) <;> assumption)
    · rw [fr' 22 (by decide) (by decide) (by decide)]
      exact (by first | assumption | (repeat (first | exact pm_up_e rfl | refine pm_up_o (by decide) ?_ | apply pm_up_o (by decide))) <;> assumption)
    · rw [e9]
      exact b_SI_D hw0 hwd hE (by omega) D y5 y6
    · rw [e9]
      exact y4
end FND
