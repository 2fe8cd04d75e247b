section RBF
variable {G : pm_G} {z : pm_z} {h : pm_h} {g : pm_g}
/-- the choice -/
theorem d_bestF {Φ : pm_F} {N lg w d : Nat} {c1 c2 c3 c4 : Nat → Int32} {c5 c6 : Nat → Int64} {W f : Nat → Nat} {pp : Nat → Nat → Nat} (hN : N = w * d) (e9 : g 30 9 = .int (nI w)) (e10 : g 30 10 = .int (nI d)) (hw : w ≤ 12) (hd : d ≤ 12) (hlg : lg ≤ 12) (e22 : g 30 22 = .int (nI lg)) {h1 : pm_h} (q : r_H h h1 g c1 c2 c3 c4 c5 c6)
    (hW : ∀ j, j < N → c5 j = lN (W j) ∧ W j < 2 ^ 63) (hD : ∀ j, j < N → 0 < W j → c1 j = nI (f j) ∧ f j < 2147483648 ∧ ∀ t, t ≤ lg → c3 (13 * j + t) = nI (pp j t) ∧ pp j t < 144)
    (K : ∀ r : Int32, ((r = -1 ∧ ∀ i, i < N → W i = 0) ∨ ∃ i, i < N ∧ r = nI i ∧ 0 < W i ∧ ∀ i', i' < N → 0 < W i' → r_bt lg (f i) (W i) (pp i) (f i') (W i') (pp i')) → pm_W G mX9_best z Φ 440 [.ref 30, .int r, .int (nI N), pm_u, pm_u, pm_u, pm_u, pm_u, pm_u] [] z h1 g) :
    ∀ k m : Nat, m + k = N → ∀ r : Int32, ((r = -1 ∧ ∀ i, i < m → W i = 0) ∨ ∃ i, i < m ∧ r = nI i ∧ 0 < W i ∧ ∀ i', i' < m → 0 < W i' → r_bt lg (f i) (W i) (pp i) (f i') (W i') (pp i')) → pm_W G mX9_best z Φ 400 [.ref 30, .int r, .int (nI m), pm_u, pm_u, pm_u, pm_u, pm_u, pm_u] [] z h1 g := by
  have hwd := m_wd hw hd
  obtain ⟨I, fr, s1, s2, s3, s4, s5, s6⟩ := id q
  subst hN
  intro k
  induction k with
  | zero =>
    intro m hm r inv
    obtain rfl : m = w * d := by omega
    refine px_iload_n (i := 2) (pc' := 401) dX9_best_400 rfl rfl rfl ?_
    refine px_aload_n (i := 0) (pc' := 402) dX9_best_401 rfl rfl rfl ?_
    refine pi_callV (pc' := 405) (d_cells I e9 e10) okX9_cells ivX9_cells ml_X9_108 ⟨Nat.le_of_ble_eq_true rfl, Nat.le_of_ble_eq_true rfl⟩ dX9_best_402 rfl rfl rfl (Nat.le_of_ble_eq_true rfl) (by repeat (first | assumption | refine pm_I.up ?_ rfl | refine pm_I.uf ?_ rfl)) rfl cl_9 pm_le.rf pm_le.rf ?_
    rintro _ _ _ ⟨rfl, rfl, rfl⟩
    refine px_icmp_ge (tgt := 440) (pc' := 408) dX9_best_405 (by decide) rfl (fun _ => ?_) (fun q_ => absurd (nI_le (by omega) (by omega)) q_)
    exact K r inv
  | succ k ih =>
    intro m hm r inv
    have ml : (nI m).toNatClampNeg = m := nI_clamp (by omega)
    obtain ⟨w1, w2⟩ := hW m (by omega)
    have skip : ((r = -1 ∧ ∀ i, i < m + 1 → W i = 0) ∨ ∃ i, i < m + 1 ∧ r = nI i ∧ 0 < W i ∧ ∀ i', i' < m + 1 → 0 < W i' → r_bt lg (f i) (W i) (pp i) (f i') (W i') (pp i')) → pm_W G mX9_best z Φ 434 [.ref 30, .int r, .int (nI m), pm_u, pm_u, pm_u, pm_u, pm_u, pm_u] [] z h1 g := by
      intro inv'
      refine sx_inc_9_2 (w := 1) (pc' := 437) dX9_best_434 rfl rfl (by decide) rfl ?_
      refine px_goto (tgt := 400) dX9_best_437 (by decide) ?_
      rw [nI_1]
      exact ih (m + 1) (by omega) r inv'
    have take : 0 < W m → (∀ i', i' < m + 1 → 0 < W i' → r_bt lg (f m) (W m) (pp m) (f i') (W i') (pp i')) → pm_W G mX9_best z Φ 432 [.ref 30, .int r, .int (nI m), pm_u, pm_u, pm_u, pm_u, pm_u, pm_u] [] z h1 g := by
      intro p1 p2
      refine px_iload_n (i := 2) (pc' := 433) dX9_best_432 rfl rfl rfl ?_
      refine sx_i_n_9_1 (pc' := 434) dX9_best_433 rfl rfl rfl rfl ?_
      refine sx_inc_9_2 (w := 1) (pc' := 437) dX9_best_434 rfl rfl (by decide) rfl ?_
      refine px_goto (tgt := 400) dX9_best_437 (by decide) ?_
      rw [nI_1]
      exact ih (m + 1) (by omega) _ (Or.inr ⟨m, by omega, rfl, p1, p2⟩)
    refine px_iload_n (i := 2) (pc' := 401) dX9_best_400 rfl rfl rfl ?_
    refine px_aload_n (i := 0) (pc' := 402) dX9_best_401 rfl rfl rfl ?_
    refine pi_callV (pc' := 405) (d_cells I e9 e10) okX9_cells ivX9_cells ml_X9_108 ⟨Nat.le_of_ble_eq_true rfl, Nat.le_of_ble_eq_true rfl⟩ dX9_best_402 rfl rfl rfl (Nat.le_of_ble_eq_true rfl) (by repeat (first | assumption | refine pm_I.up ?_ rfl | refine pm_I.uf ?_ rfl)) rfl cl_9 pm_le.rf pm_le.rf ?_
    rintro _ _ _ ⟨rfl, rfl, rfl⟩
    refine px_icmp_ge (tgt := 440) (pc' := 408) dX9_best_405 (by decide) rfl (fun q_ => absurd q_ (nI_ge (by omega) (by omega))) (fun _ => ?_)
    refine px_aload_n (i := 0) (pc' := 409) dX9_best_408 rfl rfl rfl ?_
    refine pi_getr (pc' := 412) fl_9_86 dX9_best_409 rfl (by repeat (first | assumption | refine pm_I.up ?_ rfl | refine pm_I.uf ?_ rfl)) rfl rfl ?_
    refine px_iload_n (i := 2) (pc' := 413) dX9_best_412 rfl rfl rfl ?_
    refine px_lald (pc' := 414) dX9_best_413 rfl (by first | assumption | (repeat (first | exact pm_up_e rfl | refine pm_up_o (by decide) ?_ | apply pm_up_o (by decide))) <;> assumption) (vp_in_nI (by omega) (by omega)) ?_
    refine px_lconst (v := 0) (pc' := 415) dX9_best_414 rfl (by decide) ?_
    rw [ml, w1]
    by_cases z1 : W m = 0
    · refine px_lcmp (pc' := 416) dX9_best_415 rfl ?_
      refine px_if_le (tgt := 434) (pc' := 419) dX9_best_416 (by decide) rfl (fun _ => ?_) (fun q_ => absurd (by rw [lc_le0 w2]; exact z1) q_)
      refine skip ?_
      rcases inv with ⟨i1, i2⟩ | ⟨i, i1, i2, i3, i4⟩
      · refine Or.inl ⟨i1, fun i hi => ?_⟩
        by_cases hh : i = m
        · rw [hh]; exact z1
        · exact i2 i (by omega)
      · refine Or.inr ⟨i, by omega, i2, i3, fun i' hi' hw' => ?_⟩
        by_cases hh : i' = m
        · rw [hh] at hw'; omega
        · exact i4 i' (by omega) hw'
    refine px_lcmp (pc' := 416) dX9_best_415 rfl ?_
    refine px_if_le (tgt := 434) (pc' := 419) dX9_best_416 (by decide) rfl (fun q_ => absurd q_ (by rw [lc_le0 w2]; exact z1)) (fun _ => ?_)
    rcases inv with ⟨rfl, i2⟩ | ⟨i, i1, rfl, i3, i4⟩
    · refine px_iload_n (i := 1) (pc' := 420) dX9_best_419 rfl rfl rfl ?_
      refine px_if_lt (tgt := 432) (pc' := 423) dX9_best_420 (by decide) rfl (fun _ => ?_) (fun q_ => absurd (by decide) q_)
      refine take (by omega) (fun i' hi' hw' => ?_)
      by_cases hh : i' = m
      · rw [hh]; exact r_bt_rf
      · have := i2 i' (by omega)
        omega
    · obtain ⟨m1, m2, m3⟩ := hD m (by omega) (by omega)
      obtain ⟨n1, n2, n3⟩ := hD i (by omega) i3
      obtain ⟨x1, x2⟩ := hW i (by omega)
      refine px_iload_n (i := 1) (pc' := 420) dX9_best_419 rfl rfl rfl ?_
      refine px_if_lt (tgt := 432) (pc' := 423) dX9_best_420 (by decide) rfl (fun q_ => absurd q_ (nI_pos (by omega))) (fun _ => ?_)
      refine px_aload_n (i := 0) (pc' := 424) dX9_best_423 rfl rfl rfl ?_
      refine px_iload_n (i := 2) (pc' := 425) dX9_best_424 rfl rfl rfl ?_
      refine px_iload_n (i := 1) (pc' := 426) dX9_best_425 rfl rfl rfl ?_
      refine pi_callV (pc' := 429) (d_isAhead (a := m) (b := i) (lg := lg) (p := pp m) (q := pp i) I (by omega) (by omega) hlg e22 s1 s5 s3 m1 n1 m2 n2 w1 x1 w2 x2 m3 n3) okX9_isAhead ivX9_isAhead ml_X9_173 ⟨Nat.le_of_ble_eq_true rfl, Nat.le_of_ble_eq_true rfl⟩ dX9_best_426 rfl rfl rfl (Nat.le_of_ble_eq_true rfl) (by repeat (first | assumption | refine pm_I.up ?_ rfl | refine pm_I.uf ?_ rfl)) rfl cl_9 pm_le.rf pm_le.rf ?_
      rintro _ _ _ ⟨rfl, rfl, H⟩
      rcases H with ⟨rfl, H⟩ | ⟨rfl, H⟩
      · refine px_if_eq (tgt := 434) (pc' := 432) dX9_best_429 (by decide) rfl (fun q_ => absurd q_ (by decide)) (fun _ => ?_)
        have hbt : r_bt lg (f m) (W m) (pp m) (f i) (W i) (pp i) := by
          rcases H with H | ⟨y1, H | ⟨y2, H⟩⟩
          · exact Or.inl H
          · exact Or.inr ⟨y1, Or.inl H⟩
          · exact Or.inr ⟨y1, Or.inr ⟨y2, Or.inl H⟩⟩
        refine take (by omega) (fun i' hi' hw' => ?_)
        by_cases hh : i' = m
        · rw [hh]; exact r_bt_rf
        · exact r_bt_trans hbt (i4 i' (by omega) hw')
      · refine px_if_eq (tgt := 434) (pc' := 432) dX9_best_429 (by decide) rfl (fun _ => ?_) (fun q_ => absurd (rfl) q_)
        have hbt : r_bt lg (f i) (W i) (pp i) (f m) (W m) (pp m) := by
          rcases H with H | ⟨y1, H | ⟨y2, H | H⟩⟩
          · exact Or.inl H
          · exact Or.inr ⟨y1.symm, Or.inl H⟩
          · exact Or.inr ⟨y1.symm, Or.inr ⟨y2.symm, Or.inl H⟩⟩
          · exact Or.inr ⟨y1.symm, Or.inr ⟨y2.symm, Or.inr fun u hu => (H u hu).symm⟩⟩
        refine skip (Or.inr ⟨i, by omega, rfl, i3, fun i' hi' hw' => ?_⟩)
        by_cases hh : i' = m
        · rw [hh]; exact hbt
        · exact i4 i' (by omega) hw'
/-- what the reference's search leaves behind, other than the path -/
def r_Left (h : pm_h) (h' : pm_h) : Prop := (∀ a, a ≠ 43 → a ≠ 44 → a ≠ 45 → a ≠ 46 → a ≠ 48 → a ≠ 49 → a ≠ 47 → h' a = h a) ∧ ∃ (c1 c2 c3 c4 : Nat → Int32) (c5 c6 : Nat → Int64), h' 43 = pm_ia 0 144 c1 ∧ h' 44 = pm_ia 0 144 c2 ∧ h' 45 = pm_ia 0 1872 c3 ∧ h' 46 = pm_ia 0 1872 c4 ∧ h' 48 = pm_la 144 c5 ∧ h' 49 = pm_la 144 c6
theorem d_best {w d a0 a1 nr lg : Nat} {lx ly η ra rv tl c1 c2 c3 c4 : Nat → Int32} {c5 c6 : Nat → Int64} {st : Int32} (I : pm_I h g) (e9 : g 30 9 = .int (nI w)) (e10 : g 30 10 = .int (nI d)) (hw0 : 0 < w) (hw : w ≤ 12) (hd : d ≤ 12) (e12 : g 30 12 = .int (nI a0)) (e13 : g 30 13 = .int (nI a1)) (h0 : a0 ≤ 3) (h1' : a1 ≤ 1) (hlg : lg ≤ 12) (hmv : ∀ s, s < lg → m_mv (lx s) (ly s)) (f39 : h 39 = pm_ia 0 12 lx) (f40 : h 40 = pm_ia 0 12 ly) (e22 : g 30 22 = .int (nI lg)) (e24 : g 30 24 = .int st)
    (e23 : g 30 23 = .int (nI nr)) (hnr : nr ≤ 40) (f42 : h 42 = pm_ia 0 40 rv) (f41 : h 41 = pm_ia 0 40 ra) (f32 : h 32 = pm_ia 0 144 η) (hv : ∀ i, i < nr → 0 ≤ (rv i).toInt ∧ (rv i).toInt ≤ 255) (hb : ∀ c, c < 144 → m_bok (η c)) (hE : ∀ t j, b_E ra rv η nr t j ≤ 10200)
    (f43 : h 43 = pm_ia 0 144 c1) (f44 : h 44 = pm_ia 0 144 c2) (f45 : h 45 = pm_ia 0 1872 c3) (f46 : h 46 = pm_ia 0 1872 c4) (f48 : h 48 = pm_la 144 c5) (f49 : h 49 = pm_la 144 c6) (f47 : h 47 = pm_ia 0 13 tl) :
    pm_Met G mX9_best [.ref 30] z z h g (fun r h' g' => r_Left h h' ∧ pm_I h' g' ∧
      ((r = some (.int (-1)) ∧ g' = pm_uf g 30 0 (.int 0) ∧ h' 47 = h 47 ∧ ¬ ∃ q : Nat → Nat, b_St st (q 0) ∧ b_ok (w * d) (b_V w a0 a1 lx ly) 0 lg q) ∨
       ∃ (p : Nat → Nat) (tl' : Nat → Int32), b_top (w * d) (b_E ra rv η nr) (b_V w a0 a1 lx ly) (b_St st) lg p ∧ r = some (.int (nI (b_fl (b_E ra rv η nr) 0 p lg))) ∧ g' = pm_uf (pm_uf g 30 0 (.int 0)) 30 32 (.int (nI (lg + 1))) ∧ h' 47 = pm_ia 0 13 tl' ∧ ∀ t, t ≤ lg → tl' t = nI (p t))) := by
  have hwd := m_wd hw hd
  refine enX9_best pm_le.rf ?_
  generalize hΦ : (pm_Φ G z (fun r h' g' => r_Left h h' ∧ pm_I h' g' ∧
      ((r = some (.int (-1)) ∧ g' = pm_uf g 30 0 (.int 0) ∧ h' 47 = h 47 ∧ ¬ ∃ q : Nat → Nat, b_St st (q 0) ∧ b_ok (w * d) (b_V w a0 a1 lx ly) 0 lg q) ∨
       ∃ (p : Nat → Nat) (tl' : Nat → Int32), b_top (w * d) (b_E ra rv η nr) (b_V w a0 a1 lx ly) (b_St st) lg p ∧ r = some (.int (nI (b_fl (b_E ra rv η nr) 0 p lg))) ∧ g' = pm_uf (pm_uf g 30 0 (.int 0)) 30 32 (.int (nI (lg + 1))) ∧ h' 47 = pm_ia 0 13 tl' ∧ ∀ t, t ≤ lg → tl' t = nI (p t)))) = Φ
  refine px_aload_n (i := 0) (pc' := 1) dX9_best_0 rfl rfl rfl ?_
  refine px_iconst (v := 0) (pc' := 2) dX9_best_1 rfl (by decide) ?_
  refine pi_puti (pc' := 5) fi_9_1 dX9_best_2 rfl (by repeat (first | assumption | refine pm_I.up ?_ rfl | refine pm_I.uf ?_ rfl)) rfl ?_
  refine px_iconst (v := 0) (pc' := 6) dX9_best_5 rfl (by decide) ?_
  refine sx_i_n_9_1 (pc' := 7) dX9_best_6 rfl rfl rfl rfl ?_
  have J9 : pm_uf g 30 0 (.int 0) 30 9 = .int (nI w) := (by first | assumption | (repeat (first | exact pm_uf_e rfl | refine pm_uf_o (by decide) ?_ | apply pm_uf_o (by decide))) <;> assumption)
  have J10 : pm_uf g 30 0 (.int 0) 30 10 = .int (nI d) := (by first | assumption | (repeat (first | exact pm_uf_e rfl | refine pm_uf_o (by decide) ?_ | apply pm_uf_o (by decide))) <;> assumption)
  have J12 : pm_uf g 30 0 (.int 0) 30 12 = .int (nI a0) := (by first | assumption | (repeat (first | exact pm_uf_e rfl | refine pm_uf_o (by decide) ?_ | apply pm_uf_o (by decide))) <;> assumption)
  have J13 : pm_uf g 30 0 (.int 0) 30 13 = .int (nI a1) := (by first | assumption | (repeat (first | exact pm_uf_e rfl | refine pm_uf_o (by decide) ?_ | apply pm_uf_o (by decide))) <;> assumption)
  have J22 : pm_uf g 30 0 (.int 0) 30 22 = .int (nI lg) := (by first | assumption | (repeat (first | exact pm_uf_e rfl | refine pm_uf_o (by decide) ?_ | apply pm_uf_o (by decide))) <;> assumption)
  have J23 : pm_uf g 30 0 (.int 0) 30 23 = .int (nI nr) := (by first | assumption | (repeat (first | exact pm_uf_e rfl | refine pm_uf_o (by decide) ?_ | apply pm_uf_o (by decide))) <;> assumption)
  have J24 : pm_uf g 30 0 (.int 0) 30 24 = .int st := (by first | assumption | (repeat (first | exact pm_uf_e rfl | refine pm_uf_o (by decide) ?_ | apply pm_uf_o (by decide))) <;> assumption)
  have I2 : pm_I h (pm_uf g 30 0 (.int 0)) := (by repeat (first | assumption | refine pm_I.up ?_ rfl | refine pm_I.uf ?_ rfl))
  refine d_bestA (h := h) (w := w) (d := d) (nr := nr) (η := η) (ra := ra) (rv := rv) J9 J10 hw hd J24 J23 hnr f42 f41 f32 hv hb (fun h2 k1 k2 k3 k4 k5 k6 q2 y => ?_) (w * d) 0 (by omega) h c1 c2 c3 c4 c5 c6 ⟨I2, fun _ _ _ _ _ _ _ => rfl, f43, f44, f45, f46, f48, f49⟩ (fun j hj => absurd hj (Nat.not_lt_zero j))
  refine px_iconst (v := 0) (pc' := 71) dX9_best_70 rfl (by decide) ?_
  refine sx_i_n_9_1 (pc' := 72) dX9_best_71 rfl rfl rfl rfl ?_
  refine px_f9_2 ?_
  refine d_bestL (h := h) (w := w) (d := d) (a0 := a0) (a1 := a1) (nr := nr) (lg := lg) (lx := lx) (ly := ly) (η := η) (ra := ra) (rv := rv) (St := b_St st) J9 J10 hw0 hw hd J12 J13 h0 h1' hlg hmv f39 f40 J22 J23 hnr f42 f41 f32 hv hb hE (fun h3 l1 l2 l3 l4 l5 l6 W f pp q3 D => ?_) lg 0 (by omega) h2 k1 k2 k3 k4 k5 k6 (fun j => if st = -1 ∨ st = nI j then 1 else 0) _ _ q2 (r_D_0 (fun j hj => (y j hj).1) (fun j hj => ?_) (fun j hj => (y j hj).2.1) (fun j hj => (y j hj).2.2))
  rotate_left
  · by_cases hs : st = -1 ∨ st = nI j
    · exact Or.inl ⟨hs, if_pos hs⟩
    · exact Or.inr ⟨hs, if_neg hs⟩
  have flb : ∀ p : Nat → Nat, b_fl (b_E ra rv η nr) 0 p lg < 2147483648 := fun p => by
    have e1 := b_fl_le (k := 0) (p := p) (B := 10200) hE lg
    have e2 := Nat.mul_le_mul (show lg + 1 ≤ 13 by omega) (Nat.le_refl 10200)
    omega
  have h9 : (9 : Nat) ^ lg ≤ 9 ^ 12 := Nat.pow_le_pow_right (by omega) hlg
  have hp9 := p9
  have hWle : ∀ j, j < w * d → l5 j = lN (W j) ∧ W j < 2 ^ 63 := fun j hj => by
    obtain ⟨y1, y2⟩ := D j hj
    refine ⟨y1, ?_⟩
    rcases y2 with ⟨y2, _⟩ | ⟨_, _, _, y2, _⟩
    · omega
    · have := b_wy_le (V := b_V w a0 a1 lx ly) (k := 0) (p := pp j) (B := 9) (fun _ _ _ => b_V_le h0 h1') lg
      omega
  have hDD : ∀ j, j < w * d → 0 < W j → l1 j = nI (f j) ∧ f j < 2147483648 ∧ ∀ t, t ≤ lg → l3 (13 * j + t) = nI (pp j t) ∧ pp j t < 144 := fun j hj hw1 => by
    rcases (D j hj).2 with ⟨y2, _⟩ | ⟨_, y1, y2, y3, y4, y5⟩
    · omega
    · refine ⟨y1, by rw [y2]; exact flb _, fun t ht => ⟨y5 t ht, ?_⟩⟩
      have := y4.2.2.1.1 t ht
      rw [Nat.zero_add] at this
      omega
  refine px_iconst (v := -1) (pc' := 397) dX9_best_396 rfl (by decide) ?_
  refine sx_i_n_9_1 (pc' := 398) dX9_best_397 rfl rfl rfl rfl ?_
  refine px_iconst (v := 0) (pc' := 399) dX9_best_398 rfl (by decide) ?_
  refine sx_i_n_9_2 (pc' := 400) dX9_best_399 rfl rfl rfl rfl ?_
  refine d_bestF (h := h) (N := w * d) (lg := lg) (w := w) (d := d) (W := W) (f := f) (pp := pp) rfl J9 J10 hw hd hlg J22 q3 hWle hDD (fun r inv => ?_) (w * d) 0 (by omega) _ (Or.inl ⟨rfl, fun i hi => absurd hi (Nat.not_lt_zero i)⟩)
  obtain ⟨I3, fr, s1, s2, s3, s4, s5, s6⟩ := id q3
  rcases inv with ⟨rfl, n1⟩ | ⟨i, i1, rfl, i2, i3⟩
  · refine px_iload_n (i := 1) (pc' := 441) dX9_best_440 rfl rfl rfl ?_
    refine px_if_ge (tgt := 446) (pc' := 444) dX9_best_441 (by decide) rfl (fun q_ => absurd q_ (by decide)) (fun _ => ?_)
    refine px_iconst (v := -1) (pc' := 445) dX9_best_444 rfl (by decide) ?_
    subst hΦ
    refine px_iret dX9_best_445 rfl rfl (⟨⟨fun a n1 n2 n3 n4 n5 n6 n7 => fr a n1 n2 n3 n4 n5 n6, l1, l2, l3, l4, l5, l6, s1, s2, s3, s4, s5, s6⟩, I3, Or.inl ⟨rfl, rfl, fr 47 (by decide) (by decide) (by decide) (by decide) (by decide) (by decide), fun ⟨p, sp, op⟩ => ?_⟩⟩)
    have hp := op.1 lg (Nat.le_refl _)
    rw [Nat.zero_add] at hp
    rcases (D (p lg) hp).2 with ⟨_, y2⟩ | ⟨y1, _⟩
    · exact y2 ⟨p, rfl, sp, op⟩
    · have := n1 _ hp
      omega
  have top := r_D_top D i1 i2 i3
  obtain ⟨d1, d2, d3⟩ := hDD i i1 i2
  have df : f i = b_fl (b_E ra rv η nr) 0 (pp i) lg := by
    rcases (D i i1).2 with ⟨y2, _⟩ | ⟨_, y1, y2, y3, y4, y5⟩
    · omega
    · exact y2
  have f47' := (fr 47 (by decide) (by decide) (by decide) (by decide) (by decide) (by decide)).trans f47
  refine px_iload_n (i := 1) (pc' := 441) dX9_best_440 rfl rfl rfl ?_
  refine px_if_ge (tgt := 446) (pc' := 444) dX9_best_441 (by decide) rfl (fun _ => ?_) (fun q_ => absurd (nI_pos' (by omega)) q_)
  refine px_aload_n (i := 0) (pc' := 447) dX9_best_446 rfl rfl rfl ?_
  refine px_aload_n (i := 0) (pc' := 448) dX9_best_447 rfl rfl rfl ?_
  refine pi_geti (pc' := 451) fl_9_130 dX9_best_448 rfl (by repeat (first | assumption | refine pm_I.up ?_ rfl | refine pm_I.uf ?_ rfl)) rfl (by first | assumption | (repeat (first | exact pm_uf_e rfl | refine pm_uf_o (by decide) ?_ | apply pm_uf_o (by decide))) <;> assumption) ?_
  refine px_iconst (v := 1) (pc' := 452) dX9_best_451 rfl (by decide) ?_
  refine px_iadd (pc' := 453) dX9_best_452 rfl ?_
  refine pi_puti (pc' := 456) fi_9_176 dX9_best_453 rfl (by repeat (first | assumption | refine pm_I.up ?_ rfl | refine pm_I.uf ?_ rfl)) rfl ?_
  refine px_iconst (v := 0) (pc' := 457) dX9_best_456 rfl (by decide) ?_
  refine sx_i_n_9_2 (pc' := 458) dX9_best_457 rfl rfl rfl rfl ?_
  rw [nI_1]
  have loop : ∀ k t : Nat, t + k = lg + 1 → ∀ tl' : Nat → Int32, (∀ u, u < t → tl' u = nI (pp i u)) → pm_W G mX9_best z Φ 458 [.ref 30, .int (nI i), .int (nI t), pm_u, pm_u, pm_u, pm_u, pm_u, pm_u] [] z (pm_up h3 47 (pm_ia 0 13 tl')) (pm_uf (pm_uf g 30 0 (.int 0)) 30 32 (.int (nI (lg + 1)))) := by
    intro k
    induction k with
    | zero =>
      intro t ht tl' hu
      obtain rfl : t = lg + 1 := by omega
      refine px_iload_n (i := 2) (pc' := 459) dX9_best_458 rfl rfl rfl ?_
      refine px_aload_n (i := 0) (pc' := 460) dX9_best_459 rfl rfl rfl ?_
      refine pi_geti (pc' := 463) fl_9_176 dX9_best_460 rfl (by repeat (first | assumption | refine pm_I.up ?_ rfl | refine pm_I.uf ?_ rfl)) rfl (by first | assumption | (repeat (first | exact pm_uf_e rfl | refine pm_uf_o (by decide) ?_ | apply pm_uf_o (by decide))) <;> assumption) ?_
      refine px_icmp_ge (tgt := 489) (pc' := 466) dX9_best_463 (by decide) rfl (fun _ => ?_) (fun q_ => absurd (nI_le (by omega) (by omega)) q_)
      refine px_aload_n (i := 0) (pc' := 490) dX9_best_489 rfl rfl rfl ?_
      refine pi_getr (pc' := 493) fl_9_71 dX9_best_490 rfl (by repeat (first | assumption | refine pm_I.up ?_ rfl | refine pm_I.uf ?_ rfl)) rfl rfl ?_
      refine px_iload_n (i := 1) (pc' := 494) dX9_best_493 rfl rfl rfl ?_
      refine px_iald (pc' := 495) dX9_best_494 rfl (by first | assumption | (repeat (first | exact pm_up_e rfl | refine pm_up_o (by decide) ?_ | apply pm_up_o (by decide))) <;> assumption) (vp_in_nI (by omega) (by omega)) ?_
      rw [nI_clamp (by omega), d1, df]
      subst hΦ
      exact px_iret dX9_best_495 rfl rfl (⟨⟨fun a n1 n2 n3 n4 n5 n6 n7 => (pm_up_n _ _ n7).trans (fr a n1 n2 n3 n4 n5 n6), l1, l2, l3, l4, l5, l6, (by first | assumption | (repeat (first | exact pm_up_e rfl | refine pm_up_o (by decide) ?_ | apply pm_up_o (by decide))) <;> assumption), (by first | assumption | (repeat (first | exact pm_up_e rfl | refine pm_up_o (by decide) ?_ | apply pm_up_o (by decide))) <;> assumption), (by first | assumption | (repeat (first | exact pm_up_e rfl | refine pm_up_o (by decide) ?_ | apply pm_up_o (by decide))) <;> assumption), (by first | assumption | (repeat (first | exact pm_up_e rfl | refine pm_up_o (by decide) ?_ | apply pm_up_o (by decide))) <;> assumption), (by first | assumption | (repeat (first | exact pm_up_e rfl | refine pm_up_o (by decide) ?_ | apply pm_up_o (by decide))) <;> assumption), (by first | assumption | (repeat (first | exact pm_up_e rfl | refine pm_up_o (by decide) ?_ | apply pm_up_o (by decide))) <;> assumption)⟩, (by repeat (first | assumption | refine pm_I.up ?_ rfl | refine pm_I.uf ?_ rfl)), Or.inr ⟨_, tl', top, rfl, rfl, (by first | assumption | (repeat (first | exact pm_up_e rfl | refine pm_up_o (by decide) ?_ | apply pm_up_o (by decide))) <;> assumption), fun u hu' => hu u (by omega)⟩⟩)
    | succ k ih =>
      intro t ht tl' hu
      have e13 : (13 : Int32) * nI i + nI t = nI (13 * i + t) := by rw [show (13 : Int32) = nI 13 from rfl, pk_mul, nI_add]
      refine px_iload_n (i := 2) (pc' := 459) dX9_best_458 rfl rfl rfl ?_
      refine px_aload_n (i := 0) (pc' := 460) dX9_best_459 rfl rfl rfl ?_
      refine pi_geti (pc' := 463) fl_9_176 dX9_best_460 rfl (by repeat (first | assumption | refine pm_I.up ?_ rfl | refine pm_I.uf ?_ rfl)) rfl (by first | assumption | (repeat (first | exact pm_uf_e rfl | refine pm_uf_o (by decide) ?_ | apply pm_uf_o (by decide))) <;> assumption) ?_
      refine px_icmp_ge (tgt := 489) (pc' := 466) dX9_best_463 (by decide) rfl (fun q_ => absurd q_ (nI_ge (by omega) (by omega))) (fun _ => ?_)
      refine px_aload_n (i := 0) (pc' := 467) dX9_best_466 rfl rfl rfl ?_
      refine pi_getr (pc' := 470) fl_9_83 dX9_best_467 rfl (by repeat (first | assumption | refine pm_I.up ?_ rfl | refine pm_I.uf ?_ rfl)) rfl rfl ?_
      refine px_iload_n (i := 2) (pc' := 471) dX9_best_470 rfl rfl rfl ?_
      refine px_aload_n (i := 0) (pc' := 472) dX9_best_471 rfl rfl rfl ?_
      refine pi_getr (pc' := 475) fl_9_77 dX9_best_472 rfl (by repeat (first | assumption | refine pm_I.up ?_ rfl | refine pm_I.uf ?_ rfl)) rfl rfl ?_
      refine px_bipush (v := 13) (pc' := 477) dX9_best_475 rfl (by decide) ?_
      refine px_iload_n (i := 1) (pc' := 478) dX9_best_477 rfl rfl rfl ?_
      refine px_imul (pc' := 479) dX9_best_478 rfl ?_
      refine px_iload_n (i := 2) (pc' := 480) dX9_best_479 rfl rfl rfl ?_
      refine px_iadd (pc' := 481) dX9_best_480 rfl ?_
      rw [e13]
      refine px_iald (pc' := 482) dX9_best_481 rfl (by first | assumption | (repeat (first | exact pm_up_e rfl | refine pm_up_o (by decide) ?_ | apply pm_up_o (by decide))) <;> assumption) (vp_in_nI (by omega) (by omega)) ?_
      refine px_iast (pc' := 483) dX9_best_482 rfl (by first | assumption | (repeat (first | exact pm_up_e rfl | refine pm_up_o (by decide) ?_ | apply pm_up_o (by decide))) <;> assumption) (vp_in_nI (by omega) (by omega)) ?_
      refine sx_inc_9_2 (w := 1) (pc' := 486) dX9_best_483 rfl rfl (by decide) rfl ?_
      refine px_goto (tgt := 458) dX9_best_486 (by decide) ?_
      rw [nI_1, nI_clamp (by omega), nI_clamp (by omega), pm_up_up, (d3 t (by omega)).1]
      refine ih (t + 1) (by omega) _ (fun u hu' => ?_)
      by_cases hut : u = t
      · subst hut
        exact if_pos rfl
      · exact (if_neg hut).trans (hu u (by omega))
  have := loop (lg + 1) 0 (by omega) tl (fun u hu => absurd hu (Nat.not_lt_zero u))
  rw [pm_up_self f47'] at this
  exact this
end RBF
