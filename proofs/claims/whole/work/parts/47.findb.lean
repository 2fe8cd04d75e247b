section FNB
variable {G : pm_G} {z : pm_z} {h : pm_h} {g : pm_g}
/-- where the search may begin -/
def b_St (st : Int32) (i : Nat) : Prop := st = -1 ∨ st = nI i
/-- what the search leaves behind, other than the path -/
def b_Left (h : pm_h) (h' : pm_h) : Prop := (∀ a, a ≠ 19 → a ≠ 20 → a ≠ 21 → a ≠ 22 → a ≠ 23 → a ≠ 24 → h' a = h a) ∧ ∃ (x1 x3 x5 : Nat → Int32) (x2 x4 : Nat → Int64), h' 19 = pm_ia 0 144 x1 ∧ h' 20 = pm_la 144 x2 ∧ h' 21 = pm_ia 0 144 x3 ∧ h' 22 = pm_la 144 x4 ∧ h' 23 = pm_ia 0 1728 x5
theorem c_findEnd {w d a0 a1 lg : Nat} {lx ly pa : Nat → Int32} {E : Nat → Nat → Nat} {st : Int32} {h0 : pm_h} (hw0 : 0 < w) (hw : w ≤ 12) (hd : d ≤ 12) (hlg : lg ≤ 12) (e6 : g 6 4 = .int (nI lg)) (e7 : g 6 6 = .int st) (f24 : h0 24 = pm_ia 0 13 pa) (hE : ∀ t j, E t j ≤ 10200)
    (SD : b_SD w d a0 a1 lg 0 lx ly E h0 g h) :
    pm_W G mX4_findBest z (pm_Φ G z (fun r h' g' => b_Left h0 h' ∧ pm_I h' g' ∧
      ((r = some (.int (-1)) ∧ g' = g ∧ h' 24 = h0 24 ∧ ¬ ∃ q : Nat → Nat, b_St st (q 0) ∧ b_ok (w * d) (b_V w a0 a1 lx ly) 0 lg q) ∨
       ∃ (p : Nat → Nat) (pa' : Nat → Int32), b_top (w * d) E (b_V w a0 a1 lx ly) (b_St st) lg p ∧ r = some (.int (nI (b_fl E 0 p lg))) ∧ g' = pm_uf g 18 9 (.int (nI (lg + 1))) ∧ h' 24 = pm_ia 0 13 pa' ∧ ∀ t, t ≤ lg → pa' t = nI (p t)))) 61 [.ref 18, .int (-1)] [] z h g := by
  have hwd := m_wd hw hd
  obtain ⟨I, fr, cf, lf, fol, C, LW, s1, s2, s3, s4, s5, D, hC, hcf⟩ := SD
  rw [Nat.sub_zero] at D hC
  have h9 : (9 : Nat) ^ lg ≤ 9 ^ 12 := Nat.pow_le_pow_right (by omega) hlg
  have hp9 := p9
  have flb : ∀ (p : Nat → Nat), b_fl E 0 p lg < 2147483648 := fun p => by
    have := b_fl_le (k := 0) (p := p) (B := 10200) hE lg
    have := Nat.mul_le_mul (show lg + 1 ≤ 13 by omega) (Nat.le_refl 10200)
    omega
  have left : b_Left h0 h := ⟨fun a n1 n2 n3 n4 n5 _ => fr a n1 n2 n3 n4 n5, cf, lf, fol, m_L C, LW, s1, s2, s3, s4, s5⟩
  obtain ⟨F, hFd⟩ : ∃ F : Nat → Option (Nat × Nat), F = fun i => if cf i = -1 then none else some ((cf i).toInt.toNat, C i) := ⟨_, rfl⟩
  have hF : ∀ i, i < 144 → (cf i = -1 ∧ F i = none) ∨ (∃ f, f < 2147483648 ∧ cf i = nI f ∧ F i = some (f, C i)) := by
    intro i hi
    rw [hFd]
    dsimp only
    by_cases q : cf i = -1
    · exact Or.inl ⟨q, if_pos q⟩
    · have hiN : i < w * d := Nat.lt_of_not_le fun hh => q (hcf i hh hi)
      rcases D i hiN with ⟨d1, _⟩ | ⟨d1, _⟩
      · exact absurd d1 q
      · refine Or.inr ⟨_, flb _, d1, ?_⟩
        rw [if_neg q, d1, nI_toInt (flb _), Int.toNat_natCast]
  refine px_aload_n (i := 0) (pc' := 62) dX4_findBest_61 rfl rfl rfl ?_
  refine pi_callV (pc' := 65) (c_bestFirst (N := w * d) (F := F) I s1 s2 (fun j hj => by have := hC j hj; omega) e7 hF) okX4_bestFirst ivX4_bestFirst ml_X4_66 ⟨Nat.le_of_ble_eq_true rfl, Nat.le_of_ble_eq_true rfl⟩ dX4_findBest_62 rfl rfl rfl (Nat.le_of_ble_eq_true rfl) (by repeat (first | assumption | refine pm_I.up ?_ rfl | refine pm_I.uf ?_ rfl)) rfl cl_4 pm_le.rf pm_le.rf ?_
  rintro _ h3 g3 ⟨v, rfl, hh, gg, fst⟩
  refine sx_i_n_2_1 (pc' := 66) dX4_findBest_65 rfl rfl rfl rfl ?_
  rw [hh, gg]
  rcases fst with ⟨rfl, nn⟩ | ⟨i, f, vv, i1, rfl, i2, i3, i4⟩
  · refine px_iload_n (i := 1) (pc' := 67) dX4_findBest_66 rfl rfl rfl ?_
    refine px_if_lt (tgt := 77) (pc' := 70) dX4_findBest_67 (by decide) rfl (fun _ => ?_) (fun q_ => absurd (by decide) q_)
    refine px_iconst (v := -1) (pc' := 78) dX4_findBest_77 rfl (by decide) ?_
    refine px_iret dX4_findBest_78 rfl rfl (⟨left, I, Or.inl ⟨rfl, rfl, fr 24 (by decide) (by decide) (by decide) (by decide) (by decide), fun ⟨q, sq, oq⟩ => ?_⟩⟩)
    have hq := oq.1 0 (Nat.zero_le _)
    rw [Nat.zero_add] at hq
    rcases D (q 0) hq with ⟨_, d2⟩ | ⟨d1, _⟩
    · exact d2 ⟨q, rfl, oq⟩
    · have := nn (q 0) (by omega) sq
      rw [hFd] at this
      dsimp only at this
      rw [if_neg (by rw [d1]; exact nI_ne_m1 (flb _))] at this
      cases this
  have ei : (nI i).toInt = i := nI_toInt (by omega)
  have el : (nI i).toNatClampNeg = i := nI_clamp (by omega)
  have exD : ∀ j, (∃ q : Nat → Nat, q 0 = j ∧ b_ok (w * d) (b_V w a0 a1 lx ly) 0 lg q) → j < w * d ∧ cf j = nI (b_fl E 0 (b_pa fol 0 j) lg) ∧ C j = b_wy (b_V w a0 a1 lx ly) 0 (b_pa fol 0 j) lg ∧ b_from (w * d) E (b_V w a0 a1 lx ly) 0 lg j (b_pa fol 0 j) ∧ F j = some (b_fl E 0 (b_pa fol 0 j) lg, C j) := by
    intro j ⟨q, hq, oq⟩
    have hj := oq.1 0 (Nat.zero_le _)
    rw [Nat.zero_add, hq] at hj
    rcases D j hj with ⟨_, d2⟩ | ⟨d1, d2, d3, _⟩
    · exact absurd ⟨q, hq, oq⟩ d2
    · refine ⟨hj, d1, d2, d3, ?_⟩
      rw [hFd]
      dsimp only
      rw [if_neg (by rw [d1]; exact nI_ne_m1 (flb _)), d1, nI_toInt (flb _), Int.toNat_natCast]
  have hiN : i < w * d := Nat.lt_of_not_le fun hl => by
    rw [hFd] at i3
    dsimp only at i3
    rw [if_pos (hcf i hl i1)] at i3
    cases i3
  rcases D i hiN with ⟨d1, _⟩ | ⟨d1, d2, d3, d4⟩
  · rw [hFd] at i3
    dsimp only at i3
    rw [if_pos d1] at i3
    cases i3
  have hFi := (exD i ⟨_, d3.1, d3.2.1⟩).2.2.2.2
  rw [hFi] at i3
  cases i3
  have top : b_top (w * d) E (b_V w a0 a1 lx ly) (b_St st) lg (b_pa fol 0 i) := by
    refine b_top_back i2 d3 (fun i' p' si hp' => ?_) (fun i' he => ⟨_, (exD i' he).2.2.2.1⟩)
    obtain ⟨y0, y1, y2, y3, y4⟩ := exD i' ⟨p', hp'.1, hp'.2.1⟩
    have same := b_one (y3.2.2 p' hp'.1 hp'.2.1) (hp'.2.2 _ y3.1 y3.2.1)
    have := i4 i' _ _ (by omega) si y4
    rw [d2, y2, b_fl_e lg same, b_wy_e lg same] at this
    exact this
  have cell : ∀ t, t ≤ lg → b_foN fol 0 i t < 144 := fun t ht => by
    have := d3.2.1.1 t ht
    unfold b_pa at this
    rw [show 0 + t - 0 = t by omega] at this
    omega
  refine px_iload_n (i := 1) (pc' := 67) dX4_findBest_66 rfl rfl rfl ?_
  refine px_if_lt (tgt := 77) (pc' := 70) dX4_findBest_67 (by decide) rfl (fun q_ => absurd q_ (by rw [i_lt, ei, i_0]; omega)) (fun _ => ?_)
  refine px_iload_n (i := 1) (pc' := 71) dX4_findBest_70 rfl rfl rfl ?_
  refine px_sipush (v := 144) (pc' := 74) dX4_findBest_71 rfl (by decide) ?_
  refine px_icmp_lt (tgt := 79) (pc' := 77) dX4_findBest_74 (by decide) rfl (fun _ => ?_) (fun q_ => absurd (by rw [i_lt, ei, l_144]; omega) q_)
  refine px_aload_n (i := 0) (pc' := 80) dX4_findBest_79 rfl rfl rfl ?_
  refine px_iload_n (i := 1) (pc' := 81) dX4_findBest_80 rfl rfl rfl ?_
  refine pi_callV (pc' := 84) (c_keepPath I hlg e6 s5 ((fr 24 (by decide) (by decide) (by decide) (by decide) (by decide)).trans f24) cell (fun t ht => by have := d4 t ht; rwa [Nat.zero_add] at this)) okX4_keepPath ivX4_keepPath ml_X4_69 ⟨Nat.le_of_ble_eq_true rfl, Nat.le_of_ble_eq_true rfl⟩ dX4_findBest_81 rfl rfl rfl (Nat.le_of_ble_eq_true rfl) (by repeat (first | assumption | refine pm_I.up ?_ rfl | refine pm_I.uf ?_ rfl)) rfl cl_4 pm_le.rf pm_le.rf ?_
  rintro _ _ _ ⟨rfl, ⟨pa', hpa, rfl⟩, rfl⟩
  refine px_aload_n (i := 0) (pc' := 85) dX4_findBest_84 rfl rfl rfl ?_
  refine pi_getr (pc' := 88) fl_4_9 dX4_findBest_85 rfl (by repeat (first | assumption | refine pm_I.up ?_ rfl | refine pm_I.uf ?_ rfl)) rfl rfl ?_
  refine px_iload_n (i := 1) (pc' := 89) dX4_findBest_88 rfl rfl rfl ?_
  refine px_iald (pc' := 90) dX4_findBest_89 rfl (by first | assumption | (repeat (first | exact pm_up_e rfl | refine pm_up_o (by decide) ?_ | apply pm_up_o (by decide))) <;> assumption) (vp_in_nI (by omega) (by omega)) ?_
  rw [el, d1]
  exact px_iret dX4_findBest_90 rfl rfl (⟨⟨fun a n1 n2 n3 n4 n5 n6 => by rw [pm_up_n _ _ n6]; exact fr a n1 n2 n3 n4 n5, cf, lf, fol, m_L C, LW, (by first | assumption | (repeat (first | exact pm_up_e rfl | refine pm_up_o (by decide) ?_ | apply pm_up_o (by decide))) <;> assumption), (by first | assumption | (repeat (first | exact pm_up_e rfl | refine pm_up_o (by decide) ?_ | apply pm_up_o (by decide))) <;> assumption), (by first | assumption | (repeat (first | exact pm_up_e rfl | refine pm_up_o (by decide) ?_ | apply pm_up_o (by decide))) <;> assumption), (by first | assumption | (repeat (first | exact pm_up_e rfl | refine pm_up_o (by decide) ?_ | apply pm_up_o (by decide))) <;> assumption), (by first | assumption | (repeat (first | exact pm_up_e rfl | refine pm_up_o (by decide) ?_ | apply pm_up_o (by decide))) <;> assumption)⟩, (by repeat (first | assumption | refine pm_I.up ?_ rfl | refine pm_I.uf ?_ rfl)), Or.inr ⟨_, pa', top, rfl, rfl, (by first | assumption | (repeat (first | exact pm_up_e rfl | refine pm_up_o (by decide) ?_ | apply pm_up_o (by decide))) <;> assumption), fun t ht => by rw [hpa t ht]; rfl⟩⟩)
end FNB
