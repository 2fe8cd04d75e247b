section OPS9
variable {G : pm_G}
/-- scratch of the reference's pairs alone is other -/
def m_sc2 (h : pm_h) (g : pm_g) (h' : pm_h) (g' : pm_g) : Prop := pm_I h' g' ∧ (∀ a, a ≠ 50 → a ≠ 51 → a ≠ 52 → h' a = h a) ∧ (∀ a k, ¬ (a = 30 ∧ k = 37) → g' a k = g a k) ∧
  ∃ A F L : Nat → Int32, h' 50 = pm_ia 0 144 A ∧ h' 51 = pm_ia 2 144 F ∧ h' 52 = pm_ia 2 20736 L
theorem o_route {a : Int32} : pm_op G mX8_route mX9_route [.int a] := by
  intro z h g j
  obtain ⟨I, ⟨n, T, q1⟩, ⟨w, d, η, q2, q3, q4⟩, ⟨e, a0, a1, q5⟩, q6, q7, q8⟩ := id j
  obtain ⟨hn, t1, t2, t3, t4⟩ := id q1
  obtain ⟨m1, m2, m3, m4, m5, m6, m7, m8, m9, mA, mB⟩ := id q2
  obtain ⟨f1, f2, st, p, at_, fl, al, tw, w1, w2, w3, w4, w5, w6, w7, w8, w9, wA, wB⟩ := id q7
  obtain ⟨u1, u2, u3, u4, u5, u6, u7, u8, u9, uA⟩ := id q5
  have hwd := m_wd m2 m4
  have en : (nI n).toInt = n := nI_toInt (by omega)
  have l8 : (8 : Int32).toInt = 8 := by decide
  have h0 : 0 ≤ (0 : Int32).toInt ∧ (0 : Int32).toInt ≤ n := by rw [i_0]; omega
  by_cases ha : 1 ≤ a.toInt ∧ a.toInt ≤ 8 ∧ n % a.toInt.toNat = 0
  rotate_left
  · refine ⟨-1, ?_⟩
    refine enX8_route pm_le.rf ?_
    refine px_aload_n (i := 0) (pc' := 1) dX8_route_0 rfl rfl rfl ?_
    refine pi_getr (pc' := 4) fl_8_67 dX8_route_1 rfl (by repeat (first | assumption | refine pm_I.up ?_ rfl | refine pm_I.uf ?_ rfl)) rfl rfl ?_
    refine px_iload_n (i := 1) (pc' := 5) dX8_route_4 rfl rfl rfl ?_
    refine pi_callV (pc' := 8) (c_tellingRoute_n I t1 hn ha) okX7_tellingRoute ivX7_tellingRoute ml_X8_159 ⟨Nat.le_of_ble_eq_true rfl, Nat.le_of_ble_eq_true rfl⟩ dX8_route_5 rfl rfl rfl (Nat.le_of_ble_eq_true rfl) (by repeat (first | assumption | refine pm_I.up ?_ rfl | refine pm_I.uf ?_ rfl)) rfl cl_7 pm_le.rf pm_le.rf ?_
    rintro _ _ _ ⟨rfl, rfl, rfl⟩
    refine sx_i_n_3_2 (pc' := 9) dX8_route_8 rfl rfl rfl rfl ?_
    refine px_aload_n (i := 0) (pc' := 10) dX8_route_9 rfl rfl rfl ?_
    refine pi_getr (pc' := 13) fl_8_10 dX8_route_10 rfl (by repeat (first | assumption | refine pm_I.up ?_ rfl | refine pm_I.uf ?_ rfl)) rfl rfl ?_
    refine px_iconst (v := 0) (pc' := 14) dX8_route_13 rfl (by decide) ?_
    refine pi_callV (pc' := 17) (c_cut_t (by repeat (first | assumption | refine pm_I.up ?_ rfl | refine pm_I.uf ?_ rfl)) (n := n) (by first | assumption | (repeat (first | exact pm_uf_e rfl | refine pm_uf_o (by decide) ?_ | apply pm_uf_o (by decide))) <;> assumption) hn h0) okX6_cut ivX6_cut ml_X8_82 ⟨Nat.le_of_ble_eq_true rfl, Nat.le_of_ble_eq_true rfl⟩ dX8_route_14 rfl rfl rfl (Nat.le_of_ble_eq_true rfl) (by repeat (first | assumption | refine pm_I.up ?_ rfl | refine pm_I.uf ?_ rfl)) rfl cl_6 pm_le.rf pm_le.rf ?_
    rintro _ _ _ ⟨rfl, rfl, rfl⟩
    refine px_pop (pc' := 18) dX8_route_17 rfl rfl ?_
    refine px_iload_n (i := 2) (pc' := 19) dX8_route_18 rfl rfl rfl ?_
    refine px_iret dX8_route_19 rfl rfl (⟨rfl, (by repeat (first | assumption | refine pm_I.up ?_ rfl | refine pm_I.uf ?_ rfl)), ?_⟩)
    refine enX9_route pm_le.rf ?_
    have fin : pm_W G mX9_route z (pm_Φ G z (fun r' h2 g2 => r' = some (.int (-1)) ∧ J h2 g2)) 29 [.ref 30, .int a, pm_u, pm_u, pm_u, pm_u, pm_u] [] z h (pm_uf (pm_uf (pm_uf (pm_uf g 1 1 (.int 0)) 30 0 (.int 0)) 30 3 (.int (nI n))) 30 2 (.int 0)) := by
      refine px_iconst (v := -1) (pc' := 30) dX9_route_29 rfl (by decide) ?_
      exact px_iret dX9_route_30 rfl rfl (⟨rfl, (by repeat (first | assumption | refine pm_I.up ?_ rfl | refine pm_I.uf ?_ rfl)), ⟨0, T, by omega, rfl, t2, rfl, t4⟩, ⟨w, d, η, q2.keep rfl rfl rfl rfl rfl rfl, q3.keep rfl rfl rfl rfl rfl rfl rfl rfl rfl, q4.keep rfl rfl rfl rfl rfl rfl rfl rfl rfl rfl rfl rfl rfl rfl rfl rfl rfl rfl rfl rfl⟩, ⟨e, a0, a1, q5.keep rfl rfl rfl rfl rfl rfl⟩, q6.keep rfl rfl rfl rfl rfl rfl rfl rfl rfl rfl rfl rfl rfl rfl rfl, q7.keep rfl rfl rfl rfl rfl rfl rfl rfl rfl, q8⟩)
    refine px_aload_n (i := 0) (pc' := 1) dX9_route_0 rfl rfl rfl ?_
    refine px_iconst (v := 0) (pc' := 2) dX9_route_1 rfl (by decide) ?_
    refine pi_puti (pc' := 5) fi_9_1 dX9_route_2 rfl (by repeat (first | assumption | refine pm_I.up ?_ rfl | refine pm_I.uf ?_ rfl)) rfl ?_
    refine px_aload_n (i := 0) (pc' := 6) dX9_route_5 rfl rfl rfl ?_
    refine pi_callV (pc' := 9) (d_taken (by repeat (first | assumption | refine pm_I.up ?_ rfl | refine pm_I.uf ?_ rfl)) (by first | assumption | (repeat (first | exact pm_uf_e rfl | refine pm_uf_o (by decide) ?_ | apply pm_uf_o (by decide))) <;> assumption)) okX9_taken ivX9_taken ml_X9_112 ⟨Nat.le_of_ble_eq_true rfl, Nat.le_of_ble_eq_true rfl⟩ dX9_route_6 rfl rfl rfl (Nat.le_of_ble_eq_true rfl) (by repeat (first | assumption | refine pm_I.up ?_ rfl | refine pm_I.uf ?_ rfl)) rfl cl_9 pm_le.rf pm_le.rf ?_
    rintro _ _ _ ⟨rfl, rfl, rfl⟩
    refine px_iload_n (i := 1) (pc' := 10) dX9_route_9 rfl rfl rfl ?_
    refine px_iconst (v := 1) (pc' := 11) dX9_route_10 rfl (by decide) ?_
    refine px_icmp_lt (tgt := 29) (pc' := 14) dX9_route_11 (by decide) rfl (fun z1 => ?_) (fun z1 => ?_)
    · exact fin
    refine px_iload_n (i := 1) (pc' := 15) dX9_route_14 rfl rfl rfl ?_
    refine px_bipush (v := 8) (pc' := 17) dX9_route_15 rfl (by decide) ?_
    refine px_icmp_gt (tgt := 29) (pc' := 20) dX9_route_17 (by decide) rfl (fun z2 => ?_) (fun z2 => ?_)
    · exact fin
    rw [i_lt, l_1] at z1
    rw [i_lt, l8] at z2
    obtain ⟨k, hk, rfl⟩ : ∃ k : Nat, (1 ≤ k ∧ k ≤ 8) ∧ a = nI k := ⟨a.toInt.toNat, by omega, by rw [← iZ_n, Int.toNat_of_nonneg (by omega), iZ_i]⟩
    rw [nI_toInt (by omega)] at ha
    rw [Int.toNat_natCast] at ha
    have hml := Nat.mod_le n k
    refine px_aload_n (i := 0) (pc' := 21) dX9_route_20 rfl rfl rfl ?_
    refine pi_geti (pc' := 24) fl_9_18 dX9_route_21 rfl (by repeat (first | assumption | refine pm_I.up ?_ rfl | refine pm_I.uf ?_ rfl)) rfl (by first | assumption | (repeat (first | exact pm_uf_e rfl | refine pm_uf_o (by decide) ?_ | apply pm_uf_o (by decide))) <;> assumption) ?_
    refine px_iload_n (i := 1) (pc' := 25) dX9_route_24 rfl rfl rfl ?_
    refine px_irem (pc' := 26) dX9_route_25 rfl (by rw [show (0 : Int32) = nI 0 from rfl, nI_eq (by omega) (by omega)]; omega) ?_
    refine px_if_eq (tgt := 31) (pc' := 29) dX9_route_26 (by decide) rfl (fun q_ => absurd q_ (by rw [pk_rem (by omega) (by omega) (by omega), show (0 : Int32) = nI 0 from rfl, nI_eq (by omega) (by omega)]; omega)) (fun _ => ?_)
    exact fin
  obtain ⟨k, hk, rfl⟩ : ∃ k : Nat, (1 ≤ k ∧ k ≤ 8) ∧ a = nI k := ⟨a.toInt.toNat, by omega, by rw [← iZ_n, Int.toNat_of_nonneg (by omega), iZ_i]⟩
  have hnk := ha.2.2
  rw [nI_toInt (by omega), Int.toNat_natCast] at hnk
  have hnd : n = n / k * k := by
    have := Nat.div_add_mod n k
    rw [hnk, Nat.mul_comm] at this
    omega
  have hpi : ∀ i, i < k → n / k * i + n / k ≤ n := fun i hi => by
    have : n / k * (i + 1) ≤ n / k * k := Nat.mul_le_mul_left _ hi
    rw [Nat.mul_add] at this
    omega
  -- the class
  obtain ⟨R, hR⟩ : ∃ R : Int32, (¬ (∀ i, i < k → m_rt T (n / k * i) (n / k)) ∧ R = -1) ∨ ((∀ i, i < k → m_rt T (n / k * i) (n / k)) ∧ R = nI (m_bst (fun i => (m_all (m_tw w d e T (m_hc η) (n / k * i) (n / k / 2)) (w * d) (w * d)).1) k)) := by
    by_cases q : ∀ i, i < k → m_rt T (n / k * i) (n / k)
    · exact ⟨_, Or.inr ⟨q, rfl⟩⟩
    · exact ⟨_, Or.inl ⟨q, rfl⟩⟩
  refine ⟨R, ?_⟩
  refine enX8_route pm_le.rf ?_
  refine px_aload_n (i := 0) (pc' := 1) dX8_route_0 rfl rfl rfl ?_
  refine pi_getr (pc' := 4) fl_8_67 dX8_route_1 rfl (by repeat (first | assumption | refine pm_I.up ?_ rfl | refine pm_I.uf ?_ rfl)) rfl rfl ?_
  refine px_iload_n (i := 1) (pc' := 5) dX8_route_4 rfl rfl rfl ?_
  refine pi_callV (pc' := 8) (c_tellingRoute I t1 hn t2 m6 m7 m2 m4 m8 (fun c hc => m_hc_bd (m5 c hc)) w3 w4 w1 w2 w6 w5 u5 u1 hk hnk) okX7_tellingRoute ivX7_tellingRoute ml_X8_159 ⟨Nat.le_of_ble_eq_true rfl, Nat.le_of_ble_eq_true rfl⟩ dX8_route_5 rfl rfl rfl (Nat.le_of_ble_eq_true rfl) (by repeat (first | assumption | refine pm_I.up ?_ rfl | refine pm_I.uf ?_ rfl)) rfl cl_7 pm_le.rf pm_le.rf ?_
  rintro r h1 g1 ⟨sc, rr⟩
  obtain rfl : r = some (.int R) := by
    rcases hR with ⟨y1, y2⟩ | ⟨y1, y2⟩ <;> rcases rr with ⟨y3, y4⟩ | ⟨y3, y4⟩
    · rw [y4, y2]
    · exact absurd y3 y1
    · exact absurd y1 y3
    · rw [y4, y2]
  have I1 := sc.I I
  have sh := fun a (n1 : a ≠ 26) (n2 : a ≠ 27) (n3 : a ≠ 28) (n4 : a ≠ 29) => sc.1 a n1 n2 n3 n4
  have sg := fun a k (n : ¬ (a = 25 ∧ (k = 5 ∨ k = 7 ∨ k = 9))) => sc.2.1 a k n
  obtain ⟨f1', f2', st', p', z1', z2', y1, y2, y3, y4⟩ := sc.2.2
  refine sx_i_n_3_2 (pc' := 9) dX8_route_8 rfl rfl rfl rfl ?_
  refine px_aload_n (i := 0) (pc' := 10) dX8_route_9 rfl rfl rfl ?_
  refine pi_getr (pc' := 13) fl_8_10 dX8_route_10 rfl (by repeat (first | assumption | refine pm_I.up ?_ rfl | refine pm_I.uf ?_ rfl)) rfl rfl ?_
  refine px_iconst (v := 0) (pc' := 14) dX8_route_13 rfl (by decide) ?_
  refine pi_callV (pc' := 17) (c_cut_t I1 (n := n) ((sg 1 1 (by decide)).trans t1) hn h0) okX6_cut ivX6_cut ml_X8_82 ⟨Nat.le_of_ble_eq_true rfl, Nat.le_of_ble_eq_true rfl⟩ dX8_route_14 rfl rfl rfl (Nat.le_of_ble_eq_true rfl) (by repeat (first | assumption | refine pm_I.up ?_ rfl | refine pm_I.uf ?_ rfl)) rfl cl_6 pm_le.rf pm_le.rf ?_
  rintro _ _ _ ⟨rfl, rfl, rfl⟩
  refine px_pop (pc' := 18) dX8_route_17 rfl rfl ?_
  refine px_iload_n (i := 2) (pc' := 19) dX8_route_18 rfl rfl rfl ?_
  refine px_iret dX8_route_19 rfl rfl (⟨rfl, (by repeat (first | assumption | refine pm_I.up ?_ rfl | refine pm_I.uf ?_ rfl)), ?_⟩)
  -- the reference
  have v31 : h1 31 = pm_ia 1 160 T := (sh 31 (by decide) (by decide) (by decide) (by decide)).trans t4
  have v32 : h1 32 = pm_ia 0 144 η := (sh 32 (by decide) (by decide) (by decide) (by decide)).trans mB
  have v50 : h1 50 = pm_ia 0 144 at_ := (sh 50 (by decide) (by decide) (by decide) (by decide)).trans w8
  have v51 : h1 51 = pm_ia 2 144 fl := (sh 51 (by decide) (by decide) (by decide) (by decide)).trans w9
  have v52 : h1 52 = pm_ia 2 20736 al := (sh 52 (by decide) (by decide) (by decide) (by decide)).trans wA
  have gs := fun k (n : ¬ (30 = 25 ∧ (k = 5 ∨ k = 7 ∨ k = 9))) => sg 30 k n
  have v2 : g1 30 2 = .int (nI n) := (sg 30 2 (by decide)).trans t3
  have v9 : g1 30 9 = .int (nI w) := (sg 30 9 (by decide)).trans m9
  have v10 : g1 30 10 = .int (nI d) := (sg 30 10 (by decide)).trans mA
  have v11 : g1 30 11 = .int (nI e) := (sg 30 11 (by decide)).trans u8
  obtain ⟨g3, hg3⟩ : ∃ g3, g3 = pm_uf (pm_uf (pm_uf (pm_uf g1 1 1 (.int 0)) 30 0 (.int 0)) 30 3 (.int (nI n))) 30 2 (.int 0) := ⟨_, rfl⟩
  have I3 : pm_I h1 g3 := by rw [hg3]; exact (by repeat (first | assumption | refine pm_I.up ?_ rfl | refine pm_I.uf ?_ rfl))
  have fin : ∀ (h2 : pm_h) (g2 : pm_g), m_sc2 h1 g3 h2 g2 → J h2 g2 := by
    intro h2 g2 ⟨I2, s1, s2, A, F, L, s3, s4, s5⟩
    have hh : ∀ a, a ≠ 26 → a ≠ 27 → a ≠ 28 → a ≠ 29 → a ≠ 50 → a ≠ 51 → a ≠ 52 → h2 a = h a := fun a n1 n2 n3 n4 n5 n6 n7 => (s1 a n5 n6 n7).trans (sh a n1 n2 n3 n4)
    have gg : ∀ a k, ¬ (a = 30 ∧ k = 37) → ¬ (a = 30 ∧ k = 2) → ¬ (a = 30 ∧ k = 3) → ¬ (a = 30 ∧ k = 0) → ¬ (a = 1 ∧ k = 1) → ¬ (a = 25 ∧ (k = 5 ∨ k = 7 ∨ k = 9)) → g2 a k = g a k := fun a k n1 n2 n3 n4 n5 n6 => by
      rw [s2 a k n1, hg3]
      exact pm_uf_o n2 (pm_uf_o n3 (pm_uf_o n4 (pm_uf_o n5 (sg a k n6))))
    have hx : ∀ a, (a < 26 ∨ (29 < a ∧ a < 50) ∨ 52 < a) → h2 a = h a := fun a q => hh a (by omega) (by omega) (by omega) (by omega) (by omega) (by omega) (by omega)
    have gx : ∀ a k, (a ≠ 30 ∧ a ≠ 1 ∧ a ≠ 25) ∨ (a = 30 ∧ k ≠ 37 ∧ k ≠ 2 ∧ k ≠ 3 ∧ k ≠ 0) ∨ (a = 25 ∧ k = 10) → g2 a k = g a k := fun a k q => gg a k (by omega) (by omega) (by omega) (by omega) (by omega) (by omega)
    refine ⟨I2, ⟨0, T, by omega, ?_, (hx 2 (by omega)).trans t2, ?_, (hx 31 (by omega)).trans t4⟩, ⟨w, d, η, ?_, ?_, ?_⟩, ⟨e, a0, a1, ?_⟩, ?_, ⟨f1', f2', st', p', A, F, L, tw, z1', z2', ?_, ?_, ?_, ?_, ?_, s3, s4, s5, ?_⟩, ?_⟩
    · rw [s2 1 1 (by decide), hg3]; rfl
    · rw [s2 30 2 (by decide), hg3]; rfl
    · exact q2.keep (hx _ (by omega)) (hx _ (by omega)) (gx _ _ (by omega)) (gx _ _ (by omega)) (gx _ _ (by omega)) (gx _ _ (by omega))
    · exact q3.keep (hx _ (by omega)) (hx _ (by omega)) (hx _ (by omega)) (hx _ (by omega)) (hx _ (by omega)) (hx _ (by omega)) (hx _ (by omega)) (gx _ _ (by omega)) (gx _ _ (by omega))
    · exact q4.keep (hx _ (by omega)) (hx _ (by omega)) (hx _ (by omega)) (hx _ (by omega)) (hx _ (by omega)) (hx _ (by omega)) (gx _ _ (by omega)) (gx _ _ (by omega)) (gx _ _ (by omega)) (gx _ _ (by omega)) (hx _ (by omega)) (hx _ (by omega)) (hx _ (by omega)) (hx _ (by omega)) (hx _ (by omega)) (hx _ (by omega)) (gx _ _ (by omega)) (gx _ _ (by omega)) (gx _ _ (by omega)) (gx _ _ (by omega))
    · exact q5.keep (gx _ _ (by omega)) (gx _ _ (by omega)) (gx _ _ (by omega)) (gx _ _ (by omega)) (gx _ _ (by omega)) (gx _ _ (by omega))
    · exact q6.keep (hx _ (by omega)) (gx _ _ (by omega)) (hx _ (by omega)) (hx _ (by omega)) (hx _ (by omega)) (hx _ (by omega)) (hx _ (by omega)) (hx _ (by omega)) (gx _ _ (by omega)) (hx _ (by omega)) (hx _ (by omega)) (hx _ (by omega)) (hx _ (by omega)) (hx _ (by omega)) (hx _ (by omega))
    · exact (s1 26 (by decide) (by decide) (by decide)).trans y1
    · exact (s1 27 (by decide) (by decide) (by decide)).trans y2
    · exact (s1 28 (by decide) (by decide) (by decide)).trans y3
    · exact (s1 29 (by decide) (by decide) (by decide)).trans y4
    · exact (gx 25 10 (by omega)).trans w7
    · exact (gx 30 36 (by omega)).trans wB
    · obtain ⟨fo, hfo⟩ := q8
      exact ⟨fo, (hx 53 (by omega)).trans hfo⟩
  have k3 : g3 30 3 = .int (nI n) := by rw [hg3]; exact (by first | assumption | (repeat (first | exact pm_uf_e rfl | refine pm_uf_o (by decide) ?_ | apply pm_uf_o (by decide))) <;> assumption)
  have k9 : g3 30 9 = .int (nI w) := by rw [hg3]; exact (by first | assumption | (repeat (first | exact pm_uf_e rfl | refine pm_uf_o (by decide) ?_ | apply pm_uf_o (by decide))) <;> assumption)
  have k10 : g3 30 10 = .int (nI d) := by rw [hg3]; exact (by first | assumption | (repeat (first | exact pm_uf_e rfl | refine pm_uf_o (by decide) ?_ | apply pm_uf_o (by decide))) <;> assumption)
  have k11 : g3 30 11 = .int (nI e) := by rw [hg3]; exact (by first | assumption | (repeat (first | exact pm_uf_e rfl | refine pm_uf_o (by decide) ?_ | apply pm_uf_o (by decide))) <;> assumption)
  have self3 : m_sc2 h1 g3 h1 g3 := ⟨I3, fun _ _ _ _ => rfl, fun _ _ _ => rfl, at_, fl, al, v50, v51, v52⟩
  refine enX9_route pm_le.rf ?_
  refine px_aload_n (i := 0) (pc' := 1) dX9_route_0 rfl rfl rfl ?_
  refine px_iconst (v := 0) (pc' := 2) dX9_route_1 rfl (by decide) ?_
  refine pi_puti (pc' := 5) fi_9_1 dX9_route_2 rfl (by repeat (first | assumption | refine pm_I.up ?_ rfl | refine pm_I.uf ?_ rfl)) rfl ?_
  refine px_aload_n (i := 0) (pc' := 6) dX9_route_5 rfl rfl rfl ?_
  refine pi_callV (pc' := 9) (d_taken (by repeat (first | assumption | refine pm_I.up ?_ rfl | refine pm_I.uf ?_ rfl)) (by first | assumption | (repeat (first | exact pm_uf_e rfl | refine pm_uf_o (by decide) ?_ | apply pm_uf_o (by decide))) <;> assumption)) okX9_taken ivX9_taken ml_X9_112 ⟨Nat.le_of_ble_eq_true rfl, Nat.le_of_ble_eq_true rfl⟩ dX9_route_6 rfl rfl rfl (Nat.le_of_ble_eq_true rfl) (by repeat (first | assumption | refine pm_I.up ?_ rfl | refine pm_I.uf ?_ rfl)) rfl cl_9 pm_le.rf pm_le.rf ?_
  rintro _ _ _ ⟨rfl, rfl, rfl⟩
  refine px_iload_n (i := 1) (pc' := 10) dX9_route_9 rfl rfl rfl ?_
  refine px_iconst (v := 1) (pc' := 11) dX9_route_10 rfl (by decide) ?_
  refine px_icmp_lt (tgt := 29) (pc' := 14) dX9_route_11 (by decide) rfl (fun q_ => absurd q_ (by rw [i_lt, l_1, nI_toInt (by omega)]; omega)) (fun _ => ?_)
  refine px_iload_n (i := 1) (pc' := 15) dX9_route_14 rfl rfl rfl ?_
  refine px_bipush (v := 8) (pc' := 17) dX9_route_15 rfl (by decide) ?_
  refine px_icmp_gt (tgt := 29) (pc' := 20) dX9_route_17 (by decide) rfl (fun q_ => absurd q_ (by rw [i_lt, l8, nI_toInt (by omega)]; omega)) (fun _ => ?_)
  refine px_aload_n (i := 0) (pc' := 21) dX9_route_20 rfl rfl rfl ?_
  refine pi_geti (pc' := 24) fl_9_18 dX9_route_21 rfl (by repeat (first | assumption | refine pm_I.up ?_ rfl | refine pm_I.uf ?_ rfl)) rfl (by first | assumption | (repeat (first | exact pm_uf_e rfl | refine pm_uf_o (by decide) ?_ | apply pm_uf_o (by decide))) <;> assumption) ?_
  refine px_iload_n (i := 1) (pc' := 25) dX9_route_24 rfl rfl rfl ?_
  refine px_irem (pc' := 26) dX9_route_25 rfl (by rw [show (0 : Int32) = nI 0 from rfl, nI_eq (by omega) (by omega)]; omega) ?_
  refine px_if_eq (tgt := 31) (pc' := 29) dX9_route_26 (by decide) rfl (fun _ => ?_) (fun q_ => absurd (by rw [pk_rem (by omega) (by omega) (by omega), hnk]; rfl) q_)
  rw [← hg3]
  refine px_aload_n (i := 0) (pc' := 32) dX9_route_31 rfl rfl rfl ?_
  refine pi_geti (pc' := 35) fl_9_18 dX9_route_32 rfl (by repeat (first | assumption | refine pm_I.up ?_ rfl | refine pm_I.uf ?_ rfl)) rfl (by first | assumption | (repeat (first | exact pm_uf_e rfl | refine pm_uf_o (by decide) ?_ | apply pm_uf_o (by decide))) <;> assumption) ?_
  refine px_iload_n (i := 1) (pc' := 36) dX9_route_35 rfl rfl rfl ?_
  refine px_idiv (pc' := 37) dX9_route_36 rfl (by rw [show (0 : Int32) = nI 0 from rfl, nI_eq (by omega) (by omega)]; omega) ?_
  rw [pk_div (by omega) (by omega) (by omega)]
  have best : (∀ i, i < k → m_rt T (n / k * i) (n / k)) → ∀ (kk i : Nat), i + kk = k → ∀ (h2 : pm_h) (g2 : pm_g) (v4 : Int32) (v6 : Value), v6.category = 1 → m_sc2 h1 g3 h2 g2 → ((i = 0 ∧ v4 = -1) ∨ (0 < i ∧ v4 = nI (m_all (m_tw w d e T (m_hc η) (n / k * m_bst (fun i => (m_all (m_tw w d e T (m_hc η) (n / k * i) (n / k / 2)) (w * d) (w * d)).1) i) (n / k / 2)) (w * d) (w * d)).1)) →
      pm_W G mX9_route z (pm_Φ G z (fun r' h2 g2 => r' = some (.int R) ∧ J h2 g2)) 72 [.ref 30, .int (nI k), .int (nI (n / k)), .int (nI (m_bst (fun i => (m_all (m_tw w d e T (m_hc η) (n / k * i) (n / k / 2)) (w * d) (w * d)).1) i)), .int v4, .int (nI i), v6] [] z h2 g2 := by
    intro all kk
    generalize hcf : (fun i => (m_all (m_tw w d e T (m_hc η) (n / k * i) (n / k / 2)) (w * d) (w * d)).1) = cf at hR
    have hce : ∀ i, (m_all (m_tw w d e T (m_hc η) (n / k * i) (n / k / 2)) (w * d) (w * d)).1 = cf i := fun i => by rw [← hcf]
    have hcb : ∀ i, cf i ≤ 144 * 144 := fun i => by
      rw [← hce]
      exact Nat.le_trans (m_all_bd (P := m_tw w d e T (m_hc η) (n / k * i) (n / k / 2)) (n := w * d) (by omega) (w * d) (Nat.le_refl _)).1 (Nat.mul_le_mul hwd hwd)
    induction kk with
    | zero =>
      intro i hi h2 g2 v4 v6 c6 sc v
      obtain rfl : i = k := by omega
      refine px_iload (i := 5) (pc' := 74) dX9_route_72 rfl rfl ?_
      refine px_iload_n (i := 1) (pc' := 75) dX9_route_74 rfl rfl rfl ?_
      refine px_icmp_ge (tgt := 119) (pc' := 78) dX9_route_75 (by decide) rfl (fun _ => ?_) (fun q_ => absurd (nI_le (by omega) (by omega)) q_)
      refine px_iload_n (i := 3) (pc' := 120) dX9_route_119 rfl rfl rfl ?_
      obtain rfl : R = nI (m_bst cf i) := by
        rcases hR with ⟨y1, y2⟩ | ⟨y1, y2⟩
        · exact absurd all y1
        · exact y2
      exact px_iret dX9_route_120 rfl rfl (⟨rfl, fin h2 g2 sc⟩)
    | succ kk ih =>
      intro i hi h2 g2 v4 v6 c6 sc v
      obtain ⟨r1, r2, r3⟩ := all i (by omega)
      have hp := hpi i (by omega)
      have hpk := Nat.div_le_self n k
      have hml := Nat.mul_le_mul_left (n / k) (show i ≤ k by omega)
      obtain ⟨I2, s1, s2, A, F, L, s3, s4, s5⟩ := id sc
      have nx := fun (h4 : pm_h) (g4 : pm_g) (v4' : Int32) (sc' : m_sc2 h1 g3 h4 g4) => ih (i + 1) (by omega) h4 g4 v4' (.int (nI (cf i))) rfl sc'
      refine px_iload (i := 5) (pc' := 74) dX9_route_72 rfl rfl ?_
      refine px_iload_n (i := 1) (pc' := 75) dX9_route_74 rfl rfl rfl ?_
      refine px_icmp_ge (tgt := 119) (pc' := 78) dX9_route_75 (by decide) rfl (fun q_ => absurd q_ (nI_ge (by omega) (by omega))) (fun _ => ?_)
      refine px_aload_n (i := 0) (pc' := 79) dX9_route_78 rfl rfl rfl ?_
      refine px_iload_n (i := 2) (pc' := 80) dX9_route_79 rfl rfl rfl ?_
      refine px_iload (i := 5) (pc' := 82) dX9_route_80 rfl rfl ?_
      refine px_imul (pc' := 83) dX9_route_82 rfl ?_
      rw [pk_mul]
      refine px_iload_n (i := 2) (pc' := 84) dX9_route_83 rfl rfl rfl ?_
      refine px_iconst (v := 2) (pc' := 85) dX9_route_84 rfl (by decide) ?_
      refine px_idiv (pc' := 86) dX9_route_85 rfl (by decide) ?_
      rw [show nI (n / k) / 2 = nI (n / k / 2) from pk_div (d := 2) (by omega) (by omega) (by omega)]
      refine pi_callV (pc' := 89) (d_pairs I2 (w := w) (d := d) (e := e) (fr := n / k * i) (m := n / k / 2) (T := T) (η := η) (by omega) (by omega) (fun x hx => r3 x (by omega)) ((s2 30 9 (by decide)).trans k9) ((s2 30 10 (by decide)).trans k10) (by omega) m2 m4 ((s1 32 (by decide) (by decide) (by decide)).trans v32) m5 ((s2 30 11 (by decide)).trans k11) u1 ((s1 31 (by decide) (by decide) (by decide)).trans v31) s3 s4 s5) okX9_pairs ivX9_pairs ml_X9_185 ⟨Nat.le_of_ble_eq_true rfl, Nat.le_of_ble_eq_true rfl⟩ dX9_route_86 rfl rfl rfl (Nat.le_of_ble_eq_true rfl) (by repeat (first | assumption | refine pm_I.up ?_ rfl | refine pm_I.uf ?_ rfl)) rfl cl_9 pm_le.rf pm_le.rf ?_
      rintro _ _ _ ⟨rfl, ⟨A', F', L', rfl⟩, rfl⟩
      refine sx_i_7_6 (pc' := 91) dX9_route_89 rfl rfl rfl ?_
      refine px_iload (i := 4) (pc' := 93) dX9_route_91 rfl rfl ?_
      rw [hce]
      have sc' : ∀ v : Value, m_sc2 h1 g3 (pm_up (pm_up (pm_up h2 50 (pm_ia 0 144 A')) 51 (pm_ia 2 144 F')) 52 (pm_ia 2 20736 L')) (pm_uf g2 30 37 v) := fun v => ⟨(by repeat (first | assumption | refine pm_I.up ?_ rfl | refine pm_I.uf ?_ rfl)), fun a n1 n2 n3 => by rw [pm_up_n _ _ n3, pm_up_n _ _ n2, pm_up_n _ _ n1]; exact s1 a n1 n2 n3, fun a kx nx => pm_uf_o nx (s2 a kx nx), A', F', L', (by first | assumption | (repeat (first | exact pm_up_e rfl | refine pm_up_o (by decide) ?_ | apply pm_up_o (by decide))) <;> assumption), (by first | assumption | (repeat (first | exact pm_up_e rfl | refine pm_up_o (by decide) ?_ | apply pm_up_o (by decide))) <;> assumption), (by first | assumption | (repeat (first | exact pm_up_e rfl | refine pm_up_o (by decide) ?_ | apply pm_up_o (by decide))) <;> assumption)⟩
      have en1 : ∀ x, (nI (cf x)).toInt = cf x := fun x => nI_toInt (by have := hcb x; omega)
      have bs : m_bst cf (i + 1) = if i = 0 ∨ cf i < cf (m_bst cf i) then i else m_bst cf i := rfl
      rcases v with ⟨rfl, rfl⟩ | ⟨h0', rfl⟩
      · rw [if_pos (Or.inl rfl)] at bs
        have nx1 := fun v : Value => nx _ _ (nI (cf 0)) (sc' v) (Or.inr ⟨by omega, by rw [bs, hce]⟩)
        simp only [bs] at nx1
        refine px_if_lt (tgt := 106) (pc' := 96) dX9_route_93 (by decide) rfl (fun _ => ?_) (fun q_ => absurd (by decide) q_)
        refine px_iload (i := 6) (pc' := 108) dX9_route_106 rfl rfl ?_
        refine sx_i_7_4 (pc' := 110) dX9_route_108 rfl rfl rfl ?_
        refine px_iload (i := 5) (pc' := 112) dX9_route_110 rfl rfl ?_
        refine sx_i_n_7_3 (pc' := 113) dX9_route_112 rfl rfl rfl rfl ?_
        refine sx_inc_7_5 (w := 1) (pc' := 116) dX9_route_113 rfl rfl (by decide) rfl ?_
        refine px_goto (tgt := 72) dX9_route_116 (by decide) ?_
        rw [nI_1]
        exact nx1 _
      · rw [hce]
        refine px_if_lt (tgt := 106) (pc' := 96) dX9_route_93 (by decide) rfl (fun q_ => absurd q_ (by rw [i_lt, en1, i_0]; omega)) (fun _ => ?_)
        refine px_iload (i := 6) (pc' := 98) dX9_route_96 rfl rfl ?_
        refine px_iload (i := 4) (pc' := 100) dX9_route_98 rfl rfl ?_
        refine px_icmp_lt (tgt := 106) (pc' := 103) dX9_route_100 (by decide) rfl (fun q => ?_) (fun q => ?_)
        · rw [i_lt, en1, en1] at q
          rw [if_pos (Or.inr (by omega))] at bs
          have nx1 := fun v : Value => nx _ _ (nI (cf i)) (sc' v) (Or.inr ⟨by omega, by rw [bs, hce]⟩)
          simp only [bs] at nx1
          refine px_iload (i := 6) (pc' := 108) dX9_route_106 rfl rfl ?_
          refine sx_i_7_4 (pc' := 110) dX9_route_108 rfl rfl rfl ?_
          refine px_iload (i := 5) (pc' := 112) dX9_route_110 rfl rfl ?_
          refine sx_i_n_7_3 (pc' := 113) dX9_route_112 rfl rfl rfl rfl ?_
          refine sx_inc_7_5 (w := 1) (pc' := 116) dX9_route_113 rfl rfl (by decide) rfl ?_
          refine px_goto (tgt := 72) dX9_route_116 (by decide) ?_
          rw [nI_1]
          exact nx1 _
        · rw [i_lt, en1, en1] at q
          rw [if_neg (by omega)] at bs
          have nx1 := fun v : Value => nx _ _ (nI (cf (m_bst cf i))) (sc' v) (Or.inr ⟨by omega, by rw [bs, hce]⟩)
          simp only [bs] at nx1
          refine px_goto (tgt := 113) dX9_route_103 (by decide) ?_
          refine sx_inc_7_5 (w := 1) (pc' := 116) dX9_route_113 rfl rfl (by decide) rfl ?_
          refine px_goto (tgt := 72) dX9_route_116 (by decide) ?_
          rw [nI_1]
          exact nx1 _
  have check : ∀ (kk i : Nat), i + kk = k → (∀ x, x < i → m_rt T (n / k * x) (n / k)) → 
      pm_W G mX9_route z (pm_Φ G z (fun r' h2 g2 => r' = some (.int R) ∧ J h2 g2)) 40 [.ref 30, .int (nI k), .int (nI (n / k)), .int (nI i), pm_u, pm_u, pm_u] [] z h1 g3 := by
    intro kk
    induction kk with
    | zero =>
      intro i hi all
      obtain rfl : i = k := by omega
      refine px_iload_n (i := 3) (pc' := 41) dX9_route_40 rfl rfl rfl ?_
      refine px_iload_n (i := 1) (pc' := 42) dX9_route_41 rfl rfl rfl ?_
      refine px_icmp_ge (tgt := 64) (pc' := 45) dX9_route_42 (by decide) rfl (fun _ => ?_) (fun q_ => absurd (nI_le (by omega) (by omega)) q_)
      refine px_iconst (v := 0) (pc' := 65) dX9_route_64 rfl (by decide) ?_
      refine sx_i_n_7_3 (pc' := 66) dX9_route_65 rfl rfl rfl rfl ?_
      refine px_iconst (v := -1) (pc' := 67) dX9_route_66 rfl (by decide) ?_
      refine sx_i_7_4 (pc' := 69) dX9_route_67 rfl rfl rfl ?_
      refine px_iconst (v := 0) (pc' := 70) dX9_route_69 rfl (by decide) ?_
      refine sx_i_7_5 (pc' := 72) dX9_route_70 rfl rfl rfl ?_
      exact best all i 0 (by omega) h1 g3 (-1) pm_u rfl self3 (Or.inl ⟨rfl, rfl⟩)
    | succ kk ih =>
      intro i hi all
      have hp := hpi i (by omega)
      refine px_iload_n (i := 3) (pc' := 41) dX9_route_40 rfl rfl rfl ?_
      refine px_iload_n (i := 1) (pc' := 42) dX9_route_41 rfl rfl rfl ?_
      refine px_icmp_ge (tgt := 64) (pc' := 45) dX9_route_42 (by decide) rfl (fun q_ => absurd q_ (nI_ge (by omega) (by omega))) (fun _ => ?_)
      refine px_aload_n (i := 0) (pc' := 46) dX9_route_45 rfl rfl rfl ?_
      refine px_iload_n (i := 2) (pc' := 47) dX9_route_46 rfl rfl rfl ?_
      refine px_iload_n (i := 3) (pc' := 48) dX9_route_47 rfl rfl rfl ?_
      refine px_imul (pc' := 49) dX9_route_48 rfl ?_
      rw [pk_mul]
      by_cases q : m_rt T (n / k * i) (n / k)
      · refine px_iload_n (i := 2) (pc' := 50) dX9_route_49 rfl rfl rfl ?_
        refine pi_callV (pc' := 53) (d_isRoute_t I3 v31 (by omega) q) okX9_isRoute ivX9_isRoute ml_X9_182 ⟨Nat.le_of_ble_eq_true rfl, Nat.le_of_ble_eq_true rfl⟩ dX9_route_50 rfl rfl rfl (Nat.le_of_ble_eq_true rfl) (by repeat (first | assumption | refine pm_I.up ?_ rfl | refine pm_I.uf ?_ rfl)) rfl cl_9 pm_le.rf pm_le.rf ?_
        rintro _ _ _ ⟨rfl, rfl, rfl⟩
        refine px_if_ne (tgt := 58) (pc' := 56) dX9_route_53 (by decide) rfl (fun _ => ?_) (fun q_ => absurd q_ (by decide))
        refine sx_inc_7_3 (w := 1) (pc' := 61) dX9_route_58 rfl rfl (by decide) rfl ?_
        refine px_goto (tgt := 40) dX9_route_61 (by decide) ?_
        rw [nI_1]
        exact ih (i + 1) (by omega) (fun x hx => if h : x = i then h ▸ q else all x (by omega))
      · refine px_iload_n (i := 2) (pc' := 50) dX9_route_49 rfl rfl rfl ?_
        refine pi_callV (pc' := 53) (d_isRoute_f I3 v31 (by omega) q) okX9_isRoute ivX9_isRoute ml_X9_182 ⟨Nat.le_of_ble_eq_true rfl, Nat.le_of_ble_eq_true rfl⟩ dX9_route_50 rfl rfl rfl (Nat.le_of_ble_eq_true rfl) (by repeat (first | assumption | refine pm_I.up ?_ rfl | refine pm_I.uf ?_ rfl)) rfl cl_9 pm_le.rf pm_le.rf ?_
        rintro _ _ _ ⟨rfl, rfl, rfl⟩
        refine px_if_ne (tgt := 58) (pc' := 56) dX9_route_53 (by decide) rfl (fun q_ => absurd (rfl) q_) (fun _ => ?_)
        refine px_iconst (v := -1) (pc' := 57) dX9_route_56 rfl (by decide) ?_
        obtain rfl : R = -1 := by
          rcases hR with ⟨y1, y2⟩ | ⟨y1, y2⟩
          · exact y2
          · exact absurd (y1 i (by omega)) q
        exact px_iret dX9_route_57 rfl rfl (⟨rfl, fin h1 g3 self3⟩)
  refine sx_i_n_7_2 (pc' := 38) dX9_route_37 rfl rfl rfl rfl ?_
  refine px_iconst (v := 0) (pc' := 39) dX9_route_38 rfl (by decide) ?_
  refine sx_i_n_7_3 (pc' := 40) dX9_route_39 rfl rfl rfl rfl ?_
  exact check k 0 (by omega) (fun x hx => absurd hx (by omega))
end OPS9
