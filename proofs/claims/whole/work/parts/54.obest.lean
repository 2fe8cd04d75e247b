section OPB
variable {G : pm_G}
theorem pm_Met.imp {M : pm_M} {As : List Value} {z zm : pm_z} {h : pm_h} {g : pm_g} {Q Q' : Option Value → pm_h → pm_g → Prop} (hM : pm_Met G M As z zm h g Q) (hQ : ∀ r h' g', Q r h' g' → Q' r h' g') : pm_Met G M As z zm h g Q' := by
  intro p e ha hc hk s m args below hf happ hP hK
  obtain ⟨k, o, h1, h2, h3, ⟨r, h', g', q1, q2, q3⟩, q4⟩ := hM p e ha hc hk s m args below hf happ hP hK
  exact ⟨k, o, h1, h2, h3, ⟨r, h', g', hQ _ _ _ q1, q2, q3⟩, q4⟩
theorem pm_Met.pre {M : pm_M} {As : List Value} {z zm : pm_z} {h h0 : pm_h} {g : pm_g} {Q : Option Value → pm_h → pm_g → Prop} (hM : pm_Met G M As z zm h g Q) (hR : ∀ H : Heap, pm_R G z.2.2 h0 g H → pm_R G z.2.2 h g H) : pm_Met G M As z zm h0 g Q := by
  intro p e ha hc hk s m args below hf happ hP hK
  exact hM p e ha hc hk s m args below hf happ ⟨hP.1, hR _ hP.2.1, hP.2.2⟩ hK
theorem pm_R.exti {n a kd c : Nat} {f f' : Nat → Int32} {h : pm_h} {g : pm_g} {H : Heap} (hc : h a = pm_ia kd c f) (he : ∀ j, j < c → f j = f' j) (hR : pm_R G n h g H) : pm_R G n (pm_up h a (pm_ia kd c f')) g H := by
  refine hR.ext fun ha => ?_
  rw [hc] at ha
  show H[_]? = some _
  rw [← arrV_ext (f := fun j => .int (f j)) (fun j hj => by rw [he j hj])]
  exact ha
theorem o_best1 {z : pm_z} {h : pm_h} {g : pm_g} {w d n e a0 a1 : Nat} {η T : Nat → Int32} (I : pm_I h g) (q1 : J_T n T h g) (q2 : J_M w d η h g) (q3 : J_C (w * d) h g) (q4 : J_F (w * d) h g) (q5 : J_G e a0 a1 g) (q6 : J_P h g) (q7 : J_W h g) (q8 : ∃ fo, h 53 = pm_la 1 fo) (ηb : ∀ c, m_bok (η c)) :
    ∃ v : Int32, pm_Met G mX8_best [.ref 0] z z h g (fun r h1 g1 => r = some (.int v) ∧ pm_I h1 g1 ∧ pm_Met G mX9_best [.ref 30] z z h1 g1 (fun r' h2 g2 => r' = some (.int v) ∧ J h2 g2)) := by
  obtain ⟨m1, m2, m3, m4, m5, m6, m7, m8, m9, mA, mB⟩ := id q2
  obtain ⟨S, legs, reads, lost, lx, ly, rv, ra, start, f17, f38, fp, s1, s2, s3, s4, s5, s6, s7, s8, s9, sA, sB, sC, sD, sE, sF, sG, sH, sI, sJ, sK⟩ := id q4
  obtain ⟨u1, u2, u3, u4, u5, u6, u7, u8, u9, uA⟩ := id q5
  obtain ⟨many, pa, tl, b1, b3, b5, c1, c2, c3, c4, b2, b4, c5, c6, t1, t2, t3, t4, t5, t6, t7, t8, t9, tA, tB, tC, tD, tE, tF, tG, tH⟩ := id q6
  obtain ⟨p1, p2, p3, p4, p5, p6, p7, p8⟩ := fp
  have hv : ∀ i, i < reads → 0 ≤ (rv i).toInt ∧ (rv i).toInt ≤ 255 := fun i hi => by
    obtain ⟨x1, x2, x3, x4⟩ := p4 i hi
    exact ⟨x1, by omega⟩
  have hE : ∀ t j, b_E ra rv η reads t j ≤ 10200 := fun t j => b_E_le p2 hv (ηb j)
  -- what both leave behind
  have fin : ∀ (h3 h4 : pm_h) (g4 : pm_g), b_Left h h3 → r_Left h3 h4 → pm_I h4 g4 → (∀ a k, ¬ (a = 18 ∧ k = 9) → ¬ (a = 30 ∧ k = 0) → ¬ (a = 30 ∧ k = 32) → g4 a k = g a k) →
      (∃ (many : Nat) (pa tl : Nat → Int32), many ≤ 13 ∧ (∀ i, i < many → pa i = tl i) ∧ h3 24 = pm_ia 0 13 pa ∧ g4 18 9 = .int (nI many) ∧ h4 47 = pm_ia 0 13 tl ∧ g4 30 32 = .int (nI many)) → J h4 g4 := by
    intro h3 h4 g4 l1 l2 I4 hg ⟨many, pa, tl, x1, x2, x3, x4, x5, x6⟩
    have fr : ∀ a, (a < 19 ∨ (24 < a ∧ a < 43) ∨ 49 < a) → h4 a = h a := fun a ha => (l2.1 a (by omega) (by omega) (by omega) (by omega) (by omega) (by omega) (by omega)).trans (l1.1 a (by omega) (by omega) (by omega) (by omega) (by omega) (by omega))
    have fc : ∀ a, (18 < a ∧ a < 25) → h4 a = h3 a := fun a ha => l2.1 a (by omega) (by omega) (by omega) (by omega) (by omega) (by omega) (by omega)
    have gg : ∀ a k, ¬ (a = 18 ∧ k = 9) → ¬ (a = 30 ∧ k = 0) → ¬ (a = 30 ∧ k = 32) → g4 a k = g a k := hg
    obtain ⟨_, y1, y3, y5, y2, y4, z1, z2, z3, z4, z5⟩ := l1
    obtain ⟨_, k1, k2, k3, k4, k5, k6, v1, v2, v3, v4, v5, v6⟩ := l2
    refine ⟨I4, ⟨n, T, q1.keep (fr 2 (by decide)) (fr 31 (by decide)) (gg 1 1 (by decide) (by decide) (by decide)) (gg 30 2 (by decide) (by decide) (by decide))⟩, ⟨w, d, η, ?_, ?_, ?_⟩, ⟨e, a0, a1, ?_⟩, ?_, ?_, ?_⟩
    · exact q2.keep (fr 4 (by decide)) (fr 32 (by decide)) (gg 3 1 (by decide) (by decide) (by decide)) (gg 3 2 (by decide) (by decide) (by decide)) (gg 30 9 (by decide) (by decide) (by decide)) (gg 30 10 (by decide) (by decide) (by decide))
    · exact q3.keep (fr 12 (by decide)) (fr 13 (by decide)) (fr 14 (by decide)) (fr 33 (by decide)) (fr 34 (by decide)) (fr 35 (by decide)) (fr 36 (by decide)) (gg 11 5 (by decide) (by decide) (by decide)) (gg 30 15 (by decide) (by decide) (by decide))
    · exact q4.keep (fr 16 (by decide)) (fr 17 (by decide)) (fr 7 (by decide)) (fr 8 (by decide)) (fr 9 (by decide)) (fr 10 (by decide)) (gg 6 4 (by decide) (by decide) (by decide)) (gg 6 5 (by decide) (by decide) (by decide)) (gg 6 6 (by decide) (by decide) (by decide)) (gg 15 5 (by decide) (by decide) (by decide)) (fr 37 (by decide)) (fr 38 (by decide)) (fr 39 (by decide)) (fr 40 (by decide)) (fr 42 (by decide)) (fr 41 (by decide)) (gg 30 22 (by decide) (by decide) (by decide)) (gg 30 23 (by decide) (by decide) (by decide)) (gg 30 24 (by decide) (by decide) (by decide)) (gg 30 14 (by decide) (by decide) (by decide))
    · exact q5.keep (gg 5 0 (by decide) (by decide) (by decide)) (gg 5 1 (by decide) (by decide) (by decide)) (gg 5 2 (by decide) (by decide) (by decide)) (gg 30 11 (by decide) (by decide) (by decide)) (gg 30 12 (by decide) (by decide) (by decide)) (gg 30 13 (by decide) (by decide) (by decide))
    · exact ⟨many, pa, tl, y1, y3, y5, k1, k2, k3, k4, y2, y4, k5, k6, x1, x2, (fc 24 (by decide)).trans x3, x4, (fc 19 (by decide)).trans z1, (fc 20 (by decide)).trans z2, (fc 21 (by decide)).trans z3, (fc 22 (by decide)).trans z4, (fc 23 (by decide)).trans z5, x5, x6, v1, v2, v3, v4, v5, v6⟩
    · exact q7.keep (fr 26 (by decide)) (fr 27 (by decide)) (fr 28 (by decide)) (fr 29 (by decide)) (gg 25 10 (by decide) (by decide) (by decide)) (fr 50 (by decide)) (fr 51 (by decide)) (fr 52 (by decide)) (gg 30 36 (by decide) (by decide) (by decide))
    · exact q8.imp fun _ q => (fr 53 (by decide)).trans q
  -- the reference, behind the class
  have refe : ∀ (h3 : pm_h) (g3 : pm_g) (v : Int32), b_Left h h3 → pm_I h3 g3 → (∀ a k, ¬ (a = 18 ∧ k = 9) → g3 a k = g a k) →
      ((v = -1 ∧ g3 = g ∧ h3 24 = h 24 ∧ ¬ ∃ q : Nat → Nat, b_St start (q 0) ∧ b_ok (w * d) (b_V w a0 a1 lx ly) 0 legs q) ∨
       ∃ (p : Nat → Nat) (pa' : Nat → Int32), b_top (w * d) (b_E ra rv η reads) (b_V w a0 a1 lx ly) (b_St start) legs p ∧ v = nI (b_fl (b_E ra rv η reads) 0 p legs) ∧ g3 = pm_uf g 18 9 (.int (nI (legs + 1))) ∧ h3 24 = pm_ia 0 13 pa' ∧ ∀ t, t ≤ legs → pa' t = nI (p t)) →
      pm_Met G mX9_best [.ref 30] z z h3 g3 (fun r' h2 g2 => r' = some (.int v) ∧ J h2 g2) := by
    intro h3 g3 v l1 I3 hg out
    have fr : ∀ a, (a < 19 ∨ 24 < a) → h3 a = h a := fun a ha => l1.1 a (by omega) (by omega) (by omega) (by omega) (by omega) (by omega)
    have gg : ∀ k, g3 30 k = g 30 k := fun k => hg 30 k (by omega)
    refine pm_Met.imp (d_best (w := w) (d := d) (a0 := a0) (a1 := a1) (nr := reads) (lg := legs) (lx := lx) (ly := ly) (η := η) (ra := ra) (rv := rv) (tl := tl) (st := start) I3 ((gg 9).trans m9) ((gg 10).trans mA) (by omega) m2 m4 ((gg 12).trans u9) ((gg 13).trans uA) u3 u4 p1 p3 ((fr 39 (by decide)).trans sD) ((fr 40 (by decide)).trans sE) ((gg 22).trans sH) ((gg 24).trans sJ) ((gg 23).trans sI) p2 ((fr 42 (by decide)).trans sF) ((fr 41 (by decide)).trans sG) ((fr 32 (by decide)).trans mB) hv (fun c _ => ηb c) hE ((fr 43 (by decide)).trans tC) ((fr 44 (by decide)).trans tD) ((fr 45 (by decide)).trans tE) ((fr 46 (by decide)).trans tF) ((fr 48 (by decide)).trans tG) ((fr 49 (by decide)).trans tH) ((fr 47 (by decide)).trans tA)) ?_
    rintro r h4 g4 ⟨l2, I4, out2⟩
    rcases out with ⟨rfl, rfl, x1, x2⟩ | ⟨p, pa', x1, rfl, rfl, x2, x3⟩
    · rcases out2 with ⟨rfl, rfl, z1, z2⟩ | ⟨p', tl', z1, _⟩
      · refine ⟨rfl, fin h3 h4 _ l1 l2 I4 (fun a k n1 n2 n3 => if_neg n2) ⟨many, pa, tl, t1, t2, x1.trans t3, (by first | assumption | (repeat (first | exact pm_uf_e rfl | refine pm_uf_o (by decide) ?_ | apply pm_uf_o (by decide))) <;> assumption), (z1.trans (fr 47 (by decide))).trans tA, (by first | assumption | (repeat (first | exact pm_uf_e rfl | refine pm_uf_o (by decide) ?_ | apply pm_uf_o (by decide))) <;> assumption)⟩⟩
      · exact absurd ⟨p', z1.1, z1.2.1⟩ x2
    · rcases out2 with ⟨rfl, rfl, z1, z2⟩ | ⟨p', tl', z1, rfl, rfl, z2, z3⟩
      · exact absurd ⟨p, x1.1, x1.2.1⟩ z2
      · have same := b_top_one x1 z1
        refine ⟨by rw [b_fl_e legs same], fin h3 h4 _ l1 l2 I4 (fun a k n1 n2 n3 => (if_neg n3).trans ((if_neg n2).trans (if_neg n1))) ⟨legs + 1, pa', tl', by omega, fun i hi => ?_, x2, (by first | assumption | (repeat (first | exact pm_uf_e rfl | refine pm_uf_o (by decide) ?_ | apply pm_uf_o (by decide))) <;> assumption), z2, (by first | assumption | (repeat (first | exact pm_uf_e rfl | refine pm_uf_o (by decide) ?_ | apply pm_uf_o (by decide))) <;> assumption)⟩⟩
        have := same i (by omega)
        rw [Nat.zero_add] at this
        rw [x3 i (by omega), z3 i (by omega), this]
  by_cases hp : ∃ p, b_top (w * d) (b_E ra rv η reads) (b_V w a0 a1 lx ly) (b_St start) legs p
  · obtain ⟨p, hp⟩ := hp
    refine ⟨nI (b_fl (b_E ra rv η reads) 0 p legs), ?_⟩
    refine enX8_best pm_le.rf ?_
    refine px_aload_n (i := 0) (pc' := 1) dX8_best_0 rfl rfl rfl ?_
    refine pi_getr (pc' := 4) fl_8_58 dX8_best_1 rfl (by repeat (first | assumption | refine pm_I.up ?_ rfl | refine pm_I.uf ?_ rfl)) rfl rfl ?_
    refine pi_callV (pc' := 7) (c_findBest (w := w) (d := d) (a0 := a0) (a1 := a1) (nr := reads) (lg := legs) (lx := lx) (ly := ly) (η := η) (ra := ra) (rv := rv) (pa := pa) (st := start) I m6 m7 (by omega) m2 m4 u6 u7 u3 u4 p1 p3 s8 p2 s7 s9 s3 s4 s5 s6 hv m8 (fun c _ => ηb c) hE t5 t6 t7 t8 t9 t3) okX4_findBest ivX4_findBest ml_X8_147 ⟨Nat.le_of_ble_eq_true rfl, Nat.le_of_ble_eq_true rfl⟩ dX8_best_4 rfl rfl rfl (Nat.le_of_ble_eq_true rfl) (by repeat (first | assumption | refine pm_I.up ?_ rfl | refine pm_I.uf ?_ rfl)) rfl cl_4 pm_le.rf pm_le.rf ?_
    rintro _ h3 g3 ⟨l1, I3, out⟩
    rcases out with ⟨rfl, rfl, x1, x2⟩ | ⟨p', pa', x1, rfl, rfl, x2, x3⟩
    · exact absurd ⟨p, hp.1, hp.2.1⟩ x2
    · have same := b_top_one hp x1
      refine px_iret dX8_best_7 rfl rfl (⟨by rw [b_fl_e legs same], I3, ?_⟩)
      exact refe h3 _ _ l1 I3 (fun a k n1 => if_neg n1) (Or.inr ⟨p', pa', x1, by rw [b_fl_e legs same], rfl, x2, x3⟩)
  · refine ⟨-1, ?_⟩
    refine enX8_best pm_le.rf ?_
    refine px_aload_n (i := 0) (pc' := 1) dX8_best_0 rfl rfl rfl ?_
    refine pi_getr (pc' := 4) fl_8_58 dX8_best_1 rfl (by repeat (first | assumption | refine pm_I.up ?_ rfl | refine pm_I.uf ?_ rfl)) rfl rfl ?_
    refine pi_callV (pc' := 7) (c_findBest (w := w) (d := d) (a0 := a0) (a1 := a1) (nr := reads) (lg := legs) (lx := lx) (ly := ly) (η := η) (ra := ra) (rv := rv) (pa := pa) (st := start) I m6 m7 (by omega) m2 m4 u6 u7 u3 u4 p1 p3 s8 p2 s7 s9 s3 s4 s5 s6 hv m8 (fun c _ => ηb c) hE t5 t6 t7 t8 t9 t3) okX4_findBest ivX4_findBest ml_X8_147 ⟨Nat.le_of_ble_eq_true rfl, Nat.le_of_ble_eq_true rfl⟩ dX8_best_4 rfl rfl rfl (Nat.le_of_ble_eq_true rfl) (by repeat (first | assumption | refine pm_I.up ?_ rfl | refine pm_I.uf ?_ rfl)) rfl cl_4 pm_le.rf pm_le.rf ?_
    rintro _ h3 g3 ⟨l1, I3, out⟩
    rcases out with ⟨rfl, rfl, x1, x2⟩ | ⟨p', pa', x1, rfl, rfl, x2, x3⟩
    · refine px_iret dX8_best_7 rfl rfl (⟨rfl, I3, ?_⟩)
      exact refe h3 _ _ l1 I3 (fun a k n1 => rfl) (Or.inl ⟨rfl, rfl, x1, x2⟩)
    · exact absurd ⟨p', x1⟩ hp
theorem o_best : pm_op G mX8_best mX9_best [] := by
  intro z h0 g j
  obtain ⟨I, ⟨n, T, q1⟩, ⟨w, d, η0, q2, q3, q4⟩, ⟨e, a0, a1, q5⟩, q6, q7, q8⟩ := id j
  obtain ⟨m1, m2, m3, m4, m5, m6, m7, m8, m9, mA, mB⟩ := id q2
  obtain ⟨η, hη⟩ : ∃ η : Nat → Int32, η = fun c => if c < 144 then η0 c else 255 := ⟨_, rfl⟩
  have ηe : ∀ c, c < 144 → η0 c = η c := fun c hc => by rw [hη]; exact (if_pos hc).symm
  have ηb : ∀ c, m_bok (η c) := fun c => by
    by_cases hc : c < 144
    · rw [← ηe c hc]; exact m5 c hc
    · rw [hη]
      dsimp only
      rw [if_neg hc]
      unfold m_bok
      decide
  have ηh : ∀ c, c < 144 → m_hc η0 c = m_hc η c := fun c hc => by unfold m_hc; rw [ηe c hc]
  have R2 : ∀ H : Heap, pm_R G z.2.2 h0 g H → pm_R G z.2.2 (pm_up (pm_up h0 4 (pm_ia 0 144 (m_hc η))) 32 (pm_ia 0 144 η)) g H := fun H hR => pm_R.exti (f := η0) (by first | assumption | (repeat (first | exact pm_up_e rfl | refine pm_up_o (by decide) ?_ | apply pm_up_o (by decide))) <;> assumption) ηe (pm_R.exti m8 ηh hR)
  obtain ⟨v, hM⟩ := o_best1 (G := G) (z := z) (h := pm_up (pm_up h0 4 (pm_ia 0 144 (m_hc η))) 32 (pm_ia 0 144 η)) (g := g) (w := w) (d := d) (η := η) (T := T) (by repeat (first | assumption | refine pm_I.up ?_ rfl | refine pm_I.uf ?_ rfl)) (q1.keep rfl rfl rfl rfl) ⟨m1, m2, m3, m4, fun c _ => ηb c, m6, m7, (by first | assumption | (repeat (first | exact pm_up_e rfl | refine pm_up_o (by decide) ?_ | apply pm_up_o (by decide))) <;> assumption), m9, mA, (by first | assumption | (repeat (first | exact pm_up_e rfl | refine pm_up_o (by decide) ?_ | apply pm_up_o (by decide))) <;> assumption)⟩ (q3.keep rfl rfl rfl rfl rfl rfl rfl rfl rfl) (q4.keep rfl rfl rfl rfl rfl rfl rfl rfl rfl rfl rfl rfl rfl rfl rfl rfl rfl rfl rfl rfl) q5 (q6.keep rfl rfl rfl rfl rfl rfl rfl rfl rfl rfl rfl rfl rfl rfl rfl) (q7.keep rfl rfl rfl rfl rfl rfl rfl rfl rfl) (q8.imp fun _ q => q) ηb
  exact ⟨v, hM.pre R2⟩
end OPB
