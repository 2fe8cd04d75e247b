/-! what holds between the class and the reference, behind any run of calls -/
def m_hc (η : Nat → Int32) : Nat → Int32 := fun c => if η c = 255 then -1 else η c
def m_hr (x : Int32) : Prop := 0 ≤ x.toInt ∧ x.toInt ≤ 250
def m_ck (s f1 f2 sd sp m1 m2 : Int32) : Prop := (sp = 0 ∧ s = 0) ∨ (sp = 1 ∧ (sd = 1 ∨ sd = -1) ∧ s = sd ∧ f1 = m1 ∧ m_hr m1) ∨ (sp = 2 ∧ (sd = 1 ∨ sd = -1) ∧ s = 2 * sd ∧ f1 = m1 ∧ m_hr m1 ∧ f2 = m2 ∧ m_hr m2)
theorem m_mid_hr {a b c : Int32} (ha : m_hr a) (hb : m_hr b) (hc : m_hr c) : m_hr (m_mid a b c) := by
  unfold m_mid
  repeat' split
  all_goals assumption
def J_T (n : Nat) (T : Nat → Int32) (h : pm_h) (g : pm_g) : Prop := n ≤ 160 ∧ g 1 1 = .int (nI n) ∧ h 2 = pm_ia 1 160 T ∧ g 30 2 = .int (nI n) ∧ h 31 = pm_ia 1 160 T
def J_M (w d : Nat) (η : Nat → Int32) (h : pm_h) (g : pm_g) : Prop := 2 ≤ w ∧ w ≤ 12 ∧ 2 ≤ d ∧ d ≤ 12 ∧ (∀ c, c < 144 → m_bok (η c)) ∧ g 3 1 = .int (nI w) ∧ g 3 2 = .int (nI d) ∧ h 4 = pm_ia 0 144 (m_hc η) ∧ g 30 9 = .int (nI w) ∧ g 30 10 = .int (nI d) ∧ h 32 = pm_ia 0 144 η
def J_G (e a0 a1 : Nat) (g : pm_g) : Prop := e ≤ 20 ∧ 1 ≤ a0 ∧ a0 ≤ 3 ∧ a1 ≤ 1 ∧ g 5 0 = .int (nI e) ∧ g 5 1 = .int (nI a0) ∧ g 5 2 = .int (nI a1) ∧ g 30 11 = .int (nI e) ∧ g 30 12 = .int (nI a0) ∧ g 30 13 = .int (nI a1)
def J_C (N : Nat) (h : pm_h) (g : pm_g) : Prop := ∃ (st f1 f2 sd sp m1 m2 : Nat → Int32) (mm : Nat), (∀ c, c < N → m_ck (st c) (f1 c) (f2 c) (sd c) (sp c) (m1 c) (m2 c)) ∧ h 12 = pm_ia 0 144 st ∧ h 13 = pm_ia 0 144 f1 ∧ h 14 = pm_ia 0 144 f2 ∧ g 11 5 = .int (nI mm) ∧ h 33 = pm_ia 0 144 sd ∧ h 34 = pm_ia 0 144 sp ∧ h 35 = pm_ia 0 144 m1 ∧ h 36 = pm_ia 0 144 m2 ∧ g 30 15 = .int (nI mm)
/-- the flight: shares, moves, readings -/
def J_Fp (N : Nat) (S : Nat → Nat) (legs reads : Nat) (lx ly rv ra : Nat → Int32) (start : Int32) : Prop := legs ≤ 12 ∧ reads ≤ 40 ∧ (∀ i, i < legs → m_mv (lx i) (ly i)) ∧ (∀ i, i < reads → 0 ≤ (rv i).toInt ∧ (rv i).toInt ≤ 250 ∧ 0 ≤ (ra i).toInt ∧ (ra i).toInt ≤ 12) ∧ (∀ j, S j ≤ 25 ^ legs) ∧ (∀ j, N ≤ j → S j = 0) ∧ (∃ j, j < N ∧ 0 < S j) ∧ (start = -1 ∨ (0 ≤ start.toInt ∧ start.toInt < N))
def J_F (N : Nat) (h : pm_h) (g : pm_g) : Prop := ∃ (S : Nat → Nat) (legs reads lost : Nat) (lx ly rv ra : Nat → Int32) (start : Int32) (f17 f38 : Nat → Int64), J_Fp N S legs reads lx ly rv ra start ∧
  h 16 = pm_la 144 (m_L S) ∧ h 17 = pm_la 144 f17 ∧ h 7 = pm_ia 0 12 lx ∧ h 8 = pm_ia 0 12 ly ∧ h 9 = pm_ia 0 40 rv ∧ h 10 = pm_ia 0 40 ra ∧ g 6 4 = .int (nI legs) ∧ g 6 5 = .int (nI reads) ∧ g 6 6 = .int start ∧ g 15 5 = .int (nI lost) ∧
  h 37 = pm_la 144 (m_L S) ∧ h 38 = pm_la 144 f38 ∧ h 39 = pm_ia 0 12 lx ∧ h 40 = pm_ia 0 12 ly ∧ h 42 = pm_ia 0 40 rv ∧ h 41 = pm_ia 0 40 ra ∧ g 30 22 = .int (nI legs) ∧ g 30 23 = .int (nI reads) ∧ g 30 24 = .int start ∧ g 30 14 = .int (nI lost)
/-- the best path as it was told last, and room to look for it -/
def J_P (h : pm_h) (g : pm_g) : Prop := ∃ (many : Nat) (pa tl b1 b3 b5 c1 c2 c3 c4 : Nat → Int32) (b2 b4 c5 c6 : Nat → Int64), many ≤ 13 ∧ (∀ i, i < many → pa i = tl i) ∧ h 24 = pm_ia 0 13 pa ∧ g 18 9 = .int (nI many) ∧ h 19 = pm_ia 0 144 b1 ∧ h 20 = pm_la 144 b2 ∧ h 21 = pm_ia 0 144 b3 ∧ h 22 = pm_la 144 b4 ∧ h 23 = pm_ia 0 1728 b5 ∧
  h 47 = pm_ia 0 13 tl ∧ g 30 32 = .int (nI many) ∧ h 43 = pm_ia 0 144 c1 ∧ h 44 = pm_ia 0 144 c2 ∧ h 45 = pm_ia 0 1872 c3 ∧ h 46 = pm_ia 0 1872 c4 ∧ h 48 = pm_la 144 c5 ∧ h 49 = pm_la 144 c6
def J_W (h : pm_h) (g : pm_g) : Prop := ∃ (f1 f2 st p at_ fl al : Nat → Int32) (tw : Int32), f1 0 = 0 ∧ f2 0 = 0 ∧ h 26 = pm_ia 0 9 f1 ∧ h 27 = pm_ia 0 9 f2 ∧ h 28 = pm_ia 0 144 st ∧ h 29 = pm_ia 0 1296 p ∧ g 25 10 = .int tw ∧ h 50 = pm_ia 0 144 at_ ∧ h 51 = pm_ia 2 144 fl ∧ h 52 = pm_ia 2 20736 al ∧ g 30 36 = .int tw
def J (h : pm_h) (g : pm_g) : Prop := pm_I h g ∧ (∃ n T, J_T n T h g) ∧ (∃ w d η, J_M w d η h g ∧ J_C (w * d) h g ∧ J_F (w * d) h g) ∧ (∃ e a0 a1, J_G e a0 a1 g) ∧ J_P h g ∧ J_W h g ∧ ∃ fo, h 53 = pm_la 1 fo
section KEEP
variable {h h' : pm_h} {g g' : pm_g}
theorem J_T.keep {n : Nat} {T : Nat → Int32} (x1 : h' 2 = h 2) (x2 : h' 31 = h 31) (y1 : g' 1 1 = g 1 1) (y2 : g' 30 2 = g 30 2) (q : J_T n T h g) : J_T n T h' g' := by
  unfold J_T at *
  rw [x1, x2, y1, y2]
  exact q
theorem J_M.keep {w d : Nat} {η : Nat → Int32} (x1 : h' 4 = h 4) (x2 : h' 32 = h 32) (y1 : g' 3 1 = g 3 1) (y2 : g' 3 2 = g 3 2) (y3 : g' 30 9 = g 30 9) (y4 : g' 30 10 = g 30 10) (q : J_M w d η h g) : J_M w d η h' g' := by
  unfold J_M at *
  rw [x1, x2, y1, y2, y3, y4]
  exact q
theorem J_G.keep {e a0 a1 : Nat} (y1 : g' 5 0 = g 5 0) (y2 : g' 5 1 = g 5 1) (y3 : g' 5 2 = g 5 2) (y4 : g' 30 11 = g 30 11) (y5 : g' 30 12 = g 30 12) (y6 : g' 30 13 = g 30 13) (q : J_G e a0 a1 g) : J_G e a0 a1 g' := by
  unfold J_G at *
  rw [y1, y2, y3, y4, y5, y6]
  exact q
theorem J_C.keep {N : Nat} (x1 : h' 12 = h 12) (x2 : h' 13 = h 13) (x3 : h' 14 = h 14) (x4 : h' 33 = h 33) (x5 : h' 34 = h 34) (x6 : h' 35 = h 35) (x7 : h' 36 = h 36) (y1 : g' 11 5 = g 11 5) (y2 : g' 30 15 = g 30 15) (q : J_C N h g) : J_C N h' g' := by
  unfold J_C at *
  rw [x1, x2, x3, x4, x5, x6, x7, y1, y2]
  exact q
theorem J_F.keep {N : Nat} (x1 : h' 16 = h 16) (x2 : h' 17 = h 17) (x3 : h' 7 = h 7) (x4 : h' 8 = h 8) (x5 : h' 9 = h 9) (x6 : h' 10 = h 10) (y1 : g' 6 4 = g 6 4) (y2 : g' 6 5 = g 6 5) (y3 : g' 6 6 = g 6 6) (y4 : g' 15 5 = g 15 5) (x7 : h' 37 = h 37) (x8 : h' 38 = h 38) (x9 : h' 39 = h 39) (xa : h' 40 = h 40) (xb : h' 42 = h 42) (xc : h' 41 = h 41) (y5 : g' 30 22 = g 30 22) (y6 : g' 30 23 = g 30 23) (y7 : g' 30 24 = g 30 24) (y8 : g' 30 14 = g 30 14) (q : J_F N h g) : J_F N h' g' := by
  unfold J_F at *
  rw [x1, x2, x3, x4, x5, x6, x7, x8, x9, xa, xb, xc, y1, y2, y3, y4, y5, y6, y7, y8]
  exact q
theorem J_P.keep (x1 : h' 24 = h 24) (y1 : g' 18 9 = g 18 9) (x2 : h' 19 = h 19) (x3 : h' 20 = h 20) (x4 : h' 21 = h 21) (x5 : h' 22 = h 22) (x6 : h' 23 = h 23) (x7 : h' 47 = h 47) (y2 : g' 30 32 = g 30 32) (x8 : h' 43 = h 43) (x9 : h' 44 = h 44) (xa : h' 45 = h 45) (xb : h' 46 = h 46) (xc : h' 48 = h 48) (xd : h' 49 = h 49) (q : J_P h g) : J_P h' g' := by
  unfold J_P at *
  rw [x1, x2, x3, x4, x5, x6, x7, x8, x9, xa, xb, xc, xd, y1, y2]
  exact q
theorem J_W.keep (x1 : h' 26 = h 26) (x2 : h' 27 = h 27) (x3 : h' 28 = h 28) (x4 : h' 29 = h 29) (y1 : g' 25 10 = g 25 10) (x5 : h' 50 = h 50) (x6 : h' 51 = h 51) (x7 : h' 52 = h 52) (y2 : g' 30 36 = g 30 36) (q : J_W h g) : J_W h' g' := by
  unfold J_W at *
  rw [x1, x2, x3, x4, x5, x6, x7, y1, y2]
  exact q
theorem m_hc_bd {η : Nat → Int32} {c : Nat} (h : m_bok (η c)) : -1 ≤ (m_hc η c).toInt ∧ (m_hc η c).toInt ≤ 255 := by
  unfold m_hc
  unfold m_bok at h
  split
  · rw [l_m1]; omega
  · omega
theorem m_hc_u {η : Nat → Int32} {c : Nat} (h : m_bok (η c)) : (m_hc η c).toInt = -1 ↔ (η c).toInt = 255 := by
  unfold m_hc
  unfold m_bok at h
  split
  · rename_i q
    rw [q, l_m1, l_255]
    exact ⟨fun _ => rfl, fun _ => rfl⟩
  · rename_i q
    rw [i_eq, l_255] at q
    omega
theorem m_hc_k {η : Nat → Int32} {c : Nat} (h : ¬ (η c).toInt = 255) : m_hc η c = η c := by
  unfold m_hc
  rw [if_neg (fun q => h (by rw [q]; exact l_255))]
theorem J_Fp.S63 {N : Nat} {S : Nat → Nat} {legs reads : Nat} {lx ly rv ra : Nat → Int32} {start : Int32} (q : J_Fp N S legs reads lx ly rv ra start) : ∀ j, S j ≤ 25 ^ 12 := by
  intro j
  obtain ⟨q1, -, -, -, q5, -⟩ := q
  exact Nat.le_trans (q5 j) (Nat.pow_le_pow_right (by omega) q1)
theorem p25 : (25 : Nat) ^ 12 = 59604644775390625 := by decide
/-- a call of both -/
def pm_op (G : pm_G) (Mc Mm : pm_M) (As : List Value) : Prop := ∀ (z : pm_z) (h : pm_h) (g : pm_g), J h g → ∃ v : Int32, pm_Met G Mc (.ref 0 :: As) z z h g (fun r h1 g1 => r = some (.int v) ∧ pm_I h1 g1 ∧ pm_Met G Mm (.ref 30 :: As) z z h1 g1 (fun r' h2 g2 => r' = some (.int v) ∧ J h2 g2))
theorem J.thr {v : Value} (q : J h g) : J h (pm_uf g 30 0 v) := by
  obtain ⟨I, ⟨n, T, q1⟩, ⟨w, d, η, q2, q3, q4⟩, ⟨e, a0, a1, q5⟩, q6, q7, q8⟩ := q
  exact ⟨I.uf rfl, ⟨n, T, q1.keep rfl rfl rfl rfl⟩, ⟨w, d, η, q2.keep rfl rfl rfl rfl rfl rfl, q3.keep rfl rfl rfl rfl rfl rfl rfl rfl rfl, q4.keep rfl rfl rfl rfl rfl rfl rfl rfl rfl rfl rfl rfl rfl rfl rfl rfl rfl rfl rfl rfl⟩, ⟨e, a0, a1, q5.keep rfl rfl rfl rfl rfl rfl⟩, q6.keep rfl rfl rfl rfl rfl rfl rfl rfl rfl rfl rfl rfl rfl rfl rfl, q7.keep rfl rfl rfl rfl rfl rfl rfl rfl rfl, q8⟩
end KEEP
section OPS1
variable {G : pm_G}
theorem o_feed {a b c d e : Int32} : pm_op G mX8_feed mX9_feed [.int a, .int b, .int c, .int d, .int e] := by
  intro z h g j
  obtain ⟨I, ⟨n, T, q1⟩, ⟨w, d', η, q2, q3, q4⟩, q5, q6, q7, q8⟩ := id j
  obtain ⟨hn, t1, t2, t3, t4⟩ := id q1
  by_cases hl : n + 20 ≤ 160
  · refine ⟨nI (n + 20), ?_⟩
    refine enX8_feed pm_le.rf ?_
    refine px_aload_n (i := 0) (pc' := 1) dX8_feed_0 rfl rfl rfl ?_
    refine pi_getr (pc' := 4) fl_8_10 dX8_feed_1 rfl (by repeat (first | assumption | refine pm_I.up ?_ rfl | refine pm_I.uf ?_ rfl)) rfl rfl ?_
    refine pi_callV (pc' := 7) (c_size I t1) okX6_size ivX6_size ml_X8_75 ⟨Nat.le_of_ble_eq_true rfl, Nat.le_of_ble_eq_true rfl⟩ dX8_feed_4 rfl rfl rfl (Nat.le_of_ble_eq_true rfl) (by repeat (first | assumption | refine pm_I.up ?_ rfl | refine pm_I.uf ?_ rfl)) rfl cl_6 pm_le.rf pm_le.rf ?_
    rintro _ _ _ ⟨rfl, rfl, rfl⟩
    refine px_bipush (v := 20) (pc' := 9) dX8_feed_7 rfl (by decide) ?_
    refine px_iadd (pc' := 10) dX8_feed_9 rfl ?_
    rw [show (20 : Int32) = nI 20 from rfl, nI_add]
    refine px_sipush (v := 160) (pc' := 13) dX8_feed_10 rfl (by decide) ?_
    refine px_icmp_le (tgt := 18) (pc' := 16) dX8_feed_13 (by decide) rfl (fun _ => ?_) (fun q_ => absurd (nI_le (b := 160) hl (by omega)) q_)
    refine px_aload_n (i := 0) (pc' := 19) dX8_feed_18 rfl rfl rfl ?_
    refine pi_getr (pc' := 22) fl_8_10 dX8_feed_19 rfl (by repeat (first | assumption | refine pm_I.up ?_ rfl | refine pm_I.uf ?_ rfl)) rfl rfl ?_
    refine px_iload_n (i := 1) (pc' := 23) dX8_feed_22 rfl rfl rfl ?_
    refine pi_callV (pc' := 26) (c_append I t1 (by omega) t2) okX6_append ivX6_append ml_X8_79 ⟨Nat.le_of_ble_eq_true rfl, Nat.le_of_ble_eq_true rfl⟩ dX8_feed_23 rfl rfl rfl (Nat.le_of_ble_eq_true rfl) (by repeat (first | assumption | refine pm_I.up ?_ rfl | refine pm_I.uf ?_ rfl)) rfl cl_6 pm_le.rf pm_le.rf ?_
    rintro _ _ _ ⟨rfl, rfl, rfl⟩
    refine px_aload_n (i := 0) (pc' := 27) dX8_feed_26 rfl rfl rfl ?_
    refine pi_getr (pc' := 30) fl_8_10 dX8_feed_27 rfl (by repeat (first | assumption | refine pm_I.up ?_ rfl | refine pm_I.uf ?_ rfl)) rfl rfl ?_
    refine px_iload_n (i := 2) (pc' := 31) dX8_feed_30 rfl rfl rfl ?_
    refine pi_callV (pc' := 34) (c_append (by repeat (first | assumption | refine pm_I.up ?_ rfl | refine pm_I.uf ?_ rfl)) (n := n + 4) (by first | assumption | (repeat (first | exact pm_uf_e rfl | refine pm_uf_o (by decide) ?_)) <;> assumption) (by omega) (by first | assumption | (repeat (first | exact pm_up_e rfl | refine pm_up_o (by decide) ?_)) <;> assumption)) okX6_append ivX6_append ml_X8_79 ⟨Nat.le_of_ble_eq_true rfl, Nat.le_of_ble_eq_true rfl⟩ dX8_feed_31 rfl rfl rfl (Nat.le_of_ble_eq_true rfl) (by repeat (first | assumption | refine pm_I.up ?_ rfl | refine pm_I.uf ?_ rfl)) rfl cl_6 pm_le.rf pm_le.rf ?_
    rintro _ _ _ ⟨rfl, rfl, rfl⟩
    refine px_aload_n (i := 0) (pc' := 35) dX8_feed_34 rfl rfl rfl ?_
    refine pi_getr (pc' := 38) fl_8_10 dX8_feed_35 rfl (by repeat (first | assumption | refine pm_I.up ?_ rfl | refine pm_I.uf ?_ rfl)) rfl rfl ?_
    refine px_iload_n (i := 3) (pc' := 39) dX8_feed_38 rfl rfl rfl ?_
    refine pi_callV (pc' := 42) (c_append (by repeat (first | assumption | refine pm_I.up ?_ rfl | refine pm_I.uf ?_ rfl)) (n := n + 8) (by first | assumption | (repeat (first | exact pm_uf_e rfl | refine pm_uf_o (by decide) ?_)) <;> assumption) (by omega) (by first | assumption | (repeat (first | exact pm_up_e rfl | refine pm_up_o (by decide) ?_)) <;> assumption)) okX6_append ivX6_append ml_X8_79 ⟨Nat.le_of_ble_eq_true rfl, Nat.le_of_ble_eq_true rfl⟩ dX8_feed_39 rfl rfl rfl (Nat.le_of_ble_eq_true rfl) (by repeat (first | assumption | refine pm_I.up ?_ rfl | refine pm_I.uf ?_ rfl)) rfl cl_6 pm_le.rf pm_le.rf ?_
    rintro _ _ _ ⟨rfl, rfl, rfl⟩
    refine px_aload_n (i := 0) (pc' := 43) dX8_feed_42 rfl rfl rfl ?_
    refine pi_getr (pc' := 46) fl_8_10 dX8_feed_43 rfl (by repeat (first | assumption | refine pm_I.up ?_ rfl | refine pm_I.uf ?_ rfl)) rfl rfl ?_
    refine px_iload (i := 4) (pc' := 48) dX8_feed_46 rfl rfl ?_
    refine pi_callV (pc' := 51) (c_append (by repeat (first | assumption | refine pm_I.up ?_ rfl | refine pm_I.uf ?_ rfl)) (n := n + 12) (by first | assumption | (repeat (first | exact pm_uf_e rfl | refine pm_uf_o (by decide) ?_)) <;> assumption) (by omega) (by first | assumption | (repeat (first | exact pm_up_e rfl | refine pm_up_o (by decide) ?_)) <;> assumption)) okX6_append ivX6_append ml_X8_79 ⟨Nat.le_of_ble_eq_true rfl, Nat.le_of_ble_eq_true rfl⟩ dX8_feed_48 rfl rfl rfl (Nat.le_of_ble_eq_true rfl) (by repeat (first | assumption | refine pm_I.up ?_ rfl | refine pm_I.uf ?_ rfl)) rfl cl_6 pm_le.rf pm_le.rf ?_
    rintro _ _ _ ⟨rfl, rfl, rfl⟩
    refine px_aload_n (i := 0) (pc' := 52) dX8_feed_51 rfl rfl rfl ?_
    refine pi_getr (pc' := 55) fl_8_10 dX8_feed_52 rfl (by repeat (first | assumption | refine pm_I.up ?_ rfl | refine pm_I.uf ?_ rfl)) rfl rfl ?_
    refine px_iload (i := 5) (pc' := 57) dX8_feed_55 rfl rfl ?_
    refine pi_callV (pc' := 60) (c_append (by repeat (first | assumption | refine pm_I.up ?_ rfl | refine pm_I.uf ?_ rfl)) (n := n + 16) (by first | assumption | (repeat (first | exact pm_uf_e rfl | refine pm_uf_o (by decide) ?_)) <;> assumption) (by omega) (by first | assumption | (repeat (first | exact pm_up_e rfl | refine pm_up_o (by decide) ?_)) <;> assumption)) okX6_append ivX6_append ml_X8_79 ⟨Nat.le_of_ble_eq_true rfl, Nat.le_of_ble_eq_true rfl⟩ dX8_feed_57 rfl rfl rfl (Nat.le_of_ble_eq_true rfl) (by repeat (first | assumption | refine pm_I.up ?_ rfl | refine pm_I.uf ?_ rfl)) rfl cl_6 pm_le.rf pm_le.rf ?_
    rintro _ _ _ ⟨rfl, rfl, rfl⟩
    refine px_aload_n (i := 0) (pc' := 61) dX8_feed_60 rfl rfl rfl ?_
    refine pi_getr (pc' := 64) fl_8_10 dX8_feed_61 rfl (by repeat (first | assumption | refine pm_I.up ?_ rfl | refine pm_I.uf ?_ rfl)) rfl rfl ?_
    refine pi_callV (pc' := 67) (c_size (v := nI (n + 20)) (by repeat (first | assumption | refine pm_I.up ?_ rfl | refine pm_I.uf ?_ rfl)) (by first | assumption | (repeat (first | exact pm_uf_e rfl | refine pm_uf_o (by decide) ?_)) <;> assumption)) okX6_size ivX6_size ml_X8_75 ⟨Nat.le_of_ble_eq_true rfl, Nat.le_of_ble_eq_true rfl⟩ dX8_feed_64 rfl rfl rfl (Nat.le_of_ble_eq_true rfl) (by repeat (first | assumption | refine pm_I.up ?_ rfl | refine pm_I.uf ?_ rfl)) rfl cl_6 pm_le.rf pm_le.rf ?_
    rintro _ _ _ ⟨rfl, rfl, rfl⟩
    rw [pm_up_up, pm_up_up, pm_up_up, pm_up_up, pm_uf_uf, pm_uf_uf, pm_uf_uf, pm_uf_uf]
    refine px_iret dX8_feed_67 rfl rfl (⟨rfl, (by repeat (first | assumption | refine pm_I.up ?_ rfl | refine pm_I.uf ?_ rfl)), ?_⟩)
    refine enX9_feed pm_le.rf ?_
    refine px_aload_n (i := 0) (pc' := 1) dX9_feed_0 rfl rfl rfl ?_
    refine px_iconst (v := 0) (pc' := 2) dX9_feed_1 rfl (by decide) ?_
    refine pi_puti (pc' := 5) fi_9_1 dX9_feed_2 rfl (by repeat (first | assumption | refine pm_I.up ?_ rfl | refine pm_I.uf ?_ rfl)) rfl ?_
    refine px_aload_n (i := 0) (pc' := 6) dX9_feed_5 rfl rfl rfl ?_
    refine pi_geti (pc' := 9) fl_9_7 dX9_feed_6 rfl (by repeat (first | assumption | refine pm_I.up ?_ rfl | refine pm_I.uf ?_ rfl)) rfl (by first | assumption | (repeat (first | exact pm_uf_e rfl | refine pm_uf_o (by decide) ?_)) <;> assumption) ?_
    refine px_bipush (v := 20) (pc' := 11) dX9_feed_9 rfl (by decide) ?_
    refine px_iadd (pc' := 12) dX9_feed_11 rfl ?_
    rw [show (20 : Int32) = nI 20 from rfl, nI_add]
    refine px_sipush (v := 160) (pc' := 15) dX9_feed_12 rfl (by decide) ?_
    refine px_icmp_le (tgt := 20) (pc' := 18) dX9_feed_15 (by decide) rfl (fun _ => ?_) (fun q_ => absurd (nI_le (b := 160) hl (by omega)) q_)
    refine px_aload_n (i := 0) (pc' := 21) dX9_feed_20 rfl rfl rfl ?_
    refine px_iload_n (i := 1) (pc' := 22) dX9_feed_21 rfl rfl rfl ?_
    refine pi_callV (pc' := 25) (d_four (by repeat (first | assumption | refine pm_I.up ?_ rfl | refine pm_I.uf ?_ rfl)) (n := n) (by first | assumption | (repeat (first | exact pm_uf_e rfl | refine pm_uf_o (by decide) ?_)) <;> assumption) (by omega) (by first | assumption | (repeat (first | exact pm_up_e rfl | refine pm_up_o (by decide) ?_)) <;> assumption)) okX9_four ivX9_four ml_X9_10 ⟨Nat.le_of_ble_eq_true rfl, Nat.le_of_ble_eq_true rfl⟩ dX9_feed_22 rfl rfl rfl (Nat.le_of_ble_eq_true rfl) (by repeat (first | assumption | refine pm_I.up ?_ rfl | refine pm_I.uf ?_ rfl)) rfl cl_9 pm_le.rf pm_le.rf ?_
    rintro _ _ _ ⟨rfl, rfl, rfl⟩
    refine px_aload_n (i := 0) (pc' := 26) dX9_feed_25 rfl rfl rfl ?_
    refine px_iload_n (i := 2) (pc' := 27) dX9_feed_26 rfl rfl rfl ?_
    refine pi_callV (pc' := 30) (d_four (by repeat (first | assumption | refine pm_I.up ?_ rfl | refine pm_I.uf ?_ rfl)) (n := n + 4) (by first | assumption | (repeat (first | exact pm_uf_e rfl | refine pm_uf_o (by decide) ?_)) <;> assumption) (by omega) (by first | assumption | (repeat (first | exact pm_up_e rfl | refine pm_up_o (by decide) ?_)) <;> assumption)) okX9_four ivX9_four ml_X9_10 ⟨Nat.le_of_ble_eq_true rfl, Nat.le_of_ble_eq_true rfl⟩ dX9_feed_27 rfl rfl rfl (Nat.le_of_ble_eq_true rfl) (by repeat (first | assumption | refine pm_I.up ?_ rfl | refine pm_I.uf ?_ rfl)) rfl cl_9 pm_le.rf pm_le.rf ?_
    rintro _ _ _ ⟨rfl, rfl, rfl⟩
    refine px_aload_n (i := 0) (pc' := 31) dX9_feed_30 rfl rfl rfl ?_
    refine px_iload_n (i := 3) (pc' := 32) dX9_feed_31 rfl rfl rfl ?_
    refine pi_callV (pc' := 35) (d_four (by repeat (first | assumption | refine pm_I.up ?_ rfl | refine pm_I.uf ?_ rfl)) (n := n + 8) (by first | assumption | (repeat (first | exact pm_uf_e rfl | refine pm_uf_o (by decide) ?_)) <;> assumption) (by omega) (by first | assumption | (repeat (first | exact pm_up_e rfl | refine pm_up_o (by decide) ?_)) <;> assumption)) okX9_four ivX9_four ml_X9_10 ⟨Nat.le_of_ble_eq_true rfl, Nat.le_of_ble_eq_true rfl⟩ dX9_feed_32 rfl rfl rfl (Nat.le_of_ble_eq_true rfl) (by repeat (first | assumption | refine pm_I.up ?_ rfl | refine pm_I.uf ?_ rfl)) rfl cl_9 pm_le.rf pm_le.rf ?_
    rintro _ _ _ ⟨rfl, rfl, rfl⟩
    refine px_aload_n (i := 0) (pc' := 36) dX9_feed_35 rfl rfl rfl ?_
    refine px_iload (i := 4) (pc' := 38) dX9_feed_36 rfl rfl ?_
    refine pi_callV (pc' := 41) (d_four (by repeat (first | assumption | refine pm_I.up ?_ rfl | refine pm_I.uf ?_ rfl)) (n := n + 12) (by first | assumption | (repeat (first | exact pm_uf_e rfl | refine pm_uf_o (by decide) ?_)) <;> assumption) (by omega) (by first | assumption | (repeat (first | exact pm_up_e rfl | refine pm_up_o (by decide) ?_)) <;> assumption)) okX9_four ivX9_four ml_X9_10 ⟨Nat.le_of_ble_eq_true rfl, Nat.le_of_ble_eq_true rfl⟩ dX9_feed_38 rfl rfl rfl (Nat.le_of_ble_eq_true rfl) (by repeat (first | assumption | refine pm_I.up ?_ rfl | refine pm_I.uf ?_ rfl)) rfl cl_9 pm_le.rf pm_le.rf ?_
    rintro _ _ _ ⟨rfl, rfl, rfl⟩
    refine px_aload_n (i := 0) (pc' := 42) dX9_feed_41 rfl rfl rfl ?_
    refine px_iload (i := 5) (pc' := 44) dX9_feed_42 rfl rfl ?_
    refine pi_callV (pc' := 47) (d_four (by repeat (first | assumption | refine pm_I.up ?_ rfl | refine pm_I.uf ?_ rfl)) (n := n + 16) (by first | assumption | (repeat (first | exact pm_uf_e rfl | refine pm_uf_o (by decide) ?_)) <;> assumption) (by omega) (by first | assumption | (repeat (first | exact pm_up_e rfl | refine pm_up_o (by decide) ?_)) <;> assumption)) okX9_four ivX9_four ml_X9_10 ⟨Nat.le_of_ble_eq_true rfl, Nat.le_of_ble_eq_true rfl⟩ dX9_feed_44 rfl rfl rfl (Nat.le_of_ble_eq_true rfl) (by repeat (first | assumption | refine pm_I.up ?_ rfl | refine pm_I.uf ?_ rfl)) rfl cl_9 pm_le.rf pm_le.rf ?_
    rintro _ _ _ ⟨rfl, rfl, rfl⟩
    refine px_aload_n (i := 0) (pc' := 48) dX9_feed_47 rfl rfl rfl ?_
    refine pi_geti (pc' := 51) fl_9_7 dX9_feed_48 rfl (by repeat (first | assumption | refine pm_I.up ?_ rfl | refine pm_I.uf ?_ rfl)) rfl (by first | assumption | (repeat (first | exact pm_uf_e rfl | refine pm_uf_o (by decide) ?_)) <;> assumption) ?_
    rw [pm_up_up, pm_up_up, pm_up_up, pm_up_up, pm_uf_uf, pm_uf_uf, pm_uf_uf, pm_uf_uf]
    exact px_iret dX9_feed_51 rfl rfl (⟨rfl, (by repeat (first | assumption | refine pm_I.up ?_ rfl | refine pm_I.uf ?_ rfl)), ⟨n + 20, _, hl, (by first | assumption | (repeat (first | exact pm_uf_e rfl | refine pm_uf_o (by decide) ?_)) <;> assumption), (by first | assumption | (repeat (first | exact pm_up_e rfl | refine pm_up_o (by decide) ?_)) <;> assumption), (by first | assumption | (repeat (first | exact pm_uf_e rfl | refine pm_uf_o (by decide) ?_)) <;> assumption), (by first | assumption | (repeat (first | exact pm_up_e rfl | refine pm_up_o (by decide) ?_)) <;> assumption)⟩, ⟨w, d', η, q2.keep rfl rfl rfl rfl rfl rfl, q3.keep rfl rfl rfl rfl rfl rfl rfl rfl rfl, q4.keep rfl rfl rfl rfl rfl rfl rfl rfl rfl rfl rfl rfl rfl rfl rfl rfl rfl rfl rfl rfl⟩, q5.imp fun _ q => q.imp fun _ q => q.imp fun _ q => q.keep rfl rfl rfl rfl rfl rfl, q6.keep rfl rfl rfl rfl rfl rfl rfl rfl rfl rfl rfl rfl rfl rfl rfl, q7.keep rfl rfl rfl rfl rfl rfl rfl rfl rfl, q8⟩)
  · refine ⟨-1, ?_⟩
    refine enX8_feed pm_le.rf ?_
    refine px_aload_n (i := 0) (pc' := 1) dX8_feed_0 rfl rfl rfl ?_
    refine pi_getr (pc' := 4) fl_8_10 dX8_feed_1 rfl (by repeat (first | assumption | refine pm_I.up ?_ rfl | refine pm_I.uf ?_ rfl)) rfl rfl ?_
    refine pi_callV (pc' := 7) (c_size I t1) okX6_size ivX6_size ml_X8_75 ⟨Nat.le_of_ble_eq_true rfl, Nat.le_of_ble_eq_true rfl⟩ dX8_feed_4 rfl rfl rfl (Nat.le_of_ble_eq_true rfl) (by repeat (first | assumption | refine pm_I.up ?_ rfl | refine pm_I.uf ?_ rfl)) rfl cl_6 pm_le.rf pm_le.rf ?_
    rintro _ _ _ ⟨rfl, rfl, rfl⟩
    refine px_bipush (v := 20) (pc' := 9) dX8_feed_7 rfl (by decide) ?_
    refine px_iadd (pc' := 10) dX8_feed_9 rfl ?_
    rw [show (20 : Int32) = nI 20 from rfl, nI_add]
    refine px_sipush (v := 160) (pc' := 13) dX8_feed_10 rfl (by decide) ?_
    refine px_icmp_le (tgt := 18) (pc' := 16) dX8_feed_13 (by decide) rfl (fun q_ => absurd q_ (nI_ge (b := n + 20) (a := 160) (by omega) (by omega))) (fun _ => ?_)
    refine px_iconst (v := -1) (pc' := 17) dX8_feed_16 rfl (by decide) ?_
    refine px_iret dX8_feed_17 rfl rfl (⟨rfl, I, ?_⟩)
    refine enX9_feed pm_le.rf ?_
    refine px_aload_n (i := 0) (pc' := 1) dX9_feed_0 rfl rfl rfl ?_
    refine px_iconst (v := 0) (pc' := 2) dX9_feed_1 rfl (by decide) ?_
    refine pi_puti (pc' := 5) fi_9_1 dX9_feed_2 rfl (by repeat (first | assumption | refine pm_I.up ?_ rfl | refine pm_I.uf ?_ rfl)) rfl ?_
    refine px_aload_n (i := 0) (pc' := 6) dX9_feed_5 rfl rfl rfl ?_
    refine pi_geti (pc' := 9) fl_9_7 dX9_feed_6 rfl (by repeat (first | assumption | refine pm_I.up ?_ rfl | refine pm_I.uf ?_ rfl)) rfl (by first | assumption | (repeat (first | exact pm_uf_e rfl | refine pm_uf_o (by decide) ?_)) <;> assumption) ?_
    refine px_bipush (v := 20) (pc' := 11) dX9_feed_9 rfl (by decide) ?_
    refine px_iadd (pc' := 12) dX9_feed_11 rfl ?_
    rw [show (20 : Int32) = nI 20 from rfl, nI_add]
    refine px_sipush (v := 160) (pc' := 15) dX9_feed_12 rfl (by decide) ?_
    refine px_icmp_le (tgt := 20) (pc' := 18) dX9_feed_15 (by decide) rfl (fun q_ => absurd q_ (nI_ge (b := n + 20) (a := 160) (by omega) (by omega))) (fun _ => ?_)
    refine px_iconst (v := -1) (pc' := 19) dX9_feed_18 rfl (by decide) ?_
    exact px_iret dX9_feed_19 rfl rfl (⟨rfl, j.thr⟩)
end OPS1
