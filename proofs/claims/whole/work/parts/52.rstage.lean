section RBD
variable {G : pm_G} {z : pm_z} {h : pm_h} {g : pm_g} {Φ : pm_F}
/-- a row that is copied back -/
theorem d_bestS {s i : Nat} {c1 c2 c3 c4 : Nat → Int32} {c5 c6 : Nat → Int64} (hs : s < 12) (hi : i < 144)
    (K : ∀ (h1 : pm_h) (c3' : Nat → Int32), r_H h h1 g c1 c2 c3' c4 c5 c6 → (∀ t, t ≤ s → c3' (13 * i + t) = c4 (13 * i + t)) → (∀ x, x < 13 * i ∨ 13 * i + s < x → c3' x = c3 x) → pm_W G mX9_best z Φ 370 [.ref 30, .int (nI s), .int (nI i), .int (nI (s + 1)), pm_u, pm_u, pm_u, pm_u, pm_u] [] z h1 g) :
    ∀ k m : Nat, m + k = s + 1 → ∀ (h1 : pm_h) (c3' : Nat → Int32), r_H h h1 g c1 c2 c3' c4 c5 c6 → (∀ t, t < m → c3' (13 * i + t) = c4 (13 * i + t)) → (∀ x, x < 13 * i ∨ 13 * i + s < x → c3' x = c3 x) →
      pm_W G mX9_best z Φ 337 [.ref 30, .int (nI s), .int (nI i), .int (nI m), pm_u, pm_u, pm_u, pm_u, pm_u] [] z h1 g := by
  intro k
  induction k with
  | zero =>
    intro m hm h1 c3' q i1 i2
    obtain rfl : m = s + 1 := by omega
    refine px_iload_n (i := 3) (pc' := 338) dX9_best_337 rfl rfl rfl ?_
    refine px_iload_n (i := 1) (pc' := 339) dX9_best_338 rfl rfl rfl ?_
    refine px_icmp_gt (tgt := 370) (pc' := 342) dX9_best_339 (by decide) rfl (fun _ => ?_) (fun q_ => absurd (nI_lt (by omega) (by omega)) q_)
    exact K h1 c3' q (fun t ht => i1 t (by omega)) i2
  | succ k ih =>
    intro m hm h1 c3' q i1 i2
    obtain ⟨I, fr, s1, s2, s3, s4, s5, s6⟩ := id q
    have e13 : ∀ x : Nat, (13 : Int32) * nI x + nI m = nI (13 * x + m) := fun x => by rw [show (13 : Int32) = nI 13 from rfl, pk_mul, nI_add]
    refine px_iload_n (i := 3) (pc' := 338) dX9_best_337 rfl rfl rfl ?_
    refine px_iload_n (i := 1) (pc' := 339) dX9_best_338 rfl rfl rfl ?_
    refine px_icmp_gt (tgt := 370) (pc' := 342) dX9_best_339 (by decide) rfl (fun q_ => absurd q_ (nI_nlt (by omega) (by omega))) (fun _ => ?_)
    refine px_aload_n (i := 0) (pc' := 343) dX9_best_342 rfl rfl rfl ?_
    refine pi_getr (pc' := 346) fl_9_77 dX9_best_343 rfl (by repeat (first | assumption | refine pm_I.up ?_ rfl | refine pm_I.uf ?_ rfl)) rfl rfl ?_
    refine px_bipush (v := 13) (pc' := 348) dX9_best_346 rfl (by decide) ?_
    refine px_iload_n (i := 2) (pc' := 349) dX9_best_348 rfl rfl rfl ?_
    refine px_imul (pc' := 350) dX9_best_349 rfl ?_
    refine px_iload_n (i := 3) (pc' := 351) dX9_best_350 rfl rfl rfl ?_
    refine px_iadd (pc' := 352) dX9_best_351 rfl ?_
    refine px_aload_n (i := 0) (pc' := 353) dX9_best_352 rfl rfl rfl ?_
    refine pi_getr (pc' := 356) fl_9_80 dX9_best_353 rfl (by repeat (first | assumption | refine pm_I.up ?_ rfl | refine pm_I.uf ?_ rfl)) rfl rfl ?_
    refine px_bipush (v := 13) (pc' := 358) dX9_best_356 rfl (by decide) ?_
    refine px_iload_n (i := 2) (pc' := 359) dX9_best_358 rfl rfl rfl ?_
    refine px_imul (pc' := 360) dX9_best_359 rfl ?_
    refine px_iload_n (i := 3) (pc' := 361) dX9_best_360 rfl rfl rfl ?_
    refine px_iadd (pc' := 362) dX9_best_361 rfl ?_
    rw [e13]
    refine px_iald (pc' := 363) dX9_best_362 rfl (by first | assumption | (repeat (first | exact pm_up_e rfl | refine pm_up_o (by decide) ?_ | apply pm_up_o (by decide))) <;> assumption) (vp_in_nI (by omega) (by omega)) ?_
    refine px_iast (pc' := 364) dX9_best_363 rfl (by first | assumption | (repeat (first | exact pm_up_e rfl | refine pm_up_o (by decide) ?_ | apply pm_up_o (by decide))) <;> assumption) (vp_in_nI (by omega) (by omega)) ?_
    refine sx_inc_9_3 (w := 1) (pc' := 367) dX9_best_364 rfl rfl (by decide) rfl ?_
    refine px_goto (tgt := 337) dX9_best_367 (by decide) ?_
    rw [nI_1, nI_clamp (by omega)]
    refine ih (m + 1) (by omega) _ _ (q.u45 _) (fun t ht => ?_) (fun x hx => (if_neg (by omega)).trans (i2 x hx))
    by_cases htm : t = m
    · subst htm
      exact if_pos rfl
    · exact (if_neg (by omega)).trans (i1 t (by omega))
/-- the stage's rows become the rows -/
theorem d_bestE {w d nr s : Nat} {η ra rv c2 c4 : Nat → Int32} {c6 : Nat → Int64} (e9 : g 30 9 = .int (nI w)) (e10 : g 30 10 = .int (nI d)) (hw : w ≤ 12) (hd : d ≤ 12) (hs : s < 12) (e23 : g 30 23 = .int (nI nr)) (hnr : nr ≤ 40) (f42 : h 42 = pm_ia 0 40 rv) (f41 : h 41 = pm_ia 0 40 ra) (f32 : h 32 = pm_ia 0 144 η) (hv : ∀ i, i < nr → 0 ≤ (rv i).toInt ∧ (rv i).toInt ≤ 255) (hb : ∀ c, c < 144 → m_bok (η c))
    (K : ∀ (h1 : pm_h) (c1 c3 : Nat → Int32) (c5 : Nat → Int64), r_H h h1 g c1 c2 c3 c4 c5 c6 → (∀ j, j < w * d → c1 j = c2 j + nI (b_E ra rv η nr (s + 1) j) ∧ c5 j = c6 j ∧ (∀ t, t ≤ s → c3 (13 * j + t) = c4 (13 * j + t)) ∧ c3 (13 * j + (s + 1)) = nI j) → pm_W G mX9_best z Φ 390 [.ref 30, .int (nI s), .int (nI (w * d)), pm_u, pm_u, pm_u, pm_u, pm_u, pm_u] [] z h1 g) :
    ∀ k i : Nat, i + k = w * d → ∀ (h1 : pm_h) (c1 c3 : Nat → Int32) (c5 : Nat → Int64), r_H h h1 g c1 c2 c3 c4 c5 c6 → (∀ j, j < i → c1 j = c2 j + nI (b_E ra rv η nr (s + 1) j) ∧ c5 j = c6 j ∧ (∀ t, t ≤ s → c3 (13 * j + t) = c4 (13 * j + t)) ∧ c3 (13 * j + (s + 1)) = nI j) →
      pm_W G mX9_best z Φ 294 [.ref 30, .int (nI s), .int (nI i), pm_u, pm_u, pm_u, pm_u, pm_u, pm_u] [] z h1 g := by
  have hwd := m_wd hw hd
  intro k
  induction k with
  | zero =>
    intro i hi h1 c1 c3 c5 q inv
    obtain rfl : i = w * d := by omega
    obtain ⟨I, -⟩ := id q
    refine px_iload_n (i := 2) (pc' := 295) dX9_best_294 rfl rfl rfl ?_
    refine px_aload_n (i := 0) (pc' := 296) dX9_best_295 rfl rfl rfl ?_
    refine pi_callV (pc' := 299) (d_cells I e9 e10) okX9_cells ivX9_cells ml_X9_108 ⟨Nat.le_of_ble_eq_true rfl, Nat.le_of_ble_eq_true rfl⟩ dX9_best_296 rfl rfl rfl (Nat.le_of_ble_eq_true rfl) (by repeat (first | assumption | refine pm_I.up ?_ rfl | refine pm_I.uf ?_ rfl)) rfl cl_9 pm_le.rf pm_le.rf ?_
    rintro _ _ _ ⟨rfl, rfl, rfl⟩
    refine px_icmp_ge (tgt := 390) (pc' := 302) dX9_best_299 (by decide) rfl (fun _ => ?_) (fun q_ => absurd (nI_le (by omega) (by omega)) q_)
    exact K h1 c1 c3 c5 q inv
  | succ k ih =>
    intro i hi h1 c1 c3 c5 q inv
    obtain ⟨I, fr, s1, s2, s3, s4, s5, s6⟩ := id q
    have il : (nI i).toNatClampNeg = i := nI_clamp (by omega)
    have f42' := (fr 42 (by decide) (by decide) (by decide) (by decide) (by decide) (by decide)).trans f42
    have f41' := (fr 41 (by decide) (by decide) (by decide) (by decide) (by decide) (by decide)).trans f41
    have f32' := (fr 32 (by decide) (by decide) (by decide) (by decide) (by decide) (by decide)).trans f32
    refine px_iload_n (i := 2) (pc' := 295) dX9_best_294 rfl rfl rfl ?_
    refine px_aload_n (i := 0) (pc' := 296) dX9_best_295 rfl rfl rfl ?_
    refine pi_callV (pc' := 299) (d_cells I e9 e10) okX9_cells ivX9_cells ml_X9_108 ⟨Nat.le_of_ble_eq_true rfl, Nat.le_of_ble_eq_true rfl⟩ dX9_best_296 rfl rfl rfl (Nat.le_of_ble_eq_true rfl) (by repeat (first | assumption | refine pm_I.up ?_ rfl | refine pm_I.uf ?_ rfl)) rfl cl_9 pm_le.rf pm_le.rf ?_
    rintro _ _ _ ⟨rfl, rfl, rfl⟩
    refine px_icmp_ge (tgt := 390) (pc' := 302) dX9_best_299 (by decide) rfl (fun q_ => absurd q_ (nI_ge (by omega) (by omega))) (fun _ => ?_)
    refine px_aload_n (i := 0) (pc' := 303) dX9_best_302 rfl rfl rfl ?_
    refine pi_getr (pc' := 306) fl_9_86 dX9_best_303 rfl (by repeat (first | assumption | refine pm_I.up ?_ rfl | refine pm_I.uf ?_ rfl)) rfl rfl ?_
    refine px_iload_n (i := 2) (pc' := 307) dX9_best_306 rfl rfl rfl ?_
    refine px_aload_n (i := 0) (pc' := 308) dX9_best_307 rfl rfl rfl ?_
    refine pi_getr (pc' := 311) fl_9_89 dX9_best_308 rfl (by repeat (first | assumption | refine pm_I.up ?_ rfl | refine pm_I.uf ?_ rfl)) rfl rfl ?_
    refine px_iload_n (i := 2) (pc' := 312) dX9_best_311 rfl rfl rfl ?_
    refine px_lald (pc' := 313) dX9_best_312 rfl (by first | assumption | (repeat (first | exact pm_up_e rfl | refine pm_up_o (by decide) ?_ | apply pm_up_o (by decide))) <;> assumption) (vp_in_nI (by omega) (by omega)) ?_
    refine px_last (pc' := 314) dX9_best_313 rfl (by first | assumption | (repeat (first | exact pm_up_e rfl | refine pm_up_o (by decide) ?_ | apply pm_up_o (by decide))) <;> assumption) (vp_in_nI (by omega) (by omega)) ?_
    refine px_aload_n (i := 0) (pc' := 315) dX9_best_314 rfl rfl rfl ?_
    refine pi_getr (pc' := 318) fl_9_71 dX9_best_315 rfl (by repeat (first | assumption | refine pm_I.up ?_ rfl | refine pm_I.uf ?_ rfl)) rfl rfl ?_
    refine px_iload_n (i := 2) (pc' := 319) dX9_best_318 rfl rfl rfl ?_
    refine px_aload_n (i := 0) (pc' := 320) dX9_best_319 rfl rfl rfl ?_
    refine pi_getr (pc' := 323) fl_9_74 dX9_best_320 rfl (by repeat (first | assumption | refine pm_I.up ?_ rfl | refine pm_I.uf ?_ rfl)) rfl rfl ?_
    refine px_iload_n (i := 2) (pc' := 324) dX9_best_323 rfl rfl rfl ?_
    refine px_iald (pc' := 325) dX9_best_324 rfl (by first | assumption | (repeat (first | exact pm_up_e rfl | refine pm_up_o (by decide) ?_ | apply pm_up_o (by decide))) <;> assumption) (vp_in_nI (by omega) (by omega)) ?_
    refine px_aload_n (i := 0) (pc' := 326) dX9_best_325 rfl rfl rfl ?_
    refine px_iload_n (i := 2) (pc' := 327) dX9_best_326 rfl rfl rfl ?_
    refine px_iload_n (i := 1) (pc' := 328) dX9_best_327 rfl rfl rfl ?_
    refine px_iconst (v := 1) (pc' := 329) dX9_best_328 rfl (by decide) ?_
    refine px_iadd (pc' := 330) dX9_best_329 rfl ?_
    rw [il, nI_1]
    refine pi_callV (pc' := 333) (d_errs (t := s + 1) (n := nr) (η := η) (ra := ra) (rv := rv) (by repeat (first | assumption | refine pm_I.up ?_ rfl | refine pm_I.uf ?_ rfl)) e23 hnr (by first | assumption | (repeat (first | exact pm_up_e rfl | refine pm_up_o (by decide) ?_ | apply pm_up_o (by decide))) <;> assumption) (by first | assumption | (repeat (first | exact pm_up_e rfl | refine pm_up_o (by decide) ?_ | apply pm_up_o (by decide))) <;> assumption) (by first | assumption | (repeat (first | exact pm_up_e rfl | refine pm_up_o (by decide) ?_ | apply pm_up_o (by decide))) <;> assumption) hv (by omega) (hb i (by omega)) (by omega)) okX9_errs ivX9_errs ml_X9_165 ⟨Nat.le_of_ble_eq_true rfl, Nat.le_of_ble_eq_true rfl⟩ dX9_best_330 rfl rfl rfl (Nat.le_of_ble_eq_true rfl) (by repeat (first | assumption | refine pm_I.up ?_ rfl | refine pm_I.uf ?_ rfl)) rfl cl_9 pm_le.rf pm_le.rf ?_
    rintro _ _ _ ⟨rfl, rfl, rfl⟩
    refine px_iadd (pc' := 334) dX9_best_333 rfl ?_
    refine px_iast (pc' := 335) dX9_best_334 rfl (by first | assumption | (repeat (first | exact pm_up_e rfl | refine pm_up_o (by decide) ?_ | apply pm_up_o (by decide))) <;> assumption) (vp_in_nI (by omega) (by omega)) ?_
    refine px_iconst (v := 0) (pc' := 336) dX9_best_335 rfl (by decide) ?_
    refine sx_i_n_9_3 (pc' := 337) dX9_best_336 rfl rfl rfl rfl ?_
    rw [il]
    refine d_bestS (s := s) (i := i) (c3 := c3) hs (by omega) (fun h2 c3' q' y1 y2 => ?_) (s + 1) 0 (by omega) _ c3 ((q.u48 _).u43 _) (fun t ht => absurd ht (Nat.not_lt_zero t)) (fun _ _ => rfl)
    obtain ⟨I2, fr2, z1, z2, z3, z4, z5, z6⟩ := id q'
    refine px_aload_n (i := 0) (pc' := 371) dX9_best_370 rfl rfl rfl ?_
    refine pi_getr (pc' := 374) fl_9_77 dX9_best_371 rfl (by repeat (first | assumption | refine pm_I.up ?_ rfl | refine pm_I.uf ?_ rfl)) rfl rfl ?_
    refine px_bipush (v := 13) (pc' := 376) dX9_best_374 rfl (by decide) ?_
    refine px_iload_n (i := 2) (pc' := 377) dX9_best_376 rfl rfl rfl ?_
    refine px_imul (pc' := 378) dX9_best_377 rfl ?_
    refine px_iload_n (i := 1) (pc' := 379) dX9_best_378 rfl rfl rfl ?_
    refine px_iadd (pc' := 380) dX9_best_379 rfl ?_
    rw [show (13 : Int32) * nI i + nI s = nI (13 * i + s) by rw [show (13 : Int32) = nI 13 from rfl, pk_mul, nI_add]]
    refine px_iconst (v := 1) (pc' := 381) dX9_best_380 rfl (by decide) ?_
    refine px_iadd (pc' := 382) dX9_best_381 rfl ?_
    rw [nI_1]
    refine px_iload_n (i := 2) (pc' := 383) dX9_best_382 rfl rfl rfl ?_
    refine px_iast (pc' := 384) dX9_best_383 rfl (by first | assumption | (repeat (first | exact pm_up_e rfl | refine pm_up_o (by decide) ?_ | apply pm_up_o (by decide))) <;> assumption) (vp_in_nI (by omega) (by omega)) ?_
    refine sx_inc_9_2 (w := 1) (pc' := 387) dX9_best_384 rfl rfl (by decide) rfl ?_
    refine px_goto (tgt := 294) dX9_best_387 (by decide) ?_
    rw [nI_1, nI_clamp (by omega)]
    refine px_f9_3 ?_
    refine ih (i + 1) (by omega) _ _ _ _ (q'.u45 _) (fun j hj => ?_)
    by_cases hji : j = i
    · subst hji
      exact ⟨if_pos rfl, if_pos rfl, fun t ht => (if_neg (by omega)).trans (y1 t ht), if_pos (by omega)⟩
    · obtain ⟨t1, t2, t3, t4⟩ := inv j (by omega)
      exact ⟨(if_neg hji).trans t1, (if_neg hji).trans t2, fun t ht => (if_neg (by omega)).trans ((y2 _ (by omega)).trans (t3 t ht)), (if_neg (by omega)).trans ((y2 _ (by omega)).trans t4)⟩
/-- stage by stage -/
theorem d_bestL {w d a0 a1 nr lg : Nat} {lx ly η ra rv : Nat → Int32} {St : Nat → Prop} (e9 : g 30 9 = .int (nI w)) (e10 : g 30 10 = .int (nI d)) (hw0 : 0 < w) (hw : w ≤ 12) (hd : d ≤ 12) (e12 : g 30 12 = .int (nI a0)) (e13 : g 30 13 = .int (nI a1)) (h0 : a0 ≤ 3) (h1' : a1 ≤ 1) (hlg : lg ≤ 12) (hmv : ∀ s, s < lg → m_mv (lx s) (ly s)) (f39 : h 39 = pm_ia 0 12 lx) (f40 : h 40 = pm_ia 0 12 ly) (e22 : g 30 22 = .int (nI lg))
    (e23 : g 30 23 = .int (nI nr)) (hnr : nr ≤ 40) (f42 : h 42 = pm_ia 0 40 rv) (f41 : h 41 = pm_ia 0 40 ra) (f32 : h 32 = pm_ia 0 144 η) (hv : ∀ i, i < nr → 0 ≤ (rv i).toInt ∧ (rv i).toInt ≤ 255) (hb : ∀ c, c < 144 → m_bok (η c)) (hE : ∀ t j, b_E ra rv η nr t j ≤ 10200)
    (K : ∀ (h1 : pm_h) (c1 c2 c3 c4 : Nat → Int32) (c5 c6 : Nat → Int64) (W f : Nat → Nat) (pp : Nat → Nat → Nat), r_H h h1 g c1 c2 c3 c4 c5 c6 → r_D (w * d) (b_E ra rv η nr) (b_V w a0 a1 lx ly) St lg c1 c3 c5 W f pp → pm_W G mX9_best z Φ 396 [.ref 30, .int (nI lg), pm_u, pm_u, pm_u, pm_u, pm_u, pm_u, pm_u] [] z h1 g) :
    ∀ k s : Nat, s + k = lg → ∀ (h1 : pm_h) (c1 c2 c3 c4 : Nat → Int32) (c5 c6 : Nat → Int64) (W f : Nat → Nat) (pp : Nat → Nat → Nat), r_H h h1 g c1 c2 c3 c4 c5 c6 → r_D (w * d) (b_E ra rv η nr) (b_V w a0 a1 lx ly) St s c1 c3 c5 W f pp → pm_W G mX9_best z Φ 72 [.ref 30, .int (nI s), pm_u, pm_u, pm_u, pm_u, pm_u, pm_u, pm_u] [] z h1 g := by
  have hwd := m_wd hw hd
  intro k
  induction k with
  | zero =>
    intro s hs h1 c1 c2 c3 c4 c5 c6 W f pp q D
    obtain rfl : s = lg := by omega
    obtain ⟨I, -⟩ := id q
    refine px_iload_n (i := 1) (pc' := 73) dX9_best_72 rfl rfl rfl ?_
    refine px_aload_n (i := 0) (pc' := 74) dX9_best_73 rfl rfl rfl ?_
    refine pi_geti (pc' := 77) fl_9_130 dX9_best_74 rfl (by repeat (first | assumption | refine pm_I.up ?_ rfl | refine pm_I.uf ?_ rfl)) rfl (by first | assumption | (repeat (first | exact pm_uf_e rfl | refine pm_uf_o (by decide) ?_ | apply pm_uf_o (by decide))) <;> assumption) ?_
    refine px_icmp_ge (tgt := 396) (pc' := 80) dX9_best_77 (by decide) rfl (fun _ => ?_) (fun q_ => absurd (nI_le (by omega) (by omega)) q_)
    exact K h1 c1 c2 c3 c4 c5 c6 W f pp q D
  | succ k ih =>
    intro s hs h1 c1 c2 c3 c4 c5 c6 W f pp q D
    obtain ⟨I, -⟩ := id q
    have hWle : ∀ j, j < w * d → c5 j = lN (W j) ∧ W j ≤ 9 ^ s := fun j hj => by
      obtain ⟨y1, y2⟩ := D j hj
      refine ⟨y1, ?_⟩
      rcases y2 with ⟨y2, _⟩ | ⟨_, _, _, y2, _⟩
      · rw [y2]; exact Nat.zero_le _
      · rw [y2]; exact b_wy_le (fun _ _ _ => b_V_le h0 h1') s
    have hDD : ∀ j, j < w * d → 0 < W j → c1 j = nI (f j) ∧ f j < 2147483648 ∧ ∀ t, t ≤ s → c3 (13 * j + t) = nI (pp j t) ∧ pp j t < 144 := fun j hj hw1 => by
      rcases (D j hj).2 with ⟨y2, _⟩ | ⟨_, y1, y2, y3, y4, y5⟩
      · omega
      · refine ⟨y1, ?_, fun t ht => ⟨y5 t ht, ?_⟩⟩
        · have e1 := b_fl_le (k := 0) (p := pp j) (B := 10200) hE s
          have e2 := Nat.mul_le_mul (show s + 1 ≤ 13 by omega) (Nat.le_refl 10200)
          omega
        · have := y4.2.2.1.1 t ht
          rw [Nat.zero_add] at this
          omega
    refine px_iload_n (i := 1) (pc' := 73) dX9_best_72 rfl rfl rfl ?_
    refine px_aload_n (i := 0) (pc' := 74) dX9_best_73 rfl rfl rfl ?_
    refine pi_geti (pc' := 77) fl_9_130 dX9_best_74 rfl (by repeat (first | assumption | refine pm_I.up ?_ rfl | refine pm_I.uf ?_ rfl)) rfl (by first | assumption | (repeat (first | exact pm_uf_e rfl | refine pm_uf_o (by decide) ?_ | apply pm_uf_o (by decide))) <;> assumption) ?_
    refine px_icmp_ge (tgt := 396) (pc' := 80) dX9_best_77 (by decide) rfl (fun q_ => absurd q_ (nI_ge (by omega) (by omega))) (fun _ => ?_)
    refine px_iconst (v := 0) (pc' := 81) dX9_best_80 rfl (by decide) ?_
    refine sx_i_n_9_2 (pc' := 82) dX9_best_81 rfl rfl rfl rfl ?_
    refine d_bestB (h := h) (s := s) (c1 := c1) (c2 := c2) (c3 := c3) (c4 := c4) (c5 := c5) e9 e10 hw hd (fun h2 c6' q2 y6 => ?_) (w * d) 0 (by omega) h1 c6 q (fun j hj => absurd hj (Nat.not_lt_zero j))
    refine px_iconst (v := 0) (pc' := 104) dX9_best_103 rfl (by decide) ?_
    refine sx_i_n_9_2 (pc' := 105) dX9_best_104 rfl rfl rfl rfl ?_
    refine d_bestC (h := h) (s := s) (a0 := a0) (a1 := a1) (lx := lx) (ly := ly) (c1 := c1) (c3 := c3) (c5 := c5) (W := W) (f := f) (pp := pp) e9 e10 hw0 hw hd e12 e13 h0 h1' (by omega) (hmv s (by omega)) f39 f40 hWle hDD (fun h3 c2' c4' c6'' W2 pr q3 T => ?_) (w * d) 0 (by omega) h2 c2 c4 c6' (fun _ => 0) (fun _ => 0) q2 (r_T_no (r_T_0 y6) (fun i' j hj hh => ?_))
    rotate_left
    · unfold r_B at hh
      rcases hh with hh | ⟨_, a', b', _, _, hh, _⟩ <;> omega
    refine px_iconst (v := 0) (pc' := 293) dX9_best_292 rfl (by decide) ?_
    refine sx_i_n_9_2 (pc' := 294) dX9_best_293 rfl rfl rfl rfl ?_
    refine d_bestE (h := h) (s := s) (c2 := c2') (c4 := c4') (c6 := c6'') e9 e10 hw hd (by omega) e23 hnr f42 f41 f32 hv hb (fun h4 c1' c3' c5' q4 y => ?_) (w * d) 0 (by omega) h3 c1 c3 c5 q3 (fun j hj => absurd hj (Nat.not_lt_zero j))
    refine sx_inc_9_1 (w := 1) (pc' := 393) dX9_best_390 rfl rfl (by decide) rfl ?_
    refine px_goto (tgt := 72) dX9_best_393 (by decide) ?_
    rw [nI_1]
    refine px_f9_2 ?_
    exact ih (s + 1) (by omega) h4 c1' c2' c3' c4' c5' c6'' _ _ _ q4 (r_T_D D T (fun i j hi hj hv => Or.inl hi) (fun j hj => (y j hj).1) (fun j hj => (y j hj).2.1) (fun j hj => (y j hj).2.2.1) (fun j hj => (y j hj).2.2.2))
end RBD
