section RBC
variable {G : pm_G} {z : pm_z} {h : pm_h} {g : pm_g} {Φ : pm_F}
/-- a row that is copied -/
theorem d_bestR {s i to : Nat} {c1 c2 c3 c4 : Nat → Int32} {c5 c6 : Nat → Int64} {x3 x4 x6 : Value} (hs : s < 12) (hi : i < 144) (hto : to < 144)
    (K : ∀ (h1 : pm_h) (c4' : Nat → Int32), r_H h h1 g c1 c2 c3 c4' c5 c6 → (∀ t, t ≤ s → c4' (13 * to + t) = c3 (13 * i + t)) → (∀ x, x < 13 * to ∨ 13 * to + s < x → c4' x = c4 x) → pm_W G mX9_best z Φ 274 [.ref 30, .int (nI s), .int (nI i), x3, x4, .int (nI to), x6, pm_u, .int (nI (s + 1))] [] z h1 g) :
    ∀ k m : Nat, m + k = s + 1 → ∀ (h1 : pm_h) (c4' : Nat → Int32), r_H h h1 g c1 c2 c3 c4' c5 c6 → (∀ t, t < m → c4' (13 * to + t) = c3 (13 * i + t)) → (∀ x, x < 13 * to ∨ 13 * to + s < x → c4' x = c4 x) →
      pm_W G mX9_best z Φ 237 [.ref 30, .int (nI s), .int (nI i), x3, x4, .int (nI to), x6, pm_u, .int (nI m)] [] z h1 g := by
  intro k
  induction k with
  | zero =>
    intro m hm h1 c4' q i1 i2
    obtain rfl : m = s + 1 := by omega
    refine px_iload (i := 8) (pc' := 239) dX9_best_237 rfl rfl ?_
    refine px_iload_n (i := 1) (pc' := 240) dX9_best_239 rfl rfl rfl ?_
    refine px_icmp_gt (tgt := 274) (pc' := 243) dX9_best_240 (by decide) rfl (fun _ => ?_) (fun q_ => absurd (nI_lt (by omega) (by omega)) q_)
    exact K h1 c4' q (fun t ht => i1 t (by omega)) i2
  | succ k ih =>
    intro m hm h1 c4' q i1 i2
    obtain ⟨I, fr, s1, s2, s3, s4, s5, s6⟩ := id q
    have e13 : ∀ x : Nat, (13 : Int32) * nI x + nI m = nI (13 * x + m) := fun x => by rw [show (13 : Int32) = nI 13 from rfl, pk_mul, nI_add]
    refine px_iload (i := 8) (pc' := 239) dX9_best_237 rfl rfl ?_
    refine px_iload_n (i := 1) (pc' := 240) dX9_best_239 rfl rfl rfl ?_
    refine px_icmp_gt (tgt := 274) (pc' := 243) dX9_best_240 (by decide) rfl (fun q_ => absurd q_ (nI_nlt (by omega) (by omega))) (fun _ => ?_)
    refine px_aload_n (i := 0) (pc' := 244) dX9_best_243 rfl rfl rfl ?_
    refine pi_getr (pc' := 247) fl_9_80 dX9_best_244 rfl (by repeat (first | assumption | refine pm_I.up ?_ rfl | refine pm_I.uf ?_ rfl)) rfl rfl ?_
    refine px_bipush (v := 13) (pc' := 249) dX9_best_247 rfl (by decide) ?_
    refine px_iload (i := 5) (pc' := 251) dX9_best_249 rfl rfl ?_
    refine px_imul (pc' := 252) dX9_best_251 rfl ?_
    refine px_iload (i := 8) (pc' := 254) dX9_best_252 rfl rfl ?_
    refine px_iadd (pc' := 255) dX9_best_254 rfl ?_
    refine px_aload_n (i := 0) (pc' := 256) dX9_best_255 rfl rfl rfl ?_
    refine pi_getr (pc' := 259) fl_9_77 dX9_best_256 rfl (by repeat (first | assumption | refine pm_I.up ?_ rfl | refine pm_I.uf ?_ rfl)) rfl rfl ?_
    refine px_bipush (v := 13) (pc' := 261) dX9_best_259 rfl (by decide) ?_
    refine px_iload_n (i := 2) (pc' := 262) dX9_best_261 rfl rfl rfl ?_
    refine px_imul (pc' := 263) dX9_best_262 rfl ?_
    refine px_iload (i := 8) (pc' := 265) dX9_best_263 rfl rfl ?_
    refine px_iadd (pc' := 266) dX9_best_265 rfl ?_
    rw [e13, e13]
    refine px_iald (pc' := 267) dX9_best_266 rfl (by first | assumption | (repeat (first | exact pm_up_e rfl | refine pm_up_o (by decide) ?_ | apply pm_up_o (by decide))) <;> assumption) (vp_in_nI (by omega) (by omega)) ?_
    refine px_iast (pc' := 268) dX9_best_267 rfl (by first | assumption | (repeat (first | exact pm_up_e rfl | refine pm_up_o (by decide) ?_ | apply pm_up_o (by decide))) <;> assumption) (vp_in_nI (by omega) (by omega)) ?_
    refine sx_inc_9_8 (w := 1) (pc' := 271) dX9_best_268 rfl rfl (by decide) rfl ?_
    refine px_goto (tgt := 237) dX9_best_271 (by decide) ?_
    rw [nI_1, nI_clamp (by omega), nI_clamp (by omega)]
    refine ih (m + 1) (by omega) _ _ (q.u46 _) (fun t ht => ?_) (fun x hx => (if_neg (by omega)).trans (i2 x hx))
    by_cases htm : t = m
    · subst htm
      exact if_pos rfl
    · exact (if_neg (by omega)).trans (i1 t (by omega))
/-- the winds of all cells -/
theorem d_bestC {w d a0 a1 s : Nat} {lx ly c1 c3 : Nat → Int32} {c5 : Nat → Int64} {W f : Nat → Nat} {pp : Nat → Nat → Nat} (e9 : g 30 9 = .int (nI w)) (e10 : g 30 10 = .int (nI d)) (hw0 : 0 < w) (hw : w ≤ 12) (hd : d ≤ 12) (e12 : g 30 12 = .int (nI a0)) (e13 : g 30 13 = .int (nI a1)) (h0 : a0 ≤ 3) (h1' : a1 ≤ 1) (hs : s < 12) (hmv : m_mv (lx s) (ly s)) (f39 : h 39 = pm_ia 0 12 lx) (f40 : h 40 = pm_ia 0 12 ly)
    (hW : ∀ j, j < w * d → c5 j = lN (W j) ∧ W j ≤ 9 ^ s) (hD : ∀ j, j < w * d → 0 < W j → c1 j = nI (f j) ∧ f j < 2147483648 ∧ ∀ t, t ≤ s → c3 (13 * j + t) = nI (pp j t) ∧ pp j t < 144)
    (K : ∀ (h1 : pm_h) (c2 c4 : Nat → Int32) (c6 : Nat → Int64) (W2 pr : Nat → Nat), r_H h h1 g c1 c2 c3 c4 c5 c6 → r_T (w * d) (b_V w a0 a1 lx ly) s W f pp (r_B w d lx ly s (w * d) (-1) (-1)) c2 c4 c6 W2 pr → pm_W G mX9_best z Φ 292 [.ref 30, .int (nI s), .int (nI (w * d)), pm_u, pm_u, pm_u, pm_u, pm_u, pm_u] [] z h1 g) :
    ∀ k i : Nat, i + k = w * d → ∀ (h1 : pm_h) (c2 c4 : Nat → Int32) (c6 : Nat → Int64) (W2 pr : Nat → Nat), r_H h h1 g c1 c2 c3 c4 c5 c6 → r_T (w * d) (b_V w a0 a1 lx ly) s W f pp (r_B w d lx ly s i (-1) (-1)) c2 c4 c6 W2 pr → pm_W G mX9_best z Φ 105 [.ref 30, .int (nI s), .int (nI i), pm_u, pm_u, pm_u, pm_u, pm_u, pm_u] [] z h1 g := by
  have hwd := m_wd hw hd
  obtain ⟨mv1, mv2, mv3, mv4⟩ := id hmv
  have sl : (nI s).toNatClampNeg = s := nI_clamp (by omega)
  have h9 : (9 : Nat) ^ s ≤ 9 ^ 11 := Nat.pow_le_pow_right (by omega) (by omega)
  have h9n : (9 : Nat) ^ 11 = 31381059609 := by decide
  have z1t : ∀ a : Int, -1 ≤ a ∧ a ≤ 2 → (iZ a).toInt = a := fun a ha => iZ_t (by omega) (by omega)
  have zz : ∀ a : Int, -1 ≤ a ∧ a ≤ 2 → (iZ a = 0 ↔ a = 0) := fun a ha => by rw [i_eq, z1t a ha, i_0]
  have wl : ∀ a : Int, -1 ≤ a ∧ a ≤ 2 → (if iZ a = 0 then nI a0 else nI a1).toInt64 = lN (if a = 0 then a0 else a1) := fun a ha => by
    simp only [zz a ha]
    split <;> exact nI_l (by omega)
  have wt9 : ∀ a b : Int, m_wt a0 a1 a b ≤ 9 := fun a b => by
    unfold m_wt
    have p : ∀ x y : Nat, x ≤ 3 → y ≤ 3 → x * y ≤ 3 * 3 := fun _ _ => Nat.mul_le_mul
    split <;> split <;> exact p _ _ (by omega) (by omega)
  have step : ∀ (i : Nat) (a b : Int) (h1 : pm_h) (c2 c4 : Nat → Int32) (c6 : Nat → Int64) (W2 pr : Nat → Nat), i < w * d → -1 ≤ a ∧ a ≤ 1 → -1 ≤ b ∧ b ≤ 1 → r_H h h1 g c1 c2 c3 c4 c5 c6 → r_T (w * d) (b_V w a0 a1 lx ly) s W f pp (r_B w d lx ly s i a b) c2 c4 c6 W2 pr →
      (∀ (h1 : pm_h) (c2 c4 : Nat → Int32) (c6 : Nat → Int64) (W2 pr : Nat → Nat), r_H h h1 g c1 c2 c3 c4 c5 c6 → r_T (w * d) (b_V w a0 a1 lx ly) s W f pp (r_B w d lx ly s i a (b + 1)) c2 c4 c6 W2 pr → pm_W G mX9_best z Φ 123 [.ref 30, .int (nI s), .int (nI i), .int (iZ a), .int (iZ (b + 1)), pm_u, pm_u, pm_u, pm_u] [] z h1 g) →
      pm_W G mX9_best z Φ 123 [.ref 30, .int (nI s), .int (nI i), .int (iZ a), .int (iZ b), pm_u, pm_u, pm_u, pm_u] [] z h1 g := by
    intro i a b h1 c2 c4 c6 W2 pr hi ha hb q T KK
    obtain ⟨I, fr, s1, s2, s3, s4, s5, s6⟩ := id q
    have f39' := (fr 39 (by decide) (by decide) (by decide) (by decide) (by decide) (by decide)).trans f39
    have f40' := (fr 40 (by decide) (by decide) (by decide) (by decide) (by decide) (by decide)).trans f40
    have il : (nI i).toNatClampNeg = i := nI_clamp (by omega)
    have ex : (lx s + iZ a).toInt = (lx s).toInt + a := by rw [i_add (by rw [z1t a (by omega)]; omega) (by rw [z1t a (by omega)]; omega), z1t a (by omega)]
    have ey : (ly s + iZ b).toInt = (ly s).toInt + b := by rw [i_add (by rw [z1t b (by omega)]; omega) (by rw [z1t b (by omega)]; omega), z1t b (by omega)]
    have eb : iZ b + 1 = iZ (b + 1) := by rw [show (1 : Int32) = iZ 1 from rfl, iZ_add]
    obtain ⟨w1, w2⟩ := hW i hi
    have w3 : W i * m_wt a0 a1 a b ≤ 31381059609 * 9 := Nat.mul_le_mul (by omega) (wt9 a b)
    have spl : ∀ i' j, r_B w d lx ly s i a (b + 1) i' j → r_B w d lx ly s i a b i' j ∨ (i' = i ∧ m_off w d (((i % w : Nat) + (lx s).toInt) + a) (((i / w : Nat) + (ly s).toInt) + b) = (j : Int)) := fun i' j hh => r_B_s hh
    have lift : ∀ (x5 x6 x7 x8 : Value) (h1 : pm_h) (c2 c4 : Nat → Int32) (c6 : Nat → Int64) (W2 pr : Nat → Nat), r_H h h1 g c1 c2 c3 c4 c5 c6 → r_T (w * d) (b_V w a0 a1 lx ly) s W f pp (r_B w d lx ly s i a (b + 1)) c2 c4 c6 W2 pr → pm_W G mX9_best z Φ 274 [.ref 30, .int (nI s), .int (nI i), .int (iZ a), .int (iZ b), x5, x6, x7, x8] [] z h1 g := by
      intro x5 x6 x7 x8 h1 c2 c4 c6 W2 pr q T
      refine px_f9_5 ?_
      refine sx_inc_9_4 (w := 1) (pc' := 277) dX9_best_274 rfl rfl (by decide) rfl ?_
      refine px_goto (tgt := 123) dX9_best_277 (by decide) ?_
      rw [eb]
      exact KK h1 c2 c4 c6 W2 pr q T
    refine px_iload (i := 4) (pc' := 125) dX9_best_123 rfl rfl ?_
    refine px_iconst (v := 2) (pc' := 126) dX9_best_125 rfl (by decide) ?_
    refine px_icmp_ge (tgt := 280) (pc' := 129) dX9_best_126 (by decide) rfl (fun q_ => absurd q_ (by rw [i_le, z1t b (by omega), l_2]; omega)) (fun _ => ?_)
    refine px_aload_n (i := 0) (pc' := 130) dX9_best_129 rfl rfl rfl ?_
    refine px_iload_n (i := 2) (pc' := 131) dX9_best_130 rfl rfl rfl ?_
    refine px_aload_n (i := 0) (pc' := 132) dX9_best_131 rfl rfl rfl ?_
    refine pi_getr (pc' := 135) fl_9_59 dX9_best_132 rfl (by repeat (first | assumption | refine pm_I.up ?_ rfl | refine pm_I.uf ?_ rfl)) rfl rfl ?_
    refine px_iload_n (i := 1) (pc' := 136) dX9_best_135 rfl rfl rfl ?_
    refine px_iald (pc' := 137) dX9_best_136 rfl (by first | assumption | (repeat (first | exact pm_up_e rfl | refine pm_up_o (by decide) ?_ | apply pm_up_o (by decide))) <;> assumption) (vp_in_nI (by omega) (by omega)) ?_
    refine px_iload_n (i := 3) (pc' := 138) dX9_best_137 rfl rfl rfl ?_
    refine px_iadd (pc' := 139) dX9_best_138 rfl ?_
    refine px_aload_n (i := 0) (pc' := 140) dX9_best_139 rfl rfl rfl ?_
    refine pi_getr (pc' := 143) fl_9_62 dX9_best_140 rfl (by repeat (first | assumption | refine pm_I.up ?_ rfl | refine pm_I.uf ?_ rfl)) rfl rfl ?_
    refine px_iload_n (i := 1) (pc' := 144) dX9_best_143 rfl rfl rfl ?_
    refine px_iald (pc' := 145) dX9_best_144 rfl (by first | assumption | (repeat (first | exact pm_up_e rfl | refine pm_up_o (by decide) ?_ | apply pm_up_o (by decide))) <;> assumption) (vp_in_nI (by omega) (by omega)) ?_
    refine px_iload (i := 4) (pc' := 147) dX9_best_145 rfl rfl ?_
    refine px_iadd (pc' := 148) dX9_best_147 rfl ?_
    refine pi_callV (pc' := 151) (d_off (by repeat (first | assumption | refine pm_I.up ?_ rfl | refine pm_I.uf ?_ rfl)) e9 e10 hw0 hw hd (by omega) (by rw [sl, ex]; omega) (by rw [sl, ey]; omega)) okX9_off ivX9_off ml_X9_143 ⟨Nat.le_of_ble_eq_true rfl, Nat.le_of_ble_eq_true rfl⟩ dX9_best_148 rfl rfl rfl (Nat.le_of_ble_eq_true rfl) (by repeat (first | assumption | refine pm_I.up ?_ rfl | refine pm_I.uf ?_ rfl)) rfl cl_9 pm_le.rf pm_le.rf ?_
    rintro _ _ _ ⟨rfl, rfl, rfl⟩
    rw [sl, ex, ey, ← Int.add_assoc, ← Int.add_assoc]
    have ht := m_off_lt (w := w) (d := d) (((i % w : Nat) + (lx s).toInt) + a) (((i / w : Nat) + (ly s).toInt) + b)
    have vo := fun (j : Nat) (hj : m_off w d (((i % w : Nat) + (lx s).toInt) + a) (((i / w : Nat) + (ly s).toInt) + b) = (j : Int)) => b_V_off (a0 := a0) (a1 := a1) ha hb hj
    generalize m_off w d (((i % w : Nat) + (lx s).toInt) + a) (((i / w : Nat) + (ly s).toInt) + b) = t at ht spl vo ⊢
    have tt : (iZ t).toInt = t := iZ_t (by omega) (by omega)
    refine sx_i_9_5 (pc' := 153) dX9_best_151 rfl rfl rfl ?_
    refine px_aload_n (i := 0) (pc' := 154) dX9_best_153 rfl rfl rfl ?_
    refine pi_getr (pc' := 157) fl_9_86 dX9_best_154 rfl (by repeat (first | assumption | refine pm_I.up ?_ rfl | refine pm_I.uf ?_ rfl)) rfl rfl ?_
    refine px_iload_n (i := 2) (pc' := 158) dX9_best_157 rfl rfl rfl ?_
    refine px_lald (pc' := 159) dX9_best_158 rfl (by first | assumption | (repeat (first | exact pm_up_e rfl | refine pm_up_o (by decide) ?_ | apply pm_up_o (by decide))) <;> assumption) (vp_in_nI (by omega) (by omega)) ?_
    refine px_aload_n (i := 0) (pc' := 160) dX9_best_159 rfl rfl rfl ?_
    refine px_iload_n (i := 3) (pc' := 161) dX9_best_160 rfl rfl rfl ?_
    refine pi_callV (pc' := 164) (d_weight (by repeat (first | assumption | refine pm_I.up ?_ rfl | refine pm_I.uf ?_ rfl)) e12 e13) okX9_weight ivX9_weight ml_X9_147 ⟨Nat.le_of_ble_eq_true rfl, Nat.le_of_ble_eq_true rfl⟩ dX9_best_161 rfl rfl rfl (Nat.le_of_ble_eq_true rfl) (by repeat (first | assumption | refine pm_I.up ?_ rfl | refine pm_I.uf ?_ rfl)) rfl cl_9 pm_le.rf pm_le.rf ?_
    rintro _ _ _ ⟨rfl, rfl, rfl⟩
    refine px_i2l (pc' := 165) dX9_best_164 rfl ?_
    refine px_lmul (pc' := 166) dX9_best_165 rfl ?_
    refine px_aload_n (i := 0) (pc' := 167) dX9_best_166 rfl rfl rfl ?_
    refine px_iload (i := 4) (pc' := 169) dX9_best_167 rfl rfl ?_
    refine pi_callV (pc' := 172) (d_weight (by repeat (first | assumption | refine pm_I.up ?_ rfl | refine pm_I.uf ?_ rfl)) e12 e13) okX9_weight ivX9_weight ml_X9_147 ⟨Nat.le_of_ble_eq_true rfl, Nat.le_of_ble_eq_true rfl⟩ dX9_best_169 rfl rfl rfl (Nat.le_of_ble_eq_true rfl) (by repeat (first | assumption | refine pm_I.up ?_ rfl | refine pm_I.uf ?_ rfl)) rfl cl_9 pm_le.rf pm_le.rf ?_
    rintro _ _ _ ⟨rfl, rfl, rfl⟩
    refine px_i2l (pc' := 173) dX9_best_172 rfl ?_
    refine px_lmul (pc' := 174) dX9_best_173 rfl ?_
    refine sx_l_9_6 (pc' := 176) dX9_best_174 rfl rfl rfl ?_
    rw [il, w1, wl a (by omega), wl b (by omega), lN_mul, lN_mul, Nat.mul_assoc, show (if a = 0 then a0 else a1) * (if b = 0 then a0 else a1) = m_wt a0 a1 a b from rfl]
    by_cases q1 : t < 0
    · refine px_iload (i := 5) (pc' := 178) dX9_best_176 rfl rfl ?_
      refine px_if_lt (tgt := 274) (pc' := 181) dX9_best_178 (by decide) rfl (fun _ => ?_) (fun q_ => absurd (by rw [i_lt, tt, i_0]; exact q1) q_)
      exact lift _ _ _ _ h1 c2 c4 c6 W2 pr q (r_T_no T (fun i' j hj hh => by
        rcases spl i' j hh with y | ⟨_, y⟩
        · exact Or.inl y
        · omega))
    obtain ⟨to, rfl⟩ : ∃ to : Nat, t = to := ⟨t.toNat, by omega⟩
    obtain ⟨v1, v2⟩ := vo to rfl
    have ntl : ¬ iZ (to : Int) < 0 := by rw [i_lt, tt, i_0]; omega
    by_cases q2 : W i * m_wt a0 a1 a b = 0
    · refine px_iload (i := 5) (pc' := 178) dX9_best_176 rfl rfl ?_
      refine px_if_lt (tgt := 274) (pc' := 181) dX9_best_178 (by decide) rfl (fun q_ => absurd q_ (ntl)) (fun _ => ?_)
      refine px_lload (i := 6) (pc' := 183) dX9_best_181 rfl rfl ?_
      refine px_lconst (v := 0) (pc' := 184) dX9_best_183 rfl (by decide) ?_
      refine px_lcmp (pc' := 185) dX9_best_184 rfl ?_
      refine px_if_eq (tgt := 274) (pc' := 188) dX9_best_185 (by decide) rfl (fun _ => ?_) (fun q_ => absurd (by rw [q2]; decide) q_)
      exact lift _ _ _ _ h1 c2 c4 c6 W2 pr q (r_T_no T (fun i' j hj hh => by
        rcases spl i' j hh with y | ⟨rfl, y⟩
        · exact Or.inl y
        · obtain rfl : to = j := by omega
          refine Or.inr (fun ⟨y1, y2⟩ => ?_)
          rw [v1] at y1
          have := Nat.mul_pos y2 y1
          omega))
    have nz2 : ¬ lg_cmp (lN (W i * m_wt a0 a1 a b)) 0 = 0 := fun hh => q2 ((lc_eq (show W i * m_wt a0 a1 a b < 2 ^ 63 by omega) (show 0 < 2 ^ 63 by decide)).mp hh)
    have hWi : 0 < W i := Nat.pos_of_mul_pos_right (Nat.pos_of_ne_zero q2)
    have hwt : 0 < m_wt a0 a1 a b := Nat.pos_of_mul_pos_left (Nat.pos_of_ne_zero q2)
    obtain ⟨g1, g2, g3⟩ := hD i hi hWi
    have spl' : ∀ i' j, j < w * d → r_B w d lx ly s i a (b + 1) i' j → r_B w d lx ly s i a b i' j ∨ (i' = i ∧ j = to) := fun i' j _ hh => by
      rcases spl i' j hh with y | ⟨y0, y⟩
      · exact Or.inl y
      · exact Or.inr ⟨y0, by omega⟩
    rw [← v1] at w3 nz2 q2 hwt ⊢
    rw [iZ_n]
    rw [iZ_n] at ntl
    have tol : (nI to).toNatClampNeg = to := nI_clamp (by omega)
    obtain ⟨t1, t2⟩ := T to v2
    -- it is better
    have take : (W2 to = 0 ∨ r_bt s (f i) (W i * b_V w a0 a1 lx ly s i to) (pp i) (f (pr to)) (W2 to) (pp (pr to))) → pm_W G mX9_best z Φ 212 [.ref 30, .int (nI s), .int (nI i), .int (iZ a), .int (iZ b), .int (nI to), .long (lN (W i * b_V w a0 a1 lx ly s i to)), pm_u, pm_u] [] z h1 g := by
      intro hbt
      refine px_aload_n (i := 0) (pc' := 213) dX9_best_212 rfl rfl rfl ?_
      refine pi_getr (pc' := 216) fl_9_89 dX9_best_213 rfl (by repeat (first | assumption | refine pm_I.up ?_ rfl | refine pm_I.uf ?_ rfl)) rfl rfl ?_
      refine px_iload (i := 5) (pc' := 218) dX9_best_216 rfl rfl ?_
      refine px_lload (i := 6) (pc' := 220) dX9_best_218 rfl rfl ?_
      refine px_last (pc' := 221) dX9_best_220 rfl (by first | assumption | (repeat (first | exact pm_up_e rfl | refine pm_up_o (by decide) ?_ | apply pm_up_o (by decide))) <;> assumption) (vp_in_nI (by omega) (by omega)) ?_
      refine px_aload_n (i := 0) (pc' := 222) dX9_best_221 rfl rfl rfl ?_
      refine pi_getr (pc' := 225) fl_9_74 dX9_best_222 rfl (by repeat (first | assumption | refine pm_I.up ?_ rfl | refine pm_I.uf ?_ rfl)) rfl rfl ?_
      refine px_iload (i := 5) (pc' := 227) dX9_best_225 rfl rfl ?_
      refine px_aload_n (i := 0) (pc' := 228) dX9_best_227 rfl rfl rfl ?_
      refine pi_getr (pc' := 231) fl_9_71 dX9_best_228 rfl (by repeat (first | assumption | refine pm_I.up ?_ rfl | refine pm_I.uf ?_ rfl)) rfl rfl ?_
      refine px_iload_n (i := 2) (pc' := 232) dX9_best_231 rfl rfl rfl ?_
      refine px_iald (pc' := 233) dX9_best_232 rfl (by first | assumption | (repeat (first | exact pm_up_e rfl | refine pm_up_o (by decide) ?_ | apply pm_up_o (by decide))) <;> assumption) (vp_in_nI (by omega) (by omega)) ?_
      refine px_iast (pc' := 234) dX9_best_233 rfl (by first | assumption | (repeat (first | exact pm_up_e rfl | refine pm_up_o (by decide) ?_ | apply pm_up_o (by decide))) <;> assumption) (vp_in_nI (by omega) (by omega)) ?_
      refine px_iconst (v := 0) (pc' := 235) dX9_best_234 rfl (by decide) ?_
      refine sx_i_9_8 (pc' := 237) dX9_best_235 rfl rfl rfl ?_
      rw [il, tol, g1]
      refine d_bestR (s := s) (i := i) (to := to) (c4 := c4) hs (by omega) (by omega) (fun h2 c4' q' y1 y2 => ?_) (s + 1) 0 (by omega) _ c4 ((q.u49 _).u44 _) (fun t ht => absurd ht (Nat.not_lt_zero t)) (fun _ _ => rfl)
      exact lift _ _ _ _ h2 _ c4' _ _ _ q' (r_T_take hs T hi v2 hwt hWi spl' hbt (fun j => rfl) (fun j => rfl) (fun t ht => (y1 t ht).trans (g3 t ht).1) y2)
    refine px_iload (i := 5) (pc' := 178) dX9_best_176 rfl rfl ?_
    refine px_if_lt (tgt := 274) (pc' := 181) dX9_best_178 (by decide) rfl (fun q_ => absurd q_ (ntl)) (fun _ => ?_)
    refine px_lload (i := 6) (pc' := 183) dX9_best_181 rfl rfl ?_
    refine px_lconst (v := 0) (pc' := 184) dX9_best_183 rfl (by decide) ?_
    refine px_lcmp (pc' := 185) dX9_best_184 rfl ?_
    refine px_if_eq (tgt := 274) (pc' := 188) dX9_best_185 (by decide) rfl (fun q_ => absurd q_ (nz2)) (fun _ => ?_)
    refine px_aload_n (i := 0) (pc' := 189) dX9_best_188 rfl rfl rfl ?_
    refine px_aload_n (i := 0) (pc' := 190) dX9_best_189 rfl rfl rfl ?_
    refine pi_getr (pc' := 193) fl_9_71 dX9_best_190 rfl (by repeat (first | assumption | refine pm_I.up ?_ rfl | refine pm_I.uf ?_ rfl)) rfl rfl ?_
    refine px_iload_n (i := 2) (pc' := 194) dX9_best_193 rfl rfl rfl ?_
    refine px_iald (pc' := 195) dX9_best_194 rfl (by first | assumption | (repeat (first | exact pm_up_e rfl | refine pm_up_o (by decide) ?_ | apply pm_up_o (by decide))) <;> assumption) (vp_in_nI (by omega) (by omega)) ?_
    refine px_lload (i := 6) (pc' := 197) dX9_best_195 rfl rfl ?_
    refine px_iload_n (i := 2) (pc' := 198) dX9_best_197 rfl rfl rfl ?_
    refine px_iload (i := 5) (pc' := 200) dX9_best_198 rfl rfl ?_
    refine px_iload_n (i := 1) (pc' := 201) dX9_best_200 rfl rfl rfl ?_
    refine px_iconst (v := 1) (pc' := 202) dX9_best_201 rfl (by decide) ?_
    refine px_iadd (pc' := 203) dX9_best_202 rfl ?_
    rw [il, g1, nI_1]
    rcases id t2 with ⟨t2, t3⟩ | ⟨y2, y3, y4, y5, y6, y7, y8⟩
    · rw [t2] at t1
      refine pi_callV (pc' := 206) (d_isBetter_n (F1 := f i) (W1 := W i * b_V w a0 a1 lx ly s i to) (by repeat (first | assumption | refine pm_I.up ?_ rfl | refine pm_I.uf ?_ rfl)) (show to < 144 by omega) s6 t1) okX9_isBetter ivX9_isBetter ml_X9_169 ⟨Nat.le_of_ble_eq_true rfl, Nat.le_of_ble_eq_true rfl⟩ dX9_best_203 rfl rfl rfl (Nat.le_of_ble_eq_true rfl) (by repeat (first | assumption | refine pm_I.up ?_ rfl | refine pm_I.uf ?_ rfl)) rfl cl_9 pm_le.rf pm_le.rf ?_
      rintro _ _ _ ⟨rfl, rfl, rfl⟩
      refine px_if_ne (tgt := 212) (pc' := 209) dX9_best_206 (by decide) rfl (fun _ => ?_) (fun q_ => absurd q_ (by decide))
      exact take (Or.inl t2)
    · obtain ⟨k1, k2⟩ := hW _ y2
      obtain ⟨m1, m2, m3⟩ := hD _ y2 y4
      have W2pos : 0 < W2 to := by rw [y5]; exact Nat.mul_pos y4 y3
      have W2le : W2 to ≤ 31381059609 * 9 := by
        rw [y5]
        exact Nat.mul_le_mul (by omega) (b_V_le h0 h1')
      refine pi_callV (pc' := 206) (d_isBetter (a := i) (b := to) (lg := s) (F1 := f i) (F2 := f (pr to)) (W1 := W i * b_V w a0 a1 lx ly s i to) (W2 := W2 to) (p := pp i) (q := pp (pr to)) (by repeat (first | assumption | refine pm_I.up ?_ rfl | refine pm_I.uf ?_ rfl)) (by omega) (by omega) (by omega) s2 s6 s3 s4 y6 g2 m2 t1 (by omega) (by omega) W2pos g3 (fun t ht => ⟨y7 t ht, (m3 t ht).2⟩)) okX9_isBetter ivX9_isBetter ml_X9_169 ⟨Nat.le_of_ble_eq_true rfl, Nat.le_of_ble_eq_true rfl⟩ dX9_best_203 rfl rfl rfl (Nat.le_of_ble_eq_true rfl) (by repeat (first | assumption | refine pm_I.up ?_ rfl | refine pm_I.uf ?_ rfl)) rfl cl_9 pm_le.rf pm_le.rf ?_
      rintro _ _ _ ⟨rfl, rfl, H⟩
      rcases H with ⟨rfl, H⟩ | ⟨rfl, H⟩
      · refine px_if_ne (tgt := 212) (pc' := 209) dX9_best_206 (by decide) rfl (fun _ => ?_) (fun q_ => absurd q_ (by decide))
        refine take (Or.inr ?_)
        rcases H with H | ⟨x1, H | ⟨x2, H⟩⟩
        · exact Or.inl H
        · exact Or.inr ⟨x1, Or.inl H⟩
        · exact Or.inr ⟨x1, Or.inr ⟨x2, Or.inl H⟩⟩
      · refine px_if_ne (tgt := 212) (pc' := 209) dX9_best_206 (by decide) rfl (fun q_ => absurd (rfl) q_) (fun _ => ?_)
        refine px_goto (tgt := 274) dX9_best_209 (by decide) ?_
        refine lift _ _ _ _ _ c2 c4 c6 W2 pr q (r_T_keep T W2pos spl' ?_)
        rcases H with H | ⟨x1, H | ⟨x2, H | H⟩⟩
        · exact Or.inl H
        · exact Or.inr ⟨x1.symm, Or.inl H⟩
        · exact Or.inr ⟨x1.symm, Or.inr ⟨x2.symm, Or.inl H⟩⟩
        · exact Or.inr ⟨x1.symm, Or.inr ⟨x2.symm, Or.inr fun u hu => (H u hu).symm⟩⟩
  have row : ∀ (i : Nat) (a : Int) (h1 : pm_h) (c2 c4 : Nat → Int32) (c6 : Nat → Int64) (W2 pr : Nat → Nat), i < w * d → -1 ≤ a ∧ a ≤ 1 → r_H h h1 g c1 c2 c3 c4 c5 c6 → r_T (w * d) (b_V w a0 a1 lx ly) s W f pp (r_B w d lx ly s i a (-1)) c2 c4 c6 W2 pr →
      (∀ (h1 : pm_h) (c2 c4 : Nat → Int32) (c6 : Nat → Int64) (W2 pr : Nat → Nat), r_H h h1 g c1 c2 c3 c4 c5 c6 → r_T (w * d) (b_V w a0 a1 lx ly) s W f pp (r_B w d lx ly s i (a + 1) (-1)) c2 c4 c6 W2 pr → pm_W G mX9_best z Φ 115 [.ref 30, .int (nI s), .int (nI i), .int (iZ (a + 1)), pm_u, pm_u, pm_u, pm_u, pm_u] [] z h1 g) →
      pm_W G mX9_best z Φ 115 [.ref 30, .int (nI s), .int (nI i), .int (iZ a), pm_u, pm_u, pm_u, pm_u, pm_u] [] z h1 g := by
    intro i a h1 c2 c4 c6 W2 pr hi ha q T KK
    have ea : iZ a + 1 = iZ (a + 1) := by rw [show (1 : Int32) = iZ 1 from rfl, iZ_add]
    refine px_iload_n (i := 3) (pc' := 116) dX9_best_115 rfl rfl rfl ?_
    refine px_iconst (v := 2) (pc' := 117) dX9_best_116 rfl (by decide) ?_
    refine px_icmp_ge (tgt := 286) (pc' := 120) dX9_best_117 (by decide) rfl (fun q_ => absurd q_ (by rw [i_le, z1t a (by omega), l_2]; omega)) (fun _ => ?_)
    refine px_iconst (v := -1) (pc' := 121) dX9_best_120 rfl (by decide) ?_
    refine sx_i_9_4 (pc' := 123) dX9_best_121 rfl rfl rfl ?_
    refine step i a (-1) h1 c2 c4 c6 W2 pr hi ha (by omega) q T (fun h1 c2 c4 c6 W2 pr q T => ?_)
    refine step i a 0 h1 c2 c4 c6 W2 pr hi ha (by omega) q T (fun h1 c2 c4 c6 W2 pr q T => ?_)
    refine step i a 1 h1 c2 c4 c6 W2 pr hi ha (by omega) q T (fun h1 c2 c4 c6 W2 pr q T => ?_)
    refine px_iload (i := 4) (pc' := 125) dX9_best_123 rfl rfl ?_
    refine px_iconst (v := 2) (pc' := 126) dX9_best_125 rfl (by decide) ?_
    refine px_icmp_ge (tgt := 280) (pc' := 129) dX9_best_126 (by decide) rfl (fun _ => ?_) (fun q_ => absurd (by decide) q_)
    refine sx_inc_9_3 (w := 1) (pc' := 283) dX9_best_280 rfl rfl (by decide) rfl ?_
    refine px_goto (tgt := 115) dX9_best_283 (by decide) ?_
    rw [ea]
    refine px_f9_4 ?_
    exact KK h1 c2 c4 c6 W2 pr q (r_T_no T (fun i' j hj hh => Or.inl (r_B_row hh)))
  intro k
  induction k with
  | zero =>
    intro i hi h1 c2 c4 c6 W2 pr q T
    obtain rfl : i = w * d := by omega
    obtain ⟨I, -⟩ := id q
    refine px_iload_n (i := 2) (pc' := 106) dX9_best_105 rfl rfl rfl ?_
    refine px_aload_n (i := 0) (pc' := 107) dX9_best_106 rfl rfl rfl ?_
    refine pi_callV (pc' := 110) (d_cells I e9 e10) okX9_cells ivX9_cells ml_X9_108 ⟨Nat.le_of_ble_eq_true rfl, Nat.le_of_ble_eq_true rfl⟩ dX9_best_107 rfl rfl rfl (Nat.le_of_ble_eq_true rfl) (by repeat (first | assumption | refine pm_I.up ?_ rfl | refine pm_I.uf ?_ rfl)) rfl cl_9 pm_le.rf pm_le.rf ?_
    rintro _ _ _ ⟨rfl, rfl, rfl⟩
    refine px_icmp_ge (tgt := 292) (pc' := 113) dX9_best_110 (by decide) rfl (fun _ => ?_) (fun q_ => absurd (nI_le (by omega) (by omega)) q_)
    exact K h1 c2 c4 c6 W2 pr q T
  | succ k ih =>
    intro i hi h1 c2 c4 c6 W2 pr q T
    obtain ⟨I, -⟩ := id q
    refine px_iload_n (i := 2) (pc' := 106) dX9_best_105 rfl rfl rfl ?_
    refine px_aload_n (i := 0) (pc' := 107) dX9_best_106 rfl rfl rfl ?_
    refine pi_callV (pc' := 110) (d_cells I e9 e10) okX9_cells ivX9_cells ml_X9_108 ⟨Nat.le_of_ble_eq_true rfl, Nat.le_of_ble_eq_true rfl⟩ dX9_best_107 rfl rfl rfl (Nat.le_of_ble_eq_true rfl) (by repeat (first | assumption | refine pm_I.up ?_ rfl | refine pm_I.uf ?_ rfl)) rfl cl_9 pm_le.rf pm_le.rf ?_
    rintro _ _ _ ⟨rfl, rfl, rfl⟩
    refine px_icmp_ge (tgt := 292) (pc' := 113) dX9_best_110 (by decide) rfl (fun q_ => absurd q_ (nI_ge (by omega) (by omega))) (fun _ => ?_)
    refine px_iconst (v := -1) (pc' := 114) dX9_best_113 rfl (by decide) ?_
    refine sx_i_n_9_3 (pc' := 115) dX9_best_114 rfl rfl rfl rfl ?_
    refine row i (-1) h1 c2 c4 c6 W2 pr (by omega) (by omega) q T (fun h1 c2 c4 c6 W2 pr q T => ?_)
    refine row i 0 h1 c2 c4 c6 W2 pr (by omega) (by omega) q T (fun h1 c2 c4 c6 W2 pr q T => ?_)
    refine row i 1 h1 c2 c4 c6 W2 pr (by omega) (by omega) q T (fun h1 c2 c4 c6 W2 pr q T => ?_)
    refine px_iload_n (i := 3) (pc' := 116) dX9_best_115 rfl rfl rfl ?_
    refine px_iconst (v := 2) (pc' := 117) dX9_best_116 rfl (by decide) ?_
    refine px_icmp_ge (tgt := 286) (pc' := 120) dX9_best_117 (by decide) rfl (fun _ => ?_) (fun q_ => absurd (by decide) q_)
    refine sx_inc_9_2 (w := 1) (pc' := 289) dX9_best_286 rfl rfl (by decide) rfl ?_
    refine px_goto (tgt := 105) dX9_best_289 (by decide) ?_
    rw [nI_1]
    refine px_f9_3 ?_
    refine ih (i + 1) (by omega) h1 c2 c4 c6 W2 pr q (r_T_no T (fun i' j hj hh => ?_))
    by_cases hv : 0 < b_V w a0 a1 lx ly s i' j
    · exact Or.inl (r_B_nx hh hw0 hj hv)
    · exact Or.inr (fun hh' => hv hh'.1)
end RBC
