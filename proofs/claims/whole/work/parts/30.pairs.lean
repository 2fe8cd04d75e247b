/-! pairs of starts, for the reference -/
theorem m3_0 (h : pm_h) (a f l a' : pm_C) : pm_up (pm_up (pm_up (pm_up h 50 a) 51 f) 52 l) 50 a' = pm_up (pm_up (pm_up h 50 a') 51 f) 52 l := by
  rw [pm_up_comm (a := 52) (b := 50) _ _ _ (by decide), pm_up_comm (a := 51) (b := 50) _ _ _ (by decide), pm_up_up]
theorem m3_1 (h : pm_h) (a f l a' : pm_C) : pm_up (pm_up (pm_up (pm_up h 50 a) 51 f) 52 l) 51 a' = pm_up (pm_up (pm_up h 50 a) 51 a') 52 l := by
  rw [pm_up_comm (a := 52) (b := 51) _ _ _ (by decide), pm_up_up]
theorem nar1 : vp_nar .boolean 1 = 1 := by decide
theorem nar0 : vp_nar .boolean 0 = 0 := by decide
theorem m_off_c {w d c : Nat} (hc : c < w * d) : m_off w d ((c % w : Nat) + 0) ((c / w : Nat) + 0) = (c : Int) := by
  have hw : 0 < w := Nat.pos_of_ne_zero fun q => by subst q; simp at hc
  have h1 := Nat.mod_lt c hw
  have h2 : c / w < d := Nat.div_lt_of_lt_mul hc
  rw [Int.add_zero, Int.add_zero, m_off_in h1 h2, Nat.div_add_mod]
theorem m_ps_0 {w d c : Nat} {T : Nat → Int32} {fr : Nat} (hc : c < w * d) : m_ps w d T fr c 0 = (c : Int) := m_off_c hc
theorem m_ps_lt {w d c i : Nat} {T : Nat → Int32} {fr : Nat} : -1 ≤ m_ps w d T fr c i ∧ m_ps w d T fr c i < (w * d : Nat) := m_off_lt _ _
theorem m_ps_s {w d c i : Nat} {T : Nat → Int32} {fr : Nat} (h : 0 ≤ m_ps w d T fr c i) : m_ps w d T fr c (i + 1) = m_off w d (((m_ps w d T fr c i).toNat % w : Nat) + (T (fr + 2 * i)).toInt) (((m_ps w d T fr c i).toNat / w : Nat) + (T (fr + 2 * i + 1)).toInt) := by
  obtain ⟨a1, a2⟩ := m_off_pos (w := w) (d := d) (j := (m_ps w d T fr c i).toNat) (X := (c % w : Nat) + m_ox T fr i) (Y := (c / w : Nat) + m_oy T fr i) (by
    rw [Int.toNat_of_nonneg h]; rfl)
  rw [← a1, ← a2, m_ps, m_ox, m_oy, Int.add_assoc, Int.add_assoc]
def m_K (w d : Nat) (T : Nat → Int32) (fr i c : Nat) (a f : Int32) : Prop := (f = 1 ∧ (∀ k, k < i → 0 ≤ m_ps w d T fr c k) ∧ a = iZ (m_ps w d T fr c (i - 1))) ∨ (f = 0 ∧ ¬ ∀ k, k < i → 0 ≤ m_ps w d T fr c k)
def m_PP (w d e : Nat) (T f : Nat → Int32) (fr i a b : Nat) : Prop := ∀ k, k < i → 0 ≤ m_ps w d T fr a k ∧ 0 ≤ m_ps w d T fr b k ∧ m_al e (m_hp w d T f fr a k).toInt (m_hp w d T f fr b k).toInt
def m_M (w d e : Nat) (T f : Nat → Int32) (fr i a b : Nat) (v : Int32) : Prop := (v = 1 ∧ m_PP w d e T f fr i a b) ∨ (v = 0 ∧ ¬ m_PP w d e T f fr i a b)
theorem m_PP_tw {w d e fr m a b : Nat} {T f : Nat → Int32} : m_PP w d e T f fr (m + 1) a b ↔ m_tw w d e T f fr m a b :=
  ⟨fun q => ⟨fun i hi => (q i (by omega)).1, fun i hi => (q i (by omega)).2.1, fun i hi => (q i (by omega)).2.2⟩, fun q k hk => ⟨q.1 k (by omega), q.2.1 k (by omega), q.2.2 k (by omega)⟩⟩
theorem m_PP_s {w d e fr i a b : Nat} {T f : Nat → Int32} : m_PP w d e T f fr (i + 1) a b ↔ m_PP w d e T f fr i a b ∧ 0 ≤ m_ps w d T fr a i ∧ 0 ≤ m_ps w d T fr b i ∧ m_al e (m_hp w d T f fr a i).toInt (m_hp w d T f fr b i).toInt :=
  ⟨fun q => ⟨fun k hk => q k (by omega), q i (by omega)⟩, fun q k hk => if hki : k = i then hki ▸ q.2 else q.1 k (by omega)⟩
theorem m_al_hc {e : Nat} {η : Nat → Int32} {a b : Nat} (ha : m_bok (η a)) (hb : m_bok (η b)) : m_al e (m_hc η a).toInt (m_hc η b).toInt ↔ ((η a).toInt = 255 ∨ (η b).toInt = 255 ∨ (((η a).toInt - (η b).toInt).natAbs : Int) ≤ 2 * e) := by
  unfold m_al
  rw [m_hc_u ha, m_hc_u hb]
  by_cases h1 : (η a).toInt = 255
  · exact ⟨fun _ => Or.inl h1, fun _ => Or.inl h1⟩
  by_cases h2 : (η b).toInt = 255
  · exact ⟨fun _ => Or.inr (Or.inl h2), fun _ => Or.inr (Or.inl h2)⟩
  rw [m_hc_k h1, m_hc_k h2]
theorem m_ix {n a b a' b' : Nat} (ha : a < n) (ha' : a' < n) (h : n * b + a = n * b' + a') : b = b' ∧ a = a' := by
  have h1 := congrArg (· / n) h
  have h2 := congrArg (· % n) h
  simp only [Nat.mul_add_div (show n > 0 by omega), Nat.mul_add_mod, Nat.div_eq_of_lt ha, Nat.div_eq_of_lt ha', Nat.mod_eq_of_lt ha, Nat.mod_eq_of_lt ha', Nat.add_zero] at h1 h2
  exact ⟨h1, h2⟩
section PRS
variable {G : pm_G} {z : pm_z} {h : pm_h} {g : pm_g}
theorem d_pairs {w d e fr m : Nat} {T η A0 F0 L0 : Nat → Int32} (I : pm_I h g) (hm : m ≤ 8) (hfr : fr + 2 * m ≤ 160) (hT : ∀ k, k < 2 * m → -5 ≤ (T (fr + k)).toInt ∧ (T (fr + k)).toInt ≤ 5) (b1 : g 30 9 = .int (nI w)) (b2 : g 30 10 = .int (nI d)) (hw0 : 0 < w) (hw : w ≤ 12) (hd : d ≤ 12) (b3 : h 32 = pm_ia 0 144 η) (hb : ∀ c, c < 144 → m_bok (η c)) (b4 : g 30 11 = .int (nI e)) (he : e ≤ 20) (b5 : h 31 = pm_ia 1 160 T) (c50 : h 50 = pm_ia 0 144 A0) (c51 : h 51 = pm_ia 2 144 F0) (c52 : h 52 = pm_ia 2 20736 L0) :
    pm_Met G mX9_pairs [.ref 30, .int (nI fr), .int (nI m)] z z h g (fun r h' g' => r = some (.int (nI (m_all (m_tw w d e T (m_hc η) fr m) (w * d) (w * d)).1)) ∧ (∃ A F L, h' = (pm_up (pm_up (pm_up h 50 (pm_ia 0 144 A)) 51 (pm_ia 2 144 F)) 52 (pm_ia 2 20736 L))) ∧ g' = pm_uf g 30 37 (.int (iZ (m_all (m_tw w d e T (m_hc η) fr m) (w * d) (w * d)).2))) := by
  have hwd := m_wd hw hd
  have hNN : w * d * (w * d) ≤ 20736 := Nat.mul_le_mul hwd hwd
  refine enX9_pairs pm_le.rf ?_
  generalize hΦ : (pm_Φ G z (fun r h' g' => r = some (.int (nI (m_all (m_tw w d e T (m_hc η) fr m) (w * d) (w * d)).1)) ∧ (∃ A F L, h' = (pm_up (pm_up (pm_up h 50 (pm_ia 0 144 A)) 51 (pm_ia 2 144 F)) 52 (pm_ia 2 20736 L))) ∧ g' = pm_uf g 30 37 (.int (iZ (m_all (m_tw w d e T (m_hc η) fr m) (w * d) (w * d)).2)))) = Φ
  refine px_aload_n (i := 0) (pc' := 1) dX9_pairs_0 rfl rfl rfl ?_
  refine pi_callV (pc' := 4) (d_cells I b1 b2) okX9_cells ivX9_cells ml_X9_108 ⟨Nat.le_of_ble_eq_true rfl, Nat.le_of_ble_eq_true rfl⟩ dX9_pairs_1 rfl rfl rfl (Nat.le_of_ble_eq_true rfl) (by repeat (first | assumption | refine pm_I.up ?_ rfl | refine pm_I.uf ?_ rfl)) rfl cl_9 pm_le.rf pm_le.rf ?_
  rintro _ _ _ ⟨rfl, rfl, rfl⟩
  refine sx_i_n_8_3 (pc' := 5) dX9_pairs_4 rfl rfl rfl rfl ?_
  refine px_iconst (v := 0) (pc' := 6) dX9_pairs_5 rfl (by decide) ?_
  refine sx_i_8_4 (pc' := 8) dX9_pairs_6 rfl rfl rfl ?_
  -- 1: everywhere, flown
  have loop1 : ∀ k i : Nat, i + k = w * d → pm_W G mX9_pairs z Φ 37 [.ref 30, .int (nI fr), .int (nI m), .int (nI (w * d)), .int (nI (w * d)), pm_u, pm_u, pm_u] [] z (pm_up (pm_up (pm_up h 50 (pm_ia 0 144 (fun j => if j < w * d then nI j else A0 j))) 51 (pm_ia 2 144 (fun j => if j < w * d then 1 else F0 j))) 52 (pm_ia 2 20736 L0)) g → pm_W G mX9_pairs z Φ 8 [.ref 30, .int (nI fr), .int (nI m), .int (nI (w * d)), .int (nI i), pm_u, pm_u, pm_u] [] z (pm_up (pm_up (pm_up h 50 (pm_ia 0 144 (fun j => if j < i then nI j else A0 j))) 51 (pm_ia 2 144 (fun j => if j < i then 1 else F0 j))) 52 (pm_ia 2 20736 L0)) g := by
    intro k
    induction k with
    | zero =>
      intro i hi W
      obtain rfl : i = w * d := by omega
      refine px_iload (i := 4) (pc' := 10) dX9_pairs_8 rfl rfl ?_
      refine px_iload_n (i := 3) (pc' := 11) dX9_pairs_10 rfl rfl rfl ?_
      refine px_icmp_ge (tgt := 37) (pc' := 14) dX9_pairs_11 (by decide) rfl (fun _ => ?_) (fun q_ => absurd (nI_le (by omega) (by omega)) q_)
      exact W
    | succ k ih =>
      intro i hi W
      have hc : (nI i).toNatClampNeg = i := nI_clamp (by omega)
      refine px_iload (i := 4) (pc' := 10) dX9_pairs_8 rfl rfl ?_
      refine px_iload_n (i := 3) (pc' := 11) dX9_pairs_10 rfl rfl rfl ?_
      refine px_icmp_ge (tgt := 37) (pc' := 14) dX9_pairs_11 (by decide) rfl (fun q_ => absurd q_ (nI_ge (by omega) (by omega))) (fun _ => ?_)
      refine px_aload_n (i := 0) (pc' := 15) dX9_pairs_14 rfl rfl rfl ?_
      refine pi_getr (pc' := 18) fl_9_92 dX9_pairs_15 rfl (by repeat (first | assumption | refine pm_I.up ?_ rfl | refine pm_I.uf ?_ rfl)) rfl rfl ?_
      refine px_iload (i := 4) (pc' := 20) dX9_pairs_18 rfl rfl ?_
      refine px_iload (i := 4) (pc' := 22) dX9_pairs_20 rfl rfl ?_
      refine px_iast (pc' := 23) dX9_pairs_22 rfl (by first | assumption | (repeat (first | exact pm_up_e rfl | refine pm_up_o (by decide) ?_ | apply pm_up_o (by decide))) <;> assumption) (vp_in_nI (by omega) (by omega)) ?_
      refine px_aload_n (i := 0) (pc' := 24) dX9_pairs_23 rfl rfl rfl ?_
      refine pi_getr (pc' := 27) fl_9_95 dX9_pairs_24 rfl (by repeat (first | assumption | refine pm_I.up ?_ rfl | refine pm_I.uf ?_ rfl)) rfl rfl ?_
      refine px_iload (i := 4) (pc' := 29) dX9_pairs_27 rfl rfl ?_
      refine px_iconst (v := 1) (pc' := 30) dX9_pairs_29 rfl (by decide) ?_
      first | refine px_bast (pc' := 31) dX9_pairs_30 rfl (by first | assumption | (repeat (first | exact pm_up_e rfl | refine pm_up_o (by decide) ?_ | apply pm_up_o (by decide))) <;> assumption) (vp_in_nI (by omega) (by omega)) ?_ | refine px_zast (pc' := 31) dX9_pairs_30 rfl (by first | assumption | (repeat (first | exact pm_up_e rfl | refine pm_up_o (by decide) ?_ | apply pm_up_o (by decide))) <;> assumption) (vp_in_nI (by omega) (by omega)) ?_
      refine sx_inc_8_4 (w := 1) (pc' := 34) dX9_pairs_31 rfl rfl (by decide) rfl ?_
      refine px_goto (tgt := 8) dX9_pairs_34 (by decide) ?_
      rw [hc, nI_1, nar1, m3_0, m3_1, upd_fill rfl, upd_fill rfl]
      exact ih (i + 1) (by omega) W
  have l1 := loop1 (w * d) 0 (by omega)
  rw [fill_0, fill_0, pm_up_self c50, pm_up_self c51, pm_up_self c52] at l1
  refine l1 ?_
  refine px_iconst (v := 0) (pc' := 38) dX9_pairs_37 rfl (by decide) ?_
  refine sx_i_8_4 (pc' := 40) dX9_pairs_38 rfl rfl rfl ?_
  have loop2 : ∀ k i : Nat, i + k = w * d * (w * d) → pm_W G mX9_pairs z Φ 62 [.ref 30, .int (nI fr), .int (nI m), .int (nI (w * d)), .int (nI (w * d * (w * d))), pm_u, pm_u, pm_u] [] z (pm_up (pm_up (pm_up h 50 (pm_ia 0 144 (fun j => if j < w * d then nI j else A0 j))) 51 (pm_ia 2 144 (fun j => if j < w * d then 1 else F0 j))) 52 (pm_ia 2 20736 (fun j => if j < w * d * (w * d) then 1 else L0 j))) g → pm_W G mX9_pairs z Φ 40 [.ref 30, .int (nI fr), .int (nI m), .int (nI (w * d)), .int (nI i), pm_u, pm_u, pm_u] [] z (pm_up (pm_up (pm_up h 50 (pm_ia 0 144 (fun j => if j < w * d then nI j else A0 j))) 51 (pm_ia 2 144 (fun j => if j < w * d then 1 else F0 j))) 52 (pm_ia 2 20736 (fun j => if j < i then 1 else L0 j))) g := by
    intro k
    induction k with
    | zero =>
      intro i hi W
      obtain rfl : i = w * d * (w * d) := by omega
      refine px_iload (i := 4) (pc' := 42) dX9_pairs_40 rfl rfl ?_
      refine px_iload_n (i := 3) (pc' := 43) dX9_pairs_42 rfl rfl rfl ?_
      refine px_iload_n (i := 3) (pc' := 44) dX9_pairs_43 rfl rfl rfl ?_
      refine px_imul (pc' := 45) dX9_pairs_44 rfl ?_
      refine px_icmp_ge (tgt := 62) (pc' := 48) dX9_pairs_45 (by decide) rfl (fun _ => ?_) (fun q_ => absurd (by rw [pk_mul]; exact nI_le (by omega) (by omega)) q_)
      exact W
    | succ k ih =>
      intro i hi W
      have hc : (nI i).toNatClampNeg = i := nI_clamp (by omega)
      refine px_iload (i := 4) (pc' := 42) dX9_pairs_40 rfl rfl ?_
      refine px_iload_n (i := 3) (pc' := 43) dX9_pairs_42 rfl rfl rfl ?_
      refine px_iload_n (i := 3) (pc' := 44) dX9_pairs_43 rfl rfl rfl ?_
      refine px_imul (pc' := 45) dX9_pairs_44 rfl ?_
      refine px_icmp_ge (tgt := 62) (pc' := 48) dX9_pairs_45 (by decide) rfl (fun q_ => absurd q_ (by rw [pk_mul]; exact nI_ge (by omega) (by omega))) (fun _ => ?_)
      refine px_aload_n (i := 0) (pc' := 49) dX9_pairs_48 rfl rfl rfl ?_
      refine pi_getr (pc' := 52) fl_9_99 dX9_pairs_49 rfl (by repeat (first | assumption | refine pm_I.up ?_ rfl | refine pm_I.uf ?_ rfl)) rfl rfl ?_
      refine px_iload (i := 4) (pc' := 54) dX9_pairs_52 rfl rfl ?_
      refine px_iconst (v := 1) (pc' := 55) dX9_pairs_54 rfl (by decide) ?_
      first | refine px_bast (pc' := 56) dX9_pairs_55 rfl (by first | assumption | (repeat (first | exact pm_up_e rfl | refine pm_up_o (by decide) ?_ | apply pm_up_o (by decide))) <;> assumption) (vp_in_nI (by omega) (by omega)) ?_ | refine px_zast (pc' := 56) dX9_pairs_55 rfl (by first | assumption | (repeat (first | exact pm_up_e rfl | refine pm_up_o (by decide) ?_ | apply pm_up_o (by decide))) <;> assumption) (vp_in_nI (by omega) (by omega)) ?_
      refine sx_inc_8_4 (w := 1) (pc' := 59) dX9_pairs_56 rfl rfl (by decide) rfl ?_
      refine px_goto (tgt := 40) dX9_pairs_59 (by decide) ?_
      rw [hc, nI_1, nar1, pm_up_up, upd_fill rfl]
      exact ih (i + 1) (by omega) W
  have l2 := loop2 (w * d * (w * d)) 0 (by omega)
  rw [fill_0] at l2
  refine l2 ?_
  refine px_iconst (v := 0) (pc' := 63) dX9_pairs_62 rfl (by decide) ?_
  refine sx_i_8_4 (pc' := 65) dX9_pairs_63 rfl rfl rfl ?_
  -- 2: the stages
  have part1 : ∀ (i c : Nat) (A F L : Nat → Int32) (v6 v7 : Value), i ≤ m → c < w * d → v6.category = 1 → v7.category = 1 → m_K w d T fr i c (A c) (F c) →
      (∀ A' F' : Nat → Int32, (∀ j, j ≠ c → A' j = A j ∧ F' j = F j) → m_K w d T fr (i + 1) c (A' c) (F' c) → pm_W G mX9_pairs z Φ 74 [.ref 30, .int (nI fr), .int (nI m), .int (nI (w * d)), .int (nI i), .int (nI (c + 1)), v6, v7] [] z (pm_up (pm_up (pm_up h 50 (pm_ia 0 144 A')) 51 (pm_ia 2 144 F')) 52 (pm_ia 2 20736 L)) g) → pm_W G mX9_pairs z Φ 74 [.ref 30, .int (nI fr), .int (nI m), .int (nI (w * d)), .int (nI i), .int (nI c), v6, v7] [] z (pm_up (pm_up (pm_up h 50 (pm_ia 0 144 A)) 51 (pm_ia 2 144 F)) 52 (pm_ia 2 20736 L)) g := by
    intro i c A F L v6 v7 hi hc c6 c7 K W
    have hcl : (nI c).toNatClampNeg = c := nI_clamp (by omega)
    have us : ∀ (f : Nat → Int32) (x : Int32), upd f c x c = x := fun f x => if_pos rfl
    have un : ∀ (f : Nat → Int32) (x : Int32) (j : Nat), j ≠ c → upd f c x j = f j := fun f x j hj => if_neg hj
    -- behind the step, what is flown
    have two : ∀ A' : Nat → Int32, (∀ j, j ≠ c → A' j = A j) → (F c = 1 → A' c = iZ (m_ps w d T fr c i)) → pm_W G mX9_pairs z Φ 139 [.ref 30, .int (nI fr), .int (nI m), .int (nI (w * d)), .int (nI i), .int (nI c), v6, v7] [] z (pm_up (pm_up (pm_up h 50 (pm_ia 0 144 A')) 51 (pm_ia 2 144 F)) 52 (pm_ia 2 20736 L)) g := by
      intro A' hA hA2
      have tt : (iZ (m_ps w d T fr c i)).toInt = m_ps w d T fr c i := by
        have := m_ps_lt (w := w) (d := d) (c := c) (i := i) (T := T) (fr := fr)
        exact iZ_t (by omega) (by omega)
      refine px_aload_n (i := 0) (pc' := 140) dX9_pairs_139 rfl rfl rfl ?_
      refine pi_getr (pc' := 143) fl_9_95 dX9_pairs_140 rfl (by repeat (first | assumption | refine pm_I.up ?_ rfl | refine pm_I.uf ?_ rfl)) rfl rfl ?_
      refine px_iload (i := 5) (pc' := 145) dX9_pairs_143 rfl rfl ?_
      refine px_aload_n (i := 0) (pc' := 146) dX9_pairs_145 rfl rfl rfl ?_
      refine pi_getr (pc' := 149) fl_9_95 dX9_pairs_146 rfl (by repeat (first | assumption | refine pm_I.up ?_ rfl | refine pm_I.uf ?_ rfl)) rfl rfl ?_
      refine px_iload (i := 5) (pc' := 151) dX9_pairs_149 rfl rfl ?_
      first | refine px_bald (pc' := 152) dX9_pairs_151 rfl (by first | assumption | (repeat (first | exact pm_up_e rfl | refine pm_up_o (by decide) ?_ | apply pm_up_o (by decide))) <;> assumption) (vp_in_nI (by omega) (by omega)) ?_ | refine px_zald (pc' := 152) dX9_pairs_151 rfl (by first | assumption | (repeat (first | exact pm_up_e rfl | refine pm_up_o (by decide) ?_ | apply pm_up_o (by decide))) <;> assumption) (vp_in_nI (by omega) (by omega)) ?_
      rw [hcl]
      rcases K with ⟨k1, k2, k3⟩ | ⟨k1, k2⟩
      · rw [k1]
        refine px_if_eq (tgt := 169) (pc' := 155) dX9_pairs_152 (by decide) rfl (fun q_ => absurd q_ (by decide)) (fun _ => ?_)
        refine px_aload_n (i := 0) (pc' := 156) dX9_pairs_155 rfl rfl rfl ?_
        refine pi_getr (pc' := 159) fl_9_92 dX9_pairs_156 rfl (by repeat (first | assumption | refine pm_I.up ?_ rfl | refine pm_I.uf ?_ rfl)) rfl rfl ?_
        refine px_iload (i := 5) (pc' := 161) dX9_pairs_159 rfl rfl ?_
        refine px_iald (pc' := 162) dX9_pairs_161 rfl (by first | assumption | (repeat (first | exact pm_up_e rfl | refine pm_up_o (by decide) ?_ | apply pm_up_o (by decide))) <;> assumption) (vp_in_nI (by omega) (by omega)) ?_
        rw [hcl, hA2 k1]
        refine px_if_lt (tgt := 169) (pc' := 165) dX9_pairs_162 (by decide) rfl (fun q => ?_) (fun q => ?_)
        · rw [i_lt, tt, i_0] at q
          refine px_iconst (v := 0) (pc' := 170) dX9_pairs_169 rfl (by decide) ?_
          first | refine px_bast (pc' := 171) dX9_pairs_170 rfl (by first | assumption | (repeat (first | exact pm_up_e rfl | refine pm_up_o (by decide) ?_ | apply pm_up_o (by decide))) <;> assumption) (vp_in_nI (by omega) (by omega)) ?_ | refine px_zast (pc' := 171) dX9_pairs_170 rfl (by first | assumption | (repeat (first | exact pm_up_e rfl | refine pm_up_o (by decide) ?_ | apply pm_up_o (by decide))) <;> assumption) (vp_in_nI (by omega) (by omega)) ?_
          refine sx_inc_8_5 (w := 1) (pc' := 174) dX9_pairs_171 rfl rfl (by decide) rfl ?_
          refine px_goto (tgt := 74) dX9_pairs_174 (by decide) ?_
          rw [hcl, nI_1, nar0, m3_1]
          exact W A' (upd F c 0) (fun j hj => ⟨hA j hj, un _ _ _ hj⟩) (Or.inr ⟨us _ _, fun hh => by have := hh i (by omega); omega⟩)
        · rw [i_lt, tt, i_0] at q
          refine px_iconst (v := 1) (pc' := 166) dX9_pairs_165 rfl (by decide) ?_
          refine px_goto (tgt := 170) dX9_pairs_166 (by decide) ?_
          first | refine px_bast (pc' := 171) dX9_pairs_170 rfl (by first | assumption | (repeat (first | exact pm_up_e rfl | refine pm_up_o (by decide) ?_ | apply pm_up_o (by decide))) <;> assumption) (vp_in_nI (by omega) (by omega)) ?_ | refine px_zast (pc' := 171) dX9_pairs_170 rfl (by first | assumption | (repeat (first | exact pm_up_e rfl | refine pm_up_o (by decide) ?_ | apply pm_up_o (by decide))) <;> assumption) (vp_in_nI (by omega) (by omega)) ?_
          refine sx_inc_8_5 (w := 1) (pc' := 174) dX9_pairs_171 rfl rfl (by decide) rfl ?_
          refine px_goto (tgt := 74) dX9_pairs_174 (by decide) ?_
          rw [hcl, nI_1, nar1, m3_1]
          refine W A' (upd F c 1) (fun j hj => ⟨hA j hj, un _ _ _ hj⟩) (Or.inl ⟨us _ _, fun k hk => ?_, hA2 k1⟩)
          by_cases hki : k = i
          · rw [hki]; omega
          · exact k2 k (by omega)
      · rw [k1]
        refine px_if_eq (tgt := 169) (pc' := 155) dX9_pairs_152 (by decide) rfl (fun _ => ?_) (fun q_ => absurd (rfl) q_)
        refine px_iconst (v := 0) (pc' := 170) dX9_pairs_169 rfl (by decide) ?_
        first | refine px_bast (pc' := 171) dX9_pairs_170 rfl (by first | assumption | (repeat (first | exact pm_up_e rfl | refine pm_up_o (by decide) ?_ | apply pm_up_o (by decide))) <;> assumption) (vp_in_nI (by omega) (by omega)) ?_ | refine px_zast (pc' := 171) dX9_pairs_170 rfl (by first | assumption | (repeat (first | exact pm_up_e rfl | refine pm_up_o (by decide) ?_ | apply pm_up_o (by decide))) <;> assumption) (vp_in_nI (by omega) (by omega)) ?_
        refine sx_inc_8_5 (w := 1) (pc' := 174) dX9_pairs_171 rfl rfl (by decide) rfl ?_
        refine px_goto (tgt := 74) dX9_pairs_174 (by decide) ?_
        rw [hcl, nI_1, nar0, m3_1]
        exact W A' (upd F c 0) (fun j hj => ⟨hA j hj, un _ _ _ hj⟩) (Or.inr ⟨us _ _, fun hh => k2 fun k hk => hh k (by omega)⟩)
    by_cases i0 : i = 0
    · subst i0
      refine px_iload (i := 5) (pc' := 76) dX9_pairs_74 rfl rfl ?_
      refine px_iload_n (i := 3) (pc' := 77) dX9_pairs_76 rfl rfl rfl ?_
      refine px_icmp_ge (tgt := 177) (pc' := 80) dX9_pairs_77 (by decide) rfl (fun q_ => absurd q_ (nI_ge (by omega) (by omega))) (fun _ => ?_)
      refine px_iload (i := 4) (pc' := 82) dX9_pairs_80 rfl rfl ?_
      refine px_if_le (tgt := 139) (pc' := 85) dX9_pairs_82 (by decide) rfl (fun _ => ?_) (fun q_ => absurd (by decide) q_)
      refine two A (fun _ _ => rfl) (fun k1 => ?_)
      rcases K with ⟨_, _, k3⟩ | ⟨k1', _⟩
      · exact k3
      · rw [k1'] at k1; exact absurd k1 (by decide)
    obtain ⟨i', rfl⟩ : ∃ i', i = i' + 1 := ⟨i - 1, by omega⟩
    refine px_iload (i := 5) (pc' := 76) dX9_pairs_74 rfl rfl ?_
    refine px_iload_n (i := 3) (pc' := 77) dX9_pairs_76 rfl rfl rfl ?_
    refine px_icmp_ge (tgt := 177) (pc' := 80) dX9_pairs_77 (by decide) rfl (fun q_ => absurd q_ (nI_ge (by omega) (by omega))) (fun _ => ?_)
    refine px_iload (i := 4) (pc' := 82) dX9_pairs_80 rfl rfl ?_
    refine px_if_le (tgt := 139) (pc' := 85) dX9_pairs_82 (by decide) rfl (fun q_ => absurd q_ (by rw [i_le, nI_toInt (by omega), i_0]; omega)) (fun _ => ?_)
    refine px_aload_n (i := 0) (pc' := 86) dX9_pairs_85 rfl rfl rfl ?_
    refine pi_getr (pc' := 89) fl_9_95 dX9_pairs_86 rfl (by repeat (first | assumption | refine pm_I.up ?_ rfl | refine pm_I.uf ?_ rfl)) rfl rfl ?_
    refine px_iload (i := 5) (pc' := 91) dX9_pairs_89 rfl rfl ?_
    first | refine px_bald (pc' := 92) dX9_pairs_91 rfl (by first | assumption | (repeat (first | exact pm_up_e rfl | refine pm_up_o (by decide) ?_ | apply pm_up_o (by decide))) <;> assumption) (vp_in_nI (by omega) (by omega)) ?_ | refine px_zald (pc' := 92) dX9_pairs_91 rfl (by first | assumption | (repeat (first | exact pm_up_e rfl | refine pm_up_o (by decide) ?_ | apply pm_up_o (by decide))) <;> assumption) (vp_in_nI (by omega) (by omega)) ?_
    rw [hcl]
    rcases id K with ⟨k1, k2, k3⟩ | ⟨k1, k2⟩
    rotate_left
    · rw [k1]
      refine px_if_eq (tgt := 139) (pc' := 95) dX9_pairs_92 (by decide) rfl (fun _ => ?_) (fun q_ => absurd (rfl) q_)
      exact two A (fun _ _ => rfl) (fun q => by rw [k1] at q; exact absurd q (by decide))
    rw [k1]
    have hp0 : 0 ≤ m_ps w d T fr c i' := k2 i' (by omega)
    have hpl := m_ps_lt (w := w) (d := d) (c := c) (i := i') (T := T) (fr := fr)
    have hps := m_ps_s (w := w) (d := d) (c := c) (i := i') (T := T) (fr := fr) hp0
    have ht1 := hT (2 * i') (by omega)
    have ht2 := hT (2 * i' + 1) (by omega)
    have x1 : nI fr + 2 * nI (i' + 1) - 2 = nI (fr + 2 * i') := by
      rw [show (2 : Int32) = nI 2 from rfl, pk_mul, nI_add, ← iZ_n, ← iZ_n, ← iZ_n, iZ_sub]
      congr 1
      omega
    have x2 : nI fr + 2 * nI (i' + 1) - 1 = nI (fr + 2 * i' + 1) := by
      rw [show (2 : Int32) = nI 2 from rfl, show (1 : Int32) = nI 1 from rfl, pk_mul, nI_add, ← iZ_n, ← iZ_n, ← iZ_n, iZ_sub]
      congr 1
      omega
    refine px_if_eq (tgt := 139) (pc' := 95) dX9_pairs_92 (by decide) rfl (fun q_ => absurd q_ (by decide)) (fun _ => ?_)
    refine px_aload_n (i := 0) (pc' := 96) dX9_pairs_95 rfl rfl rfl ?_
    refine pi_getr (pc' := 99) fl_9_92 dX9_pairs_96 rfl (by repeat (first | assumption | refine pm_I.up ?_ rfl | refine pm_I.uf ?_ rfl)) rfl rfl ?_
    refine px_iload (i := 5) (pc' := 101) dX9_pairs_99 rfl rfl ?_
    refine px_aload_n (i := 0) (pc' := 102) dX9_pairs_101 rfl rfl rfl ?_
    refine px_aload_n (i := 0) (pc' := 103) dX9_pairs_102 rfl rfl rfl ?_
    refine pi_getr (pc' := 106) fl_9_92 dX9_pairs_103 rfl (by repeat (first | assumption | refine pm_I.up ?_ rfl | refine pm_I.uf ?_ rfl)) rfl rfl ?_
    refine px_iload (i := 5) (pc' := 108) dX9_pairs_106 rfl rfl ?_
    refine px_iald (pc' := 109) dX9_pairs_108 rfl (by first | assumption | (repeat (first | exact pm_up_e rfl | refine pm_up_o (by decide) ?_ | apply pm_up_o (by decide))) <;> assumption) (vp_in_nI (by omega) (by omega)) ?_
    refine px_aload_n (i := 0) (pc' := 110) dX9_pairs_109 rfl rfl rfl ?_
    refine pi_getr (pc' := 113) fl_9_14 dX9_pairs_110 rfl (by repeat (first | assumption | refine pm_I.up ?_ rfl | refine pm_I.uf ?_ rfl)) rfl rfl ?_
    refine px_iload_n (i := 1) (pc' := 114) dX9_pairs_113 rfl rfl rfl ?_
    refine px_iconst (v := 2) (pc' := 115) dX9_pairs_114 rfl (by decide) ?_
    refine px_iload (i := 4) (pc' := 117) dX9_pairs_115 rfl rfl ?_
    refine px_imul (pc' := 118) dX9_pairs_117 rfl ?_
    refine px_iadd (pc' := 119) dX9_pairs_118 rfl ?_
    refine px_iconst (v := 2) (pc' := 120) dX9_pairs_119 rfl (by decide) ?_
    refine px_isub (pc' := 121) dX9_pairs_120 rfl ?_
    rw [hcl, k3, show i' + 1 - 1 = i' from rfl, x1]
    obtain ⟨pn, hpn⟩ : ∃ pn : Nat, m_ps w d T fr c i' = pn := ⟨(m_ps w d T fr c i').toNat, by omega⟩
    rw [hpn] at hps hpl ⊢
    rw [iZ_n]
    first | refine px_bald (pc' := 122) dX9_pairs_121 rfl (by first | assumption | (repeat (first | exact pm_up_e rfl | refine pm_up_o (by decide) ?_ | apply pm_up_o (by decide))) <;> assumption) (vp_in_nI (by omega) (by omega)) ?_ | refine px_zald (pc' := 122) dX9_pairs_121 rfl (by first | assumption | (repeat (first | exact pm_up_e rfl | refine pm_up_o (by decide) ?_ | apply pm_up_o (by decide))) <;> assumption) (vp_in_nI (by omega) (by omega)) ?_
    refine px_aload_n (i := 0) (pc' := 123) dX9_pairs_122 rfl rfl rfl ?_
    refine pi_getr (pc' := 126) fl_9_14 dX9_pairs_123 rfl (by repeat (first | assumption | refine pm_I.up ?_ rfl | refine pm_I.uf ?_ rfl)) rfl rfl ?_
    refine px_iload_n (i := 1) (pc' := 127) dX9_pairs_126 rfl rfl rfl ?_
    refine px_iconst (v := 2) (pc' := 128) dX9_pairs_127 rfl (by decide) ?_
    refine px_iload (i := 4) (pc' := 130) dX9_pairs_128 rfl rfl ?_
    refine px_imul (pc' := 131) dX9_pairs_130 rfl ?_
    refine px_iadd (pc' := 132) dX9_pairs_131 rfl ?_
    refine px_iconst (v := 1) (pc' := 133) dX9_pairs_132 rfl (by decide) ?_
    refine px_isub (pc' := 134) dX9_pairs_133 rfl ?_
    rw [x2, nI_clamp (by omega)]
    rw [← Nat.add_assoc] at ht2
    rw [Int.toNat_natCast] at hps
    first | refine px_bald (pc' := 135) dX9_pairs_134 rfl (by first | assumption | (repeat (first | exact pm_up_e rfl | refine pm_up_o (by decide) ?_ | apply pm_up_o (by decide))) <;> assumption) (vp_in_nI (by omega) (by omega)) ?_ | refine px_zald (pc' := 135) dX9_pairs_134 rfl (by first | assumption | (repeat (first | exact pm_up_e rfl | refine pm_up_o (by decide) ?_ | apply pm_up_o (by decide))) <;> assumption) (vp_in_nI (by omega) (by omega)) ?_
    refine pi_callV (pc' := 138) (d_off (by repeat (first | assumption | refine pm_I.up ?_ rfl | refine pm_I.uf ?_ rfl)) b1 b2 hw0 hw hd (by omega) (by omega) (by rw [nI_clamp (by omega)]; omega)) okX9_off ivX9_off ml_X9_143 ⟨Nat.le_of_ble_eq_true rfl, Nat.le_of_ble_eq_true rfl⟩ dX9_pairs_135 rfl rfl rfl (Nat.le_of_ble_eq_true rfl) (by repeat (first | assumption | refine pm_I.up ?_ rfl | refine pm_I.uf ?_ rfl)) rfl cl_9 pm_le.rf pm_le.rf ?_
    rintro _ _ _ ⟨rfl, rfl, rfl⟩
    refine px_iast (pc' := 139) dX9_pairs_138 rfl (by first | assumption | (repeat (first | exact pm_up_e rfl | refine pm_up_o (by decide) ?_ | apply pm_up_o (by decide))) <;> assumption) (vp_in_nI (by omega) (by omega)) ?_
    rw [hcl, m3_0, nI_clamp (by omega), ← hps]
    exact two _ (fun j hj => un _ _ _ hj) (fun _ => us _ _)
  have part1s : ∀ (i : Nat) (L : Nat → Int32), i ≤ m → ∀ (k c : Nat), c + k = w * d → ∀ (A F : Nat → Int32) (v6 v7 : Value), v6.category = 1 → v7.category = 1 → (∀ j, j < c → m_K w d T fr (i + 1) j (A j) (F j)) → (∀ j, c ≤ j → j < w * d → m_K w d T fr i j (A j) (F j)) →
      (∀ A' F' : Nat → Int32, (∀ j, j < w * d → m_K w d T fr (i + 1) j (A' j) (F' j)) → pm_W G mX9_pairs z Φ 177 [.ref 30, .int (nI fr), .int (nI m), .int (nI (w * d)), .int (nI i), .int (nI (w * d)), v6, v7] [] z (pm_up (pm_up (pm_up h 50 (pm_ia 0 144 A')) 51 (pm_ia 2 144 F')) 52 (pm_ia 2 20736 L)) g) → pm_W G mX9_pairs z Φ 74 [.ref 30, .int (nI fr), .int (nI m), .int (nI (w * d)), .int (nI i), .int (nI c), v6, v7] [] z (pm_up (pm_up (pm_up h 50 (pm_ia 0 144 A)) 51 (pm_ia 2 144 F)) 52 (pm_ia 2 20736 L)) g := by
    intro i L hi k
    induction k with
    | zero =>
      intro c hc A F v6 v7 c6 c7 K1 K2 W
      obtain rfl : c = w * d := by omega
      refine px_iload (i := 5) (pc' := 76) dX9_pairs_74 rfl rfl ?_
      refine px_iload_n (i := 3) (pc' := 77) dX9_pairs_76 rfl rfl rfl ?_
      refine px_icmp_ge (tgt := 177) (pc' := 80) dX9_pairs_77 (by decide) rfl (fun _ => ?_) (fun q_ => absurd (nI_le (by omega) (by omega)) q_)
      exact W A F K1
    | succ k ih =>
      intro c hc A F v6 v7 c6 c7 K1 K2 W
      refine part1 i c A F L v6 v7 hi (by omega) c6 c7 (K2 c (Nat.le_refl _) (by omega)) (fun A' F' hne K' => ?_)
      refine ih (c + 1) (by omega) A' F' v6 v7 c6 c7 (fun j hj => ?_) (fun j h1 h2 => ?_) W
      · by_cases hjc : j = c
        · rw [hjc]; exact K'
        · rw [(hne j hjc).1, (hne j hjc).2]
          exact K1 j (by omega)
      · rw [(hne j (by omega)).1, (hne j (by omega)).2]
        exact K2 j (by omega) h2
  have part2 : ∀ (i b a : Nat) (A F L : Nat → Int32) (v7 : Value), i ≤ m → b < w * d → a < b → v7.category = 1 → (∀ j, j < w * d → m_K w d T fr (i + 1) j (A j) (F j)) → m_M w d e T (m_hc η) fr i a b (L (w * d * b + a)) →
      (∀ (v7 : Value) (y : Int32), v7.category = 1 → m_M w d e T (m_hc η) fr (i + 1) a b y → pm_W G mX9_pairs z Φ 189 [.ref 30, .int (nI fr), .int (nI m), .int (nI (w * d)), .int (nI i), .int (nI b), .int (nI (a + 1)), v7] [] z (pm_up (pm_up (pm_up h 50 (pm_ia 0 144 A)) 51 (pm_ia 2 144 F)) 52 (pm_ia 2 20736 (upd L (w * d * b + a) y))) g) → pm_W G mX9_pairs z Φ 189 [.ref 30, .int (nI fr), .int (nI m), .int (nI (w * d)), .int (nI i), .int (nI b), .int (nI a), v7] [] z (pm_up (pm_up (pm_up h 50 (pm_ia 0 144 A)) 51 (pm_ia 2 144 F)) 52 (pm_ia 2 20736 L)) g := by
    intro i b a A F L v7 hi hbn hab c7 K Mi W
    have hal : (nI a).toNatClampNeg = a := nI_clamp (by omega)
    have hbl : (nI b).toNatClampNeg = b := nI_clamp (by omega)
    have hix : w * d * b + a < 20736 := by
      have : w * d * (b + 1) ≤ w * d * (w * d) := Nat.mul_le_mul_left _ hbn
      rw [Nat.mul_add] at this
      omega
    have hixl : (nI (w * d * b + a)).toNatClampNeg = w * d * b + a := nI_clamp (by omega)
    -- the end of it, by what was found
    have three : ∀ x : Int32, (x = 1 ∧ 0 ≤ m_ps w d T fr a i ∧ 0 ≤ m_ps w d T fr b i ∧ m_al e (m_hp w d T (m_hc η) fr a i).toInt (m_hp w d T (m_hc η) fr b i).toInt) ∨ (x = 0 ∧ ¬ m_PP w d e T (m_hc η) fr (i + 1) a b) → pm_W G mX9_pairs z Φ 308 [.ref 30, .int (nI fr), .int (nI m), .int (nI (w * d)), .int (nI i), .int (nI b), .int (nI a), .int x] [] z (pm_up (pm_up (pm_up h 50 (pm_ia 0 144 A)) 51 (pm_ia 2 144 F)) 52 (pm_ia 2 20736 L)) g := by
      intro x hx
      refine px_aload_n (i := 0) (pc' := 309) dX9_pairs_308 rfl rfl rfl ?_
      refine pi_getr (pc' := 312) fl_9_99 dX9_pairs_309 rfl (by repeat (first | assumption | refine pm_I.up ?_ rfl | refine pm_I.uf ?_ rfl)) rfl rfl ?_
      refine px_iload_n (i := 3) (pc' := 313) dX9_pairs_312 rfl rfl rfl ?_
      refine px_iload (i := 5) (pc' := 315) dX9_pairs_313 rfl rfl ?_
      refine px_imul (pc' := 316) dX9_pairs_315 rfl ?_
      rw [pk_mul]
      refine px_iload (i := 6) (pc' := 318) dX9_pairs_316 rfl rfl ?_
      refine px_iadd (pc' := 319) dX9_pairs_318 rfl ?_
      refine px_aload_n (i := 0) (pc' := 320) dX9_pairs_319 rfl rfl rfl ?_
      refine pi_getr (pc' := 323) fl_9_99 dX9_pairs_320 rfl (by repeat (first | assumption | refine pm_I.up ?_ rfl | refine pm_I.uf ?_ rfl)) rfl rfl ?_
      refine px_iload_n (i := 3) (pc' := 324) dX9_pairs_323 rfl rfl rfl ?_
      refine px_iload (i := 5) (pc' := 326) dX9_pairs_324 rfl rfl ?_
      refine px_imul (pc' := 327) dX9_pairs_326 rfl ?_
      rw [nI_add, pk_mul]
      refine px_iload (i := 6) (pc' := 329) dX9_pairs_327 rfl rfl ?_
      refine px_iadd (pc' := 330) dX9_pairs_329 rfl ?_
      first | refine px_bald (pc' := 331) dX9_pairs_330 rfl (by first | assumption | (repeat (first | exact pm_up_e rfl | refine pm_up_o (by decide) ?_ | apply pm_up_o (by decide))) <;> assumption) (by rw [nI_add]; exact vp_in_nI (by omega) (by omega)) ?_ | refine px_zald (pc' := 331) dX9_pairs_330 rfl (by first | assumption | (repeat (first | exact pm_up_e rfl | refine pm_up_o (by decide) ?_ | apply pm_up_o (by decide))) <;> assumption) (by rw [nI_add]; exact vp_in_nI (by omega) (by omega)) ?_
      rw [nI_add, hixl]
      rcases Mi with ⟨y1, y2⟩ | ⟨y1, y2⟩
      · rw [y1]
        rcases hx with ⟨rfl, hx⟩ | ⟨rfl, hx⟩
        · refine px_if_eq (tgt := 343) (pc' := 334) dX9_pairs_331 (by decide) rfl (fun q_ => absurd q_ (by decide)) (fun _ => ?_)
          refine px_iload (i := 7) (pc' := 336) dX9_pairs_334 rfl rfl ?_
          refine px_if_eq (tgt := 343) (pc' := 339) dX9_pairs_336 (by decide) rfl (fun q_ => absurd q_ (by decide)) (fun _ => ?_)
          refine px_iconst (v := 1) (pc' := 340) dX9_pairs_339 rfl (by decide) ?_
          refine px_goto (tgt := 344) dX9_pairs_340 (by decide) ?_
          first | refine px_bast (pc' := 345) dX9_pairs_344 rfl (by first | assumption | (repeat (first | exact pm_up_e rfl | refine pm_up_o (by decide) ?_ | apply pm_up_o (by decide))) <;> assumption) (vp_in_nI (by omega) (by omega)) ?_ | refine px_zast (pc' := 345) dX9_pairs_344 rfl (by first | assumption | (repeat (first | exact pm_up_e rfl | refine pm_up_o (by decide) ?_ | apply pm_up_o (by decide))) <;> assumption) (vp_in_nI (by omega) (by omega)) ?_
          refine sx_inc_8_6 (w := 1) (pc' := 348) dX9_pairs_345 rfl rfl (by decide) rfl ?_
          refine px_goto (tgt := 189) dX9_pairs_348 (by decide) ?_
          rw [hixl, pm_up_up, nI_1, nar1]
          exact W _ 1 rfl (Or.inl ⟨rfl, m_PP_s.mpr ⟨y2, hx⟩⟩)
        · refine px_if_eq (tgt := 343) (pc' := 334) dX9_pairs_331 (by decide) rfl (fun q_ => absurd q_ (by decide)) (fun _ => ?_)
          refine px_iload (i := 7) (pc' := 336) dX9_pairs_334 rfl rfl ?_
          refine px_if_eq (tgt := 343) (pc' := 339) dX9_pairs_336 (by decide) rfl (fun _ => ?_) (fun q_ => absurd (rfl) q_)
          refine px_iconst (v := 0) (pc' := 344) dX9_pairs_343 rfl (by decide) ?_
          first | refine px_bast (pc' := 345) dX9_pairs_344 rfl (by first | assumption | (repeat (first | exact pm_up_e rfl | refine pm_up_o (by decide) ?_ | apply pm_up_o (by decide))) <;> assumption) (vp_in_nI (by omega) (by omega)) ?_ | refine px_zast (pc' := 345) dX9_pairs_344 rfl (by first | assumption | (repeat (first | exact pm_up_e rfl | refine pm_up_o (by decide) ?_ | apply pm_up_o (by decide))) <;> assumption) (vp_in_nI (by omega) (by omega)) ?_
          refine sx_inc_8_6 (w := 1) (pc' := 348) dX9_pairs_345 rfl rfl (by decide) rfl ?_
          refine px_goto (tgt := 189) dX9_pairs_348 (by decide) ?_
          rw [hixl, pm_up_up, nI_1, nar0]
          exact W _ 0 rfl (Or.inr ⟨rfl, hx⟩)
      · rw [y1]
        refine px_if_eq (tgt := 343) (pc' := 334) dX9_pairs_331 (by decide) rfl (fun _ => ?_) (fun q_ => absurd (rfl) q_)
        refine px_iconst (v := 0) (pc' := 344) dX9_pairs_343 rfl (by decide) ?_
        first | refine px_bast (pc' := 345) dX9_pairs_344 rfl (by first | assumption | (repeat (first | exact pm_up_e rfl | refine pm_up_o (by decide) ?_ | apply pm_up_o (by decide))) <;> assumption) (vp_in_nI (by omega) (by omega)) ?_ | refine px_zast (pc' := 345) dX9_pairs_344 rfl (by first | assumption | (repeat (first | exact pm_up_e rfl | refine pm_up_o (by decide) ?_ | apply pm_up_o (by decide))) <;> assumption) (vp_in_nI (by omega) (by omega)) ?_
        refine sx_inc_8_6 (w := 1) (pc' := 348) dX9_pairs_345 rfl rfl (by decide) rfl ?_
        refine px_goto (tgt := 189) dX9_pairs_348 (by decide) ?_
        rw [hixl, pm_up_up, nI_1, nar0]
        exact W _ 0 rfl (Or.inr ⟨rfl, fun q => y2 (m_PP_s.mp q).1⟩)
    have ps0 : ∀ (c : Nat) (q : F c = 1), c < w * d → (∀ k, k < i + 1 → 0 ≤ m_ps w d T fr c k) ∧ A c = iZ (m_ps w d T fr c i) := by
      intro c q hc
      rcases K c hc with ⟨_, k2, k3⟩ | ⟨k1, _⟩
      · exact ⟨k2, k3⟩
      · rw [k1] at q; exact absurd q (by decide)
    have ps1 : ∀ (c : Nat) (q : F c = 0), c < w * d → ¬ ∀ k, k < i + 1 → 0 ≤ m_ps w d T fr c k := by
      intro c q hc
      rcases K c hc with ⟨k1, _⟩ | ⟨_, k2⟩
      · rw [k1] at q; exact absurd q (by decide)
      · exact k2
    have ps2 : ∀ c, c < w * d → F c = 1 ∨ F c = 0 := fun c hc => (K c hc).elim (fun q => Or.inl q.1) (fun q => Or.inr q.1)
    refine px_iload (i := 6) (pc' := 191) dX9_pairs_189 rfl rfl ?_
    refine px_iload (i := 5) (pc' := 193) dX9_pairs_191 rfl rfl ?_
    refine px_icmp_ge (tgt := 351) (pc' := 196) dX9_pairs_193 (by decide) rfl (fun q_ => absurd q_ (nI_ge (by omega) (by omega))) (fun _ => ?_)
    refine px_aload_n (i := 0) (pc' := 197) dX9_pairs_196 rfl rfl rfl ?_
    refine pi_getr (pc' := 200) fl_9_95 dX9_pairs_197 rfl (by repeat (first | assumption | refine pm_I.up ?_ rfl | refine pm_I.uf ?_ rfl)) rfl rfl ?_
    refine px_iload (i := 5) (pc' := 202) dX9_pairs_200 rfl rfl ?_
    first | refine px_bald (pc' := 203) dX9_pairs_202 rfl (by first | assumption | (repeat (first | exact pm_up_e rfl | refine pm_up_o (by decide) ?_ | apply pm_up_o (by decide))) <;> assumption) (vp_in_nI (by omega) (by omega)) ?_ | refine px_zald (pc' := 203) dX9_pairs_202 rfl (by first | assumption | (repeat (first | exact pm_up_e rfl | refine pm_up_o (by decide) ?_ | apply pm_up_o (by decide))) <;> assumption) (vp_in_nI (by omega) (by omega)) ?_
    rw [hbl]
    rcases ps2 b hbn with qb | qb
    rotate_left
    · rw [qb]
      refine px_if_eq (tgt := 220) (pc' := 206) dX9_pairs_203 (by decide) rfl (fun _ => ?_) (fun q_ => absurd (rfl) q_)
      refine px_iconst (v := 0) (pc' := 221) dX9_pairs_220 rfl (by decide) ?_
      refine sx_i_8_7 (pc' := 223) dX9_pairs_221 rfl rfl rfl ?_
      refine px_iload (i := 7) (pc' := 225) dX9_pairs_223 rfl rfl ?_
      refine px_if_eq (tgt := 308) (pc' := 228) dX9_pairs_225 (by decide) rfl (fun _ => ?_) (fun q_ => absurd (rfl) q_)
      exact three 0 (Or.inr ⟨rfl, fun q => ps1 b qb hbn fun k hk => (q k hk).2.1⟩)
    rw [qb]
    refine px_if_eq (tgt := 220) (pc' := 206) dX9_pairs_203 (by decide) rfl (fun q_ => absurd q_ (by decide)) (fun _ => ?_)
    refine px_aload_n (i := 0) (pc' := 207) dX9_pairs_206 rfl rfl rfl ?_
    refine pi_getr (pc' := 210) fl_9_95 dX9_pairs_207 rfl (by repeat (first | assumption | refine pm_I.up ?_ rfl | refine pm_I.uf ?_ rfl)) rfl rfl ?_
    refine px_iload (i := 6) (pc' := 212) dX9_pairs_210 rfl rfl ?_
    first | refine px_bald (pc' := 213) dX9_pairs_212 rfl (by first | assumption | (repeat (first | exact pm_up_e rfl | refine pm_up_o (by decide) ?_ | apply pm_up_o (by decide))) <;> assumption) (vp_in_nI (by omega) (by omega)) ?_ | refine px_zald (pc' := 213) dX9_pairs_212 rfl (by first | assumption | (repeat (first | exact pm_up_e rfl | refine pm_up_o (by decide) ?_ | apply pm_up_o (by decide))) <;> assumption) (vp_in_nI (by omega) (by omega)) ?_
    rw [hal]
    rcases ps2 a (by omega) with qa | qa
    rotate_left
    · rw [qa]
      refine px_if_eq (tgt := 220) (pc' := 216) dX9_pairs_213 (by decide) rfl (fun _ => ?_) (fun q_ => absurd (rfl) q_)
      refine px_iconst (v := 0) (pc' := 221) dX9_pairs_220 rfl (by decide) ?_
      refine sx_i_8_7 (pc' := 223) dX9_pairs_221 rfl rfl rfl ?_
      refine px_iload (i := 7) (pc' := 225) dX9_pairs_223 rfl rfl ?_
      refine px_if_eq (tgt := 308) (pc' := 228) dX9_pairs_225 (by decide) rfl (fun _ => ?_) (fun q_ => absurd (rfl) q_)
      exact three 0 (Or.inr ⟨rfl, fun q => ps1 a qa (by omega) fun k hk => (q k hk).1⟩)
    rw [qa]
    obtain ⟨ra1, ra2⟩ := ps0 a qa (by omega)
    obtain ⟨rb1, rb2⟩ := ps0 b qb hbn
    have pal := m_ps_lt (w := w) (d := d) (c := a) (i := i) (T := T) (fr := fr)
    have pbl := m_ps_lt (w := w) (d := d) (c := b) (i := i) (T := T) (fr := fr)
    have pa0 := ra1 i (by omega)
    have pb0 := rb1 i (by omega)
    have hpa : m_hp w d T (m_hc η) fr a i = m_hc η (m_ps w d T fr a i).toNat := rfl
    have hpb : m_hp w d T (m_hc η) fr b i = m_hc η (m_ps w d T fr b i).toNat := rfl
    rw [hpa, hpb] at three
    obtain ⟨pa, epa⟩ : ∃ k : Nat, m_ps w d T fr a i = k := ⟨(m_ps w d T fr a i).toNat, by omega⟩
    obtain ⟨pb, epb⟩ : ∃ k : Nat, m_ps w d T fr b i = k := ⟨(m_ps w d T fr b i).toNat, by omega⟩
    rw [epa, iZ_n] at ra2
    rw [epb, iZ_n] at rb2
    rw [epa] at pal
    rw [epb] at pbl
    have bka := hb pa (by omega)
    have bkb := hb pb (by omega)
    have alx := m_al_hc (e := e) bka bkb
    have hpal : (nI pa).toNatClampNeg = pa := nI_clamp (by omega)
    have hpbl : (nI pb).toNatClampNeg = pb := nI_clamp (by omega)
    have alp : ∀ q : ¬ ((η pa).toInt = 255 ∨ (η pb).toInt = 255 ∨ (((η pa).toInt - (η pb).toInt).natAbs : Int) ≤ 2 * e), ¬ m_PP w d e T (m_hc η) fr (i + 1) a b := fun q hh => q (alx.mp (by
      have := (m_PP_s.mp hh).2.2.2
      rw [hpa, hpb, epa, epb, Int.toNat_natCast, Int.toNat_natCast] at this
      exact this))
    rw [epa, epb, Int.toNat_natCast, Int.toNat_natCast] at three
    have thr1 : ((η pa).toInt = 255 ∨ (η pb).toInt = 255 ∨ (((η pa).toInt - (η pb).toInt).natAbs : Int) ≤ 2 * e) → pm_W G mX9_pairs z Φ 308 [.ref 30, .int (nI fr), .int (nI m), .int (nI (w * d)), .int (nI i), .int (nI b), .int (nI a), .int 1] [] z (pm_up (pm_up (pm_up h 50 (pm_ia 0 144 A)) 51 (pm_ia 2 144 F)) 52 (pm_ia 2 20736 L)) g := fun q => three 1 (Or.inl ⟨rfl, by omega, by omega, alx.mpr q⟩)
    refine px_if_eq (tgt := 220) (pc' := 216) dX9_pairs_213 (by decide) rfl (fun q_ => absurd q_ (by decide)) (fun _ => ?_)
    refine px_iconst (v := 1) (pc' := 217) dX9_pairs_216 rfl (by decide) ?_
    refine px_goto (tgt := 221) dX9_pairs_217 (by decide) ?_
    refine sx_i_8_7 (pc' := 223) dX9_pairs_221 rfl rfl rfl ?_
    refine px_iload (i := 7) (pc' := 225) dX9_pairs_223 rfl rfl ?_
    refine px_if_eq (tgt := 308) (pc' := 228) dX9_pairs_225 (by decide) rfl (fun q_ => absurd q_ (by decide)) (fun _ => ?_)
    refine px_aload_n (i := 0) (pc' := 229) dX9_pairs_228 rfl rfl rfl ?_
    refine pi_getr (pc' := 232) fl_9_27 dX9_pairs_229 rfl (by repeat (first | assumption | refine pm_I.up ?_ rfl | refine pm_I.uf ?_ rfl)) rfl rfl ?_
    refine px_aload_n (i := 0) (pc' := 233) dX9_pairs_232 rfl rfl rfl ?_
    refine pi_getr (pc' := 236) fl_9_92 dX9_pairs_233 rfl (by repeat (first | assumption | refine pm_I.up ?_ rfl | refine pm_I.uf ?_ rfl)) rfl rfl ?_
    refine px_iload (i := 5) (pc' := 238) dX9_pairs_236 rfl rfl ?_
    refine px_iald (pc' := 239) dX9_pairs_238 rfl (by first | assumption | (repeat (first | exact pm_up_e rfl | refine pm_up_o (by decide) ?_ | apply pm_up_o (by decide))) <;> assumption) (vp_in_nI (by omega) (by omega)) ?_
    rw [hbl, rb2]
    refine px_iald (pc' := 240) dX9_pairs_239 rfl (by first | assumption | (repeat (first | exact pm_up_e rfl | refine pm_up_o (by decide) ?_ | apply pm_up_o (by decide))) <;> assumption) (vp_in_nI (by omega) (by omega)) ?_
    rw [hpbl]
    refine px_sipush (v := 255) (pc' := 243) dX9_pairs_240 rfl (by decide) ?_
    refine px_icmp_eq (tgt := 301) (pc' := 246) dX9_pairs_243 (by decide) rfl (fun z1 => ?_) (fun z1 => ?_)
    · rw [i_eq, l_255] at z1
      refine px_iconst (v := 1) (pc' := 302) dX9_pairs_301 rfl (by decide) ?_
      refine px_goto (tgt := 306) dX9_pairs_302 (by decide) ?_
      refine sx_i_8_7 (pc' := 308) dX9_pairs_306 rfl rfl rfl ?_
      exact thr1 (Or.inr (Or.inl z1))
    rw [i_eq, l_255] at z1
    refine px_aload_n (i := 0) (pc' := 247) dX9_pairs_246 rfl rfl rfl ?_
    refine pi_getr (pc' := 250) fl_9_27 dX9_pairs_247 rfl (by repeat (first | assumption | refine pm_I.up ?_ rfl | refine pm_I.uf ?_ rfl)) rfl rfl ?_
    refine px_aload_n (i := 0) (pc' := 251) dX9_pairs_250 rfl rfl rfl ?_
    refine pi_getr (pc' := 254) fl_9_92 dX9_pairs_251 rfl (by repeat (first | assumption | refine pm_I.up ?_ rfl | refine pm_I.uf ?_ rfl)) rfl rfl ?_
    refine px_iload (i := 6) (pc' := 256) dX9_pairs_254 rfl rfl ?_
    refine px_iald (pc' := 257) dX9_pairs_256 rfl (by first | assumption | (repeat (first | exact pm_up_e rfl | refine pm_up_o (by decide) ?_ | apply pm_up_o (by decide))) <;> assumption) (vp_in_nI (by omega) (by omega)) ?_
    rw [hal, ra2]
    refine px_iald (pc' := 258) dX9_pairs_257 rfl (by first | assumption | (repeat (first | exact pm_up_e rfl | refine pm_up_o (by decide) ?_ | apply pm_up_o (by decide))) <;> assumption) (vp_in_nI (by omega) (by omega)) ?_
    rw [hpal]
    refine px_sipush (v := 255) (pc' := 261) dX9_pairs_258 rfl (by decide) ?_
    refine px_icmp_eq (tgt := 301) (pc' := 264) dX9_pairs_261 (by decide) rfl (fun z2 => ?_) (fun z2 => ?_)
    · rw [i_eq, l_255] at z2
      refine px_iconst (v := 1) (pc' := 302) dX9_pairs_301 rfl (by decide) ?_
      refine px_goto (tgt := 306) dX9_pairs_302 (by decide) ?_
      refine sx_i_8_7 (pc' := 308) dX9_pairs_306 rfl rfl rfl ?_
      exact thr1 (Or.inl z2)
    rw [i_eq, l_255] at z2
    refine px_aload_n (i := 0) (pc' := 265) dX9_pairs_264 rfl rfl rfl ?_
    refine pi_getr (pc' := 268) fl_9_27 dX9_pairs_265 rfl (by repeat (first | assumption | refine pm_I.up ?_ rfl | refine pm_I.uf ?_ rfl)) rfl rfl ?_
    refine px_aload_n (i := 0) (pc' := 269) dX9_pairs_268 rfl rfl rfl ?_
    refine pi_getr (pc' := 272) fl_9_92 dX9_pairs_269 rfl (by repeat (first | assumption | refine pm_I.up ?_ rfl | refine pm_I.uf ?_ rfl)) rfl rfl ?_
    refine px_iload (i := 5) (pc' := 274) dX9_pairs_272 rfl rfl ?_
    refine px_iald (pc' := 275) dX9_pairs_274 rfl (by first | assumption | (repeat (first | exact pm_up_e rfl | refine pm_up_o (by decide) ?_ | apply pm_up_o (by decide))) <;> assumption) (vp_in_nI (by omega) (by omega)) ?_
    rw [hbl, rb2]
    refine px_iald (pc' := 276) dX9_pairs_275 rfl (by first | assumption | (repeat (first | exact pm_up_e rfl | refine pm_up_o (by decide) ?_ | apply pm_up_o (by decide))) <;> assumption) (vp_in_nI (by omega) (by omega)) ?_
    refine px_aload_n (i := 0) (pc' := 277) dX9_pairs_276 rfl rfl rfl ?_
    refine pi_getr (pc' := 280) fl_9_27 dX9_pairs_277 rfl (by repeat (first | assumption | refine pm_I.up ?_ rfl | refine pm_I.uf ?_ rfl)) rfl rfl ?_
    refine px_aload_n (i := 0) (pc' := 281) dX9_pairs_280 rfl rfl rfl ?_
    refine pi_getr (pc' := 284) fl_9_92 dX9_pairs_281 rfl (by repeat (first | assumption | refine pm_I.up ?_ rfl | refine pm_I.uf ?_ rfl)) rfl rfl ?_
    refine px_iload (i := 6) (pc' := 286) dX9_pairs_284 rfl rfl ?_
    refine px_iald (pc' := 287) dX9_pairs_286 rfl (by first | assumption | (repeat (first | exact pm_up_e rfl | refine pm_up_o (by decide) ?_ | apply pm_up_o (by decide))) <;> assumption) (vp_in_nI (by omega) (by omega)) ?_
    rw [hpbl, hal, ra2]
    unfold m_bok at bka bkb
    have esub : (η pb - η pa).toInt = (η pb).toInt - (η pa).toInt := i_sub (by omega) (by omega)
    refine px_iald (pc' := 288) dX9_pairs_287 rfl (by first | assumption | (repeat (first | exact pm_up_e rfl | refine pm_up_o (by decide) ?_ | apply pm_up_o (by decide))) <;> assumption) (vp_in_nI (by omega) (by omega)) ?_
    rw [hpal]
    have e2e : (2 * nI e).toInt = 2 * (e : Int) := by
      rw [show (2 : Int32) = nI 2 from rfl, pk_mul, nI_toInt (by omega)]
      omega
    refine px_isub (pc' := 289) dX9_pairs_288 rfl ?_
    refine px_callS (pc' := 292) (d_size (by rw [esub]; omega)) okX9_size stX9_size ml_X9_127 ⟨Nat.le_of_ble_eq_true rfl, Nat.le_of_ble_eq_true rfl⟩ dX9_pairs_289 rfl rfl rfl (Nat.le_of_ble_eq_true rfl) pm_le.rf pm_le.rf ?_
    rintro _ _ _ ⟨rfl, rfl, rfl⟩
    refine px_iconst (v := 2) (pc' := 293) dX9_pairs_292 rfl (by decide) ?_
    refine px_aload_n (i := 0) (pc' := 294) dX9_pairs_293 rfl rfl rfl ?_
    refine pi_geti (pc' := 297) fl_9_121 dX9_pairs_294 rfl (by repeat (first | assumption | refine pm_I.up ?_ rfl | refine pm_I.uf ?_ rfl)) rfl (by first | assumption | (repeat (first | exact pm_uf_e rfl | refine pm_uf_o (by decide) ?_ | apply pm_uf_o (by decide))) <;> assumption) ?_
    refine px_imul (pc' := 298) dX9_pairs_297 rfl ?_
    rw [esub]
    have eab : (iZ ((((η pb).toInt - (η pa).toInt).natAbs : Nat) : Int)).toInt = (((η pb).toInt - (η pa).toInt).natAbs : Int) := iZ_t (by omega) (by omega)
    refine px_icmp_gt (tgt := 305) (pc' := 301) dX9_pairs_298 (by decide) rfl (fun z3 => ?_) (fun z3 => ?_)
    · rw [i_lt, e2e, eab] at z3
      refine px_iconst (v := 0) (pc' := 306) dX9_pairs_305 rfl (by decide) ?_
      refine sx_i_8_7 (pc' := 308) dX9_pairs_306 rfl rfl rfl ?_
      exact three 0 (Or.inr ⟨rfl, alp (fun q => by omega)⟩)
    · rw [i_lt, e2e, eab] at z3
      refine px_iconst (v := 1) (pc' := 302) dX9_pairs_301 rfl (by decide) ?_
      refine px_goto (tgt := 306) dX9_pairs_302 (by decide) ?_
      refine sx_i_8_7 (pc' := 308) dX9_pairs_306 rfl rfl rfl ?_
      exact thr1 (Or.inr (Or.inr (by omega)))
  have part2s : ∀ (i : Nat) (A F : Nat → Int32), i ≤ m → (∀ j, j < w * d → m_K w d T fr (i + 1) j (A j) (F j)) → ∀ (b : Nat), b < w * d → ∀ (k a : Nat), a + k = b → ∀ (L : Nat → Int32) (v7 : Value), v7.category = 1 →
      (∀ b' a', b' < w * d → a' < b' → if b' < b ∨ (b' = b ∧ a' < a) then m_M w d e T (m_hc η) fr (i + 1) a' b' (L (w * d * b' + a')) else m_M w d e T (m_hc η) fr i a' b' (L (w * d * b' + a'))) →
      (∀ (L : Nat → Int32) (v7 : Value), v7.category = 1 → (∀ b' a', b' < w * d → a' < b' → if b' < b + 1 then m_M w d e T (m_hc η) fr (i + 1) a' b' (L (w * d * b' + a')) else m_M w d e T (m_hc η) fr i a' b' (L (w * d * b' + a'))) → pm_W G mX9_pairs z Φ 351 [.ref 30, .int (nI fr), .int (nI m), .int (nI (w * d)), .int (nI i), .int (nI b), .int (nI b), v7] [] z (pm_up (pm_up (pm_up h 50 (pm_ia 0 144 A)) 51 (pm_ia 2 144 F)) 52 (pm_ia 2 20736 L)) g) → pm_W G mX9_pairs z Φ 189 [.ref 30, .int (nI fr), .int (nI m), .int (nI (w * d)), .int (nI i), .int (nI b), .int (nI a), v7] [] z (pm_up (pm_up (pm_up h 50 (pm_ia 0 144 A)) 51 (pm_ia 2 144 F)) 52 (pm_ia 2 20736 L)) g := by
    intro i A F hi K b hbn k
    induction k with
    | zero =>
      intro a hk L v7 c7 M W
      obtain rfl : a = b := by omega
      refine px_iload (i := 6) (pc' := 191) dX9_pairs_189 rfl rfl ?_
      refine px_iload (i := 5) (pc' := 193) dX9_pairs_191 rfl rfl ?_
      refine px_icmp_ge (tgt := 351) (pc' := 196) dX9_pairs_193 (by decide) rfl (fun _ => ?_) (fun q_ => absurd (nI_le (by omega) (by omega)) q_)
      refine W L v7 c7 (fun b' a' h1 h2 => ?_)
      have := M b' a' h1 h2
      by_cases q : b' < a + 1
      · rw [if_pos q]
        rw [if_pos (by omega)] at this
        exact this
      · rw [if_neg q]
        rw [if_neg (by omega)] at this
        exact this
    | succ k ih =>
      intro a hk L v7 c7 M W
      have M0 := M b a hbn (by omega)
      rw [if_neg (by omega)] at M0
      refine part2 i b a A F L v7 hi hbn (by omega) c7 K M0 (fun v8 y c8 M1 => ?_)
      refine ih (a + 1) (by omega) _ v8 c8 (fun b' a' h1 h2 => ?_) W
      by_cases q : b' = b ∧ a' = a
      · obtain ⟨rfl, rfl⟩ := q
        rw [if_pos (by omega), show upd L (w * d * b' + a') y (w * d * b' + a') = y from if_pos rfl]
        exact M1
      · have hne : w * d * b' + a' ≠ w * d * b + a := fun hh => q (m_ix (by omega) (by omega) hh)
        rw [show upd L (w * d * b + a) y (w * d * b' + a') = L (w * d * b' + a') from if_neg hne]
        have := M b' a' h1 h2
        by_cases q2 : b' < b ∨ (b' = b ∧ a' < a)
        · rw [if_pos q2] at this
          rw [if_pos (by omega)]
          exact this
        · rw [if_neg q2] at this
          rw [if_neg (by omega)]
          exact this
  have part2t : ∀ (i : Nat) (A F : Nat → Int32), i ≤ m → (∀ j, j < w * d → m_K w d T fr (i + 1) j (A j) (F j)) → ∀ (k b : Nat), b + k = w * d → ∀ (L : Nat → Int32) (v6 v7 : Value), v6.category = 1 → v7.category = 1 →
      (∀ b' a', b' < w * d → a' < b' → if b' < b then m_M w d e T (m_hc η) fr (i + 1) a' b' (L (w * d * b' + a')) else m_M w d e T (m_hc η) fr i a' b' (L (w * d * b' + a'))) →
      (∀ (L : Nat → Int32) (v6 v7 : Value), v6.category = 1 → v7.category = 1 → (∀ b' a', b' < w * d → a' < b' → m_M w d e T (m_hc η) fr (i + 1) a' b' (L (w * d * b' + a'))) → pm_W G mX9_pairs z Φ 357 [.ref 30, .int (nI fr), .int (nI m), .int (nI (w * d)), .int (nI i), .int (nI (w * d)), v6, v7] [] z (pm_up (pm_up (pm_up h 50 (pm_ia 0 144 A)) 51 (pm_ia 2 144 F)) 52 (pm_ia 2 20736 L)) g) → pm_W G mX9_pairs z Φ 180 [.ref 30, .int (nI fr), .int (nI m), .int (nI (w * d)), .int (nI i), .int (nI b), v6, v7] [] z (pm_up (pm_up (pm_up h 50 (pm_ia 0 144 A)) 51 (pm_ia 2 144 F)) 52 (pm_ia 2 20736 L)) g := by
    intro i A F hi K k
    induction k with
    | zero =>
      intro b hk L v6 v7 c6 c7 M W
      obtain rfl : b = w * d := by omega
      refine px_iload (i := 5) (pc' := 182) dX9_pairs_180 rfl rfl ?_
      refine px_iload_n (i := 3) (pc' := 183) dX9_pairs_182 rfl rfl rfl ?_
      refine px_icmp_ge (tgt := 357) (pc' := 186) dX9_pairs_183 (by decide) rfl (fun _ => ?_) (fun q_ => absurd (nI_le (by omega) (by omega)) q_)
      refine W L v6 v7 c6 c7 (fun b' a' h1 h2 => ?_)
      have := M b' a' h1 h2
      rw [if_pos h1] at this
      exact this
    | succ k ih =>
      intro b hk L v6 v7 c6 c7 M W
      refine px_iload (i := 5) (pc' := 182) dX9_pairs_180 rfl rfl ?_
      refine px_iload_n (i := 3) (pc' := 183) dX9_pairs_182 rfl rfl rfl ?_
      refine px_icmp_ge (tgt := 357) (pc' := 186) dX9_pairs_183 (by decide) rfl (fun q_ => absurd q_ (nI_ge (by omega) (by omega))) (fun _ => ?_)
      refine px_iconst (v := 0) (pc' := 187) dX9_pairs_186 rfl (by decide) ?_
      refine sx_i_8_6 (pc' := 189) dX9_pairs_187 rfl rfl rfl ?_
      refine part2s i A F hi K b (by omega) b 0 (by omega) L v7 c7 (fun b' a' h1 h2 => ?_) (fun L' v8 c8 M' => ?_)
      · have := M b' a' h1 h2
        by_cases q : b' < b
        · rw [if_pos q] at this
          rw [if_pos (Or.inl q)]
          exact this
        · rw [if_neg q] at this
          rw [if_neg (by omega)]
          exact this
      · refine sx_inc_8_5 (w := 1) (pc' := 354) dX9_pairs_351 rfl rfl (by decide) rfl ?_
        refine px_goto (tgt := 180) dX9_pairs_354 (by decide) ?_
        rw [nI_1]
        exact ih (b + 1) (by omega) L' _ v8 rfl c8 M' W
  have stages : ∀ (k i : Nat), i + k = m + 1 → ∀ (A F L : Nat → Int32) (v5 v6 v7 : Value), v5.category = 1 → v6.category = 1 → v7.category = 1 → (∀ j, j < w * d → m_K w d T fr i j (A j) (F j)) → (∀ b' a', b' < w * d → a' < b' → m_M w d e T (m_hc η) fr i a' b' (L (w * d * b' + a'))) →
      (∀ (A F L : Nat → Int32) (v5 v6 v7 : Value), v5.category = 1 → v6.category = 1 → v7.category = 1 → (∀ b' a', b' < w * d → a' < b' → m_M w d e T (m_hc η) fr (m + 1) a' b' (L (w * d * b' + a'))) → pm_W G mX9_pairs z Φ 363 [.ref 30, .int (nI fr), .int (nI m), .int (nI (w * d)), .int (nI (m + 1)), v5, v6, v7] [] z (pm_up (pm_up (pm_up h 50 (pm_ia 0 144 A)) 51 (pm_ia 2 144 F)) 52 (pm_ia 2 20736 L)) g) → pm_W G mX9_pairs z Φ 65 [.ref 30, .int (nI fr), .int (nI m), .int (nI (w * d)), .int (nI i), v5, v6, v7] [] z (pm_up (pm_up (pm_up h 50 (pm_ia 0 144 A)) 51 (pm_ia 2 144 F)) 52 (pm_ia 2 20736 L)) g := by
    intro k
    induction k with
    | zero =>
      intro i hk A F L v5 v6 v7 c5 c6 c7 K M W
      obtain rfl : i = m + 1 := by omega
      refine px_iload (i := 4) (pc' := 67) dX9_pairs_65 rfl rfl ?_
      refine px_iload_n (i := 2) (pc' := 68) dX9_pairs_67 rfl rfl rfl ?_
      refine px_icmp_gt (tgt := 363) (pc' := 71) dX9_pairs_68 (by decide) rfl (fun _ => ?_) (fun q_ => absurd (by rw [i_lt, nI_toInt (by omega), nI_toInt (by omega)]; omega) q_)
      exact W A F L v5 v6 v7 c5 c6 c7 M
    | succ k ih =>
      intro i hk A F L v5 v6 v7 c5 c6 c7 K M W
      refine px_iload (i := 4) (pc' := 67) dX9_pairs_65 rfl rfl ?_
      refine px_iload_n (i := 2) (pc' := 68) dX9_pairs_67 rfl rfl rfl ?_
      refine px_icmp_gt (tgt := 363) (pc' := 71) dX9_pairs_68 (by decide) rfl (fun q_ => absurd q_ (by rw [i_lt, nI_toInt (by omega), nI_toInt (by omega)]; omega)) (fun _ => ?_)
      refine px_iconst (v := 0) (pc' := 72) dX9_pairs_71 rfl (by decide) ?_
      refine sx_i_8_5 (pc' := 74) dX9_pairs_72 rfl rfl rfl ?_
      refine part1s i L (by omega) (w * d) 0 (by omega) A F v6 v7 c6 c7 (fun j hj => absurd hj (by omega)) (fun j _ hj => K j hj) (fun A' F' K' => ?_)
      refine px_iconst (v := 0) (pc' := 178) dX9_pairs_177 rfl (by decide) ?_
      refine sx_i_8_5 (pc' := 180) dX9_pairs_178 rfl rfl rfl ?_
      refine part2t i A' F' (by omega) K' (w * d) 0 (by omega) L v6 v7 c6 c7 (fun b' a' h1 h2 => ?_) (fun L' v8 v9 c8 c9 M' => ?_)
      · rw [if_neg (by omega)]
        exact M b' a' h1 h2
      · refine sx_inc_8_4 (w := 1) (pc' := 360) dX9_pairs_357 rfl rfl (by decide) rfl ?_
        refine px_goto (tgt := 65) dX9_pairs_360 (by decide) ?_
        rw [nI_1]
        exact ih (i + 1) (by omega) A' F' L' _ v8 v9 rfl c8 c9 K' M' W
  refine stages (m + 1) 0 (by omega) _ _ _ _ _ _ rfl rfl rfl (fun j hj => Or.inl ⟨if_pos hj, fun k hk => absurd hk (by omega), ?_⟩) (fun b' a' h1 h2 => Or.inl ⟨if_pos ?_, fun k hk => absurd hk (by omega)⟩) (fun A F L v5 v6 v7 c5 c6 c7 M => ?_)
  · rw [if_pos hj, m_ps_0 hj, iZ_n]
  · have : w * d * (b' + 1) ≤ w * d * (w * d) := Nat.mul_le_mul_left _ h1
    rw [Nat.mul_add] at this
    omega
  have row : ∀ a, a < w * d → ∀ (k b : Nat), b + k = w * d → a < b → ∀ v7 : Value, v7.category = 1 →
      (∀ v7 : Value, v7.category = 1 → pm_W G mX9_pairs z Φ 446 [.ref 30, .int (nI fr), .int (nI m), .int (nI (w * d)), .int (nI (m_row (m_tw w d e T (m_hc η) fr m) a (m_all (m_tw w d e T (m_hc η) fr m) (w * d) a) (w * d)).1), .int (nI a), .int (nI (w * d)), v7] [] z (pm_up (pm_up (pm_up h 50 (pm_ia 0 144 A)) 51 (pm_ia 2 144 F)) 52 (pm_ia 2 20736 L)) (pm_uf g 30 37 (.int (iZ (m_row (m_tw w d e T (m_hc η) fr m) a (m_all (m_tw w d e T (m_hc η) fr m) (w * d) a) (w * d)).2)))) →
      pm_W G mX9_pairs z Φ 386 [.ref 30, .int (nI fr), .int (nI m), .int (nI (w * d)), .int (nI (m_row (m_tw w d e T (m_hc η) fr m) a (m_all (m_tw w d e T (m_hc η) fr m) (w * d) a) b).1), .int (nI a), .int (nI b), v7] [] z (pm_up (pm_up (pm_up h 50 (pm_ia 0 144 A)) 51 (pm_ia 2 144 F)) 52 (pm_ia 2 20736 L)) (pm_uf g 30 37 (.int (iZ (m_row (m_tw w d e T (m_hc η) fr m) a (m_all (m_tw w d e T (m_hc η) fr m) (w * d) a) b).2))) := by
    intro a ha k
    induction k with
    | zero =>
      intro b hk hab v7 c7 W
      obtain rfl : b = w * d := by omega
      refine px_iload (i := 6) (pc' := 388) dX9_pairs_386 rfl rfl ?_
      refine px_iload_n (i := 3) (pc' := 389) dX9_pairs_388 rfl rfl rfl ?_
      refine px_icmp_ge (tgt := 446) (pc' := 392) dX9_pairs_389 (by decide) rfl (fun _ => ?_) (fun q_ => absurd (nI_le (by omega) (by omega)) q_)
      exact W v7 c7
    | succ k ih =>
      intro b hk hab v7 c7 W
      have hix : w * d * b + a < 20736 := by
        have : w * d * (b + 1) ≤ w * d * (w * d) := Nat.mul_le_mul_left _ (show b + 1 ≤ w * d by omega)
        rw [Nat.mul_add] at this
        omega
      have abd := m_all_bd (P := m_tw w d e T (m_hc η) fr m) (n := w * d) (by omega) a (by omega)
      have rbd := m_row_bd (P := m_tw w d e T (m_hc η) fr m) (a := a) abd.2 (by omega) b (by omega)
      have nx := ih (b + 1) (by omega) (by omega) v7 c7 W
      refine px_iload (i := 6) (pc' := 388) dX9_pairs_386 rfl rfl ?_
      refine px_iload_n (i := 3) (pc' := 389) dX9_pairs_388 rfl rfl rfl ?_
      refine px_icmp_ge (tgt := 446) (pc' := 392) dX9_pairs_389 (by decide) rfl (fun q_ => absurd q_ (nI_ge (by omega) (by omega))) (fun _ => ?_)
      refine px_aload_n (i := 0) (pc' := 393) dX9_pairs_392 rfl rfl rfl ?_
      refine pi_getr (pc' := 396) fl_9_99 dX9_pairs_393 rfl (by repeat (first | assumption | refine pm_I.up ?_ rfl | refine pm_I.uf ?_ rfl)) rfl rfl ?_
      refine px_iload_n (i := 3) (pc' := 397) dX9_pairs_396 rfl rfl rfl ?_
      refine px_iload (i := 6) (pc' := 399) dX9_pairs_397 rfl rfl ?_
      refine px_imul (pc' := 400) dX9_pairs_399 rfl ?_
      rw [pk_mul]
      refine px_iload (i := 5) (pc' := 402) dX9_pairs_400 rfl rfl ?_
      refine px_iadd (pc' := 403) dX9_pairs_402 rfl ?_
      first | refine px_bald (pc' := 404) dX9_pairs_403 rfl (by first | assumption | (repeat (first | exact pm_up_e rfl | refine pm_up_o (by decide) ?_ | apply pm_up_o (by decide))) <;> assumption) (by rw [nI_add]; exact vp_in_nI (by omega) (by omega)) ?_ | refine px_zald (pc' := 404) dX9_pairs_403 rfl (by first | assumption | (repeat (first | exact pm_up_e rfl | refine pm_up_o (by decide) ?_ | apply pm_up_o (by decide))) <;> assumption) (by rw [nI_add]; exact vp_in_nI (by omega) (by omega)) ?_
      rw [nI_add, nI_clamp (by omega)]
      rcases M b a (by omega) hab with ⟨y1, y2⟩ | ⟨y1, y2⟩
      · rw [y1]
        rw [m_row_t ⟨hab, m_PP_tw.mp y2⟩] at nx
        generalize m_row (m_tw w d e T (m_hc η) fr m) a (m_all (m_tw w d e T (m_hc η) fr m) (w * d) a) b = s at rbd nx ⊢
        unfold m_one at nx
        dsimp only at nx
        have es : (iZ s.2).toInt = s.2 := iZ_t (by omega) (by omega)
        refine px_if_ne (tgt := 410) (pc' := 407) dX9_pairs_404 (by decide) rfl (fun _ => ?_) (fun q_ => absurd q_ (by decide))
        refine sx_inc_8_4 (w := 1) (pc' := 413) dX9_pairs_410 rfl rfl (by decide) rfl ?_
        refine px_aload_n (i := 0) (pc' := 414) dX9_pairs_413 rfl rfl rfl ?_
        refine px_aload_n (i := 0) (pc' := 415) dX9_pairs_414 rfl rfl rfl ?_
        refine pi_geti (pc' := 418) fl_9_179 dX9_pairs_415 rfl (by repeat (first | assumption | refine pm_I.up ?_ rfl | refine pm_I.uf ?_ rfl)) rfl (by first | assumption | (repeat (first | exact pm_uf_e rfl | refine pm_uf_o (by decide) ?_ | apply pm_uf_o (by decide))) <;> assumption) ?_
        rw [nI_1]
        refine px_if_ge (tgt := 433) (pc' := 421) dX9_pairs_418 (by decide) rfl (fun q => ?_) (fun q => ?_)
        · rw [i_le, es, i_0] at q
          rw [if_neg (by omega)] at nx
          refine px_aload_n (i := 0) (pc' := 434) dX9_pairs_433 rfl rfl rfl ?_
          refine pi_geti (pc' := 437) fl_9_179 dX9_pairs_434 rfl (by repeat (first | assumption | refine pm_I.up ?_ rfl | refine pm_I.uf ?_ rfl)) rfl (by first | assumption | (repeat (first | exact pm_uf_e rfl | refine pm_uf_o (by decide) ?_ | apply pm_uf_o (by decide))) <;> assumption) ?_
          refine pi_puti (pc' := 440) fi_9_179 dX9_pairs_437 rfl (by repeat (first | assumption | refine pm_I.up ?_ rfl | refine pm_I.uf ?_ rfl)) rfl ?_
          refine sx_inc_8_6 (w := 1) (pc' := 443) dX9_pairs_440 rfl rfl (by decide) rfl ?_
          refine px_goto (tgt := 386) dX9_pairs_443 (by decide) ?_
          rw [pm_uf_uf, nI_1]
          exact nx
        · rw [i_le, es, i_0] at q
          rw [if_pos (by omega)] at nx
          refine px_sipush (v := 200) (pc' := 424) dX9_pairs_421 rfl (by decide) ?_
          refine px_iload (i := 5) (pc' := 426) dX9_pairs_424 rfl rfl ?_
          refine px_imul (pc' := 427) dX9_pairs_426 rfl ?_
          refine px_iload (i := 6) (pc' := 429) dX9_pairs_427 rfl rfl ?_
          refine px_iadd (pc' := 430) dX9_pairs_429 rfl ?_
          refine px_goto (tgt := 437) dX9_pairs_430 (by decide) ?_
          refine pi_puti (pc' := 440) fi_9_179 dX9_pairs_437 rfl (by repeat (first | assumption | refine pm_I.up ?_ rfl | refine pm_I.uf ?_ rfl)) rfl ?_
          refine sx_inc_8_6 (w := 1) (pc' := 443) dX9_pairs_440 rfl rfl (by decide) rfl ?_
          refine px_goto (tgt := 386) dX9_pairs_443 (by decide) ?_
          rw [pm_uf_uf, nI_1, show (200 : Int32) * nI a + nI b = iZ (200 * (a : Int) + b) by rw [show (200 : Int32) = nI 200 from rfl, pk_mul, nI_add, ← iZ_n]; congr 1]
          exact nx
      · rw [y1]
        rw [m_row_f (fun q => y2 (m_PP_tw.mpr q.2))] at nx
        refine px_if_ne (tgt := 410) (pc' := 407) dX9_pairs_404 (by decide) rfl (fun q_ => absurd (rfl) q_) (fun _ => ?_)
        refine px_goto (tgt := 440) dX9_pairs_407 (by decide) ?_
        refine sx_inc_8_6 (w := 1) (pc' := 443) dX9_pairs_440 rfl rfl (by decide) rfl ?_
        refine px_goto (tgt := 386) dX9_pairs_443 (by decide) ?_
        rw [nI_1]
        exact nx
  have rows : ∀ (k a : Nat), a + k = w * d → ∀ (v6 v7 : Value), v6.category = 1 → v7.category = 1 →
      pm_W G mX9_pairs z Φ 374 [.ref 30, .int (nI fr), .int (nI m), .int (nI (w * d)), .int (nI (m_all (m_tw w d e T (m_hc η) fr m) (w * d) a).1), .int (nI a), v6, v7] [] z (pm_up (pm_up (pm_up h 50 (pm_ia 0 144 A)) 51 (pm_ia 2 144 F)) 52 (pm_ia 2 20736 L)) (pm_uf g 30 37 (.int (iZ (m_all (m_tw w d e T (m_hc η) fr m) (w * d) a).2))) := by
    intro k
    induction k with
    | zero =>
      intro a hk v6 v7 c6 c7
      obtain rfl : a = w * d := by omega
      refine px_iload (i := 5) (pc' := 376) dX9_pairs_374 rfl rfl ?_
      refine px_iload_n (i := 3) (pc' := 377) dX9_pairs_376 rfl rfl rfl ?_
      refine px_icmp_ge (tgt := 452) (pc' := 380) dX9_pairs_377 (by decide) rfl (fun _ => ?_) (fun q_ => absurd (nI_le (by omega) (by omega)) q_)
      refine px_iload (i := 4) (pc' := 454) dX9_pairs_452 rfl rfl ?_
      subst hΦ
      exact px_iret dX9_pairs_454 rfl rfl (⟨rfl, ⟨A, F, L, rfl⟩, rfl⟩)
    | succ k ih =>
      intro a hk v6 v7 c6 c7
      refine px_iload (i := 5) (pc' := 376) dX9_pairs_374 rfl rfl ?_
      refine px_iload_n (i := 3) (pc' := 377) dX9_pairs_376 rfl rfl rfl ?_
      refine px_icmp_ge (tgt := 452) (pc' := 380) dX9_pairs_377 (by decide) rfl (fun q_ => absurd q_ (nI_ge (by omega) (by omega))) (fun _ => ?_)
      refine px_iload (i := 5) (pc' := 382) dX9_pairs_380 rfl rfl ?_
      refine px_iconst (v := 1) (pc' := 383) dX9_pairs_382 rfl (by decide) ?_
      refine px_iadd (pc' := 384) dX9_pairs_383 rfl ?_
      refine sx_i_8_6 (pc' := 386) dX9_pairs_384 rfl rfl rfl ?_
      rw [nI_1]
      have sk := m_row_skip (P := m_tw w d e T (m_hc η) fr m) (a := a) (b := 0) (s := m_all (m_tw w d e T (m_hc η) fr m) (w * d) a) (a + 1) (fun x _ h2 hh => by omega)
      rw [Nat.zero_add, show m_row (m_tw w d e T (m_hc η) fr m) a (m_all (m_tw w d e T (m_hc η) fr m) (w * d) a) 0 = m_all (m_tw w d e T (m_hc η) fr m) (w * d) a from rfl] at sk
      have := row a (by omega) (w * d - (a + 1)) (a + 1) (by omega) (by omega) v7 c7
      rw [sk] at this
      refine this (fun v8 c8 => ?_)
      rw [← m_all_s]
      refine sx_inc_8_5 (w := 1) (pc' := 449) dX9_pairs_446 rfl rfl (by decide) rfl ?_
      refine px_goto (tgt := 374) dX9_pairs_449 (by decide) ?_
      rw [nI_1]
      exact ih (a + 1) (by omega) _ v8 rfl c8
  refine px_iconst (v := 0) (pc' := 364) dX9_pairs_363 rfl (by decide) ?_
  refine sx_i_8_4 (pc' := 366) dX9_pairs_364 rfl rfl rfl ?_
  refine px_aload_n (i := 0) (pc' := 367) dX9_pairs_366 rfl rfl rfl ?_
  refine px_iconst (v := -1) (pc' := 368) dX9_pairs_367 rfl (by decide) ?_
  refine pi_puti (pc' := 371) fi_9_179 dX9_pairs_368 rfl (by repeat (first | assumption | refine pm_I.up ?_ rfl | refine pm_I.uf ?_ rfl)) rfl ?_
  refine px_iconst (v := 0) (pc' := 372) dX9_pairs_371 rfl (by decide) ?_
  refine sx_i_8_5 (pc' := 374) dX9_pairs_372 rfl rfl rfl ?_
  exact rows (w * d) 0 (by omega) v6 v7 c6 c7
end PRS
