/-! the best path: faults and weights of the two -/
def b_E (ra rv η : Nat → Int32) (n t i : Nat) : Nat := if (η i).toInt = 255 then 0 else (m_fa ra rv t (η i).toInt n).toNat
def b_V (w a0 a1 : Nat) (lx ly : Nat → Int32) (t i j : Nat) : Nat :=
  if -1 ≤ ((j % w : Nat) : Int) - ((i % w : Nat) + (lx t).toInt) ∧ ((j % w : Nat) : Int) - ((i % w : Nat) + (lx t).toInt) ≤ 1 ∧ -1 ≤ ((j / w : Nat) : Int) - ((i / w : Nat) + (ly t).toInt) ∧ ((j / w : Nat) : Int) - ((i / w : Nat) + (ly t).toInt) ≤ 1 then
    m_wt a0 a1 (((j % w : Nat) : Int) - ((i % w : Nat) + (lx t).toInt)) (((j / w : Nat) : Int) - ((i / w : Nat) + (ly t).toInt)) else 0
theorem b_V_off {w d a0 a1 t i j : Nat} {lx ly : Nat → Int32} {a b : Int} (ha : -1 ≤ a ∧ a ≤ 1) (hb : -1 ≤ b ∧ b ≤ 1) (h : m_off w d (((i % w : Nat) + (lx t).toInt) + a) (((i / w : Nat) + (ly t).toInt) + b) = (j : Int)) : b_V w a0 a1 lx ly t i j = m_wt a0 a1 a b ∧ j < w * d := by
  obtain ⟨h1, h2⟩ := m_off_pos h.symm
  have h3 := m_off_lt (w := w) (d := d) (((i % w : Nat) + (lx t).toInt) + a) (((i / w : Nat) + (ly t).toInt) + b)
  unfold b_V
  rw [← h1, ← h2, show ((i % w : Nat) : Int) + (lx t).toInt + a - ((i % w : Nat) + (lx t).toInt) = a by omega, show ((i / w : Nat) : Int) + (ly t).toInt + b - ((i / w : Nat) + (ly t).toInt) = b by omega, if_pos ⟨ha.1, ha.2, hb.1, hb.2⟩]
  exact ⟨rfl, by omega⟩
theorem b_V_ex {w d a0 a1 t i j : Nat} {lx ly : Nat → Int32} (hw : 0 < w) (hj : j < w * d) (h : 0 < b_V w a0 a1 lx ly t i j) : ∃ a b : Int, (-1 ≤ a ∧ a ≤ 1) ∧ (-1 ≤ b ∧ b ≤ 1) ∧ m_off w d (((i % w : Nat) + (lx t).toInt) + a) (((i / w : Nat) + (ly t).toInt) + b) = (j : Int) := by
  unfold b_V at h
  split at h
  · rename_i q
    refine ⟨_, _, ⟨q.1, q.2.1⟩, ⟨q.2.2.1, q.2.2.2⟩, ?_⟩
    have h1 := Nat.mod_lt j hw
    have h2 : j / w < d := Nat.div_lt_of_lt_mul hj
    rw [show ((i % w : Nat) : Int) + (lx t).toInt + (((j % w : Nat) : Int) - ((i % w : Nat) + (lx t).toInt)) = ((j % w : Nat) : Int) by omega, show ((i / w : Nat) : Int) + (ly t).toInt + (((j / w : Nat) : Int) - ((i / w : Nat) + (ly t).toInt)) = ((j / w : Nat) : Int) by omega, m_off_in h1 h2, Nat.div_add_mod]
  · omega
theorem b_V_le {w a0 a1 t i j : Nat} {lx ly : Nat → Int32} (h0 : a0 ≤ 3) (h1 : a1 ≤ 1) : b_V w a0 a1 lx ly t i j ≤ 9 := by
  unfold b_V
  split
  · unfold m_wt
    have p : ∀ x y : Nat, x ≤ 3 → y ≤ 3 → x * y ≤ 3 * 3 := fun _ _ => Nat.mul_le_mul
    split <;> split <;> exact p _ _ (by omega) (by omega)
  · omega
theorem b_E_le {ra rv η : Nat → Int32} {n t i : Nat} (hn : n ≤ 40) (hv : ∀ i, i < n → 0 ≤ (rv i).toInt ∧ (rv i).toInt ≤ 255) (hb : m_bok (η i)) : b_E ra rv η n t i ≤ 10200 := by
  unfold b_E
  unfold m_bok at hb
  split
  · omega
  · have := m_fa_bd (ra := ra) (rv := rv) (s := t) (hh := (η i).toInt) n hv (by omega) (by omega)
    omega
section BST
variable {G : pm_G} {z : pm_z} {h : pm_h} {g : pm_g}
/-- the class' fault is that -/
theorem b_E_c {ra rv η : Nat → Int32} {n t i : Nat} (hn : n ≤ 40) (hv : ∀ i, i < n → 0 ≤ (rv i).toInt ∧ (rv i).toInt ≤ 255) (hb : m_bok (η i)) (ht : t < 100) : (if (m_hc η i).toInt = -1 then 0 else iZ (m_fa ra rv (nI t).toInt (m_hc η i).toInt n)) = nI (b_E ra rv η n t i) := by
  unfold b_E
  rw [nI_toInt (by omega)]
  by_cases hu : (η i).toInt = 255
  · rw [if_pos ((m_hc_u hb).mpr hu), if_pos hu]; rfl
  · rw [if_neg (fun q => hu ((m_hc_u hb).mp q)), if_neg hu, m_hc_k hu]
    unfold m_bok at hb
    have := m_fa_bd (ra := ra) (rv := rv) (s := t) (hh := (η i).toInt) n hv (by omega) (by omega)
    rw [← iZ_n, Int.toNat_of_nonneg this.1]
theorem d_errs {n c t : Nat} {ra rv η : Nat → Int32} (I : pm_I h g) (e : g 30 23 = .int (nI n)) (hn : n ≤ 40) (e1 : h 42 = pm_ia 0 40 rv) (e2 : h 41 = pm_ia 0 40 ra) (e3 : h 32 = pm_ia 0 144 η) (hv : ∀ i, i < n → 0 ≤ (rv i).toInt ∧ (rv i).toInt ≤ 255) (hc : c < 144) (hb : m_bok (η c)) (ht : t < 100) :
    pm_Met G mX9_errs [.ref 30, .int (nI c), .int (nI t)] z z h g (pm_q (.int (nI (b_E ra rv η n t c))) h g) := by
  have hcl : (nI c).toNatClampNeg = c := nI_clamp (by omega)
  have ett : (nI t).toInt = t := nI_toInt (by omega)
  have hb' := hb
  unfold m_bok at hb'
  obtain ⟨P, hP⟩ : ∃ P : Nat → Int, P = fun i => if (η c).toInt = 255 then 0 else m_fa ra rv t (η c).toInt i := ⟨_, rfl⟩
  have hPn : iZ (P n) = nI (b_E ra rv η n t c) := by
    rw [hP]
    unfold b_E
    dsimp only
    by_cases hu : (η c).toInt = 255
    · rw [if_pos hu, if_pos hu]; rfl
    · rw [if_neg hu, if_neg hu]
      have := m_fa_bd (ra := ra) (rv := rv) (s := t) (hh := (η c).toInt) n hv (by omega) (by omega)
      rw [← iZ_n, Int.toNat_of_nonneg this.1]
  have hPs : ∀ i, P (i + 1) = P i + if (η c).toInt = 255 then 0 else if (ra i).toInt = t then (((rv i).toInt - (η c).toInt).natAbs : Int) else 0 := fun i => by
    rw [hP]
    dsimp only
    by_cases hu : (η c).toInt = 255
    · rw [if_pos hu, if_pos hu, if_pos hu]; rfl
    · rw [if_neg hu, if_neg hu, if_neg hu]; rfl
  refine enX9_errs pm_le.rf ?_
  refine px_iconst (v := 0) (pc' := 1) dX9_errs_0 rfl (by decide) ?_
  refine sx_i_n_5_3 (pc' := 2) dX9_errs_1 rfl rfl rfl rfl ?_
  refine px_iconst (v := 0) (pc' := 3) dX9_errs_2 rfl (by decide) ?_
  refine sx_i_5_4 (pc' := 5) dX9_errs_3 rfl rfl rfl ?_
  have loop : ∀ k i : Nat, i + k = n → pm_W G mX9_errs z (pm_Φ G z (pm_q (.int (nI (b_E ra rv η n t c))) h g)) 5 [.ref 30, .int (nI c), .int (nI t), .int (iZ (P i)), .int (nI i)] [] z h g := by
    intro k
    induction k with
    | zero =>
      intro i hi
      obtain rfl : i = n := by omega
      rw [hPn]
      refine px_iload (i := 4) (pc' := 7) dX9_errs_5 rfl rfl ?_
      refine px_aload_n (i := 0) (pc' := 8) dX9_errs_7 rfl rfl rfl ?_
      refine pi_geti (pc' := 11) fl_9_133 dX9_errs_8 rfl (by repeat (first | assumption | refine pm_I.up ?_ rfl | refine pm_I.uf ?_ rfl)) rfl (by first | assumption | (repeat (first | exact pm_uf_e rfl | refine pm_uf_o (by decide) ?_ | apply pm_uf_o (by decide))) <;> assumption) ?_
      refine px_icmp_ge (tgt := 67) (pc' := 14) dX9_errs_11 (by decide) rfl (fun _ => ?_) (fun q_ => absurd (nI_le (by omega) (by omega)) q_)
      refine px_iload_n (i := 3) (pc' := 68) dX9_errs_67 rfl rfl rfl ?_
      exact px_iret dX9_errs_68 rfl rfl (⟨rfl, rfl, rfl⟩)
    | succ k ih =>
      intro i hi
      have hil : (nI i).toNatClampNeg = i := nI_clamp (by omega)
      have hvi := hv i (by omega)
      have nx := ih (i + 1) (by omega)
      rw [hPs] at nx
      have fin : ∀ x : Int, iZ x = iZ (if (η c).toInt = 255 then 0 else if (ra i).toInt = t then (((rv i).toInt - (η c).toInt).natAbs : Int) else 0) → pm_W G mX9_errs z (pm_Φ G z (pm_q (.int (nI (b_E ra rv η n t c))) h g)) 59 [.ref 30, .int (nI c), .int (nI t), .int (iZ (P i)), .int (nI i)] [.int (iZ x), .int (iZ (P i))] z h g := by
        intro x hx
        refine px_iadd (pc' := 60) dX9_errs_59 rfl ?_
        refine sx_i_n_5_3 (pc' := 61) dX9_errs_60 rfl rfl rfl rfl ?_
        refine sx_inc_5_4 (w := 1) (pc' := 64) dX9_errs_61 rfl rfl (by decide) rfl ?_
        refine px_goto (tgt := 5) dX9_errs_64 (by decide) ?_
        rw [nI_1, hx, iZ_add]
        exact nx
      refine px_iload (i := 4) (pc' := 7) dX9_errs_5 rfl rfl ?_
      refine px_aload_n (i := 0) (pc' := 8) dX9_errs_7 rfl rfl rfl ?_
      refine pi_geti (pc' := 11) fl_9_133 dX9_errs_8 rfl (by repeat (first | assumption | refine pm_I.up ?_ rfl | refine pm_I.uf ?_ rfl)) rfl (by first | assumption | (repeat (first | exact pm_uf_e rfl | refine pm_uf_o (by decide) ?_ | apply pm_uf_o (by decide))) <;> assumption) ?_
      refine px_icmp_ge (tgt := 67) (pc' := 14) dX9_errs_11 (by decide) rfl (fun q_ => absurd q_ (nI_ge (by omega) (by omega))) (fun _ => ?_)
      refine px_iload_n (i := 3) (pc' := 15) dX9_errs_14 rfl rfl rfl ?_
      refine px_aload_n (i := 0) (pc' := 16) dX9_errs_15 rfl rfl rfl ?_
      refine pi_getr (pc' := 19) fl_9_65 dX9_errs_16 rfl (by repeat (first | assumption | refine pm_I.up ?_ rfl | refine pm_I.uf ?_ rfl)) rfl rfl ?_
      refine px_iload (i := 4) (pc' := 21) dX9_errs_19 rfl rfl ?_
      refine px_iald (pc' := 22) dX9_errs_21 rfl (by first | assumption | (repeat (first | exact pm_up_e rfl | refine pm_up_o (by decide) ?_ | apply pm_up_o (by decide))) <;> assumption) (vp_in_nI (by omega) (by omega)) ?_
      rw [hil]
      refine px_iload_n (i := 2) (pc' := 23) dX9_errs_22 rfl rfl rfl ?_
      refine px_icmp_ne (tgt := 58) (pc' := 26) dX9_errs_23 (by decide) rfl (fun q => ?_) (fun q => ?_)
      · rw [i_eq, ett] at q
        refine px_iconst (v := 0) (pc' := 59) dX9_errs_58 rfl (by decide) ?_
        exact fin 0 (by rw [if_neg q]; split <;> rfl)
      · have q : (ra i).toInt = t := by
          rw [← ett]
          exact congrArg Int32.toInt q
        refine px_aload_n (i := 0) (pc' := 27) dX9_errs_26 rfl rfl rfl ?_
        refine pi_getr (pc' := 30) fl_9_27 dX9_errs_27 rfl (by repeat (first | assumption | refine pm_I.up ?_ rfl | refine pm_I.uf ?_ rfl)) rfl rfl ?_
        refine px_iload_n (i := 1) (pc' := 31) dX9_errs_30 rfl rfl rfl ?_
        refine px_iald (pc' := 32) dX9_errs_31 rfl (by first | assumption | (repeat (first | exact pm_up_e rfl | refine pm_up_o (by decide) ?_ | apply pm_up_o (by decide))) <;> assumption) (vp_in_nI (by omega) (by omega)) ?_
        rw [hcl]
        refine px_sipush (v := 255) (pc' := 35) dX9_errs_32 rfl (by decide) ?_
        refine px_icmp_eq (tgt := 58) (pc' := 38) dX9_errs_35 (by decide) rfl (fun q2 => ?_) (fun q2 => ?_)
        · rw [i_eq, l_255] at q2
          refine px_iconst (v := 0) (pc' := 59) dX9_errs_58 rfl (by decide) ?_
          exact fin 0 (by rw [if_pos q2])
        · rw [i_eq, l_255] at q2
          have es : (η c - rv i).toInt = (η c).toInt - (rv i).toInt := i_sub (by omega) (by omega)
          refine px_aload_n (i := 0) (pc' := 39) dX9_errs_38 rfl rfl rfl ?_
          refine pi_getr (pc' := 42) fl_9_27 dX9_errs_39 rfl (by repeat (first | assumption | refine pm_I.up ?_ rfl | refine pm_I.uf ?_ rfl)) rfl rfl ?_
          refine px_iload_n (i := 1) (pc' := 43) dX9_errs_42 rfl rfl rfl ?_
          refine px_iald (pc' := 44) dX9_errs_43 rfl (by first | assumption | (repeat (first | exact pm_up_e rfl | refine pm_up_o (by decide) ?_ | apply pm_up_o (by decide))) <;> assumption) (vp_in_nI (by omega) (by omega)) ?_
          refine px_aload_n (i := 0) (pc' := 45) dX9_errs_44 rfl rfl rfl ?_
          refine pi_getr (pc' := 48) fl_9_68 dX9_errs_45 rfl (by repeat (first | assumption | refine pm_I.up ?_ rfl | refine pm_I.uf ?_ rfl)) rfl rfl ?_
          refine px_iload (i := 4) (pc' := 50) dX9_errs_48 rfl rfl ?_
          refine px_iald (pc' := 51) dX9_errs_50 rfl (by first | assumption | (repeat (first | exact pm_up_e rfl | refine pm_up_o (by decide) ?_ | apply pm_up_o (by decide))) <;> assumption) (vp_in_nI (by omega) (by omega)) ?_
          rw [hcl, hil]
          refine px_isub (pc' := 52) dX9_errs_51 rfl ?_
          refine px_callS (pc' := 55) (d_size (by rw [es]; omega)) okX9_size stX9_size ml_X9_127 ⟨Nat.le_of_ble_eq_true rfl, Nat.le_of_ble_eq_true rfl⟩ dX9_errs_52 rfl rfl rfl (Nat.le_of_ble_eq_true rfl) pm_le.rf pm_le.rf ?_
          rintro _ _ _ ⟨rfl, rfl, rfl⟩
          refine px_goto (tgt := 59) dX9_errs_55 (by decide) ?_
          rw [es]
          refine fin _ ?_
          rw [if_neg q2, if_pos q]
          congr 1
          omega
  have := loop n 0 (by omega)
  rw [show iZ (P 0) = 0 by rw [hP]; dsimp only; split <;> rfl] at this
  exact this
end BST
