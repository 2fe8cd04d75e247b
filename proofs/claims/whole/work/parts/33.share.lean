/-! the share, for the reference, and what the law's call of it needs -/
theorem m_sum_ge {S : Nat → Nat} {j : Nat} : ∀ n, j < n → S j ≤ m_sum S n
  | 0, h => absurd h (by omega)
  | n + 1, h => by
    rw [m_sum_s]
    by_cases q : j = n
    · subst q; omega
    · have := m_sum_ge (S := S) n (show j < n by omega)
      omega
theorem m_sum_le {S : Nat → Nat} {B : Nat} (h : ∀ j, S j ≤ B) : ∀ n, m_sum S n ≤ n * B
  | 0 => Nat.zero_le _
  | n + 1 => by
    have := m_sum_le h n
    have := h n
    rw [m_sum_s, Nat.succ_mul]
    omega
section SHR
variable {G : pm_G} {z : pm_z} {h : pm_h} {g : pm_g}
theorem d_common {a b : Nat} (ha : a < 2 ^ 63) (hb : b < 2 ^ 63) : pm_Met G mX9_common [.long (lN a), .long (lN b)] z z h g (pm_q (.long (lN (Nat.gcd a b))) h g) := by
  refine enX9_common pm_le.rf ?_
  refine px_lload_n (i := 0) (pc' := 1) dX9_common_0 rfl rfl rfl ?_
  refine sx_l_10_4 (pc' := 3) dX9_common_1 rfl rfl rfl ?_
  refine px_lload_n (i := 2) (pc' := 4) dX9_common_3 rfl rfl rfl ?_
  refine sx_l_10_6 (pc' := 6) dX9_common_4 rfl rfl rfl ?_
  have loop : ∀ N x y : Nat, y < N → x < 2 ^ 63 → y < 2 ^ 63 → Nat.gcd x y = Nat.gcd a b → ∀ v8 v9 : Value, pm_W G mX9_common z (pm_Φ G z (pm_q (.long (lN (Nat.gcd a b))) h g)) 6 [.long (lN a), pm_u, .long (lN b), pm_u, .long (lN x), pm_u, .long (lN y), pm_u, v8, v9] [] z h g := by
    intro N
    induction N with
    | zero => intro x y hN; omega
    | succ N ih =>
      intro x y hN hx hy hg v8 v9
      by_cases y0 : y = 0
      · subst y0
        rw [Nat.gcd_zero_right] at hg
        subst hg
        refine px_lload (i := 6) (pc' := 8) dX9_common_6 rfl rfl ?_
        refine px_lconst (v := 0) (pc' := 9) dX9_common_8 rfl (by decide) ?_
        refine px_lcmp (pc' := 10) dX9_common_9 rfl ?_
        refine px_if_eq (tgt := 31) (pc' := 13) dX9_common_10 (by decide) rfl (fun _ => ?_) (fun q_ => absurd (by rw [lg_cmp_eq, l64_0]) q_)
        refine px_lload (i := 4) (pc' := 33) dX9_common_31 rfl rfl ?_
        exact px_lret dX9_common_33 rfl rfl (⟨rfl, rfl, rfl⟩)
      · have hm : x % y < y := Nat.mod_lt x (by omega)
        refine px_lload (i := 6) (pc' := 8) dX9_common_6 rfl rfl ?_
        refine px_lconst (v := 0) (pc' := 9) dX9_common_8 rfl (by decide) ?_
        refine px_lcmp (pc' := 10) dX9_common_9 rfl ?_
        refine px_if_eq (tgt := 31) (pc' := 13) dX9_common_10 (by decide) rfl (fun q_ => absurd q_ (by rw [lg_cmp_eq, l64_0, pk_lEQ (by omega) (by omega)]; exact y0)) (fun _ => ?_)
        refine px_lload (i := 4) (pc' := 15) dX9_common_13 rfl rfl ?_
        refine px_lload (i := 6) (pc' := 17) dX9_common_15 rfl rfl ?_
        refine px_lrem (pc' := 18) dX9_common_17 rfl (by rw [l64_0, pk_lEQ (by omega) (by omega)]; exact y0) ?_
        refine sx_l_10_8 (pc' := 20) dX9_common_18 rfl rfl rfl ?_
        refine px_lload (i := 6) (pc' := 22) dX9_common_20 rfl rfl ?_
        refine sx_l_10_4 (pc' := 24) dX9_common_22 rfl rfl rfl ?_
        refine px_lload (i := 8) (pc' := 26) dX9_common_24 rfl rfl ?_
        refine sx_l_10_6 (pc' := 28) dX9_common_26 rfl rfl rfl ?_
        refine px_goto (tgt := 6) dX9_common_28 (by decide) ?_
        rw [pk_lRem (by omega) (by omega) (by omega)]
        refine ih y (x % y) (by omega) hy (by omega) ?_ _ _
        rw [← hg, Nat.gcd_comm x y, Nat.gcd_rec y x, Nat.gcd_comm]
  exact loop (b + 1) a b (by omega) ha hb rfl _ _
theorem d_throws0 (I : pm_I h g) : pm_Met G mX9_throwsIf [.ref 30, .int 0] z z h g (pm_q (.int 0) h (pm_uf g 30 0 (.int 0))) := by
  have := d_throwsIf (G := G) (z := z) (P := False) I
  rw [if_neg (fun q => q)] at this
  exact this
theorem d_throws1 (I : pm_I h g) : pm_Met G mX9_throwsIf [.ref 30, .int 1] z z h g (pm_q (.int 1) h (pm_uf g 30 0 (.int 1))) := by
  have := d_throwsIf (G := G) (z := z) (P := True) I
  rw [if_pos trivial] at this
  exact this
theorem d_share_ok {w d c : Nat} {a : Int32} {S : Nat → Nat} (I : pm_I h g) (e1 : g 30 9 = .int (nI w)) (e2 : g 30 10 = .int (nI d)) (hw : w ≤ 12) (hd : d ≤ 12) (e : h 37 = pm_la 144 (m_L S)) (hS : m_sum S 144 < 2 ^ 63) (hS0 : 0 < m_sum S 144) (hh : ∀ j, w * d ≤ j → S j = 0) (hc : c < w * d) (hle : S c ≤ m_sum S 144) (ha : 0 ≤ a.toInt ∧ a.toInt ≤ 1) :
    pm_Met G mX9_share [.ref 30, .int (nI c), .int a] z z h g (pm_q (.long (lN (if a.toInt = 0 then S c / Nat.gcd (S c) (m_sum S 144) else m_sum S 144 / Nat.gcd (S c) (m_sum S 144)))) h (pm_uf g 30 0 (.int 0))) := by
  have hwd := m_wd hw hd
  have hci : (nI c).toInt = c := nI_toInt (by omega)
  have hcl : (nI c).toNatClampNeg = c := nI_clamp (by omega)
  have gp : 0 < Nat.gcd (S c) (m_sum S 144) := Nat.gcd_pos_of_pos_right _ hS0
  have gl : Nat.gcd (S c) (m_sum S 144) ≤ m_sum S 144 := Nat.gcd_le_right _ hS0
  have hsm : m_sum S (w * d) = m_sum S 144 := by
    have := m_sum_hi hh (144 - w * d)
    rw [show w * d + (144 - w * d) = 144 by omega] at this
    exact this.symm
  refine enX9_share pm_le.rf ?_
  refine px_aload_n (i := 0) (pc' := 1) dX9_share_0 rfl rfl rfl ?_
  refine px_aload_n (i := 0) (pc' := 2) dX9_share_1 rfl rfl rfl ?_
  refine px_iload_n (i := 1) (pc' := 3) dX9_share_2 rfl rfl rfl ?_
  refine pi_callV (pc' := 6) (d_isCell I e1 e2 hw hd) okX9_isCell ivX9_isCell ml_X9_139 ⟨Nat.le_of_ble_eq_true rfl, Nat.le_of_ble_eq_true rfl⟩ dX9_share_3 rfl rfl rfl (Nat.le_of_ble_eq_true rfl) (by repeat (first | assumption | refine pm_I.up ?_ rfl | refine pm_I.uf ?_ rfl)) rfl cl_9 pm_le.rf pm_le.rf ?_
  rintro _ _ _ ⟨rfl, rfl, rfl⟩
  refine px_if_eq (tgt := 18) (pc' := 9) dX9_share_6 (by decide) rfl (fun q_ => absurd q_ (b_n0.mpr (by omega))) (fun _ => ?_)
  refine px_iload_n (i := 2) (pc' := 10) dX9_share_9 rfl rfl rfl ?_
  refine px_if_lt (tgt := 18) (pc' := 13) dX9_share_10 (by decide) rfl (fun q_ => absurd q_ (by rw [i_lt, i_0]; omega)) (fun _ => ?_)
  refine px_iload_n (i := 2) (pc' := 14) dX9_share_13 rfl rfl rfl ?_
  refine px_iconst (v := 1) (pc' := 15) dX9_share_14 rfl (by decide) ?_
  refine px_icmp_le (tgt := 22) (pc' := 18) dX9_share_15 (by decide) rfl (fun _ => ?_) (fun q_ => absurd (by rw [i_le, l_1]; omega) q_)
  refine px_iconst (v := 0) (pc' := 23) dX9_share_22 rfl (by decide) ?_
  refine pi_callV (pc' := 26) (d_throws0 I) okX9_throwsIf ivX9_throwsIf ml_X9_157 ⟨Nat.le_of_ble_eq_true rfl, Nat.le_of_ble_eq_true rfl⟩ dX9_share_23 rfl rfl rfl (Nat.le_of_ble_eq_true rfl) (by repeat (first | assumption | refine pm_I.up ?_ rfl | refine pm_I.uf ?_ rfl)) rfl cl_9 pm_le.rf pm_le.rf ?_
  rintro _ _ _ ⟨rfl, rfl, rfl⟩
  refine px_if_eq (tgt := 31) (pc' := 29) dX9_share_26 (by decide) rfl (fun _ => ?_) (fun q_ => absurd (rfl) q_)
  refine px_lconst (v := 0) (pc' := 32) dX9_share_31 rfl (by decide) ?_
  refine sx_l_n_7_3 (pc' := 33) dX9_share_32 rfl rfl rfl rfl ?_
  refine px_iconst (v := 0) (pc' := 34) dX9_share_33 rfl (by decide) ?_
  refine sx_i_7_5 (pc' := 36) dX9_share_34 rfl rfl rfl ?_
  have loop : ∀ k i : Nat, i + k = w * d → pm_W G mX9_share z (pm_Φ G z (pm_q (.long (lN (if a.toInt = 0 then S c / Nat.gcd (S c) (m_sum S 144) else m_sum S 144 / Nat.gcd (S c) (m_sum S 144)))) h (pm_uf g 30 0 (.int 0)))) 36 [.ref 30, .int (nI c), .int a, .long (lN (m_sum S i)), pm_u, .int (nI i), pm_u] [] z h (pm_uf g 30 0 (.int 0)) := by
    intro k
    induction k with
    | zero =>
      intro i hi
      obtain rfl : i = w * d := by omega
      rw [hsm]
      refine px_iload (i := 5) (pc' := 38) dX9_share_36 rfl rfl ?_
      refine px_aload_n (i := 0) (pc' := 39) dX9_share_38 rfl rfl rfl ?_
      refine pi_callV (pc' := 42) (d_cells (by repeat (first | assumption | refine pm_I.up ?_ rfl | refine pm_I.uf ?_ rfl)) (by first | assumption | (repeat (first | exact pm_uf_e rfl | refine pm_uf_o (by decide) ?_ | apply pm_uf_o (by decide))) <;> assumption) (by first | assumption | (repeat (first | exact pm_uf_e rfl | refine pm_uf_o (by decide) ?_ | apply pm_uf_o (by decide))) <;> assumption)) okX9_cells ivX9_cells ml_X9_108 ⟨Nat.le_of_ble_eq_true rfl, Nat.le_of_ble_eq_true rfl⟩ dX9_share_39 rfl rfl rfl (Nat.le_of_ble_eq_true rfl) (by repeat (first | assumption | refine pm_I.up ?_ rfl | refine pm_I.uf ?_ rfl)) rfl cl_9 pm_le.rf pm_le.rf ?_
      rintro _ _ _ ⟨rfl, rfl, rfl⟩
      refine px_icmp_ge (tgt := 61) (pc' := 45) dX9_share_42 (by decide) rfl (fun _ => ?_) (fun q_ => absurd (nI_le (by omega) (by omega)) q_)
      refine px_aload_n (i := 0) (pc' := 62) dX9_share_61 rfl rfl rfl ?_
      refine pi_getr (pc' := 65) fl_9_52 dX9_share_62 rfl (by repeat (first | assumption | refine pm_I.up ?_ rfl | refine pm_I.uf ?_ rfl)) rfl rfl ?_
      refine px_iload_n (i := 1) (pc' := 66) dX9_share_65 rfl rfl rfl ?_
      refine px_lald (pc' := 67) dX9_share_66 rfl (by first | assumption | (repeat (first | exact pm_up_e rfl | refine pm_up_o (by decide) ?_ | apply pm_up_o (by decide))) <;> assumption) (vp_in_nI (by omega) (by omega)) ?_
      rw [hcl, show m_L S c = lN (S c) from rfl]
      refine px_lload_n (i := 3) (pc' := 68) dX9_share_67 rfl rfl rfl ?_
      refine px_callS (pc' := 71) (d_common (by omega) hS) okX9_common stX9_common ml_X9_161 ⟨Nat.le_of_ble_eq_true rfl, Nat.le_of_ble_eq_true rfl⟩ dX9_share_68 rfl rfl rfl (Nat.le_of_ble_eq_true rfl) pm_le.rf pm_le.rf ?_
      rintro _ _ _ ⟨rfl, rfl, rfl⟩
      refine sx_l_7_5 (pc' := 73) dX9_share_71 rfl rfl rfl ?_
      refine px_iload_n (i := 2) (pc' := 74) dX9_share_73 rfl rfl rfl ?_
      refine px_if_ne (tgt := 89) (pc' := 77) dX9_share_74 (by decide) rfl (fun q => ?_) (fun q => ?_)
      · rw [i_eq, i_0] at q
        refine px_lload_n (i := 3) (pc' := 90) dX9_share_89 rfl rfl rfl ?_
        refine px_lload (i := 5) (pc' := 92) dX9_share_90 rfl rfl ?_
        refine px_ldiv (pc' := 93) dX9_share_92 rfl (by rw [l64_0, pk_lEQ (by omega) (by omega)]; omega) ?_
        rw [pk_lDiv (by omega) (by omega) (by omega)]
        exact px_lret dX9_share_93 rfl rfl (⟨by rw [if_neg q], rfl, rfl⟩)
      · rw [i_eq, i_0] at q
        refine px_aload_n (i := 0) (pc' := 78) dX9_share_77 rfl rfl rfl ?_
        refine pi_getr (pc' := 81) fl_9_52 dX9_share_78 rfl (by repeat (first | assumption | refine pm_I.up ?_ rfl | refine pm_I.uf ?_ rfl)) rfl rfl ?_
        refine px_iload_n (i := 1) (pc' := 82) dX9_share_81 rfl rfl rfl ?_
        refine px_lald (pc' := 83) dX9_share_82 rfl (by first | assumption | (repeat (first | exact pm_up_e rfl | refine pm_up_o (by decide) ?_ | apply pm_up_o (by decide))) <;> assumption) (vp_in_nI (by omega) (by omega)) ?_
        rw [hcl, show m_L S c = lN (S c) from rfl]
        refine px_lload (i := 5) (pc' := 85) dX9_share_83 rfl rfl ?_
        refine px_ldiv (pc' := 86) dX9_share_85 rfl (by rw [l64_0, pk_lEQ (by omega) (by omega)]; omega) ?_
        refine px_goto (tgt := 93) dX9_share_86 (by decide) ?_
        rw [pk_lDiv (by omega) (by omega) (by omega)]
        exact px_lret dX9_share_93 rfl rfl (⟨by rw [if_pos q], rfl, rfl⟩)
    | succ k ih =>
      intro i hi
      have hil : (nI i).toNatClampNeg = i := nI_clamp (by omega)
      refine px_iload (i := 5) (pc' := 38) dX9_share_36 rfl rfl ?_
      refine px_aload_n (i := 0) (pc' := 39) dX9_share_38 rfl rfl rfl ?_
      refine pi_callV (pc' := 42) (d_cells (by repeat (first | assumption | refine pm_I.up ?_ rfl | refine pm_I.uf ?_ rfl)) (by first | assumption | (repeat (first | exact pm_uf_e rfl | refine pm_uf_o (by decide) ?_ | apply pm_uf_o (by decide))) <;> assumption) (by first | assumption | (repeat (first | exact pm_uf_e rfl | refine pm_uf_o (by decide) ?_ | apply pm_uf_o (by decide))) <;> assumption)) okX9_cells ivX9_cells ml_X9_108 ⟨Nat.le_of_ble_eq_true rfl, Nat.le_of_ble_eq_true rfl⟩ dX9_share_39 rfl rfl rfl (Nat.le_of_ble_eq_true rfl) (by repeat (first | assumption | refine pm_I.up ?_ rfl | refine pm_I.uf ?_ rfl)) rfl cl_9 pm_le.rf pm_le.rf ?_
      rintro _ _ _ ⟨rfl, rfl, rfl⟩
      refine px_icmp_ge (tgt := 61) (pc' := 45) dX9_share_42 (by decide) rfl (fun q_ => absurd q_ (nI_ge (by omega) (by omega))) (fun _ => ?_)
      refine px_lload_n (i := 3) (pc' := 46) dX9_share_45 rfl rfl rfl ?_
      refine px_aload_n (i := 0) (pc' := 47) dX9_share_46 rfl rfl rfl ?_
      refine pi_getr (pc' := 50) fl_9_52 dX9_share_47 rfl (by repeat (first | assumption | refine pm_I.up ?_ rfl | refine pm_I.uf ?_ rfl)) rfl rfl ?_
      refine px_iload (i := 5) (pc' := 52) dX9_share_50 rfl rfl ?_
      refine px_lald (pc' := 53) dX9_share_52 rfl (by first | assumption | (repeat (first | exact pm_up_e rfl | refine pm_up_o (by decide) ?_ | apply pm_up_o (by decide))) <;> assumption) (vp_in_nI (by omega) (by omega)) ?_
      refine px_ladd (pc' := 54) dX9_share_53 rfl ?_
      refine sx_l_n_7_3 (pc' := 55) dX9_share_54 rfl rfl rfl rfl ?_
      refine sx_inc_7_5 (w := 1) (pc' := 58) dX9_share_55 rfl rfl (by decide) rfl ?_
      refine px_goto (tgt := 36) dX9_share_58 (by decide) ?_
      rw [hil, nI_1, show m_L S i = lN (S i) from rfl, lN_add, ← m_sum_s]
      exact ih (i + 1) (by omega)
  exact loop (w * d) 0 (by omega)
theorem d_share_x {w d : Nat} {c a : Int32} (I : pm_I h g) (e1 : g 30 9 = .int (nI w)) (e2 : g 30 10 = .int (nI d)) (hw : w ≤ 12) (hd : d ≤ 12) (bad : ¬ (0 ≤ c.toInt ∧ c.toInt < (w * d : Nat) ∧ 0 ≤ a.toInt ∧ a.toInt ≤ 1)) :
    pm_Met G mX9_share [.ref 30, .int c, .int a] z z h g (pm_q (.long 0) h (pm_uf g 30 0 (.int 1))) := by
  refine enX9_share pm_le.rf ?_
  have fin : pm_W G mX9_share z (pm_Φ G z (pm_q (.long 0) h (pm_uf g 30 0 (.int 1)))) 18 [.ref 30, .int c, .int a, pm_u, pm_u, pm_u, pm_u] [.ref 30] z h g := by
    refine px_iconst (v := 1) (pc' := 19) dX9_share_18 rfl (by decide) ?_
    refine px_goto (tgt := 23) dX9_share_19 (by decide) ?_
    refine pi_callV (pc' := 26) (d_throws1 I) okX9_throwsIf ivX9_throwsIf ml_X9_157 ⟨Nat.le_of_ble_eq_true rfl, Nat.le_of_ble_eq_true rfl⟩ dX9_share_23 rfl rfl rfl (Nat.le_of_ble_eq_true rfl) (by repeat (first | assumption | refine pm_I.up ?_ rfl | refine pm_I.uf ?_ rfl)) rfl cl_9 pm_le.rf pm_le.rf ?_
    rintro _ _ _ ⟨rfl, rfl, rfl⟩
    refine px_if_eq (tgt := 31) (pc' := 29) dX9_share_26 (by decide) rfl (fun q_ => absurd q_ (by decide)) (fun _ => ?_)
    refine px_lconst (v := 0) (pc' := 30) dX9_share_29 rfl (by decide) ?_
    exact px_lret dX9_share_30 rfl rfl (⟨rfl, rfl, rfl⟩)
  refine px_aload_n (i := 0) (pc' := 1) dX9_share_0 rfl rfl rfl ?_
  refine px_aload_n (i := 0) (pc' := 2) dX9_share_1 rfl rfl rfl ?_
  refine px_iload_n (i := 1) (pc' := 3) dX9_share_2 rfl rfl rfl ?_
  refine pi_callV (pc' := 6) (d_isCell I e1 e2 hw hd) okX9_isCell ivX9_isCell ml_X9_139 ⟨Nat.le_of_ble_eq_true rfl, Nat.le_of_ble_eq_true rfl⟩ dX9_share_3 rfl rfl rfl (Nat.le_of_ble_eq_true rfl) (by repeat (first | assumption | refine pm_I.up ?_ rfl | refine pm_I.uf ?_ rfl)) rfl cl_9 pm_le.rf pm_le.rf ?_
  rintro _ _ _ ⟨rfl, rfl, rfl⟩
  refine px_if_eq (tgt := 18) (pc' := 9) dX9_share_6 (by decide) rfl (fun q => ?_) (fun q => ?_)
  · exact fin
  have q := b_n0.mp q
  refine px_iload_n (i := 2) (pc' := 10) dX9_share_9 rfl rfl rfl ?_
  refine px_if_lt (tgt := 18) (pc' := 13) dX9_share_10 (by decide) rfl (fun q2 => ?_) (fun q2 => ?_)
  · exact fin
  rw [i_lt, i_0] at q2
  refine px_iload_n (i := 2) (pc' := 14) dX9_share_13 rfl rfl rfl ?_
  refine px_iconst (v := 1) (pc' := 15) dX9_share_14 rfl (by decide) ?_
  refine px_icmp_le (tgt := 22) (pc' := 18) dX9_share_15 (by decide) rfl (fun q3 => ?_) (fun q3 => ?_)
  · rw [i_le, l_1] at q3
    exact absurd ⟨q.1, q.2, by omega, q3⟩ bad
  · exact fin
/-- what holds of the shares, for both sides -/
theorem J.share (j : J h g) : ∃ (w d : Nat) (S : Nat → Nat) (fo : Nat → Int64), w ≤ 12 ∧ d ≤ 12 ∧ g 3 1 = .int (nI w) ∧ g 3 2 = .int (nI d) ∧ g 30 9 = .int (nI w) ∧ g 30 10 = .int (nI d) ∧ h 16 = pm_la 144 (m_L S) ∧ h 37 = pm_la 144 (m_L S) ∧ m_sum S 144 < 2 ^ 63 ∧ 0 < m_sum S 144 ∧ (∀ j, w * d ≤ j → S j = 0) ∧ (∀ c, c < w * d → S c ≤ m_sum S 144) ∧ h 53 = pm_la 1 fo := by
  obtain ⟨I, -, ⟨w, d, η, q2, q3, q4⟩, -, q6, q7, fo, q8⟩ := j
  obtain ⟨m1, m2, m3, m4, m5, m6, m7, m8, m9, mA, mB⟩ := q2
  obtain ⟨S, legs, reads, lost, lx, ly, rv, ra, start, f17, f38, fp, s1, s2, s3, s4, s5, s6, s7, s8, s9, sA, sB, sC, sD, sE, sF, sG, sH, sI, sJ, sK⟩ := q4
  have hwd := m_wd m2 m4
  have hB := m_sum_le fp.S63 144
  rw [p25] at hB
  obtain ⟨p1, p2, p3, p4, p5, p6, ⟨jj, p7, p7'⟩, p8⟩ := fp
  have := m_sum_ge (S := S) (j := jj) 144 (by omega)
  exact ⟨w, d, S, fo, m2, m4, m6, m7, m9, mA, s1, sB, by omega, by omega, p6, fun c hc => m_sum_ge 144 (by omega), q8⟩
theorem J.out {fo : Nat → Int64} (j : J h g) : J (pm_up h 53 (pm_la 1 fo)) g := by
  obtain ⟨I, ⟨n, T, q1⟩, ⟨w, d, η, q2, q3, q4⟩, q5, q6, q7, q8⟩ := j
  exact ⟨I.up rfl, ⟨n, T, q1.keep rfl rfl rfl rfl⟩, ⟨w, d, η, q2.keep rfl rfl rfl rfl rfl rfl, q3.keep rfl rfl rfl rfl rfl rfl rfl rfl rfl, q4.keep rfl rfl rfl rfl rfl rfl rfl rfl rfl rfl rfl rfl rfl rfl rfl rfl rfl rfl rfl rfl⟩, q5, q6.keep rfl rfl rfl rfl rfl rfl rfl rfl rfl rfl rfl rfl rfl rfl rfl, q7.keep rfl rfl rfl rfl rfl rfl rfl rfl rfl, fo, (by first | assumption | (repeat (first | exact pm_up_e rfl | refine pm_up_o (by decide) ?_ | apply pm_up_o (by decide))) <;> assumption)⟩
end SHR
