/-! share: the greatest common divisor, the throw, the law's catch -/
section GCD
variable {G : pm_G} {z : pm_z} {h : pm_h} {g : pm_g}
theorem m_pow : (2 : Nat) ^ 126 < 2 ^ 198 := by decide
theorem c_commonDivisor {a b : Nat} (ha : a < 2 ^ 63) (hb : b < 2 ^ 63) (hb0 : 0 < b) : pm_Met G mX8_commonDivisor [.long (lN a), .long (lN b)] z z h g (pm_q (.long (lN (Nat.gcd a b))) h g) := by
  refine enX8_commonDivisor pm_le.rf ?_
  refine px_lload_n (i := 0) (pc' := 1) dX8_commonDivisor_0 rfl rfl rfl ?_
  refine sx_l_11_4 (pc' := 3) dX8_commonDivisor_1 rfl rfl rfl ?_
  refine px_lload_n (i := 2) (pc' := 4) dX8_commonDivisor_3 rfl rfl rfl ?_
  refine sx_l_11_6 (pc' := 6) dX8_commonDivisor_4 rfl rfl rfl ?_
  refine px_iconst (v := 0) (pc' := 7) dX8_commonDivisor_6 rfl (by decide) ?_
  refine sx_i_11_8 (pc' := 9) dX8_commonDivisor_7 rfl rfl rfl ?_
  have gp : 0 < Nat.gcd a b := Nat.gcd_pos_of_pos_right a hb0
  have gl : Nat.gcd a b ≤ b := Nat.gcd_le_right a hb0
  have fin : ∀ (x : Nat) (v8 v9 v10 : Value), v8.category = 1 → x = Nat.gcd a b → pm_W G mX8_commonDivisor z (pm_Φ G z (pm_q (.long (lN (Nat.gcd a b))) h g)) 45 [.long (lN a), pm_u, .long (lN b), pm_u, .long (lN x), pm_u, .long (lN 0), pm_u, v8, v9, v10] [] z h g := by
    intro x v8 v9 v10 c8 hx
    subst hx
    refine px_lload (i := 4) (pc' := 47) dX8_commonDivisor_45 rfl rfl ?_
    refine px_lconst (v := 1) (pc' := 48) dX8_commonDivisor_47 rfl (by decide) ?_
    refine px_lcmp (pc' := 49) dX8_commonDivisor_48 rfl ?_
    refine px_if_ge (tgt := 56) (pc' := 52) dX8_commonDivisor_49 (by decide) rfl (fun _ => ?_) (fun q_ => absurd (by rw [lg_cmp_ge, l64_1, pk_lLE (by omega) (by omega)]; omega) q_)
    refine px_lload (i := 4) (pc' := 58) dX8_commonDivisor_56 rfl rfl ?_
    exact px_lret dX8_commonDivisor_58 rfl rfl (⟨rfl, rfl, rfl⟩)
  have loop : ∀ k i x y : Nat, i + k = 199 → x < 2 ^ 63 → y < 2 ^ 63 → 0 < x → Nat.gcd x y = Nat.gcd a b → y ≤ x → x * y < 2 ^ k → ∀ v9 v10 : Value, pm_W G mX8_commonDivisor z (pm_Φ G z (pm_q (.long (lN (Nat.gcd a b))) h g)) 9 [.long (lN a), pm_u, .long (lN b), pm_u, .long (lN x), pm_u, .long (lN y), pm_u, .int (nI i), v9, v10] [] z h g := by
    intro k
    induction k with
    | zero =>
      intro i x y hi hx hy hx0 hg hxy hp v9 v10
      have y0 : y = 0 := by
        have : x * y = 0 := by omega
        rcases Nat.mul_eq_zero.mp this with q | q
        · omega
        · exact q
      subst y0
      rw [Nat.gcd_zero_right] at hg
      refine px_iload (i := 8) (pc' := 11) dX8_commonDivisor_9 rfl rfl ?_
      refine px_sipush (v := 200) (pc' := 14) dX8_commonDivisor_11 rfl (by decide) ?_
      refine px_icmp_ge (tgt := 45) (pc' := 17) dX8_commonDivisor_14 (by decide) rfl (fun q_ => absurd q_ (nI_ge (b := 200) (by omega) (by omega))) (fun _ => ?_)
      refine px_lload (i := 6) (pc' := 19) dX8_commonDivisor_17 rfl rfl ?_
      refine px_lconst (v := 0) (pc' := 20) dX8_commonDivisor_19 rfl (by decide) ?_
      refine px_lcmp (pc' := 21) dX8_commonDivisor_20 rfl ?_
      refine px_if_eq (tgt := 45) (pc' := 24) dX8_commonDivisor_21 (by decide) rfl (fun _ => ?_) (fun q_ => absurd (by rw [lg_cmp_eq, l64_0]) q_)
      exact fin x _ _ _ rfl hg
    | succ k ih =>
      intro i x y hi hx hy hx0 hg hxy hp v9 v10
      by_cases y0 : y = 0
      · subst y0
        rw [Nat.gcd_zero_right] at hg
        refine px_iload (i := 8) (pc' := 11) dX8_commonDivisor_9 rfl rfl ?_
        refine px_sipush (v := 200) (pc' := 14) dX8_commonDivisor_11 rfl (by decide) ?_
        refine px_icmp_ge (tgt := 45) (pc' := 17) dX8_commonDivisor_14 (by decide) rfl (fun q_ => absurd q_ (nI_ge (b := 200) (by omega) (by omega))) (fun _ => ?_)
        refine px_lload (i := 6) (pc' := 19) dX8_commonDivisor_17 rfl rfl ?_
        refine px_lconst (v := 0) (pc' := 20) dX8_commonDivisor_19 rfl (by decide) ?_
        refine px_lcmp (pc' := 21) dX8_commonDivisor_20 rfl ?_
        refine px_if_eq (tgt := 45) (pc' := 24) dX8_commonDivisor_21 (by decide) rfl (fun _ => ?_) (fun q_ => absurd (by rw [lg_cmp_eq, l64_0]) q_)
        exact fin x _ _ _ rfl hg
      · have hm : x % y < y := Nat.mod_lt x (by omega)
        refine px_iload (i := 8) (pc' := 11) dX8_commonDivisor_9 rfl rfl ?_
        refine px_sipush (v := 200) (pc' := 14) dX8_commonDivisor_11 rfl (by decide) ?_
        refine px_icmp_ge (tgt := 45) (pc' := 17) dX8_commonDivisor_14 (by decide) rfl (fun q_ => absurd q_ (nI_ge (b := 200) (by omega) (by omega))) (fun _ => ?_)
        refine px_lload (i := 6) (pc' := 19) dX8_commonDivisor_17 rfl rfl ?_
        refine px_lconst (v := 0) (pc' := 20) dX8_commonDivisor_19 rfl (by decide) ?_
        refine px_lcmp (pc' := 21) dX8_commonDivisor_20 rfl ?_
        refine px_if_eq (tgt := 45) (pc' := 24) dX8_commonDivisor_21 (by decide) rfl (fun q_ => absurd q_ (by rw [lg_cmp_eq, l64_0, pk_lEQ (by omega) (by omega)]; exact y0)) (fun _ => ?_)
        refine px_lload (i := 4) (pc' := 26) dX8_commonDivisor_24 rfl rfl ?_
        refine px_lload (i := 6) (pc' := 28) dX8_commonDivisor_26 rfl rfl ?_
        refine px_lrem (pc' := 29) dX8_commonDivisor_28 rfl (by rw [l64_0, pk_lEQ (by omega) (by omega)]; exact y0) ?_
        refine sx_l_11_9 (pc' := 31) dX8_commonDivisor_29 rfl rfl rfl ?_
        refine px_lload (i := 6) (pc' := 33) dX8_commonDivisor_31 rfl rfl ?_
        refine sx_l_11_4 (pc' := 35) dX8_commonDivisor_33 rfl rfl rfl ?_
        refine px_lload (i := 9) (pc' := 37) dX8_commonDivisor_35 rfl rfl ?_
        refine sx_l_11_6 (pc' := 39) dX8_commonDivisor_37 rfl rfl rfl ?_
        refine sx_inc_11_8 (w := 1) (pc' := 42) dX8_commonDivisor_39 rfl rfl (by decide) rfl ?_
        refine px_goto (tgt := 9) dX8_commonDivisor_42 (by decide) ?_
        rw [pk_lRem (by omega) (by omega) (by omega), nI_1]
        refine ih (i + 1) y (x % y) (by omega) hy (by omega) (by omega) ?_ (by omega) ?_ _ _
        · rw [← hg, Nat.gcd_comm x y, Nat.gcd_rec y x, Nat.gcd_comm]
        · have h2 : 2 * (x % y) ≤ x := by
            have e := Nat.div_add_mod x y
            have hq : 1 ≤ x / y := Nat.div_pos hxy (by omega)
            have : y * 1 ≤ y * (x / y) := Nat.mul_le_mul (Nat.le_refl y) hq
            omega
          have h3 : y * (2 * (x % y)) ≤ y * x := Nat.mul_le_mul (Nat.le_refl y) h2
          rw [Nat.pow_succ] at hp
          rw [Nat.mul_comm x y] at hp
          have h4 : y * (2 * (x % y)) = 2 * (y * (x % y)) := by rw [Nat.mul_left_comm]
          omega
  have hprod : ∀ x y : Nat, x < 2 ^ 63 → y < 2 ^ 63 → x * y < 2 ^ 198 := fun x y hx hy => by
    have : x * y ≤ 2 ^ 63 * 2 ^ 63 := Nat.mul_le_mul (by omega) (by omega)
    rw [← Nat.pow_add] at this
    exact Nat.lt_of_le_of_lt this m_pow
  rw [show (0 : Int32) = nI 0 from rfl]
  have hm : a % b < b := Nat.mod_lt a hb0
  refine px_iload (i := 8) (pc' := 11) dX8_commonDivisor_9 rfl rfl ?_
  refine px_sipush (v := 200) (pc' := 14) dX8_commonDivisor_11 rfl (by decide) ?_
  refine px_icmp_ge (tgt := 45) (pc' := 17) dX8_commonDivisor_14 (by decide) rfl (fun q_ => absurd q_ (nI_ge (b := 200) (by omega) (by omega))) (fun _ => ?_)
  refine px_lload (i := 6) (pc' := 19) dX8_commonDivisor_17 rfl rfl ?_
  refine px_lconst (v := 0) (pc' := 20) dX8_commonDivisor_19 rfl (by decide) ?_
  refine px_lcmp (pc' := 21) dX8_commonDivisor_20 rfl ?_
  refine px_if_eq (tgt := 45) (pc' := 24) dX8_commonDivisor_21 (by decide) rfl (fun q_ => absurd q_ (by rw [lg_cmp_eq, l64_0, pk_lEQ (by omega) (by omega)]; omega)) (fun _ => ?_)
  refine px_lload (i := 4) (pc' := 26) dX8_commonDivisor_24 rfl rfl ?_
  refine px_lload (i := 6) (pc' := 28) dX8_commonDivisor_26 rfl rfl ?_
  refine px_lrem (pc' := 29) dX8_commonDivisor_28 rfl (by rw [l64_0, pk_lEQ (by omega) (by omega)]; omega) ?_
  refine sx_l_11_9 (pc' := 31) dX8_commonDivisor_29 rfl rfl rfl ?_
  refine px_lload (i := 6) (pc' := 33) dX8_commonDivisor_31 rfl rfl ?_
  refine sx_l_11_4 (pc' := 35) dX8_commonDivisor_33 rfl rfl rfl ?_
  refine px_lload (i := 9) (pc' := 37) dX8_commonDivisor_35 rfl rfl ?_
  refine sx_l_11_6 (pc' := 39) dX8_commonDivisor_37 rfl rfl rfl ?_
  refine sx_inc_11_8 (w := 1) (pc' := 42) dX8_commonDivisor_39 rfl rfl (by decide) rfl ?_
  refine px_goto (tgt := 9) dX8_commonDivisor_42 (by decide) ?_
  rw [pk_lRem (by omega) (by omega) (by omega), nI_1]
  refine loop 198 1 b (a % b) (by omega) hb (by omega) hb0 ?_ (by omega) (hprod _ _ hb (by omega)) _ _
  rw [Nat.gcd_comm a b, Nat.gcd_rec b a, Nat.gcd_comm]
theorem c_share_ok {w d c : Nat} {a : Int32} {S : Nat → Nat} (I : pm_I h g) (e1 : g 3 1 = .int (nI w)) (e2 : g 3 2 = .int (nI d)) (hw : w ≤ 12) (hd : d ≤ 12) (e : h 16 = pm_la 144 (m_L S)) (hS : m_sum S 144 < 2 ^ 63) (hS0 : 0 < m_sum S 144) (hc : c < w * d) (hle : S c ≤ m_sum S 144) (ha : 0 ≤ a.toInt ∧ a.toInt ≤ 1) :
    pm_Met G mX8_share [.ref 0, .int (nI c), .int a] z z h g (pm_q (.long (lN (if a.toInt = 0 then S c / Nat.gcd (S c) (m_sum S 144) else m_sum S 144 / Nat.gcd (S c) (m_sum S 144)))) h g) := by
  have hwd := m_wd hw hd
  have hci : (nI c).toInt = c := nI_toInt (by omega)
  have gp : 0 < Nat.gcd (S c) (m_sum S 144) := Nat.gcd_pos_of_pos_right _ hS0
  have gl : Nat.gcd (S c) (m_sum S 144) ≤ m_sum S 144 := Nat.gcd_le_right _ hS0
  refine enX8_share pm_le.rf ?_
  refine px_aload_n (i := 0) (pc' := 1) dX8_share_0 rfl rfl rfl ?_
  refine pi_getr (pc' := 4) fl_8_19 dX8_share_1 rfl (by repeat (first | assumption | refine pm_I.up ?_ rfl | refine pm_I.uf ?_ rfl)) rfl rfl ?_
  refine px_iload_n (i := 1) (pc' := 5) dX8_share_4 rfl rfl rfl ?_
  refine pi_callV (pc' := 8) (c_has I e1 e2 hw hd) okX3_has ivX3_has ml_X8_100 ⟨Nat.le_of_ble_eq_true rfl, Nat.le_of_ble_eq_true rfl⟩ dX8_share_5 rfl rfl rfl (Nat.le_of_ble_eq_true rfl) (by repeat (first | assumption | refine pm_I.up ?_ rfl | refine pm_I.uf ?_ rfl)) rfl cl_3 pm_le.rf pm_le.rf ?_
  rintro _ _ _ ⟨rfl, rfl, rfl⟩
  refine px_if_eq (tgt := 20) (pc' := 11) dX8_share_8 (by decide) rfl (fun q_ => absurd q_ (b_n0.mpr (by omega))) (fun _ => ?_)
  refine px_iload_n (i := 2) (pc' := 12) dX8_share_11 rfl rfl rfl ?_
  refine px_if_lt (tgt := 20) (pc' := 15) dX8_share_12 (by decide) rfl (fun q_ => absurd q_ (by rw [i_lt, i_0]; omega)) (fun _ => ?_)
  refine px_iload_n (i := 2) (pc' := 16) dX8_share_15 rfl rfl rfl ?_
  refine px_iconst (v := 1) (pc' := 17) dX8_share_16 rfl (by decide) ?_
  refine px_icmp_le (tgt := 28) (pc' := 20) dX8_share_17 (by decide) rfl (fun _ => ?_) (fun q_ => absurd (by rw [i_le, l_1]; omega) q_)
  refine px_aload_n (i := 0) (pc' := 29) dX8_share_28 rfl rfl rfl ?_
  refine pi_getr (pc' := 32) fl_8_51 dX8_share_29 rfl (by repeat (first | assumption | refine pm_I.up ?_ rfl | refine pm_I.uf ?_ rfl)) rfl rfl ?_
  refine px_iload_n (i := 1) (pc' := 33) dX8_share_32 rfl rfl rfl ?_
  refine pi_callV (pc' := 36) (c_shareOf I e (by omega)) okX1_shareOf ivX1_shareOf ml_X8_128 ⟨Nat.le_of_ble_eq_true rfl, Nat.le_of_ble_eq_true rfl⟩ dX8_share_33 rfl rfl rfl (Nat.le_of_ble_eq_true rfl) (by repeat (first | assumption | refine pm_I.up ?_ rfl | refine pm_I.uf ?_ rfl)) rfl cl_1 pm_le.rf pm_le.rf ?_
  rintro _ _ _ ⟨rfl, rfl, rfl⟩
  refine sx_l_n_9_3 (pc' := 37) dX8_share_36 rfl rfl rfl rfl ?_
  refine px_aload_n (i := 0) (pc' := 38) dX8_share_37 rfl rfl rfl ?_
  refine pi_getr (pc' := 41) fl_8_51 dX8_share_38 rfl (by repeat (first | assumption | refine pm_I.up ?_ rfl | refine pm_I.uf ?_ rfl)) rfl rfl ?_
  rw [show m_L S c = lN (S c) from rfl]
  refine pi_callV (pc' := 44) (c_total I e) okX1_total ivX1_total ml_X8_132 ⟨Nat.le_of_ble_eq_true rfl, Nat.le_of_ble_eq_true rfl⟩ dX8_share_41 rfl rfl rfl (Nat.le_of_ble_eq_true rfl) (by repeat (first | assumption | refine pm_I.up ?_ rfl | refine pm_I.uf ?_ rfl)) rfl cl_1 pm_le.rf pm_le.rf ?_
  rintro _ _ _ ⟨rfl, rfl, rfl⟩
  refine sx_l_9_5 (pc' := 46) dX8_share_44 rfl rfl rfl ?_
  refine px_lload_n (i := 3) (pc' := 47) dX8_share_46 rfl rfl rfl ?_
  refine px_lload (i := 5) (pc' := 49) dX8_share_47 rfl rfl ?_
  refine px_callS (pc' := 52) (c_commonDivisor (by omega) hS hS0) okX8_commonDivisor stX8_commonDivisor ml_X8_136 ⟨Nat.le_of_ble_eq_true rfl, Nat.le_of_ble_eq_true rfl⟩ dX8_share_49 rfl rfl rfl (Nat.le_of_ble_eq_true rfl) pm_le.rf pm_le.rf ?_
  rintro _ _ _ ⟨rfl, rfl, rfl⟩
  refine sx_l_9_7 (pc' := 54) dX8_share_52 rfl rfl rfl ?_
  refine px_iload_n (i := 2) (pc' := 55) dX8_share_54 rfl rfl rfl ?_
  refine px_if_ne (tgt := 65) (pc' := 58) dX8_share_55 (by decide) rfl (fun q => ?_) (fun q => ?_)
  · rw [i_eq, i_0] at q
    refine px_lload (i := 5) (pc' := 67) dX8_share_65 rfl rfl ?_
    refine px_lload (i := 7) (pc' := 69) dX8_share_67 rfl rfl ?_
    refine px_ldiv (pc' := 70) dX8_share_69 rfl (by rw [l64_0, pk_lEQ (by omega) (by omega)]; omega) ?_
    rw [pk_lDiv (by omega) (by omega) (by omega)]
    exact px_lret dX8_share_70 rfl rfl (⟨by rw [if_neg q], rfl, rfl⟩)
  · rw [i_eq, i_0] at q
    refine px_lload_n (i := 3) (pc' := 59) dX8_share_58 rfl rfl rfl ?_
    refine px_lload (i := 7) (pc' := 61) dX8_share_59 rfl rfl ?_
    refine px_ldiv (pc' := 62) dX8_share_61 rfl (by rw [l64_0, pk_lEQ (by omega) (by omega)]; omega) ?_
    refine px_goto (tgt := 70) dX8_share_62 (by decide) ?_
    rw [pk_lDiv (by omega) (by omega) (by omega)]
    exact px_lret dX8_share_70 rfl rfl (⟨by rw [if_pos q], rfl, rfl⟩)
end GCD
section THROW
variable {G : pm_G} {M : pm_M} {zm : pm_z} {Φ : pm_F} {pc pc' : Nat} {ls st : List Value} {z : pm_z} {h : pm_h} {g : pm_g}
abbrev nse : String := "java/util/NoSuchElementException"
/-- what a throw leaves: the heap as it was, and some cells more -/
def pm_XC (G : pm_G) (n : Nat) (h : pm_h) (g : pm_g) : String → State → State → Prop := fun E _ t => E = nse ∧ ∃ n', n ≤ n' ∧ pm_R G n' h g t.heap
def pm_ΦV (G : pm_G) (n : Nat) (h : pm_h) (g : pm_g) : pm_F := fun below args s mc ms => vx_MQ below (fun _ _ _ _ => False) (pm_XC G n h g) args s mc ms (fun q => pm_b G ≤ q)
theorem pm_R.grow {n : Nat} {H H1 : Heap} (hR : pm_R G n h g H) (hz : H.size ≤ H1.size) (ho : ∀ q : Nat, q < H.size → H1[q]? = H[q]?) : ∃ n', n ≤ n' ∧ pm_R G n' h g H1 := by
  refine ⟨H1.size - pm_b G, by have := hR.1; omega, by have := hR.1; omega, fun a => ?_, fun q hq => (ho q (by have := hR.1; omega)).trans (hR.2.2 q hq)⟩
  exact (hR.2.1 a).push hR.1 (fun q hq => ho q (by rw [hR.1]; exact hq))
theorem wd_nse_c : Jvm.Cond.classLink RX8 125 nse ∈ pm_T := pm_inT 663 (by decide +kernel) (by decide +kernel)
theorem wd_nse_i : Jvm.Cond.initialized nse ∈ pm_T := by
  refine List.mem_filter.mpr ⟨?_, by decide +kernel⟩
  decide +kernel
theorem wd_nse_a : ∀ w ∈ (vx_at0 RX8 127 nse ["java/lang/RuntimeException", "java/lang/Exception"]).filter goodWord, w ∈ pm_T := by
  intro w hw
  refine List.mem_filter.mpr ⟨?_, (List.mem_filter.mp hw).2⟩
  have h1 : ∀ w ∈ (vx_at0 RX8 127 nse ["java/lang/RuntimeException", "java/lang/Exception"]).filter goodWord, w ∈ lw_tbl := by decide +kernel
  exact h1 w hw
theorem wd_nse_b : ∀ w ∈ (vx_at0 RX8 127 nse ["java/lang/RuntimeException", "java/lang/Exception"]).filter (fun w => !goodWord w), w ∈ [Jvm.Cond.castable nse nse, .declares (Bundle.init0 "java/lang/RuntimeException"), .declares (Bundle.init0 "java/lang/Exception"), .declares (Bundle.init0 Bundle.tN)] := by decide +kernel
theorem px_throw (hz1 : z.1 + 1 ≤ zm.1) (hz2 : z.2.1 + 6 ≤ zm.2.1) : pm_W G mX8_share zm (pm_ΦV G z.2.2 h g) 20 ls [] z h g := by
  intro p e R s m args below meth c H locs z0 lc X hR hL hlo a1 a2 a3 a4 a5 a6
  obtain ⟨hx, hb, hml, hrt, hlk0, hnm, hown, hK, hfr, hlr, htb⟩ := id X
  have hts : ∀ w ∈ pm_T, w.before args s = true := fun w hw => hK.2.2.1 w hw args
  obtain ⟨-, -, -, -, -, -, k7, k8, k9, k10, k11⟩ := hK
  have hout : ∀ x ∈ c.exceptionTable.toList, covers x (20 + 7) = false := fun x hx => by
    rw [htb.1 [] rfl] at hx
    cases hx
  intro T hT Xs
  have fr := vx_frame (s := s) (U := T.setVm s.vm) Xs.same
  have fr1 : s.heap.size ≤ H.size := by rw [← hT]; exact fr.1
  have fr2 : ∀ q : Nat, q < s.heap.size → ¬ pm_b G ≤ q → H[q]? = s.heap[q]? := fun q h1 h2 => by
    rw [← hT]
    exact fr.2 q h1 (fun x hx hq => h2 (by rw [← hq]; exact hL x hx))
  have low : ∀ q : Nat, q < (pm_H0 G).size → ¬ pm_b G ≤ q → s.heap[q]? = (pm_H0 G)[q]? := fun q _ h2 => by
    have hb2 := htb.2
    rw [← fr2 q (by omega) h2]
    exact hR.2.2 q (by omega)
  refine vx_throw0 (own := RX8) (cls := nse) (names := ["java/lang/RuntimeException", "java/lang/Exception"]) (ik := 125) (ic := 127) (A := fun q => pm_b G ≤ q) (rest := []) hx hb k7 hown (by decide +kernel) (by decide +kernel) (hts _ wd_nse_c) (hts _ wd_nse_i)
    (vx_hat (fun w hw => hts w (wd_nse_a w hw)) wd_nse_b (vx_c (va_Nw.use rfl k10) (vx_c (va_Nw.use rfl (k11 _ (by simp [pm_Dc]))) (vx_c (va_Nw.use rfl (k11 _ (by simp [pm_Dc]))) (vx_c (va_Nw.use rfl (k11 _ (by simp [pm_Dc]))) vx_n))))) ?_ (k8.kept low) (k9.kept low) ⟨fr1, fr2, hL⟩ (by rw [hlo.1, hml]) dX8_share_20 dX8_share_23 dX8_share_24 dX8_share_27 hout (by rw [hfr]; decide) ?_ (by omega) (by omega) hlk0 ?_ hL (by omega) (by omega) T hT Xs
  · decide +kernel
  · rw [hlr]; decide
  · intro t _ h1 h2
    exact ⟨rfl, hR.grow h1 h2⟩
/-- the call that throws: what its contract says -/
def pm_VMet (G : pm_G) (As : List Value) (z : pm_z) (h : pm_h) (g : pm_g) : Prop :=
  vx_Met (pm_l G) yX8_share [.code (pm_y mX8_share) (pm_cc mX8_share) (pm_ml mX8_share) (pm_rt mX8_share)] ({ frames := pm_fr mX8_share, cells := 1, slots := 6, locals := pm_lr mX8_share } : Room) (fun a U => a = (As.map (pm_tr G)).toArray ∧ pm_R G z.2.2 h g U.heap ∧ pm_K G U)
    (fun _ _ _ _ => False) (fun E _ t => E = nse ∧ ∃ n', z.2.2 ≤ n' ∧ pm_R G n' h g t.heap) 1 6 (fun q => pm_b G ≤ q)
theorem c_share_x {w d : Nat} {c a : Int32} (I : pm_I h g) (e1 : g 3 1 = .int (nI w)) (e2 : g 3 2 = .int (nI d)) (hw : w ≤ 12) (hd : d ≤ 12) (bad : ¬ (0 ≤ c.toInt ∧ c.toInt < (w * d : Nat) ∧ 0 ≤ a.toInt ∧ a.toInt ≤ 1)) : pm_VMet G [.ref 0, .int c, .int a] z h g := by
  have key : ∀ zm : pm_z, z.1 + 1 ≤ zm.1 → z.2.1 + 6 ≤ zm.2.1 → pm_W G mX8_share zm (pm_ΦV G z.2.2 h g) 0 [.ref 0, .int c, .int a, pm_u, pm_u, pm_u, pm_u, pm_u, pm_u] [] z h g := by
    intro zm hz1 hz2
    refine px_aload_n (i := 0) (pc' := 1) dX8_share_0 rfl rfl rfl ?_
    refine pi_getr (pc' := 4) fl_8_19 dX8_share_1 rfl (by repeat (first | assumption | refine pm_I.up ?_ rfl | refine pm_I.uf ?_ rfl)) rfl rfl ?_
    refine px_iload_n (i := 1) (pc' := 5) dX8_share_4 rfl rfl rfl ?_
    refine pi_callV (pc' := 8) (c_has I e1 e2 hw hd) okX3_has ivX3_has ml_X8_100 ⟨Nat.le_of_ble_eq_true rfl, Nat.le_of_ble_eq_true rfl⟩ dX8_share_5 rfl rfl rfl (Nat.le_of_ble_eq_true rfl) (by repeat (first | assumption | refine pm_I.up ?_ rfl | refine pm_I.uf ?_ rfl)) rfl cl_3 pm_le.rf ⟨by omega, by omega⟩ ?_
    rintro _ _ _ ⟨rfl, rfl, rfl⟩
    refine px_if_eq (tgt := 20) (pc' := 11) dX8_share_8 (by decide) rfl (fun q => ?_) (fun q => ?_)
    · exact px_throw hz1 hz2
    have q := b_n0.mp q
    refine px_iload_n (i := 2) (pc' := 12) dX8_share_11 rfl rfl rfl ?_
    refine px_if_lt (tgt := 20) (pc' := 15) dX8_share_12 (by decide) rfl (fun q2 => ?_) (fun q2 => ?_)
    · exact px_throw hz1 hz2
    rw [i_lt, i_0] at q2
    refine px_iload_n (i := 2) (pc' := 16) dX8_share_15 rfl rfl rfl ?_
    refine px_iconst (v := 1) (pc' := 17) dX8_share_16 rfl (by decide) ?_
    refine px_icmp_le (tgt := 28) (pc' := 20) dX8_share_17 (by decide) rfl (fun q3 => ?_) (fun q3 => ?_)
    · rw [i_le, l_1] at q3
      exact absurd ⟨q.1, q.2, by omega, by omega⟩ bad
    · exact px_throw hz1 hz2
  refine vx_ofW (cc := pm_cc mX8_share) (maxL := pm_ml mX8_share) (ret := pm_rt mX8_share) pl_8 rfl ?_
  intro p e s m args below meth c' s₁ B hml hexc hP
  obtain ⟨rfl, hR, hK⟩ := hP
  have hown : s.vm.findClass (pm_y mX8_share).cls = some m.cls := findClass_of_methodNamed B.named
  have hl := lv_entry (([.ref 0, .int c, .int a] : List Value).map (pm_tr G)) (n := 9) (Nat.le_of_ble_eq_true rfl)
  rw [lg_entry_eq]
  generalize (lg_sl (([.ref 0, .int c, .int a] : List Value).map (pm_tr G)) ++ List.replicate (9 - (lg_sl (([.ref 0, .int c, .int a] : List Value).map (pm_tr G))).length) Slot.unset).toArray = lc at hl ⊢
  have hlo : pm_lo G lc 9 [.ref 0, .int c, .int a, pm_u, pm_u, pm_u, pm_u, pm_u, pm_u] := by
    refine pm_lo.of hl fun i v h1 h2 => ?_
    have := pm_en_args G 6 [.ref 0, .int c, .int a] 0 i v h1 h2
    rwa [Nat.zero_add] at this
  have X : pm_X G mX8_share p (headSpec [Cond.code (pm_y mX8_share) (pm_cc mX8_share) (pm_ml mX8_share) (pm_rt mX8_share)] ({ frames := pm_fr mX8_share, cells := 1, slots := 6, locals := pm_lr mX8_share } : Room)).room s m meth c' :=
    ⟨B.exec, B.bytes, hml, B.returns, B.notSynchronized, (name_of_methodNamed B.named B.method).1, hown, hK, rfl, rfl, fun hh hhe => by
      cases hhe
      cases hl9 : c'.exceptionTable.toList with
      | nil => rfl
      | cons x r => exact (hexc x (by rw [hl9]; exact List.mem_cons_self)).elim, by rw [hR.1]; exact Nat.le_add_right _ _⟩
  have w := key (z.1 + 1, z.2.1 + 6, 0) (Nat.le_refl _) (Nat.le_refl _) p e _ s m ((([.ref 0, .int c, .int a] : List Value).map (pm_tr G)).toArray) below meth c' s.heap [] z lc X hR (fun q hq => by cases hq) hlo (Nat.le_refl _) (Nat.le_refl _) (Nat.le_succ _) (Nat.le_add_right _ _) (by show 1 = z.1 + 1 - z.1; omega) (by show 6 = z.2.1 + 6 - z.2.1; omega)
  rw [Nat.sub_self, Nat.sub_self, show (z.1 + 1, z.2.1 + 6, 0).1 - z.1 = 1 from by show z.1 + 1 - z.1 = 1; omega, show (z.1 + 1, z.2.1 + 6, 0).2.1 - z.2.1 = 6 from by show z.2.1 + 6 - z.2.1 = 6; omega] at w
  exact w
theorem wd_nse_l : Jvm.Cond.classLink RL 13 nse ∈ pm_T := pm_inT 658 (by decide +kernel) (by decide +kernel)
theorem wd_Ls : Jvm.Cond.codeWith yL_share cL_share 5 (some .int) [(0, 9, 12, 13)] ∈ pm_T := pm_inT 657 (by decide +kernel) (by decide +kernel)
theorem wd_Ls_s : Jvm.Cond.static yL_share ∈ pm_T := by
  refine List.mem_filter.mpr ⟨?_, by decide +kernel⟩
  decide +kernel
theorem pm_lo.st1u {lc : Array Slot} {n i : Nat} {l l' : List Value} {w0 : Value} (h : lv_has lc n ((i, w0) :: (pm_as G l).filter (fun q => !(q.1 == i) && !(q.1 + 1 == i && q.2.category == 2)))) (hl : l' = l.set i pm_u) (hc : ∀ w, l[i - 1]? = some w → w.category = 1 ∨ i = 0) : pm_lo G lc n l' := by
  subst hl
  refine pm_lo.of h fun j w h1 h2 => ?_
  by_cases hj : i = j
  · subst hj
    by_cases hi : i < l.length
    · rw [List.getElem?_set_self hi] at h1
      cases h1
      cases h2
    · rw [List.getElem?_eq_none (by rw [List.length_set]; omega)] at h1
      cases h1
  · rw [List.getElem?_set_ne hj] at h1
    refine List.mem_cons_of_mem _ (List.mem_filter.mpr ⟨pm_as_mem.mpr ⟨w, h1, h2, rfl⟩, ?_⟩)
    simp only [Bool.and_eq_true, Bool.not_eq_true', beq_eq_false_iff_ne, ne_eq, Bool.and_eq_false_iff]
    refine ⟨fun q => hj q.symm, ?_⟩
    by_cases hk : j + 1 = i
    · right
      rw [pm_tr_cat]
      have hh : l[i - 1]? = some w := by rw [← hk]; exact h1
      rcases hc w hh with z | z
      · rw [z]; decide
      · omega
    · exact Or.inl hk
/-- the law's share: the call that throws, and its handler as far as the store -/
theorem px_caught {c a : Int32} {v0 : Value} (hz1 : z.1 + 1 ≤ zm.1) (hz2 : z.2.1 + 6 ≤ zm.2.1) (I : pm_I h g) (hM : pm_VMet G [.ref 0, .int c, .int a] z h g)
    (k : ∀ n', z.2.2 ≤ n' → pm_W G mL_share zm Φ 14 [.ref 0, .int c, .int a, .ref 53, pm_u] [] (z.1 + 1, z.2.1 + 6, n') h g) :
    pm_W G mL_share zm Φ 5 [.ref 0, .int c, .int a, .ref 53, pm_u] [.int a, .int c, .ref 0, .int 0, .ref 53] z h g := by
  intro p e R s m args below meth c' H locs z0 lc X hR hL hlo a1 a2 a3 a4 a5 a6
  obtain ⟨hx, hb, hml, hrt, hlk0, hnm, hown, hK, hfr, hlr, htb⟩ := id X
  have hts : ∀ w ∈ pm_T, w.before args s = true := fun w hw => hK.2.2.1 w hw args
  have run := vx_runV (p := p) (l := pm_l G) (e := e) (R := R) (s := s) (m := m) (args := args) (below := below) (meth := meth) (c := c') (H := H) (locs := locs) (cells := z.1 - z0.1) (slots := z.2.1 - z0.2.1) (Ts := pm_T) (own := RL) (C := RX8) (As := [.int c, .int a]) (b := pm_b G + 0) (n := 2) (rest := [.int 0, .ref (pm_b G + 53)]) (g := F0 m 5 lc [.int a, .int c, .ref (pm_b G + 0), .int 0, .ref (pm_b G + 53)])
    ⟨hx, hb, hml, hown, hts⟩ hM ⟨⟨rfl, rfl, by rw [hfr]; decide, by rw [hlr]; decide, fun w hw a' U hW => by
      rw [List.mem_singleton.mp hw]
      exact (hK.moved hW).2.2.1 _ okX8_share.1 a', List.mem_cons_self, hts _ okX8_share.1, hts _ okX8_share.2.1, ⟨okX8_share.2.2.1, okX8_share.2.2.2.1⟩, fun sig hg => by
        have o5 := okX8_share.2.2.2.2
        rw [hg] at o5
        exact (Option.some.inj o5).symm, hts _ ml_L_7⟩, hts _ ivX8_share.1, hts _ ivX8_share.2⟩
    ⟨fun a U gg mk q => ⟨q.1, q.2.1, pm_K.same (s := U) (U := U.calling gg mk a) rfl q.2.2⟩, ?_, fun U hU hW => ⟨rfl, by rw [hU]; exact hR, hK.moved hW⟩⟩ rfl rfl hlo.1 rfl (Nat.le_of_ble_eq_true rfl) dL_share_5 ⟨by rw [a5]; omega, by rw [a6]; omega⟩
  · intro T hT Xs
    rcases run T hT Xs with ⟨v, st0, t, T', L, h0, X2, hL2, e1, e2, hQ, stp⟩ | ⟨q, st0, t, T', L, E, ce, h0, X2, hL2, e1, e2, ⟨rfl, n', hn, hR'⟩, hce, hcv, hcl, stp⟩
    · exact hQ.elim
    have w := vx_catch (p := p) (l := pm_l G) (e := e) (R := R) (s := s) (m := m) (args := args) (below := below) (meth := meth) (c := c') (H := T'.heap) (locs := locs ++ L) (cells := z.1 - z0.1 + 1) (slots := z.2.1 - z0.2.1 + 6) (Q := Φ below args s (zm.1 - z0.1) (zm.2.1 - z0.2.1)) (pc := 5) (ls := lc) (rest := [.int 0, .ref (pm_b G + 53)]) (own := RL) (name := nse) (E := nse) (ce := ce) (q := q) hown [] ⟨0, 9, 12, 13⟩ [] (htb.1 _ rfl) (fun z hz => by cases hz) rfl (by decide) (hts _ wd_nse_l) (va_Nw.use rfl hK.2.2.2.2.2.2.2.2.2.1) (by rw [e1]; exact hce) hcv hcl ?_
    · obtain ⟨t2, b1, b2⟩ := w T' rfl X2
      exact ⟨t2, stp.trans b1, b2⟩
    refine lv_astore hx hb dL_share_12 hlo.has (by decide) rfl (fun lc' hl' => ?_)
    have w2 := k n' hn p e R s m args below meth c' T'.heap (locs ++ L) z0 lc' X (by rw [e1]; exact hR') (fun x hx => by
      rcases List.mem_append.mp hx with hx | hx
      · exact hL x hx
      · exact hL2 x hx) (pm_lo.st1u hl' rfl (fun w hw => by cases hw; exact Or.inl rfl)) (by show z0.1 ≤ z.1 + 1; omega) (by show z0.2.1 ≤ z.2.1 + 6; omega) hz1 hz2 a5 a6
    rw [show z.1 - z0.1 + 1 = z.1 + 1 - z0.1 by omega, show z.2.1 - z0.2.1 + 6 = z.2.1 + 6 - z0.2.1 by omega]
    exact w2
  · have hat := hR.2.1 0
    rw [I.1 0 8 rfl] at hat
    obtain ⟨r, h1, cell, q1, q2, q3, q4⟩ := hat
    cases h1
    exact ⟨cell, q1, by rw [q3]; rfl, by rw [q2]; exact (hK.1 8 _ rfl).2.1⟩
/-- the law's share, as it is called -/
def pm_ΦN (G : pm_G) (Q : Option Value → Nat → pm_h → pm_g → Prop) : pm_F := fun below args s mc ms =>
  MQ below (fun _ _ o t => ∃ (r : Option Value) (n' : Nat) (h' : pm_h) (g' : pm_g), Q r n' h' g' ∧ o = .returned (r.map (pm_tr G)) ∧ pm_R G n' h' g' t.heap) args s mc ms (fun q => pm_b G ≤ q)
abbrev wsLs : List Jvm.Cond := [.codeWith yL_share cL_share 5 (some .int) [(0, 9, 12, 13)]]
abbrev rmLs (z zm : pm_z) : Room := { frames := 8, cells := zm.1 - z.1, slots := zm.2.1 - z.2.1, locals := 200 }
def pm_MetN (G : pm_G) (As : List Value) (z zm : pm_z) (h : pm_h) (g : pm_g) (Q : Option Value → Nat → pm_h → pm_g → Prop) : Prop :=
  Met (pm_l G) yL_share wsLs (rmLs z zm) (fun a U => a = (As.map (pm_tr G)).toArray ∧ pm_R G z.2.2 h g U.heap ∧ pm_K G U)
    (fun _ _ o t => ∃ (r : Option Value) (n' : Nat) (h' : pm_h) (g' : pm_g), Q r n' h' g' ∧ o = .returned (r.map (pm_tr G)) ∧ pm_R G n' h' g' t.heap) (zm.1 - z.1) (zm.2.1 - z.2.1) (fun q => pm_b G ≤ q)
theorem px_iretN {x : Int32} {Q : Option Value → Nat → pm_h → pm_g → Prop} (hd : decode (pm_cc M) pc = .ok (.ireturn, 1)) (hr : pm_rt M = some .int) (hz1 : z.1 = zm.1) (hz2 : z.2.1 = zm.2.1) (hQ : Q (some (.int x)) z.2.2 h g) : pm_W G M zm (pm_ΦN G Q) pc ls [.int x] z h g := by
  intro p e R s m args below meth c H locs z0 lc X hR hL hlo a1 a2 a3 a4 a5 a6
  rw [hz1, hz2]
  exact W.zret X.1 X.2.1 (X.2.2.2.1.trans hr) rfl (fun t ht hW => ⟨_, z.2.2, h, g, hQ, rfl, by rw [ht]; exact hR⟩) hL hd X.2.2.2.2.1
theorem L_met {c a : Int32} {Q : Option Value → Nat → pm_h → pm_g → Prop} (hz : pm_le z zm) (k : pm_W G mL_share zm (pm_ΦN G Q) 0 [.ref 0, .int c, .int a, .ref 53, pm_u] [] z h g) : pm_MetN G [.ref 0, .int c, .int a, .ref 53] z zm h g Q := by
  refine va_MetW (cc := cL_share) (maxL := 5) (ret := some .int) (hh := [(0, 9, 12, 13)]) pl_L rfl ?_
  intro p e s m args below meth c' s₁ B hml hP
  obtain ⟨rfl, hR, hK⟩ := hP
  have hown : s.vm.findClass (pm_y mL_share).cls = some m.cls := findClass_of_methodNamed B.named
  have hl := lv_entry (([.ref 0, .int c, .int a, .ref 53] : List Value).map (pm_tr G)) (n := 5) (Nat.le_of_ble_eq_true rfl)
  rw [lg_entry_eq]
  generalize (lg_sl (([.ref 0, .int c, .int a, .ref 53] : List Value).map (pm_tr G)) ++ List.replicate (5 - (lg_sl (([.ref 0, .int c, .int a, .ref 53] : List Value).map (pm_tr G))).length) Slot.unset).toArray = lc at hl ⊢
  have hlo : pm_lo G lc 5 [.ref 0, .int c, .int a, .ref 53, pm_u] := by
    refine pm_lo.of hl fun i v h1 h2 => ?_
    have := pm_en_args G 1 [.ref 0, .int c, .int a, .ref 53] 0 i v h1 h2
    rwa [Nat.zero_add] at this
  have X : pm_X G mL_share p (headSpec wsLs (rmLs z zm)).room s m meth c' :=
    ⟨B.exec, B.bytes, hml, B.returns, B.notSynchronized, (name_of_methodNamed B.named B.method).1, hown, hK, rfl, rfl, fun hh hhe => by
      cases hhe
      exact vx_table (x := yL_share) B (atoms_spec (ws := wsLs) B.pre _ List.mem_cons_self), by rw [hR.1]; exact Nat.le_add_right _ _⟩
  have w := k p e _ s m ((([.ref 0, .int c, .int a, .ref 53] : List Value).map (pm_tr G)).toArray) below meth c' s.heap [] z lc X hR (fun q hq => by cases hq) hlo (Nat.le_refl _) (Nat.le_refl _) hz.1 hz.2 rfl rfl
  rw [Nat.sub_self, Nat.sub_self] at w
  exact w
theorem L_share_x {w d : Nat} {c a : Int32} (I : pm_I h g) (e1 : g 3 1 = .int (nI w)) (e2 : g 3 2 = .int (nI d)) (hw : w ≤ 12) (hd : d ≤ 12) (bad : ¬ (0 ≤ c.toInt ∧ c.toInt < (w * d : Nat) ∧ 0 ≤ a.toInt ∧ a.toInt ≤ 1)) :
    pm_MetN G [.ref 0, .int c, .int a, .ref 53] z (z.1 + 1, z.2.1 + 6, 0) h g (fun r n' h' g' => r = some (.int 1) ∧ z.2.2 ≤ n' ∧ h = h' ∧ g = g') := by
  refine L_met ⟨Nat.le_succ _, Nat.le_add_right _ _⟩ ?_
  refine px_aload_n (i := 3) (pc' := 1) dL_share_0 rfl rfl rfl ?_
  refine px_iconst (v := 0) (pc' := 2) dL_share_1 rfl (by decide) ?_
  refine px_aload_n (i := 0) (pc' := 3) dL_share_2 rfl rfl rfl ?_
  refine px_iload_n (i := 1) (pc' := 4) dL_share_3 rfl rfl rfl ?_
  refine px_iload_n (i := 2) (pc' := 5) dL_share_4 rfl rfl rfl ?_
  refine px_caught (v0 := .null) (Nat.le_refl _) (Nat.le_refl _) I (c_share_x I e1 e2 hw hd bad) (fun n' hn => ?_)
  refine px_iconst (v := 1) (pc' := 15) dL_share_14 rfl (by decide) ?_
  exact px_iretN dL_share_15 rfl rfl rfl ⟨rfl, hn, rfl, rfl⟩
theorem L_share_ok {w d c : Nat} {a : Int32} {S : Nat → Nat} {fo : Nat → Int64} (I : pm_I h g) (e1 : g 3 1 = .int (nI w)) (e2 : g 3 2 = .int (nI d)) (hw : w ≤ 12) (hd : d ≤ 12) (e : h 16 = pm_la 144 (m_L S)) (hS : m_sum S 144 < 2 ^ 63) (hS0 : 0 < m_sum S 144) (hc : c < w * d) (hle : S c ≤ m_sum S 144) (ha : 0 ≤ a.toInt ∧ a.toInt ≤ 1) (eo : h 53 = pm_la 1 fo) :
    pm_MetN G [.ref 0, .int (nI c), .int a, .ref 53] z z h g (fun r n' h' g' => r = some (.int 0) ∧ n' = z.2.2 ∧ h' = pm_up h 53 (pm_la 1 (vp_updL fo 0 (lN (if a.toInt = 0 then S c / Nat.gcd (S c) (m_sum S 144) else m_sum S 144 / Nat.gcd (S c) (m_sum S 144))))) ∧ g' = g) := by
  refine L_met pm_le.rf ?_
  refine px_aload_n (i := 3) (pc' := 1) dL_share_0 rfl rfl rfl ?_
  refine px_iconst (v := 0) (pc' := 2) dL_share_1 rfl (by decide) ?_
  refine px_aload_n (i := 0) (pc' := 3) dL_share_2 rfl rfl rfl ?_
  refine px_iload_n (i := 1) (pc' := 4) dL_share_3 rfl rfl rfl ?_
  refine px_iload_n (i := 2) (pc' := 5) dL_share_4 rfl rfl rfl ?_
  refine pi_callV (pc' := 8) (c_share_ok I e1 e2 hw hd e hS hS0 hc hle ha) okX8_share ivX8_share ml_L_7 ⟨Nat.le_of_ble_eq_true rfl, Nat.le_of_ble_eq_true rfl⟩ dL_share_5 rfl rfl rfl (Nat.le_of_ble_eq_true rfl) (by repeat (first | assumption | refine pm_I.up ?_ rfl | refine pm_I.uf ?_ rfl)) rfl cl_8 pm_le.rf pm_le.rf ?_
  rintro _ _ _ ⟨rfl, rfl, rfl⟩
  refine px_last (pc' := 9) dL_share_8 rfl (by first | assumption | (repeat (first | exact pm_up_e rfl | refine pm_up_o (by decide) ?_)) <;> assumption) (i_in (by decide) (by decide)) ?_
  refine px_goto (tgt := 16) dL_share_9 (by decide) ?_
  refine px_iconst (v := 0) (pc' := 17) dL_share_16 rfl (by decide) ?_
  exact px_iretN dL_share_17 rfl rfl rfl ⟨rfl, rfl, rfl, rfl⟩
/-- the law's call of it -/
theorem px_callL {As : List Value} {zm' : pm_z} {Q' : Option Value → Nat → pm_h → pm_g → Prop} {c a : Int32} (hAs : As = [.ref 0, .int c, .int a, .ref 53]) (hM : pm_MetN G As z zm' h g Q') (hzz : pm_le z zm') (hzm : pm_le zm' zm) {index : Nat} (hidx : index = 53) (hd : decode (pm_cc mL_law) pc = .ok (.invokestatic index, 3)) (hp : pc + 3 = pc') (hs : (st.map fun v => v.category).sum ≤ 8)
    (kk : ∀ r n' h' g', Q' r n' h' g' → pm_W G mL_law zm Φ pc' ls (pm_pu r st) (zm'.1, zm'.2.1, n') h' g') : pm_W G mL_law zm Φ pc ls (.ref 53 :: .int a :: .int c :: .ref 0 :: st) z h g := by
  subst hp
  subst hAs
  subst hidx
  intro p e R s m args below meth c' H locs z0 lc X hR hL hlo a1 a2 a3 a4 a5 a6
  obtain ⟨hx, hb, hml, hrt, hlk0, hnm, hown, hK, hfr, hlr, htb⟩ := id X
  have hts : ∀ w ∈ pm_T, w.before args s = true := fun w hw => hK.2.2.1 w hw args
  have run := vx_runSW (p := p) (l := pm_l G) (e := e) (R := R) (s := s) (m := m) (args := args) (below := below) (meth := meth) (c := c') (H := H) (locs := locs) (cells := z.1 - z0.1) (slots := z.2.1 - z0.2.1) (Ts := pm_T) (own := RL) (index := 53) (hh := [(0, 9, 12, 13)]) (bytes := cL_share) (maxL := 5) (ret := some .int) (As := ([.ref 0, .int c, .int a, .ref 53] : List Value).map (pm_tr G)) (n := 4) (rest := st.map (pm_tr G)) (g := F0 m pc lc ((.ref 53 :: .int a :: .int c :: .ref 0 :: st).map (pm_tr G)))
    ⟨hx, hb, hml, hown, hts⟩ hM ⟨⟨rfl, rfl, by rw [hfr]; exact Nat.le_of_ble_eq_true rfl, by rw [hlr]; exact Nat.le_of_ble_eq_true rfl, fun w hw a' U hW => by
      rw [List.mem_singleton.mp hw]
      exact (hK.moved hW).2.2.1 _ wd_Ls a', List.mem_cons_self⟩, hts _ wd_Ls, hts _ wd_ini_L, ⟨by decide, by decide⟩, fun sig hg => by
        have o5 : (parseMethodDescriptor yL_share.desc).map (fun d => d.parameters.length) = some 4 := by decide +kernel
        rw [hg] at o5
        exact (Option.some.inj o5).symm, hts _ ml_L_53, hts _ wd_Ls_s⟩
    ⟨fun a U gg mk q => ⟨q.1, q.2.1, pm_K.same (s := U) (U := U.calling gg mk a) rfl q.2.2⟩, fun U hU hW => ⟨rfl, by rw [hU]; exact hR, hK.moved hW⟩⟩ rfl rfl hlo.1 rfl (lv_room (by rw [pm_tr_cats]; exact hs)) hd ⟨by rw [a5]; have := hzz.1; have := hzm.1; omega, by rw [a6]; have := hzz.2; have := hzm.2; omega⟩
  intro T hT Xs
  obtain ⟨v, st₀, t, T', L, h0, X2, hL2, e1, e2, ⟨r, n', h', g', hQ, hv, hR'⟩, stp⟩ := run T hT Xs
  cases hv
  obtain ⟨z1, z2⟩ := hzz
  have w := kk r n' h' g' hQ p e R s m args below meth c' T'.heap (locs ++ L) z0 lc X (by rw [e1]; exact hR') (fun q hq => by
    rcases List.mem_append.mp hq with hq | hq
    · exact hL q hq
    · exact hL2 q hq) hlo (by show z0.1 ≤ zm'.1; omega) (by show z0.2.1 ≤ zm'.2.1; omega) hzm.1 hzm.2 a5 a6
  rw [show z.1 - z0.1 + (zm'.1 - z.1) = zm'.1 - z0.1 by omega, show z.2.1 - z0.2.1 + (zm'.2.1 - z.2.1) = zm'.2.1 - z0.2.1 by omega] at X2
  obtain ⟨t2, b1, b2⟩ := w T' rfl X2
  refine ⟨t2, stp t2 ?_, b2⟩
  cases r <;> exact b1
end THROW
