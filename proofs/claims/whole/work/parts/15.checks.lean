/-! map bytes; Checks: object 11, streaks 12, firsts 13, seconds 14 -/
section CHK
variable {G : pm_G} {z : pm_z} {h : pm_h} {g : pm_g}
theorem l_1 : (1 : Int32).toInt = 1 := by decide
theorem l_2 : (2 : Int32).toInt = 2 := by decide
theorem l_3 : (3 : Int32).toInt = 3 := by decide
theorem l_5 : (5 : Int32).toInt = 5 := by decide
theorem l_m5 : (-5 : Int32).toInt = -5 := by decide
theorem l_m1 : (-1 : Int32).toInt = -1 := by decide
theorem l_12 : (12 : Int32).toInt = 12 := by decide
theorem l_250 : (250 : Int32).toInt = 250 := by decide
theorem l_255 : (255 : Int32).toInt = 255 := by decide
theorem l_144 : (144 : Int32).toInt = 144 := by decide
theorem c_isReading {v : Int32} : pm_Met G mX8_isReading [.int v] z z h g (pm_q (.int (if 0 ≤ v.toInt ∧ v.toInt ≤ 250 then 1 else 0)) h g) := by
  refine enX8_isReading pm_le.rf ?_
  refine px_iload_n (i := 0) (pc' := 1) dX8_isReading_0 rfl rfl rfl ?_
  refine px_if_lt (tgt := 15) (pc' := 4) dX8_isReading_1 (by decide) rfl (fun q => ?_) (fun q => ?_)
  · rw [i_lt, i_0] at q
    refine px_iconst (v := 0) (pc' := 16) dX8_isReading_15 rfl (by decide) ?_
    exact px_zret (ty := .boolean) dX8_isReading_16 rfl (rfl) rfl (⟨by rw [if_neg (by omega)], rfl, rfl⟩)
  rw [i_lt, i_0] at q
  refine px_iload_n (i := 0) (pc' := 5) dX8_isReading_4 rfl rfl rfl ?_
  refine px_sipush (v := 250) (pc' := 8) dX8_isReading_5 rfl (by decide) ?_
  refine px_icmp_gt (tgt := 15) (pc' := 11) dX8_isReading_8 (by decide) rfl (fun q2 => ?_) (fun q2 => ?_)
  · rw [i_lt, l_250] at q2
    refine px_iconst (v := 0) (pc' := 16) dX8_isReading_15 rfl (by decide) ?_
    exact px_zret (ty := .boolean) dX8_isReading_16 rfl (rfl) rfl (⟨by rw [if_neg (by omega)], rfl, rfl⟩)
  · rw [i_lt, l_250] at q2
    refine px_iconst (v := 1) (pc' := 12) dX8_isReading_11 rfl (by decide) ?_
    refine px_goto (tgt := 16) dX8_isReading_12 (by decide) ?_
    exact px_zret (ty := .boolean) dX8_isReading_16 rfl (rfl) rfl (⟨by rw [if_pos (by omega)], rfl, rfl⟩)
def m_mv (a b : Int32) : Prop := -5 ≤ a.toInt ∧ a.toInt ≤ 5 ∧ -5 ≤ b.toInt ∧ b.toInt ≤ 5
theorem c_isMove_t {a b : Int32} (ok : m_mv a b) : pm_Met G mX8_isMove [.int a, .int b] z z h g (pm_q (.int 1) h g) := by
  obtain ⟨k1, k2, k3, k4⟩ := ok
  refine enX8_isMove pm_le.rf ?_
  refine px_iload_n (i := 0) (pc' := 1) dX8_isMove_0 rfl rfl rfl ?_
  refine px_bipush (v := -5) (pc' := 3) dX8_isMove_1 rfl (by decide) ?_
  refine px_icmp_lt (tgt := 26) (pc' := 6) dX8_isMove_3 (by decide) rfl (fun q_ => absurd q_ (by rw [i_lt, l_m5]; omega)) (fun _ => ?_)
  refine px_iload_n (i := 0) (pc' := 7) dX8_isMove_6 rfl rfl rfl ?_
  refine px_iconst (v := 5) (pc' := 8) dX8_isMove_7 rfl (by decide) ?_
  refine px_icmp_gt (tgt := 26) (pc' := 11) dX8_isMove_8 (by decide) rfl (fun q_ => absurd q_ (by rw [i_lt, l_5]; omega)) (fun _ => ?_)
  refine px_iload_n (i := 1) (pc' := 12) dX8_isMove_11 rfl rfl rfl ?_
  refine px_bipush (v := -5) (pc' := 14) dX8_isMove_12 rfl (by decide) ?_
  refine px_icmp_lt (tgt := 26) (pc' := 17) dX8_isMove_14 (by decide) rfl (fun q_ => absurd q_ (by rw [i_lt, l_m5]; omega)) (fun _ => ?_)
  refine px_iload_n (i := 1) (pc' := 18) dX8_isMove_17 rfl rfl rfl ?_
  refine px_iconst (v := 5) (pc' := 19) dX8_isMove_18 rfl (by decide) ?_
  refine px_icmp_gt (tgt := 26) (pc' := 22) dX8_isMove_19 (by decide) rfl (fun q_ => absurd q_ (by rw [i_lt, l_5]; omega)) (fun _ => ?_)
  refine px_iconst (v := 1) (pc' := 23) dX8_isMove_22 rfl (by decide) ?_
  refine px_goto (tgt := 27) dX8_isMove_23 (by decide) ?_
  exact px_zret (ty := .boolean) dX8_isMove_27 rfl (rfl) rfl (⟨rfl, rfl, rfl⟩)
theorem c_isMove_f {a b : Int32} (ok : ¬ m_mv a b) : pm_Met G mX8_isMove [.int a, .int b] z z h g (pm_q (.int 0) h g) := by
  unfold m_mv at ok
  refine enX8_isMove pm_le.rf ?_
  refine px_iload_n (i := 0) (pc' := 1) dX8_isMove_0 rfl rfl rfl ?_
  refine px_bipush (v := -5) (pc' := 3) dX8_isMove_1 rfl (by decide) ?_
  refine px_icmp_lt (tgt := 26) (pc' := 6) dX8_isMove_3 (by decide) rfl (fun q => ?_) (fun q => ?_)
  · refine px_iconst (v := 0) (pc' := 27) dX8_isMove_26 rfl (by decide) ?_
    exact px_zret (ty := .boolean) dX8_isMove_27 rfl (rfl) rfl (⟨rfl, rfl, rfl⟩)
  refine px_iload_n (i := 0) (pc' := 7) dX8_isMove_6 rfl rfl rfl ?_
  refine px_iconst (v := 5) (pc' := 8) dX8_isMove_7 rfl (by decide) ?_
  refine px_icmp_gt (tgt := 26) (pc' := 11) dX8_isMove_8 (by decide) rfl (fun q2 => ?_) (fun q2 => ?_)
  · refine px_iconst (v := 0) (pc' := 27) dX8_isMove_26 rfl (by decide) ?_
    exact px_zret (ty := .boolean) dX8_isMove_27 rfl (rfl) rfl (⟨rfl, rfl, rfl⟩)
  refine px_iload_n (i := 1) (pc' := 12) dX8_isMove_11 rfl rfl rfl ?_
  refine px_bipush (v := -5) (pc' := 14) dX8_isMove_12 rfl (by decide) ?_
  refine px_icmp_lt (tgt := 26) (pc' := 17) dX8_isMove_14 (by decide) rfl (fun q3 => ?_) (fun q3 => ?_)
  · refine px_iconst (v := 0) (pc' := 27) dX8_isMove_26 rfl (by decide) ?_
    exact px_zret (ty := .boolean) dX8_isMove_27 rfl (rfl) rfl (⟨rfl, rfl, rfl⟩)
  refine px_iload_n (i := 1) (pc' := 18) dX8_isMove_17 rfl rfl rfl ?_
  refine px_iconst (v := 5) (pc' := 19) dX8_isMove_18 rfl (by decide) ?_
  refine px_icmp_gt (tgt := 26) (pc' := 22) dX8_isMove_19 (by decide) rfl (fun q4 => ?_) (fun q4 => ?_)
  · refine px_iconst (v := 0) (pc' := 27) dX8_isMove_26 rfl (by decide) ?_
    exact px_zret (ty := .boolean) dX8_isMove_27 rfl (rfl) rfl (⟨rfl, rfl, rfl⟩)
  rw [i_lt, l_m5] at q q3
  rw [i_lt, l_5] at q2 q4
  exact absurd (by omega) ok
theorem c_isSide {v : Int32} : pm_Met G mX3_isSide [.int v] z z h g (pm_q (.int (if 2 ≤ v.toInt ∧ v.toInt ≤ 12 then 1 else 0)) h g) := by
  refine enX3_isSide pm_le.rf ?_
  refine px_iload_n (i := 0) (pc' := 1) dX3_isSide_0 rfl rfl rfl ?_
  refine px_iconst (v := 2) (pc' := 2) dX3_isSide_1 rfl (by decide) ?_
  refine px_icmp_lt (tgt := 15) (pc' := 5) dX3_isSide_2 (by decide) rfl (fun q => ?_) (fun q => ?_)
  · rw [i_lt, l_2] at q
    refine px_iconst (v := 0) (pc' := 16) dX3_isSide_15 rfl (by decide) ?_
    exact px_zret (ty := .boolean) dX3_isSide_16 rfl (rfl) rfl (⟨by rw [if_neg (by omega)], rfl, rfl⟩)
  rw [i_lt, l_2] at q
  refine px_iload_n (i := 0) (pc' := 6) dX3_isSide_5 rfl rfl rfl ?_
  refine px_bipush (v := 12) (pc' := 8) dX3_isSide_6 rfl (by decide) ?_
  refine px_icmp_gt (tgt := 15) (pc' := 11) dX3_isSide_8 (by decide) rfl (fun q2 => ?_) (fun q2 => ?_)
  · rw [i_lt, l_12] at q2
    refine px_iconst (v := 0) (pc' := 16) dX3_isSide_15 rfl (by decide) ?_
    exact px_zret (ty := .boolean) dX3_isSide_16 rfl (rfl) rfl (⟨by rw [if_neg (by omega)], rfl, rfl⟩)
  · rw [i_lt, l_12] at q2
    refine px_iconst (v := 1) (pc' := 12) dX3_isSide_11 rfl (by decide) ?_
    refine px_goto (tgt := 16) dX3_isSide_12 (by decide) ?_
    exact px_zret (ty := .boolean) dX3_isSide_16 rfl (rfl) rfl (⟨by rw [if_pos (by omega)], rfl, rfl⟩)
/-- a byte of the map's -/
def m_bok (v : Int32) : Prop := (0 ≤ v.toInt ∧ v.toInt ≤ 250) ∨ v.toInt = 255
theorem c_allHeights_t {n : Nat} {T : Nat → Int32} (I : pm_I h g) (e : g 1 1 = .int (nI n)) (hn : n ≤ 160) (e1 : h 2 = pm_ia 1 160 T) (ok : ∀ i, i < n → m_bok (T i &&& 255)) : pm_Met G mX3_allHeights [.ref 1] z z h g (pm_q (.int 1) h g) := by
  refine enX3_allHeights pm_le.rf ?_
  refine px_iconst (v := 0) (pc' := 1) dX3_allHeights_0 rfl (by decide) ?_
  refine sx_i_n_3_1 (pc' := 2) dX3_allHeights_1 rfl rfl rfl rfl ?_
  have loop : ∀ k i : Nat, i + k = n → ∀ v : Value, v.category = 1 → pm_W G mX3_allHeights z (pm_Φ G z (pm_q (.int 1) h g)) 2 [.ref 1, .int (nI i), v] [] z h g := by
    intro k
    induction k with
    | zero =>
      intro i hi v hv
      refine px_iload_n (i := 1) (pc' := 3) dX3_allHeights_2 rfl rfl rfl ?_
      refine px_aload_n (i := 0) (pc' := 4) dX3_allHeights_3 rfl rfl rfl ?_
      refine pi_callV (pc' := 7) (c_size I e) okX6_size ivX6_size ml_X3_33 ⟨Nat.le_of_ble_eq_true rfl, Nat.le_of_ble_eq_true rfl⟩ dX3_allHeights_4 rfl rfl rfl (Nat.le_of_ble_eq_true rfl) (by repeat (first | assumption | refine pm_I.up ?_ rfl | refine pm_I.uf ?_ rfl)) rfl cl_6 pm_le.rf pm_le.rf ?_
      rintro _ _ _ ⟨rfl, rfl, rfl⟩
      refine px_icmp_ge (tgt := 38) (pc' := 10) dX3_allHeights_7 (by decide) rfl (fun _ => ?_) (fun q_ => absurd (nI_le (by omega) (by omega)) q_)
      refine px_iconst (v := 1) (pc' := 39) dX3_allHeights_38 rfl (by decide) ?_
      exact px_zret (ty := .boolean) dX3_allHeights_39 rfl (rfl) rfl (⟨rfl, rfl, rfl⟩)
    | succ k ih =>
      intro i hi v hv
      refine px_iload_n (i := 1) (pc' := 3) dX3_allHeights_2 rfl rfl rfl ?_
      refine px_aload_n (i := 0) (pc' := 4) dX3_allHeights_3 rfl rfl rfl ?_
      refine pi_callV (pc' := 7) (c_size I e) okX6_size ivX6_size ml_X3_33 ⟨Nat.le_of_ble_eq_true rfl, Nat.le_of_ble_eq_true rfl⟩ dX3_allHeights_4 rfl rfl rfl (Nat.le_of_ble_eq_true rfl) (by repeat (first | assumption | refine pm_I.up ?_ rfl | refine pm_I.uf ?_ rfl)) rfl cl_6 pm_le.rf pm_le.rf ?_
      rintro _ _ _ ⟨rfl, rfl, rfl⟩
      refine px_icmp_ge (tgt := 38) (pc' := 10) dX3_allHeights_7 (by decide) rfl (fun q_ => absurd q_ (nI_ge (by omega) (by omega))) (fun _ => ?_)
      refine px_aload_n (i := 0) (pc' := 11) dX3_allHeights_10 rfl rfl rfl ?_
      refine px_iload_n (i := 1) (pc' := 12) dX3_allHeights_11 rfl rfl rfl ?_
      refine pi_callV (pc' := 15) (c_unsignedAt I e hn (by omega) e1) okX6_unsignedAt ivX6_unsignedAt ml_X3_42 ⟨Nat.le_of_ble_eq_true rfl, Nat.le_of_ble_eq_true rfl⟩ dX3_allHeights_12 rfl rfl rfl (Nat.le_of_ble_eq_true rfl) (by repeat (first | assumption | refine pm_I.up ?_ rfl | refine pm_I.uf ?_ rfl)) rfl cl_6 pm_le.rf pm_le.rf ?_
      rintro _ _ _ ⟨rfl, rfl, rfl⟩
      refine sx_i_n_3_2 (pc' := 16) dX3_allHeights_15 rfl rfl rfl rfl ?_
      refine px_iload_n (i := 2) (pc' := 17) dX3_allHeights_16 rfl rfl rfl ?_
      refine px_callNS (pc' := 20) (c_isReading) okX8_isReading stX8_isReading mn_X3_46 ⟨Nat.le_of_ble_eq_true rfl, Nat.le_of_ble_eq_true rfl⟩ dX3_allHeights_17 rfl rfl rfl (Nat.le_of_ble_eq_true rfl) pm_le.rf pm_le.rf ?_
      rintro _ _ _ ⟨rfl, rfl, rfl⟩
      refine px_if_ne (tgt := 32) (pc' := 23) dX3_allHeights_20 (by decide) rfl (fun q => ?_) (fun q => ?_)
      · refine sx_inc_3_1 (w := 1) (pc' := 35) dX3_allHeights_32 rfl rfl (by decide) rfl ?_
        refine px_goto (tgt := 2) dX3_allHeights_35 (by decide) ?_
        rw [nI_1]
        exact ih (i + 1) (by omega) _ rfl
      · have q := b_0.mp q
        refine px_iload_n (i := 2) (pc' := 24) dX3_allHeights_23 rfl rfl rfl ?_
        refine px_sipush (v := 255) (pc' := 27) dX3_allHeights_24 rfl (by decide) ?_
        refine px_icmp_eq (tgt := 32) (pc' := 30) dX3_allHeights_27 (by decide) rfl (fun _ => ?_) (fun q_ => absurd (by rw [i_eq, l_255]; rcases ok i (by omega) with z | z <;> omega) q_)
        refine sx_inc_3_1 (w := 1) (pc' := 35) dX3_allHeights_32 rfl rfl (by decide) rfl ?_
        refine px_goto (tgt := 2) dX3_allHeights_35 (by decide) ?_
        rw [nI_1]
        exact ih (i + 1) (by omega) _ rfl
  exact loop n 0 (by omega) _ rfl
theorem c_allHeights_f {n : Nat} {T : Nat → Int32} (I : pm_I h g) (e : g 1 1 = .int (nI n)) (hn : n ≤ 160) (e1 : h 2 = pm_ia 1 160 T) (ok : ¬ ∀ i, i < n → m_bok (T i &&& 255)) : pm_Met G mX3_allHeights [.ref 1] z z h g (pm_q (.int 0) h g) := by
  refine enX3_allHeights pm_le.rf ?_
  refine px_iconst (v := 0) (pc' := 1) dX3_allHeights_0 rfl (by decide) ?_
  refine sx_i_n_3_1 (pc' := 2) dX3_allHeights_1 rfl rfl rfl rfl ?_
  have loop : ∀ k i : Nat, i + k = n → (∀ j, j < i → m_bok (T j &&& 255)) → ∀ v : Value, v.category = 1 → pm_W G mX3_allHeights z (pm_Φ G z (pm_q (.int 0) h g)) 2 [.ref 1, .int (nI i), v] [] z h g := by
    intro k
    induction k with
    | zero =>
      intro i hi hj v hv
      exact absurd (fun j hh => hj j (by omega)) ok
    | succ k ih =>
      intro i hi hj v hv
      refine px_iload_n (i := 1) (pc' := 3) dX3_allHeights_2 rfl rfl rfl ?_
      refine px_aload_n (i := 0) (pc' := 4) dX3_allHeights_3 rfl rfl rfl ?_
      refine pi_callV (pc' := 7) (c_size I e) okX6_size ivX6_size ml_X3_33 ⟨Nat.le_of_ble_eq_true rfl, Nat.le_of_ble_eq_true rfl⟩ dX3_allHeights_4 rfl rfl rfl (Nat.le_of_ble_eq_true rfl) (by repeat (first | assumption | refine pm_I.up ?_ rfl | refine pm_I.uf ?_ rfl)) rfl cl_6 pm_le.rf pm_le.rf ?_
      rintro _ _ _ ⟨rfl, rfl, rfl⟩
      refine px_icmp_ge (tgt := 38) (pc' := 10) dX3_allHeights_7 (by decide) rfl (fun q_ => absurd q_ (nI_ge (by omega) (by omega))) (fun _ => ?_)
      refine px_aload_n (i := 0) (pc' := 11) dX3_allHeights_10 rfl rfl rfl ?_
      refine px_iload_n (i := 1) (pc' := 12) dX3_allHeights_11 rfl rfl rfl ?_
      refine pi_callV (pc' := 15) (c_unsignedAt I e hn (by omega) e1) okX6_unsignedAt ivX6_unsignedAt ml_X3_42 ⟨Nat.le_of_ble_eq_true rfl, Nat.le_of_ble_eq_true rfl⟩ dX3_allHeights_12 rfl rfl rfl (Nat.le_of_ble_eq_true rfl) (by repeat (first | assumption | refine pm_I.up ?_ rfl | refine pm_I.uf ?_ rfl)) rfl cl_6 pm_le.rf pm_le.rf ?_
      rintro _ _ _ ⟨rfl, rfl, rfl⟩
      refine sx_i_n_3_2 (pc' := 16) dX3_allHeights_15 rfl rfl rfl rfl ?_
      refine px_iload_n (i := 2) (pc' := 17) dX3_allHeights_16 rfl rfl rfl ?_
      refine px_callNS (pc' := 20) (c_isReading) okX8_isReading stX8_isReading mn_X3_46 ⟨Nat.le_of_ble_eq_true rfl, Nat.le_of_ble_eq_true rfl⟩ dX3_allHeights_17 rfl rfl rfl (Nat.le_of_ble_eq_true rfl) pm_le.rf pm_le.rf ?_
      rintro _ _ _ ⟨rfl, rfl, rfl⟩
      refine px_if_ne (tgt := 32) (pc' := 23) dX3_allHeights_20 (by decide) rfl (fun q => ?_) (fun q => ?_)
      · have q := b_n0.mp q
        refine sx_inc_3_1 (w := 1) (pc' := 35) dX3_allHeights_32 rfl rfl (by decide) rfl ?_
        refine px_goto (tgt := 2) dX3_allHeights_35 (by decide) ?_
        rw [nI_1]
        exact ih (i + 1) (by omega) (fun j hh => if h : j = i then h ▸ Or.inl q else hj j (by omega)) _ rfl
      · refine px_iload_n (i := 2) (pc' := 24) dX3_allHeights_23 rfl rfl rfl ?_
        refine px_sipush (v := 255) (pc' := 27) dX3_allHeights_24 rfl (by decide) ?_
        refine px_icmp_eq (tgt := 32) (pc' := 30) dX3_allHeights_27 (by decide) rfl (fun q2 => ?_) (fun q2 => ?_)
        · rw [i_eq, l_255] at q2
          refine sx_inc_3_1 (w := 1) (pc' := 35) dX3_allHeights_32 rfl rfl (by decide) rfl ?_
          refine px_goto (tgt := 2) dX3_allHeights_35 (by decide) ?_
          rw [nI_1]
          exact ih (i + 1) (by omega) (fun j hh => if h : j = i then h ▸ Or.inr q2 else hj j (by omega)) _ rfl
        · refine px_iconst (v := 0) (pc' := 31) dX3_allHeights_30 rfl (by decide) ?_
          exact px_zret (ty := .boolean) dX3_allHeights_31 rfl (rfl) rfl (⟨rfl, rfl, rfl⟩)
  exact loop n 0 (by omega) (fun j hj => absurd hj (by omega)) _ rfl
/-- the height that a byte tells, for the class -/
def m_hb (T : Nat → Int32) (c : Nat) : Int32 := if T c &&& 255 = 255 then -1 else T c &&& 255
def m_tell (w d : Int32) (n : Nat) (T : Nat → Int32) : Prop := 2 ≤ w.toInt ∧ w.toInt ≤ 12 ∧ 2 ≤ d.toInt ∧ d.toInt ≤ 12 ∧ (n : Int) = w.toInt * d.toInt ∧ ∀ i, i < n → m_bok (T i &&& 255)
theorem i_mul12 {w d : Int32} (h1 : 2 ≤ w.toInt ∧ w.toInt ≤ 12) (h2 : 2 ≤ d.toInt ∧ d.toInt ≤ 12) : (w * d).toInt = w.toInt * d.toInt ∧ 0 ≤ w.toInt * d.toInt ∧ w.toInt * d.toInt ≤ 144 := by
  have a : 0 ≤ w.toInt * d.toInt := Int.mul_nonneg (by omega) (by omega)
  have b : w.toInt * d.toInt ≤ 12 * 12 := Int.mul_le_mul h1.2 h2.2 (by omega) (by omega)
  exact ⟨i_mul (by omega) (by omega), a, by omega⟩
theorem c_tell_f {w d : Int32} {n : Nat} {T : Nat → Int32} (I : pm_I h g) (e : g 1 1 = .int (nI n)) (hn : n ≤ 160) (e1 : h 2 = pm_ia 1 160 T) (ok : ¬ m_tell w d n T) : pm_Met G mX3_tell [.ref 3, .int w, .int d, .ref 1] z z h g (pm_q (.int 0) h g) := by
  unfold m_tell at ok
  have en : (nI n).toInt = n := nI_toInt (by omega)
  refine enX3_tell pm_le.rf ?_
  refine px_iload_n (i := 1) (pc' := 1) dX3_tell_0 rfl rfl rfl ?_
  refine px_callS (pc' := 4) (c_isSide) okX3_isSide stX3_isSide ml_X3_30 ⟨Nat.le_of_ble_eq_true rfl, Nat.le_of_ble_eq_true rfl⟩ dX3_tell_1 rfl rfl rfl (Nat.le_of_ble_eq_true rfl) pm_le.rf pm_le.rf ?_
  rintro _ _ _ ⟨rfl, rfl, rfl⟩
  refine px_if_eq (tgt := 31) (pc' := 7) dX3_tell_4 (by decide) rfl (fun q => ?_) (fun q => ?_)
  · refine px_iconst (v := 0) (pc' := 32) dX3_tell_31 rfl (by decide) ?_
    exact px_zret (ty := .boolean) dX3_tell_32 rfl (rfl) rfl (⟨rfl, rfl, rfl⟩)
  have q := b_n0.mp q
  refine px_iload_n (i := 2) (pc' := 8) dX3_tell_7 rfl rfl rfl ?_
  refine px_callS (pc' := 11) (c_isSide) okX3_isSide stX3_isSide ml_X3_30 ⟨Nat.le_of_ble_eq_true rfl, Nat.le_of_ble_eq_true rfl⟩ dX3_tell_8 rfl rfl rfl (Nat.le_of_ble_eq_true rfl) pm_le.rf pm_le.rf ?_
  rintro _ _ _ ⟨rfl, rfl, rfl⟩
  refine px_if_eq (tgt := 31) (pc' := 14) dX3_tell_11 (by decide) rfl (fun q2 => ?_) (fun q2 => ?_)
  · refine px_iconst (v := 0) (pc' := 32) dX3_tell_31 rfl (by decide) ?_
    exact px_zret (ty := .boolean) dX3_tell_32 rfl (rfl) rfl (⟨rfl, rfl, rfl⟩)
  have q2 := b_n0.mp q2
  obtain ⟨m1, m2, m3⟩ := i_mul12 q q2
  refine px_aload_n (i := 3) (pc' := 15) dX3_tell_14 rfl rfl rfl ?_
  refine pi_callV (pc' := 18) (c_size I e) okX6_size ivX6_size ml_X3_33 ⟨Nat.le_of_ble_eq_true rfl, Nat.le_of_ble_eq_true rfl⟩ dX3_tell_15 rfl rfl rfl (Nat.le_of_ble_eq_true rfl) (by repeat (first | assumption | refine pm_I.up ?_ rfl | refine pm_I.uf ?_ rfl)) rfl cl_6 pm_le.rf pm_le.rf ?_
  rintro _ _ _ ⟨rfl, rfl, rfl⟩
  refine px_iload_n (i := 1) (pc' := 19) dX3_tell_18 rfl rfl rfl ?_
  refine px_iload_n (i := 2) (pc' := 20) dX3_tell_19 rfl rfl rfl ?_
  refine px_imul (pc' := 21) dX3_tell_20 rfl ?_
  refine px_icmp_ne (tgt := 31) (pc' := 24) dX3_tell_21 (by decide) rfl (fun q3 => ?_) (fun q3 => ?_)
  · refine px_iconst (v := 0) (pc' := 32) dX3_tell_31 rfl (by decide) ?_
    exact px_zret (ty := .boolean) dX3_tell_32 rfl (rfl) rfl (⟨rfl, rfl, rfl⟩)
  rw [i_eq, en, m1] at q3
  refine px_aload_n (i := 3) (pc' := 25) dX3_tell_24 rfl rfl rfl ?_
  refine px_callS (pc' := 28) (c_allHeights_f I e hn e1 (fun hh => ok ⟨q.1, q.2, q2.1, q2.2, q3, hh⟩)) okX3_allHeights stX3_allHeights ml_X3_38 ⟨Nat.le_of_ble_eq_true rfl, Nat.le_of_ble_eq_true rfl⟩ dX3_tell_25 rfl rfl rfl (Nat.le_of_ble_eq_true rfl) pm_le.rf pm_le.rf ?_
  rintro _ _ _ ⟨rfl, rfl, rfl⟩
  refine px_if_ne (tgt := 33) (pc' := 31) dX3_tell_28 (by decide) rfl (fun q_ => absurd (by decide) q_) (fun _ => ?_)
  refine px_iconst (v := 0) (pc' := 32) dX3_tell_31 rfl (by decide) ?_
  exact px_zret (ty := .boolean) dX3_tell_32 rfl (rfl) rfl (⟨rfl, rfl, rfl⟩)
theorem c_tell_t {w d n : Nat} {T f : Nat → Int32} (I : pm_I h g) (e : g 1 1 = .int (nI n)) (hn : n ≤ 160) (e1 : h 2 = pm_ia 1 160 T) (e2 : h 4 = pm_ia 0 144 f) (ok : m_tell (nI w) (nI d) n T) (hw : w ≤ 12) (hd : d ≤ 12) :
    pm_Met G mX3_tell [.ref 3, .int (nI w), .int (nI d), .ref 1] z z h g (pm_q (.int 1) (pm_up h 4 (pm_ia 0 144 (fun j => if j < w * d then m_hb T j else f j))) (pm_uf (pm_uf g 3 1 (.int (nI w))) 3 2 (.int (nI d)))) := by
  obtain ⟨k1, k2, k3, k4, k5, k6⟩ := ok
  have hwd := m_wd hw hd
  have ew : (nI w).toInt = w := nI_toInt (by omega)
  have ed : (nI d).toInt = d := nI_toInt (by omega)
  have enw : n = w * d := by rw [ew, ed] at k5; exact_mod_cast k5
  subst enw
  refine enX3_tell pm_le.rf ?_
  refine px_iload_n (i := 1) (pc' := 1) dX3_tell_0 rfl rfl rfl ?_
  refine px_callS (pc' := 4) (c_isSide) okX3_isSide stX3_isSide ml_X3_30 ⟨Nat.le_of_ble_eq_true rfl, Nat.le_of_ble_eq_true rfl⟩ dX3_tell_1 rfl rfl rfl (Nat.le_of_ble_eq_true rfl) pm_le.rf pm_le.rf ?_
  rintro _ _ _ ⟨rfl, rfl, rfl⟩
  refine px_if_eq (tgt := 31) (pc' := 7) dX3_tell_4 (by decide) rfl (fun q_ => absurd q_ (b_n0.mpr ⟨k1, k2⟩)) (fun _ => ?_)
  refine px_iload_n (i := 2) (pc' := 8) dX3_tell_7 rfl rfl rfl ?_
  refine px_callS (pc' := 11) (c_isSide) okX3_isSide stX3_isSide ml_X3_30 ⟨Nat.le_of_ble_eq_true rfl, Nat.le_of_ble_eq_true rfl⟩ dX3_tell_8 rfl rfl rfl (Nat.le_of_ble_eq_true rfl) pm_le.rf pm_le.rf ?_
  rintro _ _ _ ⟨rfl, rfl, rfl⟩
  refine px_if_eq (tgt := 31) (pc' := 14) dX3_tell_11 (by decide) rfl (fun q_ => absurd q_ (b_n0.mpr ⟨k3, k4⟩)) (fun _ => ?_)
  refine px_aload_n (i := 3) (pc' := 15) dX3_tell_14 rfl rfl rfl ?_
  refine pi_callV (pc' := 18) (c_size I e) okX6_size ivX6_size ml_X3_33 ⟨Nat.le_of_ble_eq_true rfl, Nat.le_of_ble_eq_true rfl⟩ dX3_tell_15 rfl rfl rfl (Nat.le_of_ble_eq_true rfl) (by repeat (first | assumption | refine pm_I.up ?_ rfl | refine pm_I.uf ?_ rfl)) rfl cl_6 pm_le.rf pm_le.rf ?_
  rintro _ _ _ ⟨rfl, rfl, rfl⟩
  refine px_iload_n (i := 1) (pc' := 19) dX3_tell_18 rfl rfl rfl ?_
  refine px_iload_n (i := 2) (pc' := 20) dX3_tell_19 rfl rfl rfl ?_
  refine px_imul (pc' := 21) dX3_tell_20 rfl ?_
  refine px_icmp_ne (tgt := 31) (pc' := 24) dX3_tell_21 (by decide) rfl (fun q_ => absurd (by rw [pk_mul]) q_) (fun _ => ?_)
  refine px_aload_n (i := 3) (pc' := 25) dX3_tell_24 rfl rfl rfl ?_
  refine px_callS (pc' := 28) (c_allHeights_t I e hn e1 k6) okX3_allHeights stX3_allHeights ml_X3_38 ⟨Nat.le_of_ble_eq_true rfl, Nat.le_of_ble_eq_true rfl⟩ dX3_tell_25 rfl rfl rfl (Nat.le_of_ble_eq_true rfl) pm_le.rf pm_le.rf ?_
  rintro _ _ _ ⟨rfl, rfl, rfl⟩
  refine px_if_ne (tgt := 33) (pc' := 31) dX3_tell_28 (by decide) rfl (fun _ => ?_) (fun q_ => absurd q_ (by decide))
  refine px_aload_n (i := 0) (pc' := 34) dX3_tell_33 rfl rfl rfl ?_
  refine px_iload_n (i := 1) (pc' := 35) dX3_tell_34 rfl rfl rfl ?_
  refine pi_puti (pc' := 38) fi_3_15 dX3_tell_35 rfl (by repeat (first | assumption | refine pm_I.up ?_ rfl | refine pm_I.uf ?_ rfl)) rfl ?_
  refine px_aload_n (i := 0) (pc' := 39) dX3_tell_38 rfl rfl rfl ?_
  refine px_iload_n (i := 2) (pc' := 40) dX3_tell_39 rfl rfl rfl ?_
  refine pi_puti (pc' := 43) fi_3_19 dX3_tell_40 rfl (by repeat (first | assumption | refine pm_I.up ?_ rfl | refine pm_I.uf ?_ rfl)) rfl ?_
  refine px_iconst (v := 0) (pc' := 44) dX3_tell_43 rfl (by decide) ?_
  refine sx_i_6_4 (pc' := 46) dX3_tell_44 rfl rfl rfl ?_
  have loop : ∀ k i : Nat, i + k = w * d → ∀ v : Value, v.category = 1 → pm_W G mX3_tell z (pm_Φ G z (pm_q (.int 1) (pm_up h 4 (pm_ia 0 144 (fun j => if j < w * d then m_hb T j else f j))) (pm_uf (pm_uf g 3 1 (.int (nI w))) 3 2 (.int (nI d))))) 46 [.ref 3, .int (nI w), .int (nI d), .ref 1, .int (nI i), v] [] z (pm_up h 4 (pm_ia 0 144 (fun j => if j < i then m_hb T j else f j))) (pm_uf (pm_uf g 3 1 (.int (nI w))) 3 2 (.int (nI d))) := by
    intro k
    induction k with
    | zero =>
      intro i hi v hv
      have : i = w * d := by omega
      subst this
      refine px_iload (i := 4) (pc' := 48) dX3_tell_46 rfl rfl ?_
      refine px_iload_n (i := 1) (pc' := 49) dX3_tell_48 rfl rfl rfl ?_
      refine px_iload_n (i := 2) (pc' := 50) dX3_tell_49 rfl rfl rfl ?_
      refine px_imul (pc' := 51) dX3_tell_50 rfl ?_
      refine px_icmp_ge (tgt := 89) (pc' := 54) dX3_tell_51 (by decide) rfl (fun _ => ?_) (fun q_ => absurd (by rw [pk_mul]; exact nI_le (by omega) (by omega)) q_)
      refine px_iconst (v := 1) (pc' := 90) dX3_tell_89 rfl (by decide) ?_
      exact px_zret (ty := .boolean) dX3_tell_90 rfl (rfl) rfl (⟨rfl, rfl, rfl⟩)
    | succ k ih =>
      intro i hi v hv
      have hc : (nI i).toNatClampNeg = i := nI_clamp (by omega)
      have fin : ∀ x : Int32, x = m_hb T i → pm_W G mX3_tell z (pm_Φ G z (pm_q (.int 1) (pm_up h 4 (pm_ia 0 144 (fun j => if j < w * d then m_hb T j else f j))) (pm_uf (pm_uf g 3 1 (.int (nI w))) 3 2 (.int (nI d))))) 82 [.ref 3, .int (nI w), .int (nI d), .ref 1, .int (nI i), .int (T i &&& 255)] [.int x, .int (nI i), .ref 4] z (pm_up h 4 (pm_ia 0 144 (fun j => if j < i then m_hb T j else f j))) (pm_uf (pm_uf g 3 1 (.int (nI w))) 3 2 (.int (nI d))) := by
        intro x hx
        refine px_iast (pc' := 83) dX3_tell_82 rfl (by first | assumption | (repeat (first | exact pm_up_e rfl | refine pm_up_o (by decide) ?_)) <;> assumption) (vp_in_nI (by omega) (by omega)) ?_
        refine sx_inc_6_4 (w := 1) (pc' := 86) dX3_tell_83 rfl rfl (by decide) rfl ?_
        refine px_goto (tgt := 46) dX3_tell_86 (by decide) ?_
        rw [nI_1, pm_up_up, hc]
        rw [upd_fill hx]
        exact ih (i + 1) (by omega) _ rfl
      refine px_iload (i := 4) (pc' := 48) dX3_tell_46 rfl rfl ?_
      refine px_iload_n (i := 1) (pc' := 49) dX3_tell_48 rfl rfl rfl ?_
      refine px_iload_n (i := 2) (pc' := 50) dX3_tell_49 rfl rfl rfl ?_
      refine px_imul (pc' := 51) dX3_tell_50 rfl ?_
      refine px_icmp_ge (tgt := 89) (pc' := 54) dX3_tell_51 (by decide) rfl (fun q_ => absurd q_ (by rw [pk_mul]; exact nI_ge (by omega) (by omega))) (fun _ => ?_)
      refine px_aload_n (i := 3) (pc' := 55) dX3_tell_54 rfl rfl rfl ?_
      refine px_iload (i := 4) (pc' := 57) dX3_tell_55 rfl rfl ?_
      refine pi_callV (pc' := 60) (c_unsignedAt (by repeat (first | assumption | refine pm_I.up ?_ rfl | refine pm_I.uf ?_ rfl)) (by first | assumption | (repeat (first | exact pm_uf_e rfl | refine pm_uf_o (by decide) ?_)) <;> assumption) hn (by omega) (by first | assumption | (repeat (first | exact pm_up_e rfl | refine pm_up_o (by decide) ?_)) <;> assumption)) okX6_unsignedAt ivX6_unsignedAt ml_X3_42 ⟨Nat.le_of_ble_eq_true rfl, Nat.le_of_ble_eq_true rfl⟩ dX3_tell_57 rfl rfl rfl (Nat.le_of_ble_eq_true rfl) (by repeat (first | assumption | refine pm_I.up ?_ rfl | refine pm_I.uf ?_ rfl)) rfl cl_6 pm_le.rf pm_le.rf ?_
      rintro _ _ _ ⟨rfl, rfl, rfl⟩
      refine sx_i_6_5 (pc' := 62) dX3_tell_60 rfl rfl rfl ?_
      refine px_aload_n (i := 0) (pc' := 63) dX3_tell_62 rfl rfl rfl ?_
      refine pi_getr (pc' := 66) fl_3_9 dX3_tell_63 rfl (by repeat (first | assumption | refine pm_I.up ?_ rfl | refine pm_I.uf ?_ rfl)) rfl rfl ?_
      refine px_iload (i := 4) (pc' := 68) dX3_tell_66 rfl rfl ?_
      refine px_iload (i := 5) (pc' := 70) dX3_tell_68 rfl rfl ?_
      refine px_sipush (v := 255) (pc' := 73) dX3_tell_70 rfl (by decide) ?_
      refine px_icmp_ne (tgt := 80) (pc' := 76) dX3_tell_73 (by decide) rfl (fun q => ?_) (fun q => ?_)
      · refine px_iload (i := 5) (pc' := 82) dX3_tell_80 rfl rfl ?_
        exact fin _ (by rw [m_hb, if_neg q])
      · refine px_iconst (v := -1) (pc' := 77) dX3_tell_76 rfl (by decide) ?_
        refine px_goto (tgt := 82) dX3_tell_77 (by decide) ?_
        exact fin _ (by rw [m_hb, if_pos q])
  have := loop (w * d) 0 (by omega) pm_u rfl
  rw [fill_0, pm_up_self e2] at this
  exact this
theorem c_mendings {v : Int32} (I : pm_I h g) (e : g 11 5 = .int v) : pm_Met G mX0_mendings [.ref 11] z z h g (pm_q (.int v) h g) := by
  refine enX0_mendings pm_le.rf ?_
  refine px_aload_n (i := 0) (pc' := 1) dX0_mendings_0 rfl rfl rfl ?_
  refine pi_geti (pc' := 4) fl_0_21 dX0_mendings_1 rfl (by repeat (first | assumption | refine pm_I.up ?_ rfl | refine pm_I.uf ?_ rfl)) rfl (by first | assumption | (repeat (first | exact pm_uf_e rfl | refine pm_uf_o (by decide) ?_)) <;> assumption) ?_
  exact px_iret dX0_mendings_4 rfl rfl (⟨rfl, rfl, rfl⟩)
theorem c_forget {f : Nat → Int32} (I : pm_I h g) (e : h 12 = pm_ia 0 144 f) : pm_Met G mX0_forget [.ref 11] z z h g (fun r h' g' => ∃ f', (∀ j, j < 144 → f' j = 0) ∧ r = none ∧ h' = pm_up h 12 (pm_ia 0 144 f') ∧ g' = pm_uf g 11 5 (.int 0)) := by
  refine enX0_forget pm_le.rf ?_
  refine px_iconst (v := 0) (pc' := 1) dX0_forget_0 rfl (by decide) ?_
  refine sx_i_n_2_1 (pc' := 2) dX0_forget_1 rfl rfl rfl rfl ?_
  have loop : ∀ k i : Nat, i + k = 144 → ∀ f : Nat → Int32, (∀ j, j < i → f j = 0) → pm_W G mX0_forget z (pm_Φ G z (fun r h' g' => ∃ f', (∀ j, j < 144 → f' j = 0) ∧ r = none ∧ h' = pm_up h 12 (pm_ia 0 144 f') ∧ g' = pm_uf g 11 5 (.int 0))) 2 [.ref 11, .int (nI i)] [] z (pm_up h 12 (pm_ia 0 144 f)) g := by
    intro k
    induction k with
    | zero =>
      intro i hi f hf
      refine px_iload_n (i := 1) (pc' := 3) dX0_forget_2 rfl rfl rfl ?_
      refine px_sipush (v := 144) (pc' := 6) dX0_forget_3 rfl (by decide) ?_
      refine px_icmp_ge (tgt := 22) (pc' := 9) dX0_forget_6 (by decide) rfl (fun _ => ?_) (fun q_ => absurd (nI_le (a := 144) (by omega) (by omega)) q_)
      refine px_aload_n (i := 0) (pc' := 23) dX0_forget_22 rfl rfl rfl ?_
      refine px_iconst (v := 0) (pc' := 24) dX0_forget_23 rfl (by decide) ?_
      refine pi_puti (pc' := 27) fi_0_21 dX0_forget_24 rfl (by repeat (first | assumption | refine pm_I.up ?_ rfl | refine pm_I.uf ?_ rfl)) rfl ?_
      exact px_vret dX0_forget_27 rfl rfl (⟨f, fun j hj => hf j (by omega), rfl, rfl, rfl⟩)
    | succ k ih =>
      intro i hi f hf
      have hc : (nI i).toNatClampNeg = i := nI_clamp (by omega)
      refine px_iload_n (i := 1) (pc' := 3) dX0_forget_2 rfl rfl rfl ?_
      refine px_sipush (v := 144) (pc' := 6) dX0_forget_3 rfl (by decide) ?_
      refine px_icmp_ge (tgt := 22) (pc' := 9) dX0_forget_6 (by decide) rfl (fun q_ => absurd q_ (nI_ge (b := 144) (by omega) (by omega))) (fun _ => ?_)
      refine px_aload_n (i := 0) (pc' := 10) dX0_forget_9 rfl rfl rfl ?_
      refine pi_getr (pc' := 13) fl_0_9 dX0_forget_10 rfl (by repeat (first | assumption | refine pm_I.up ?_ rfl | refine pm_I.uf ?_ rfl)) rfl rfl ?_
      refine px_iload_n (i := 1) (pc' := 14) dX0_forget_13 rfl rfl rfl ?_
      refine px_iconst (v := 0) (pc' := 15) dX0_forget_14 rfl (by decide) ?_
      refine px_iast (pc' := 16) dX0_forget_15 rfl (by first | assumption | (repeat (first | exact pm_up_e rfl | refine pm_up_o (by decide) ?_)) <;> assumption) (vp_in_nI (by omega) (by omega)) ?_
      refine sx_inc_2_1 (w := 1) (pc' := 19) dX0_forget_16 rfl rfl (by decide) rfl ?_
      refine px_goto (tgt := 2) dX0_forget_19 (by decide) ?_
      rw [nI_1, pm_up_up, hc]
      refine ih (i + 1) (by omega) _ (fun j hj => ?_)
      unfold upd
      by_cases q : j = i
      · rw [if_pos q]
      · rw [if_neg q]
        exact hf j (by omega)
  have := loop 144 0 rfl f (fun j hj => absurd hj (by omega))
  rw [pm_up_self e] at this
  exact this
/-- the middle one, as the class has it -/
def m_mid (a b c : Int32) : Int32 :=
  if (if b < a then b else a) < (if c < (if a < b then b else a) then c else (if a < b then b else a)) then (if c < (if a < b then b else a) then c else (if a < b then b else a)) else (if b < a then b else a)
theorem c_middle {a b c : Int32} : pm_Met G mX0_middle [.int a, .int b, .int c] z z h g (pm_q (.int (m_mid a b c)) h g) := by
  refine enX0_middle pm_le.rf ?_
  refine px_iload_n (i := 0) (pc' := 1) dX0_middle_0 rfl rfl rfl ?_
  refine px_iload_n (i := 1) (pc' := 2) dX0_middle_1 rfl rfl rfl ?_
  refine px_mmin (pc' := 5) ml_X0_65 wd_min_s wd_ini_math wd_min_c dX0_middle_2 rfl (Nat.le_of_ble_eq_true rfl) (Nat.le_of_ble_eq_true rfl) ?_
  refine px_iload_n (i := 0) (pc' := 6) dX0_middle_5 rfl rfl rfl ?_
  refine px_iload_n (i := 1) (pc' := 7) dX0_middle_6 rfl rfl rfl ?_
  refine px_mmax (pc' := 10) ml_X0_53 wd_max_s wd_ini_math wd_max_c dX0_middle_7 rfl (Nat.le_of_ble_eq_true rfl) (Nat.le_of_ble_eq_true rfl) ?_
  refine px_iload_n (i := 2) (pc' := 11) dX0_middle_10 rfl rfl rfl ?_
  refine px_mmin (pc' := 14) ml_X0_65 wd_min_s wd_ini_math wd_min_c dX0_middle_11 rfl (Nat.le_of_ble_eq_true rfl) (Nat.le_of_ble_eq_true rfl) ?_
  refine px_mmax (pc' := 17) ml_X0_53 wd_max_s wd_ini_math wd_max_c dX0_middle_14 rfl (Nat.le_of_ble_eq_true rfl) (Nat.le_of_ble_eq_true rfl) ?_
  exact px_iret dX0_middle_17 rfl rfl (⟨rfl, rfl, rfl⟩)
theorem c_mend {w d c m : Nat} {v : Int32} {f st : Nat → Int32} (I : pm_I h g) (e1 : g 3 1 = .int (nI w)) (e2 : g 3 2 = .int (nI d)) (e3 : h 4 = pm_ia 0 144 f) (hw : w ≤ 12) (hd : d ≤ 12) (hc : c < w * d) (e4 : h 12 = pm_ia 0 144 st) (e5 : g 11 5 = .int (nI m)) :
    pm_Met G mX0_mend [.ref 11, .int (nI c), .int v] z z h g (pm_q (.int 2) (pm_up (pm_up h 4 (pm_ia 0 144 (upd f c v))) 12 (pm_ia 0 144 (upd st c 0))) (pm_uf g 11 5 (.int (nI (m + 1))))) := by
  have hwd := m_wd hw hd
  have hcl : (nI c).toNatClampNeg = c := nI_clamp (by omega)
  have hci : (nI c).toInt = c := nI_toInt (by omega)
  refine enX0_mend pm_le.rf ?_
  refine px_iload_n (i := 1) (pc' := 1) dX0_mend_0 rfl rfl rfl ?_
  refine px_if_lt (tgt := 11) (pc' := 4) dX0_mend_1 (by decide) rfl (fun q_ => absurd q_ (nI_pos (by omega))) (fun _ => ?_)
  refine px_iload_n (i := 1) (pc' := 5) dX0_mend_4 rfl rfl rfl ?_
  refine px_sipush (v := 144) (pc' := 8) dX0_mend_5 rfl (by decide) ?_
  refine px_icmp_lt (tgt := 13) (pc' := 11) dX0_mend_8 (by decide) rfl (fun _ => ?_) (fun q_ => absurd (nI_lt (b := 144) (by omega) (by omega)) q_)
  refine px_aload_n (i := 0) (pc' := 14) dX0_mend_13 rfl rfl rfl ?_
  refine pi_getr (pc' := 17) fl_0_25 dX0_mend_14 rfl (by repeat (first | assumption | refine pm_I.up ?_ rfl | refine pm_I.uf ?_ rfl)) rfl rfl ?_
  refine px_iload_n (i := 1) (pc' := 18) dX0_mend_17 rfl rfl rfl ?_
  refine px_iload_n (i := 2) (pc' := 19) dX0_mend_18 rfl rfl rfl ?_
  refine pi_callV (pc' := 22) (c_setHeight I e1 e2 e3 hw hd (by omega)) okX3_setHeight ivX3_setHeight ml_X0_61 ⟨Nat.le_of_ble_eq_true rfl, Nat.le_of_ble_eq_true rfl⟩ dX0_mend_19 rfl rfl rfl (Nat.le_of_ble_eq_true rfl) (by repeat (first | assumption | refine pm_I.up ?_ rfl | refine pm_I.uf ?_ rfl)) rfl cl_3 pm_le.rf pm_le.rf ?_
  rintro _ _ _ ⟨rfl, rfl, rfl⟩
  rw [show (nI c).toInt.toNat = c from hcl]
  refine px_aload_n (i := 0) (pc' := 23) dX0_mend_22 rfl rfl rfl ?_
  refine pi_getr (pc' := 26) fl_0_9 dX0_mend_23 rfl (by repeat (first | assumption | refine pm_I.up ?_ rfl | refine pm_I.uf ?_ rfl)) rfl rfl ?_
  refine px_iload_n (i := 1) (pc' := 27) dX0_mend_26 rfl rfl rfl ?_
  refine px_iconst (v := 0) (pc' := 28) dX0_mend_27 rfl (by decide) ?_
  refine px_iast (pc' := 29) dX0_mend_28 rfl (by first | assumption | (repeat (first | exact pm_up_e rfl | refine pm_up_o (by decide) ?_)) <;> assumption) (vp_in_nI (by omega) (by omega)) ?_
  refine px_aload_n (i := 0) (pc' := 30) dX0_mend_29 rfl rfl rfl ?_
  refine px_dup (pc' := 31) dX0_mend_30 rfl rfl ?_
  refine pi_geti (pc' := 34) fl_0_21 dX0_mend_31 rfl (by repeat (first | assumption | refine pm_I.up ?_ rfl | refine pm_I.uf ?_ rfl)) rfl (by first | assumption | (repeat (first | exact pm_uf_e rfl | refine pm_uf_o (by decide) ?_)) <;> assumption) ?_
  refine px_iconst (v := 1) (pc' := 35) dX0_mend_34 rfl (by decide) ?_
  refine px_iadd (pc' := 36) dX0_mend_35 rfl ?_
  refine pi_puti (pc' := 39) fi_0_21 dX0_mend_36 rfl (by repeat (first | assumption | refine pm_I.up ?_ rfl | refine pm_I.uf ?_ rfl)) rfl ?_
  refine px_iconst (v := 2) (pc' := 40) dX0_mend_39 rfl (by decide) ?_
  rw [hcl, nI_1]
  exact px_iret dX0_mend_40 rfl rfl (⟨rfl, rfl, rfl⟩)
theorem c_hearA0 {c : Nat} {v way : Int32} {f1 st : Nat → Int32} (I : pm_I h g) (hc : c < 144) (e4 : h 12 = pm_ia 0 144 st) (e5 : h 13 = pm_ia 0 144 f1) (q : ¬ 0 < st c * way) :
    pm_Met G mX0_hearAgainst [.ref 11, .int (nI c), .int v, .int way] z z h g (pm_q (.int 1) (pm_up (pm_up h 13 (pm_ia 0 144 (upd f1 c v))) 12 (pm_ia 0 144 (upd st c way))) g) := by
  have hcl : (nI c).toNatClampNeg = c := nI_clamp (by omega)
  refine enX0_hearAgainst pm_le.rf ?_
  refine px_iload_n (i := 1) (pc' := 1) dX0_hearAgainst_0 rfl rfl rfl ?_
  refine px_if_lt (tgt := 11) (pc' := 4) dX0_hearAgainst_1 (by decide) rfl (fun q_ => absurd q_ (nI_pos (by omega))) (fun _ => ?_)
  refine px_iload_n (i := 1) (pc' := 5) dX0_hearAgainst_4 rfl rfl rfl ?_
  refine px_sipush (v := 144) (pc' := 8) dX0_hearAgainst_5 rfl (by decide) ?_
  refine px_icmp_lt (tgt := 13) (pc' := 11) dX0_hearAgainst_8 (by decide) rfl (fun _ => ?_) (fun q_ => absurd (nI_lt (b := 144) (by omega) (by omega)) q_)
  refine px_iconst (v := 0) (pc' := 14) dX0_hearAgainst_13 rfl (by decide) ?_
  refine px_aload_n (i := 0) (pc' := 15) dX0_hearAgainst_14 rfl rfl rfl ?_
  refine pi_getr (pc' := 18) fl_0_9 dX0_hearAgainst_15 rfl (by repeat (first | assumption | refine pm_I.up ?_ rfl | refine pm_I.uf ?_ rfl)) rfl rfl ?_
  refine px_iload_n (i := 1) (pc' := 19) dX0_hearAgainst_18 rfl rfl rfl ?_
  refine px_iald (pc' := 20) dX0_hearAgainst_19 rfl (by first | assumption | (repeat (first | exact pm_up_e rfl | refine pm_up_o (by decide) ?_)) <;> assumption) (vp_in_nI (by omega) (by omega)) ?_
  refine px_iload_n (i := 3) (pc' := 21) dX0_hearAgainst_20 rfl rfl rfl ?_
  refine px_imul (pc' := 22) dX0_hearAgainst_21 rfl ?_
  refine px_mmax (pc' := 25) ml_X0_53 wd_max_s wd_ini_math wd_max_c dX0_hearAgainst_22 rfl (Nat.le_of_ble_eq_true rfl) (Nat.le_of_ble_eq_true rfl) ?_
  rw [hcl, if_neg q]
  refine sx_i_5_4 (pc' := 27) dX0_hearAgainst_25 rfl rfl rfl ?_
  refine px_iload (i := 4) (pc' := 29) dX0_hearAgainst_27 rfl rfl ?_
  refine px_iconst (v := 2) (pc' := 30) dX0_hearAgainst_29 rfl (by decide) ?_
  refine px_icmp_lt (tgt := 55) (pc' := 33) dX0_hearAgainst_30 (by decide) rfl (fun _ => ?_) (fun q_ => absurd (by decide) q_)
  refine px_iload (i := 4) (pc' := 57) dX0_hearAgainst_55 rfl rfl ?_
  refine px_if_ne (tgt := 70) (pc' := 60) dX0_hearAgainst_57 (by decide) rfl (fun q_ => absurd (rfl) q_) (fun _ => ?_)
  refine px_aload_n (i := 0) (pc' := 61) dX0_hearAgainst_60 rfl rfl rfl ?_
  refine pi_getr (pc' := 64) fl_0_15 dX0_hearAgainst_61 rfl (by repeat (first | assumption | refine pm_I.up ?_ rfl | refine pm_I.uf ?_ rfl)) rfl rfl ?_
  refine px_iload_n (i := 1) (pc' := 65) dX0_hearAgainst_64 rfl rfl rfl ?_
  refine px_iload_n (i := 2) (pc' := 66) dX0_hearAgainst_65 rfl rfl rfl ?_
  refine px_iast (pc' := 67) dX0_hearAgainst_66 rfl (by first | assumption | (repeat (first | exact pm_up_e rfl | refine pm_up_o (by decide) ?_)) <;> assumption) (vp_in_nI (by omega) (by omega)) ?_
  refine px_goto (tgt := 77) dX0_hearAgainst_67 (by decide) ?_
  refine px_aload_n (i := 0) (pc' := 78) dX0_hearAgainst_77 rfl rfl rfl ?_
  refine pi_getr (pc' := 81) fl_0_9 dX0_hearAgainst_78 rfl (by repeat (first | assumption | refine pm_I.up ?_ rfl | refine pm_I.uf ?_ rfl)) rfl rfl ?_
  refine px_iload_n (i := 1) (pc' := 82) dX0_hearAgainst_81 rfl rfl rfl ?_
  refine px_iload (i := 4) (pc' := 84) dX0_hearAgainst_82 rfl rfl ?_
  refine px_iconst (v := 1) (pc' := 85) dX0_hearAgainst_84 rfl (by decide) ?_
  refine px_iadd (pc' := 86) dX0_hearAgainst_85 rfl ?_
  refine px_iload_n (i := 3) (pc' := 87) dX0_hearAgainst_86 rfl rfl rfl ?_
  refine px_imul (pc' := 88) dX0_hearAgainst_87 rfl ?_
  refine px_iast (pc' := 89) dX0_hearAgainst_88 rfl (by first | assumption | (repeat (first | exact pm_up_e rfl | refine pm_up_o (by decide) ?_)) <;> assumption) (vp_in_nI (by omega) (by omega)) ?_
  refine px_iconst (v := 1) (pc' := 90) dX0_hearAgainst_89 rfl (by decide) ?_
  rw [hcl, show ((0 : Int32) + 1) * way = way from by rw [show (0 : Int32) + 1 = 1 from by decide, Int32.one_mul]]
  exact px_iret dX0_hearAgainst_90 rfl rfl (⟨rfl, rfl, rfl⟩)
theorem c_hearA1 {c : Nat} {v way : Int32} {f2 st : Nat → Int32} (I : pm_I h g) (hc : c < 144) (e4 : h 12 = pm_ia 0 144 st) (e5 : h 14 = pm_ia 0 144 f2) (q : st c * way = 1) :
    pm_Met G mX0_hearAgainst [.ref 11, .int (nI c), .int v, .int way] z z h g (pm_q (.int 1) (pm_up (pm_up h 14 (pm_ia 0 144 (upd f2 c v))) 12 (pm_ia 0 144 (upd st c (2 * way)))) g) := by
  have hcl : (nI c).toNatClampNeg = c := nI_clamp (by omega)
  refine enX0_hearAgainst pm_le.rf ?_
  refine px_iload_n (i := 1) (pc' := 1) dX0_hearAgainst_0 rfl rfl rfl ?_
  refine px_if_lt (tgt := 11) (pc' := 4) dX0_hearAgainst_1 (by decide) rfl (fun q_ => absurd q_ (nI_pos (by omega))) (fun _ => ?_)
  refine px_iload_n (i := 1) (pc' := 5) dX0_hearAgainst_4 rfl rfl rfl ?_
  refine px_sipush (v := 144) (pc' := 8) dX0_hearAgainst_5 rfl (by decide) ?_
  refine px_icmp_lt (tgt := 13) (pc' := 11) dX0_hearAgainst_8 (by decide) rfl (fun _ => ?_) (fun q_ => absurd (nI_lt (b := 144) (by omega) (by omega)) q_)
  refine px_iconst (v := 0) (pc' := 14) dX0_hearAgainst_13 rfl (by decide) ?_
  refine px_aload_n (i := 0) (pc' := 15) dX0_hearAgainst_14 rfl rfl rfl ?_
  refine pi_getr (pc' := 18) fl_0_9 dX0_hearAgainst_15 rfl (by repeat (first | assumption | refine pm_I.up ?_ rfl | refine pm_I.uf ?_ rfl)) rfl rfl ?_
  refine px_iload_n (i := 1) (pc' := 19) dX0_hearAgainst_18 rfl rfl rfl ?_
  refine px_iald (pc' := 20) dX0_hearAgainst_19 rfl (by first | assumption | (repeat (first | exact pm_up_e rfl | refine pm_up_o (by decide) ?_)) <;> assumption) (vp_in_nI (by omega) (by omega)) ?_
  refine px_iload_n (i := 3) (pc' := 21) dX0_hearAgainst_20 rfl rfl rfl ?_
  refine px_imul (pc' := 22) dX0_hearAgainst_21 rfl ?_
  refine px_mmax (pc' := 25) ml_X0_53 wd_max_s wd_ini_math wd_max_c dX0_hearAgainst_22 rfl (Nat.le_of_ble_eq_true rfl) (Nat.le_of_ble_eq_true rfl) ?_
  rw [hcl, q, if_pos (by decide)]
  refine sx_i_5_4 (pc' := 27) dX0_hearAgainst_25 rfl rfl rfl ?_
  refine px_iload (i := 4) (pc' := 29) dX0_hearAgainst_27 rfl rfl ?_
  refine px_iconst (v := 2) (pc' := 30) dX0_hearAgainst_29 rfl (by decide) ?_
  refine px_icmp_lt (tgt := 55) (pc' := 33) dX0_hearAgainst_30 (by decide) rfl (fun _ => ?_) (fun q_ => absurd (by decide) q_)
  refine px_iload (i := 4) (pc' := 57) dX0_hearAgainst_55 rfl rfl ?_
  refine px_if_ne (tgt := 70) (pc' := 60) dX0_hearAgainst_57 (by decide) rfl (fun _ => ?_) (fun q_ => absurd q_ (by decide))
  refine px_aload_n (i := 0) (pc' := 71) dX0_hearAgainst_70 rfl rfl rfl ?_
  refine pi_getr (pc' := 74) fl_0_18 dX0_hearAgainst_71 rfl (by repeat (first | assumption | refine pm_I.up ?_ rfl | refine pm_I.uf ?_ rfl)) rfl rfl ?_
  refine px_iload_n (i := 1) (pc' := 75) dX0_hearAgainst_74 rfl rfl rfl ?_
  refine px_iload_n (i := 2) (pc' := 76) dX0_hearAgainst_75 rfl rfl rfl ?_
  refine px_iast (pc' := 77) dX0_hearAgainst_76 rfl (by first | assumption | (repeat (first | exact pm_up_e rfl | refine pm_up_o (by decide) ?_)) <;> assumption) (vp_in_nI (by omega) (by omega)) ?_
  refine px_aload_n (i := 0) (pc' := 78) dX0_hearAgainst_77 rfl rfl rfl ?_
  refine pi_getr (pc' := 81) fl_0_9 dX0_hearAgainst_78 rfl (by repeat (first | assumption | refine pm_I.up ?_ rfl | refine pm_I.uf ?_ rfl)) rfl rfl ?_
  refine px_iload_n (i := 1) (pc' := 82) dX0_hearAgainst_81 rfl rfl rfl ?_
  refine px_iload (i := 4) (pc' := 84) dX0_hearAgainst_82 rfl rfl ?_
  refine px_iconst (v := 1) (pc' := 85) dX0_hearAgainst_84 rfl (by decide) ?_
  refine px_iadd (pc' := 86) dX0_hearAgainst_85 rfl ?_
  refine px_iload_n (i := 3) (pc' := 87) dX0_hearAgainst_86 rfl rfl rfl ?_
  refine px_imul (pc' := 88) dX0_hearAgainst_87 rfl ?_
  refine px_iast (pc' := 89) dX0_hearAgainst_88 rfl (by first | assumption | (repeat (first | exact pm_up_e rfl | refine pm_up_o (by decide) ?_)) <;> assumption) (vp_in_nI (by omega) (by omega)) ?_
  refine px_iconst (v := 1) (pc' := 90) dX0_hearAgainst_89 rfl (by decide) ?_
  rw [hcl, show (1 : Int32) + 1 = 2 from by decide]
  exact px_iret dX0_hearAgainst_90 rfl rfl (⟨rfl, rfl, rfl⟩)
theorem c_hearA2 {w d c m : Nat} {v way : Int32} {f st f1 f2 : Nat → Int32} (I : pm_I h g) (e1 : g 3 1 = .int (nI w)) (e2 : g 3 2 = .int (nI d)) (e3 : h 4 = pm_ia 0 144 f) (hw : w ≤ 12) (hd : d ≤ 12) (hc : c < w * d) (e4 : h 12 = pm_ia 0 144 st) (e5 : g 11 5 = .int (nI m)) (e6 : h 13 = pm_ia 0 144 f1) (e7 : h 14 = pm_ia 0 144 f2) (q : st c * way = 2) :
    pm_Met G mX0_hearAgainst [.ref 11, .int (nI c), .int v, .int way] z z h g (pm_q (.int 2) (pm_up (pm_up h 4 (pm_ia 0 144 (upd f c (m_mid (f1 c) (f2 c) v)))) 12 (pm_ia 0 144 (upd st c 0))) (pm_uf g 11 5 (.int (nI (m + 1))))) := by
  have hwd := m_wd hw hd
  have hcl : (nI c).toNatClampNeg = c := nI_clamp (by omega)
  refine enX0_hearAgainst pm_le.rf ?_
  refine px_iload_n (i := 1) (pc' := 1) dX0_hearAgainst_0 rfl rfl rfl ?_
  refine px_if_lt (tgt := 11) (pc' := 4) dX0_hearAgainst_1 (by decide) rfl (fun q_ => absurd q_ (nI_pos (by omega))) (fun _ => ?_)
  refine px_iload_n (i := 1) (pc' := 5) dX0_hearAgainst_4 rfl rfl rfl ?_
  refine px_sipush (v := 144) (pc' := 8) dX0_hearAgainst_5 rfl (by decide) ?_
  refine px_icmp_lt (tgt := 13) (pc' := 11) dX0_hearAgainst_8 (by decide) rfl (fun _ => ?_) (fun q_ => absurd (nI_lt (b := 144) (by omega) (by omega)) q_)
  refine px_iconst (v := 0) (pc' := 14) dX0_hearAgainst_13 rfl (by decide) ?_
  refine px_aload_n (i := 0) (pc' := 15) dX0_hearAgainst_14 rfl rfl rfl ?_
  refine pi_getr (pc' := 18) fl_0_9 dX0_hearAgainst_15 rfl (by repeat (first | assumption | refine pm_I.up ?_ rfl | refine pm_I.uf ?_ rfl)) rfl rfl ?_
  refine px_iload_n (i := 1) (pc' := 19) dX0_hearAgainst_18 rfl rfl rfl ?_
  refine px_iald (pc' := 20) dX0_hearAgainst_19 rfl (by first | assumption | (repeat (first | exact pm_up_e rfl | refine pm_up_o (by decide) ?_)) <;> assumption) (vp_in_nI (by omega) (by omega)) ?_
  refine px_iload_n (i := 3) (pc' := 21) dX0_hearAgainst_20 rfl rfl rfl ?_
  refine px_imul (pc' := 22) dX0_hearAgainst_21 rfl ?_
  refine px_mmax (pc' := 25) ml_X0_53 wd_max_s wd_ini_math wd_max_c dX0_hearAgainst_22 rfl (Nat.le_of_ble_eq_true rfl) (Nat.le_of_ble_eq_true rfl) ?_
  rw [hcl, q, if_pos (by decide)]
  refine sx_i_5_4 (pc' := 27) dX0_hearAgainst_25 rfl rfl rfl ?_
  refine px_iload (i := 4) (pc' := 29) dX0_hearAgainst_27 rfl rfl ?_
  refine px_iconst (v := 2) (pc' := 30) dX0_hearAgainst_29 rfl (by decide) ?_
  refine px_icmp_lt (tgt := 55) (pc' := 33) dX0_hearAgainst_30 (by decide) rfl (fun q_ => absurd q_ (by decide)) (fun _ => ?_)
  refine px_aload_n (i := 0) (pc' := 34) dX0_hearAgainst_33 rfl rfl rfl ?_
  refine px_iload_n (i := 1) (pc' := 35) dX0_hearAgainst_34 rfl rfl rfl ?_
  refine px_aload_n (i := 0) (pc' := 36) dX0_hearAgainst_35 rfl rfl rfl ?_
  refine pi_getr (pc' := 39) fl_0_15 dX0_hearAgainst_36 rfl (by repeat (first | assumption | refine pm_I.up ?_ rfl | refine pm_I.uf ?_ rfl)) rfl rfl ?_
  refine px_iload_n (i := 1) (pc' := 40) dX0_hearAgainst_39 rfl rfl rfl ?_
  refine px_iald (pc' := 41) dX0_hearAgainst_40 rfl (by first | assumption | (repeat (first | exact pm_up_e rfl | refine pm_up_o (by decide) ?_)) <;> assumption) (vp_in_nI (by omega) (by omega)) ?_
  refine px_aload_n (i := 0) (pc' := 42) dX0_hearAgainst_41 rfl rfl rfl ?_
  refine pi_getr (pc' := 45) fl_0_18 dX0_hearAgainst_42 rfl (by repeat (first | assumption | refine pm_I.up ?_ rfl | refine pm_I.uf ?_ rfl)) rfl rfl ?_
  refine px_iload_n (i := 1) (pc' := 46) dX0_hearAgainst_45 rfl rfl rfl ?_
  refine px_iald (pc' := 47) dX0_hearAgainst_46 rfl (by first | assumption | (repeat (first | exact pm_up_e rfl | refine pm_up_o (by decide) ?_)) <;> assumption) (vp_in_nI (by omega) (by omega)) ?_
  refine px_iload_n (i := 2) (pc' := 48) dX0_hearAgainst_47 rfl rfl rfl ?_
  rw [hcl]
  refine px_callS (pc' := 51) (c_middle) okX0_middle stX0_middle ml_X0_58 ⟨Nat.le_of_ble_eq_true rfl, Nat.le_of_ble_eq_true rfl⟩ dX0_hearAgainst_48 rfl rfl rfl (Nat.le_of_ble_eq_true rfl) pm_le.rf pm_le.rf ?_
  rintro _ _ _ ⟨rfl, rfl, rfl⟩
  refine pi_callV (pc' := 54) (c_mend I e1 e2 e3 hw hd hc e4 e5) okX0_mend ivX0_mend ml_X0_39 ⟨Nat.le_of_ble_eq_true rfl, Nat.le_of_ble_eq_true rfl⟩ dX0_hearAgainst_51 rfl rfl rfl (Nat.le_of_ble_eq_true rfl) (by repeat (first | assumption | refine pm_I.up ?_ rfl | refine pm_I.uf ?_ rfl)) rfl cl_0 pm_le.rf pm_le.rf ?_
  rintro _ _ _ ⟨rfl, rfl, rfl⟩
  exact px_iret dX0_hearAgainst_54 rfl rfl (⟨rfl, rfl, rfl⟩)
theorem c_hear_u {w d c m : Nat} {v : Int32} {f st : Nat → Int32} (I : pm_I h g) (e1 : g 3 1 = .int (nI w)) (e2 : g 3 2 = .int (nI d)) (e3 : h 4 = pm_ia 0 144 f) (hw : w ≤ 12) (hd : d ≤ 12) (hc : c < w * d) (e4 : h 12 = pm_ia 0 144 st) (e5 : g 11 5 = .int (nI m)) (q : f c = -1) :
    pm_Met G mX0_hear [.ref 11, .int (nI c), .int v] z z h g (pm_q (.int 2) (pm_up (pm_up h 4 (pm_ia 0 144 (upd f c v))) 12 (pm_ia 0 144 (upd st c 0))) (pm_uf g 11 5 (.int (nI (m + 1))))) := by
  have hwd := m_wd hw hd
  have hci : (nI c).toInt = c := nI_toInt (by omega)
  refine enX0_hear pm_le.rf ?_
  refine px_iload_n (i := 1) (pc' := 1) dX0_hear_0 rfl rfl rfl ?_
  refine px_if_lt (tgt := 11) (pc' := 4) dX0_hear_1 (by decide) rfl (fun q_ => absurd q_ (nI_pos (by omega))) (fun _ => ?_)
  refine px_iload_n (i := 1) (pc' := 5) dX0_hear_4 rfl rfl rfl ?_
  refine px_sipush (v := 144) (pc' := 8) dX0_hear_5 rfl (by decide) ?_
  refine px_icmp_lt (tgt := 13) (pc' := 11) dX0_hear_8 (by decide) rfl (fun _ => ?_) (fun q_ => absurd (nI_lt (b := 144) (by omega) (by omega)) q_)
  refine px_aload_n (i := 0) (pc' := 14) dX0_hear_13 rfl rfl rfl ?_
  refine pi_getr (pc' := 17) fl_0_25 dX0_hear_14 rfl (by repeat (first | assumption | refine pm_I.up ?_ rfl | refine pm_I.uf ?_ rfl)) rfl rfl ?_
  refine px_iload_n (i := 1) (pc' := 18) dX0_hear_17 rfl rfl rfl ?_
  refine pi_callV (pc' := 21) (c_heightOf I e1 e2 e3 hw hd) okX3_heightOf ivX3_heightOf ml_X0_33 ⟨Nat.le_of_ble_eq_true rfl, Nat.le_of_ble_eq_true rfl⟩ dX0_hear_18 rfl rfl rfl (Nat.le_of_ble_eq_true rfl) (by repeat (first | assumption | refine pm_I.up ?_ rfl | refine pm_I.uf ?_ rfl)) rfl cl_3 pm_le.rf pm_le.rf ?_
  rintro _ _ _ ⟨rfl, rfl, rfl⟩
  rw [hci, if_pos (by omega), Int.toNat_natCast, q]
  refine sx_i_n_4_3 (pc' := 22) dX0_hear_21 rfl rfl rfl rfl ?_
  refine px_iload_n (i := 3) (pc' := 23) dX0_hear_22 rfl rfl rfl ?_
  refine px_iconst (v := -1) (pc' := 24) dX0_hear_23 rfl (by decide) ?_
  refine px_icmp_ne (tgt := 34) (pc' := 27) dX0_hear_24 (by decide) rfl (fun q_ => absurd (by decide) q_) (fun _ => ?_)
  refine px_aload_n (i := 0) (pc' := 28) dX0_hear_27 rfl rfl rfl ?_
  refine px_iload_n (i := 1) (pc' := 29) dX0_hear_28 rfl rfl rfl ?_
  refine px_iload_n (i := 2) (pc' := 30) dX0_hear_29 rfl rfl rfl ?_
  refine pi_callV (pc' := 33) (c_mend I e1 e2 e3 hw hd hc e4 e5) okX0_mend ivX0_mend ml_X0_39 ⟨Nat.le_of_ble_eq_true rfl, Nat.le_of_ble_eq_true rfl⟩ dX0_hear_30 rfl rfl rfl (Nat.le_of_ble_eq_true rfl) (by repeat (first | assumption | refine pm_I.up ?_ rfl | refine pm_I.uf ?_ rfl)) rfl cl_0 pm_le.rf pm_le.rf ?_
  rintro _ _ _ ⟨rfl, rfl, rfl⟩
  exact px_iret dX0_hear_33 rfl rfl (⟨rfl, rfl, rfl⟩)
theorem c_hear_t {w d c : Nat} {v e : Int32} {f st : Nat → Int32} (I : pm_I h g) (e1 : g 3 1 = .int (nI w)) (e2 : g 3 2 = .int (nI d)) (e3 : h 4 = pm_ia 0 144 f) (hw : w ≤ 12) (hd : d ≤ 12) (hc : c < w * d) (e4 : h 12 = pm_ia 0 144 st) (e5 : g 5 0 = .int e) (hv : 0 ≤ v.toInt ∧ v.toInt ≤ 255) (hb : 0 ≤ (f c).toInt ∧ (f c).toInt ≤ 255) (q : (((f c).toInt - v.toInt).natAbs : Int) ≤ e.toInt) :
    pm_Met G mX0_hear [.ref 11, .int (nI c), .int v] z z h g (pm_q (.int 0) (pm_up h 12 (pm_ia 0 144 (upd st c 0))) g) := by
  have hwd := m_wd hw hd
  have hci : (nI c).toInt = c := nI_toInt (by omega)
  have hcl : (nI c).toNatClampNeg = c := nI_clamp (by omega)
  refine enX0_hear pm_le.rf ?_
  refine px_iload_n (i := 1) (pc' := 1) dX0_hear_0 rfl rfl rfl ?_
  refine px_if_lt (tgt := 11) (pc' := 4) dX0_hear_1 (by decide) rfl (fun q_ => absurd q_ (nI_pos (by omega))) (fun _ => ?_)
  refine px_iload_n (i := 1) (pc' := 5) dX0_hear_4 rfl rfl rfl ?_
  refine px_sipush (v := 144) (pc' := 8) dX0_hear_5 rfl (by decide) ?_
  refine px_icmp_lt (tgt := 13) (pc' := 11) dX0_hear_8 (by decide) rfl (fun _ => ?_) (fun q_ => absurd (nI_lt (b := 144) (by omega) (by omega)) q_)
  refine px_aload_n (i := 0) (pc' := 14) dX0_hear_13 rfl rfl rfl ?_
  refine pi_getr (pc' := 17) fl_0_25 dX0_hear_14 rfl (by repeat (first | assumption | refine pm_I.up ?_ rfl | refine pm_I.uf ?_ rfl)) rfl rfl ?_
  refine px_iload_n (i := 1) (pc' := 18) dX0_hear_17 rfl rfl rfl ?_
  refine pi_callV (pc' := 21) (c_heightOf I e1 e2 e3 hw hd) okX3_heightOf ivX3_heightOf ml_X0_33 ⟨Nat.le_of_ble_eq_true rfl, Nat.le_of_ble_eq_true rfl⟩ dX0_hear_18 rfl rfl rfl (Nat.le_of_ble_eq_true rfl) (by repeat (first | assumption | refine pm_I.up ?_ rfl | refine pm_I.uf ?_ rfl)) rfl cl_3 pm_le.rf pm_le.rf ?_
  rintro _ _ _ ⟨rfl, rfl, rfl⟩
  rw [hci, if_pos (by omega), Int.toNat_natCast]
  refine sx_i_n_4_3 (pc' := 22) dX0_hear_21 rfl rfl rfl rfl ?_
  refine px_iload_n (i := 3) (pc' := 23) dX0_hear_22 rfl rfl rfl ?_
  refine px_iconst (v := -1) (pc' := 24) dX0_hear_23 rfl (by decide) ?_
  refine px_icmp_ne (tgt := 34) (pc' := 27) dX0_hear_24 (by decide) rfl (fun _ => ?_) (fun q_ => absurd q_ (by rw [i_eq, l_m1]; omega))
  refine px_aload_n (i := 0) (pc' := 35) dX0_hear_34 rfl rfl rfl ?_
  refine pi_getr (pc' := 38) fl_0_29 dX0_hear_35 rfl (by repeat (first | assumption | refine pm_I.up ?_ rfl | refine pm_I.uf ?_ rfl)) rfl rfl ?_
  refine px_iload_n (i := 2) (pc' := 39) dX0_hear_38 rfl rfl rfl ?_
  refine px_iload_n (i := 3) (pc' := 40) dX0_hear_39 rfl rfl rfl ?_
  refine pi_callV (pc' := 43) (c_fits I e5 hv (by omega)) okX2_fits ivX2_fits ml_X0_43 ⟨Nat.le_of_ble_eq_true rfl, Nat.le_of_ble_eq_true rfl⟩ dX0_hear_40 rfl rfl rfl (Nat.le_of_ble_eq_true rfl) (by repeat (first | assumption | refine pm_I.up ?_ rfl | refine pm_I.uf ?_ rfl)) rfl cl_2 pm_le.rf pm_le.rf ?_
  rintro _ _ _ ⟨rfl, rfl, rfl⟩
  refine px_if_eq (tgt := 55) (pc' := 46) dX0_hear_43 (by decide) rfl (fun q_ => absurd q_ (b_n0.mpr (Or.inr q))) (fun _ => ?_)
  refine px_aload_n (i := 0) (pc' := 47) dX0_hear_46 rfl rfl rfl ?_
  refine pi_getr (pc' := 50) fl_0_9 dX0_hear_47 rfl (by repeat (first | assumption | refine pm_I.up ?_ rfl | refine pm_I.uf ?_ rfl)) rfl rfl ?_
  refine px_iload_n (i := 1) (pc' := 51) dX0_hear_50 rfl rfl rfl ?_
  refine px_iconst (v := 0) (pc' := 52) dX0_hear_51 rfl (by decide) ?_
  refine px_iast (pc' := 53) dX0_hear_52 rfl (by first | assumption | (repeat (first | exact pm_up_e rfl | refine pm_up_o (by decide) ?_)) <;> assumption) (vp_in_nI (by omega) (by omega)) ?_
  refine px_iconst (v := 0) (pc' := 54) dX0_hear_53 rfl (by decide) ?_
  rw [hcl]
  exact px_iret dX0_hear_54 rfl rfl (⟨rfl, rfl, rfl⟩)
/-- where it speaks against: as hearAgainst, which way it goes -/
theorem c_hear_a {w d c : Nat} {v e : Int32} {f : Nat → Int32} {Q : Option Value → pm_h → pm_g → Prop} (I : pm_I h g) (e1 : g 3 1 = .int (nI w)) (e2 : g 3 2 = .int (nI d)) (e3 : h 4 = pm_ia 0 144 f) (hw : w ≤ 12) (hd : d ≤ 12) (hc : c < w * d) (e5 : g 5 0 = .int e) (hv : 0 ≤ v.toInt ∧ v.toInt ≤ 255) (hb : 0 ≤ (f c).toInt ∧ (f c).toInt ≤ 255) (q : ¬ (((f c).toInt - v.toInt).natAbs : Int) ≤ e.toInt)
    {r : Value} {h1 : pm_h} {g1 : pm_g} {x : Int32} (hr : r = .int x) (A : pm_Met G mX0_hearAgainst [.ref 11, .int (nI c), .int v, .int (if f c < v then 1 else -1)] z z h g (pm_q r h1 g1)) :
    pm_Met G mX0_hear [.ref 11, .int (nI c), .int v] z z h g (pm_q r h1 g1) := by
  subst hr
  have hwd := m_wd hw hd
  have hci : (nI c).toInt = c := nI_toInt (by omega)
  refine enX0_hear pm_le.rf ?_
  refine px_iload_n (i := 1) (pc' := 1) dX0_hear_0 rfl rfl rfl ?_
  refine px_if_lt (tgt := 11) (pc' := 4) dX0_hear_1 (by decide) rfl (fun q_ => absurd q_ (nI_pos (by omega))) (fun _ => ?_)
  refine px_iload_n (i := 1) (pc' := 5) dX0_hear_4 rfl rfl rfl ?_
  refine px_sipush (v := 144) (pc' := 8) dX0_hear_5 rfl (by decide) ?_
  refine px_icmp_lt (tgt := 13) (pc' := 11) dX0_hear_8 (by decide) rfl (fun _ => ?_) (fun q_ => absurd (nI_lt (b := 144) (by omega) (by omega)) q_)
  refine px_aload_n (i := 0) (pc' := 14) dX0_hear_13 rfl rfl rfl ?_
  refine pi_getr (pc' := 17) fl_0_25 dX0_hear_14 rfl (by repeat (first | assumption | refine pm_I.up ?_ rfl | refine pm_I.uf ?_ rfl)) rfl rfl ?_
  refine px_iload_n (i := 1) (pc' := 18) dX0_hear_17 rfl rfl rfl ?_
  refine pi_callV (pc' := 21) (c_heightOf I e1 e2 e3 hw hd) okX3_heightOf ivX3_heightOf ml_X0_33 ⟨Nat.le_of_ble_eq_true rfl, Nat.le_of_ble_eq_true rfl⟩ dX0_hear_18 rfl rfl rfl (Nat.le_of_ble_eq_true rfl) (by repeat (first | assumption | refine pm_I.up ?_ rfl | refine pm_I.uf ?_ rfl)) rfl cl_3 pm_le.rf pm_le.rf ?_
  rintro _ _ _ ⟨rfl, rfl, rfl⟩
  rw [hci, if_pos (by omega), Int.toNat_natCast]
  refine sx_i_n_4_3 (pc' := 22) dX0_hear_21 rfl rfl rfl rfl ?_
  refine px_iload_n (i := 3) (pc' := 23) dX0_hear_22 rfl rfl rfl ?_
  refine px_iconst (v := -1) (pc' := 24) dX0_hear_23 rfl (by decide) ?_
  refine px_icmp_ne (tgt := 34) (pc' := 27) dX0_hear_24 (by decide) rfl (fun _ => ?_) (fun q_ => absurd q_ (by rw [i_eq, l_m1]; omega))
  refine px_aload_n (i := 0) (pc' := 35) dX0_hear_34 rfl rfl rfl ?_
  refine pi_getr (pc' := 38) fl_0_29 dX0_hear_35 rfl (by repeat (first | assumption | refine pm_I.up ?_ rfl | refine pm_I.uf ?_ rfl)) rfl rfl ?_
  refine px_iload_n (i := 2) (pc' := 39) dX0_hear_38 rfl rfl rfl ?_
  refine px_iload_n (i := 3) (pc' := 40) dX0_hear_39 rfl rfl rfl ?_
  refine pi_callV (pc' := 43) (c_fits I e5 hv (by omega)) okX2_fits ivX2_fits ml_X0_43 ⟨Nat.le_of_ble_eq_true rfl, Nat.le_of_ble_eq_true rfl⟩ dX0_hear_40 rfl rfl rfl (Nat.le_of_ble_eq_true rfl) (by repeat (first | assumption | refine pm_I.up ?_ rfl | refine pm_I.uf ?_ rfl)) rfl cl_2 pm_le.rf pm_le.rf ?_
  rintro _ _ _ ⟨rfl, rfl, rfl⟩
  refine px_if_eq (tgt := 55) (pc' := 46) dX0_hear_43 (by decide) rfl (fun _ => ?_) (fun q_ => absurd (b_0.mpr (by omega)) q_)
  refine px_aload_n (i := 0) (pc' := 56) dX0_hear_55 rfl rfl rfl ?_
  refine px_iload_n (i := 1) (pc' := 57) dX0_hear_56 rfl rfl rfl ?_
  refine px_iload_n (i := 2) (pc' := 58) dX0_hear_57 rfl rfl rfl ?_
  refine px_iload_n (i := 2) (pc' := 59) dX0_hear_58 rfl rfl rfl ?_
  refine px_iload_n (i := 3) (pc' := 60) dX0_hear_59 rfl rfl rfl ?_
  refine px_icmp_le (tgt := 67) (pc' := 63) dX0_hear_60 (by decide) rfl (fun q2 => ?_) (fun q2 => ?_)
  · rw [if_neg (by rw [i_le] at q2; rw [i_lt]; omega)] at A
    refine px_iconst (v := -1) (pc' := 68) dX0_hear_67 rfl (by decide) ?_
    refine pi_callV (pc' := 71) (A) okX0_hearAgainst ivX0_hearAgainst ml_X0_49 ⟨Nat.le_of_ble_eq_true rfl, Nat.le_of_ble_eq_true rfl⟩ dX0_hear_68 rfl rfl rfl (Nat.le_of_ble_eq_true rfl) (by repeat (first | assumption | refine pm_I.up ?_ rfl | refine pm_I.uf ?_ rfl)) rfl cl_0 pm_le.rf pm_le.rf ?_
    rintro _ _ _ ⟨rfl, rfl, rfl⟩
    exact px_iret dX0_hear_71 rfl rfl (⟨rfl, rfl, rfl⟩)
  · rw [if_pos (by rw [i_le] at q2; rw [i_lt]; omega)] at A
    refine px_iconst (v := 1) (pc' := 64) dX0_hear_63 rfl (by decide) ?_
    refine px_goto (tgt := 68) dX0_hear_64 (by decide) ?_
    refine pi_callV (pc' := 71) (A) okX0_hearAgainst ivX0_hearAgainst ml_X0_49 ⟨Nat.le_of_ble_eq_true rfl, Nat.le_of_ble_eq_true rfl⟩ dX0_hear_68 rfl rfl rfl (Nat.le_of_ble_eq_true rfl) (by repeat (first | assumption | refine pm_I.up ?_ rfl | refine pm_I.uf ?_ rfl)) rfl cl_0 pm_le.rf pm_le.rf ?_
    rintro _ _ _ ⟨rfl, rfl, rfl⟩
    exact px_iret dX0_hear_71 rfl rfl (⟨rfl, rfl, rfl⟩)
end CHK
