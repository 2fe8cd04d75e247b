/-! the objects are made: the class' half of what pm_I says; rows at written numbers -/
def pm_tc (a : Nat) : Option Nat := if a < 30 then pm_tag a else none
def pm_rc (a k : Nat) : Option Nat := if a < 30 then pm_ref a k else none
def pm_J (h : pm_h) (g : pm_g) : Prop := (∀ a ci, pm_tc a = some ci → h a = pm_ob ci) ∧ ∀ a k b, pm_rc a k = some b → g a k = .ref b
theorem pm_J.up {h : pm_h} {g : pm_g} {a : Nat} {c : pm_C} (I : pm_J h g) (ha : pm_tc a = none) : pm_J (pm_up h a c) g := by
  refine ⟨fun b ci hb => ?_, I.2⟩
  rw [pm_up_n _ _ (fun e => by rw [e, ha] at hb; cases hb)]
  exact I.1 b ci hb
theorem pm_J.uf {h : pm_h} {g : pm_g} {a k : Nat} {v : Value} (I : pm_J h g) (ha : pm_rc a k = none) : pm_J h (pm_uf g a k v) := by
  refine ⟨I.1, fun b j r hb => ?_⟩
  exact pm_uf_o (fun e => by rw [e.1, e.2, ha] at hb; cases hb) (I.2 b j r hb)
section CONS
variable {G : pm_G} {M : pm_M} {zm : pm_z} {Φ : pm_F} {pc pc' : Nat} {ls st : List Value} {z : pm_z} {h : pm_h} {g : pm_g}
theorem pj_getr {index ci k a b : Nat} (hf : pm_fl (pm_y M).cls index ci k) (hd : decode (pm_cc M) pc = .ok (.getfield index, 3)) (hp : pc + 3 = pc') (I : pm_J h g) (ht : pm_tc a = some ci) (hr : pm_rc a k = some b) (kk : pm_W G M zm Φ pc' ls (.ref b :: st) z h g) : pm_W G M zm Φ pc ls (.ref a :: st) z h g := px_getf hf hd hp (I.1 _ _ ht) (I.2 _ _ _ hr) kk
theorem pj_geti {index ci k a : Nat} {v : Value} (hf : pm_fl (pm_y M).cls index ci k) (hd : decode (pm_cc M) pc = .ok (.getfield index, 3)) (hp : pc + 3 = pc') (I : pm_J h g) (ht : pm_tc a = some ci) (hv : g a k = v) (kk : pm_W G M zm Φ pc' ls (v :: st) z h g) : pm_W G M zm Φ pc ls (.ref a :: st) z h g := px_getf hf hd hp (I.1 _ _ ht) hv kk
theorem pj_puti {index ci k a : Nat} {x : Int32} (hf : pm_fi (pm_y M).cls index ci k) (hd : decode (pm_cc M) pc = .ok (.putfield index, 3)) (hp : pc + 3 = pc') (I : pm_J h g) (ht : pm_tc a = some ci) (kk : pm_W G M zm Φ pc' ls st z h (pm_uf g a k (.int x))) : pm_W G M zm Φ pc ls (.int x :: .ref a :: st) z h g := px_puti hf hd hp (I.1 _ _ ht) kk
theorem pj_callV {M' : pm_M} {index n a ci : Nat} {As stk : List Value} {zm' : pm_z} {Q' : Option Value → pm_h → pm_g → Prop} (hM : pm_Met G M' (.ref a :: As) z zm' h g Q') (hok : pm_ok M' n) (hiv : pm_iv M') (hl : Jvm.Cond.methodLink (pm_y M).cls index (pm_y M') ∈ pm_T) (hrm : pm_rm M' M) (hd : decode (pm_cc M) pc = .ok (.invokevirtual index, 3)) (hp : pc + 3 = pc') (hn : As.length = n) (hst : stk = As.reverse ++ .ref a :: st) (hs : (st.map fun v => v.category).sum ≤ 8) (I : pm_J h g) (ht : pm_tc a = some ci) (hcl : pm_cl ci (pm_y M').cls) (hzz : pm_le z zm') (hzm : pm_le zm' zm) (kk : ∀ r h' g', Q' r h' g' → pm_W G M zm Φ pc' ls (pm_pu r st) zm' h' g') : pm_W G M zm Φ pc ls stk z h g := px_callV hM hok hiv hl hrm hd hp hn hst hs (I.1 _ _ ht) hcl hzz hzm kk
variable {k m c k' m' c' : Nat}
theorem px_newiL {n : Int32} {N : Nat} (hw : Jvm.Cond.arrayClass .int ∈ pm_T) (hd : decode (pm_cc M) pc = .ok (.newarray .int, 2)) (hp : pc + 2 = pc') (hn : ¬ n < 0) (hN : n.toNatClampNeg = N) (hbytes : N * 8 ≤ 536870912) (hz1 : k' ≤ zm.1) (hz2 : m' ≤ zm.2.1) (e1 : k + 1 = k') (e2 : m + N = m') (e3 : c + 1 = c') (kk : pm_W G M zm Φ pc' ls (.ref c :: st) (k', m', c') (pm_up h c (pm_ia 0 N (fun _ => 0))) g) : pm_W G M zm Φ pc ls (.int n :: st) (k, m, c) h g := by
  subst e1 e2 e3
  exact px_newi hw hd hp hn hN hbytes hz1 hz2 kk
theorem px_newbL {n : Int32} {N : Nat} (hw : Jvm.Cond.arrayClass .byte ∈ pm_T) (hd : decode (pm_cc M) pc = .ok (.newarray .byte, 2)) (hp : pc + 2 = pc') (hn : ¬ n < 0) (hN : n.toNatClampNeg = N) (hbytes : N * 8 ≤ 536870912) (hz1 : k' ≤ zm.1) (hz2 : m' ≤ zm.2.1) (e1 : k + 1 = k') (e2 : m + N = m') (e3 : c + 1 = c') (kk : pm_W G M zm Φ pc' ls (.ref c :: st) (k', m', c') (pm_up h c (pm_ia 1 N (fun _ => 0))) g) : pm_W G M zm Φ pc ls (.int n :: st) (k, m, c) h g := by
  subst e1 e2 e3
  exact px_newb hw hd hp hn hN hbytes hz1 hz2 kk
theorem px_newzL {n : Int32} {N : Nat} (hw : Jvm.Cond.arrayClass .boolean ∈ pm_T) (hd : decode (pm_cc M) pc = .ok (.newarray .boolean, 2)) (hp : pc + 2 = pc') (hn : ¬ n < 0) (hN : n.toNatClampNeg = N) (hbytes : N * 8 ≤ 536870912) (hz1 : k' ≤ zm.1) (hz2 : m' ≤ zm.2.1) (e1 : k + 1 = k') (e2 : m + N = m') (e3 : c + 1 = c') (kk : pm_W G M zm Φ pc' ls (.ref c :: st) (k', m', c') (pm_up h c (pm_ia 2 N (fun _ => 0))) g) : pm_W G M zm Φ pc ls (.int n :: st) (k, m, c) h g := by
  subst e1 e2 e3
  exact px_newz hw hd hp hn hN hbytes hz1 hz2 kk
theorem px_newlL {n : Int32} {N : Nat} (hw : Jvm.Cond.arrayClass .long ∈ pm_T) (hd : decode (pm_cc M) pc = .ok (.newarray .long, 2)) (hp : pc + 2 = pc') (hn : ¬ n < 0) (hN : n.toNatClampNeg = N) (hbytes : N * 8 ≤ 536870912) (hz1 : k' ≤ zm.1) (hz2 : m' ≤ zm.2.1) (e1 : k + 1 = k') (e2 : m + N = m') (e3 : c + 1 = c') (kk : pm_W G M zm Φ pc' ls (.ref c :: st) (k', m', c') (pm_up h c (pm_la N (fun _ => 0))) g) : pm_W G M zm Φ pc ls (.int n :: st) (k, m, c) h g := by
  subst e1 e2 e3
  exact px_newl hw hd hp hn hN hbytes hz1 hz2 kk
theorem px_newL {index ci n : Nat} {d : Nat → Value} (hf : pm_nw (pm_y M).cls index ci n d) (hd : decode (pm_cc M) pc = .ok (.new index, 3)) (hp : pc + 3 = pc') (hz1 : k' ≤ zm.1) (hz2 : m' ≤ zm.2.1) (e1 : k + 1 = k') (e2 : m + n = m') (e3 : c + 1 = c') (kk : pm_W G M zm Φ pc' ls (.ref c :: st) (k', m', c') (pm_up h c (pm_ob ci)) (pm_nf g c d)) : pm_W G M zm Φ pc ls (st) (k, m, c) h g := by
  subst e1 e2 e3
  exact px_new hf hd hp hz1 hz2 kk
theorem k_restart {c : Int32} (I : pm_J h g) : pm_Met G mX5_restart [.ref 6, .int c] z z h g (pm_qv h (pm_uf (pm_uf (pm_uf g 6 4 (.int 0)) 6 5 (.int 0)) 6 6 (.int c))) := by
  refine enX5_restart pm_le.rf ?_
  refine px_aload_n (i := 0) (pc' := 1) dX5_restart_0 rfl rfl rfl ?_
  refine px_iconst (v := 0) (pc' := 2) dX5_restart_1 rfl (by decide) ?_
  refine pj_puti (pc' := 5) fi_5_24 dX5_restart_2 rfl (by repeat (first | assumption | refine pm_J.up ?_ rfl | refine pm_J.uf ?_ rfl)) rfl ?_
  refine px_aload_n (i := 0) (pc' := 6) dX5_restart_5 rfl rfl rfl ?_
  refine px_iconst (v := 0) (pc' := 7) dX5_restart_6 rfl (by decide) ?_
  refine pj_puti (pc' := 10) fi_5_28 dX5_restart_7 rfl (by repeat (first | assumption | refine pm_J.up ?_ rfl | refine pm_J.uf ?_ rfl)) rfl ?_
  refine px_aload_n (i := 0) (pc' := 11) dX5_restart_10 rfl rfl rfl ?_
  refine px_iload_n (i := 1) (pc' := 12) dX5_restart_11 rfl rfl rfl ?_
  refine pj_puti (pc' := 15) fi_5_31 dX5_restart_12 rfl (by repeat (first | assumption | refine pm_J.up ?_ rfl | refine pm_J.uf ?_ rfl)) rfl ?_
  exact px_vret dX5_restart_15 rfl rfl (⟨rfl, rfl, rfl⟩)
theorem k_cells {w d : Nat} (I : pm_J h g) (e1 : g 3 1 = .int (nI w)) (e2 : g 3 2 = .int (nI d)) : pm_Met G mX3_cells [.ref 3] z z h g (pm_q (.int (nI (w * d))) h g) := by
  refine enX3_cells pm_le.rf ?_
  refine px_aload_n (i := 0) (pc' := 1) dX3_cells_0 rfl rfl rfl ?_
  refine pj_geti (pc' := 4) fl_3_15 dX3_cells_1 rfl (by repeat (first | assumption | refine pm_J.up ?_ rfl | refine pm_J.uf ?_ rfl)) rfl (by first | assumption | (repeat (first | exact pm_uf_e rfl | refine pm_uf_o (by decide) ?_ | apply pm_uf_o (by decide))) <;> assumption) ?_
  refine px_aload_n (i := 0) (pc' := 5) dX3_cells_4 rfl rfl rfl ?_
  refine pj_geti (pc' := 8) fl_3_19 dX3_cells_5 rfl (by repeat (first | assumption | refine pm_J.up ?_ rfl | refine pm_J.uf ?_ rfl)) rfl (by first | assumption | (repeat (first | exact pm_uf_e rfl | refine pm_uf_o (by decide) ?_ | apply pm_uf_o (by decide))) <;> assumption) ?_
  refine px_imul (pc' := 9) dX3_cells_8 rfl ?_
  rw [pk_mul]
  exact px_iret dX3_cells_9 rfl rfl (⟨rfl, rfl, rfl⟩)
theorem k_has {w d : Nat} {c : Int32} (I : pm_J h g) (e1 : g 3 1 = .int (nI w)) (e2 : g 3 2 = .int (nI d)) (hw : w ≤ 12) (hd : d ≤ 12) : pm_Met G mX3_has [.ref 3, .int c] z z h g (pm_q (.int (if 0 ≤ c.toInt ∧ c.toInt < (w * d : Nat) then 1 else 0)) h g) := by
  have hwd := m_wd hw hd
  have en : (nI (w * d)).toInt = (w * d : Nat) := nI_toInt (by omega)
  refine enX3_has pm_le.rf ?_
  refine px_iload_n (i := 1) (pc' := 1) dX3_has_0 rfl rfl rfl ?_
  refine px_if_lt (tgt := 16) (pc' := 4) dX3_has_1 (by decide) rfl (fun q => ?_) (fun q => ?_)
  · rw [i_lt, i_0] at q
    refine px_iconst (v := 0) (pc' := 17) dX3_has_16 rfl (by decide) ?_
    exact px_zret (ty := .boolean) dX3_has_17 rfl (rfl) rfl (⟨by rw [if_neg (by omega)], rfl, rfl⟩)
  rw [i_lt, i_0] at q
  refine px_iload_n (i := 1) (pc' := 5) dX3_has_4 rfl rfl rfl ?_
  refine px_aload_n (i := 0) (pc' := 6) dX3_has_5 rfl rfl rfl ?_
  refine pj_callV (pc' := 9) (k_cells I e1 e2) okX3_cells ivX3_cells ml_X3_22 ⟨Nat.le_of_ble_eq_true rfl, Nat.le_of_ble_eq_true rfl⟩ dX3_has_6 rfl rfl rfl (Nat.le_of_ble_eq_true rfl) (by repeat (first | assumption | refine pm_J.up ?_ rfl | refine pm_J.uf ?_ rfl)) rfl cl_3 pm_le.rf pm_le.rf ?_
  rintro _ _ _ ⟨rfl, rfl, rfl⟩
  refine px_icmp_ge (tgt := 16) (pc' := 12) dX3_has_9 (by decide) rfl (fun q2 => ?_) (fun q2 => ?_)
  · rw [i_le, en] at q2
    refine px_iconst (v := 0) (pc' := 17) dX3_has_16 rfl (by decide) ?_
    exact px_zret (ty := .boolean) dX3_has_17 rfl (rfl) rfl (⟨by rw [if_neg (by omega)], rfl, rfl⟩)
  · rw [i_le, en] at q2
    refine px_iconst (v := 1) (pc' := 13) dX3_has_12 rfl (by decide) ?_
    refine px_goto (tgt := 17) dX3_has_13 (by decide) ?_
    exact px_zret (ty := .boolean) dX3_has_17 rfl (rfl) rfl (⟨by rw [if_pos (by omega)], rfl, rfl⟩)
theorem k_start {w d : Nat} {o : Int32} {f : Nat → Int64} (I : pm_J h g) (e1 : g 3 1 = .int (nI w)) (e2 : g 3 2 = .int (nI d)) (hw : w ≤ 12) (hd : d ≤ 12) (e : h 16 = pm_la 144 f) :
    pm_Met G mX1_start [.ref 15, .int o] z z h g (pm_qv (pm_up h 16 (pm_la 144 (m_L (m_init (w * d) o)))) (m_rst g o)) := by
  have hwd := m_wd hw hd
  refine enX1_start pm_le.rf ?_
  refine px_aload_n (i := 0) (pc' := 1) dX1_start_0 rfl rfl rfl ?_
  refine pj_getr (pc' := 4) fl_1_30 dX1_start_1 rfl (by repeat (first | assumption | refine pm_J.up ?_ rfl | refine pm_J.uf ?_ rfl)) rfl rfl ?_
  refine px_iload_n (i := 1) (pc' := 5) dX1_start_4 rfl rfl rfl ?_
  refine pj_callV (pc' := 8) (k_restart I) okX5_restart ivX5_restart ml_X1_34 ⟨Nat.le_of_ble_eq_true rfl, Nat.le_of_ble_eq_true rfl⟩ dX1_start_5 rfl rfl rfl (Nat.le_of_ble_eq_true rfl) (by repeat (first | assumption | refine pm_J.up ?_ rfl | refine pm_J.uf ?_ rfl)) rfl cl_5 pm_le.rf pm_le.rf ?_
  rintro _ _ _ ⟨rfl, rfl, rfl⟩
  refine px_iconst (v := 0) (pc' := 9) dX1_start_8 rfl (by decide) ?_
  refine sx_i_n_3_2 (pc' := 10) dX1_start_9 rfl rfl rfl rfl ?_
  have I' : pm_J h (m_rst g o) := by unfold m_rst; exact (by repeat (first | assumption | refine pm_J.up ?_ rfl | refine pm_J.uf ?_ rfl))
  have e1' : m_rst g o 3 1 = .int (nI w) := by unfold m_rst; exact (by first | assumption | (repeat (first | exact pm_uf_e rfl | refine pm_uf_o (by decide) ?_ | apply pm_uf_o (by decide))) <;> assumption)
  have e2' : m_rst g o 3 2 = .int (nI d) := by unfold m_rst; exact (by first | assumption | (repeat (first | exact pm_uf_e rfl | refine pm_uf_o (by decide) ?_ | apply pm_uf_o (by decide))) <;> assumption)
  show pm_W G mX1_start z _ 10 _ _ z h (m_rst g o)
  have loop : ∀ k i : Nat, i + k = 144 → pm_W G mX1_start z (pm_Φ G z (pm_qv (pm_up h 16 (pm_la 144 (m_L (m_init (w * d) o)))) (m_rst g o))) 10 [.ref 15, .int o, .int (nI i)] [] z (pm_up h 16 (pm_la 144 (fun j => if j < i then m_L (m_init (w * d) o) j else f j))) (m_rst g o) := by
    intro k
    induction k with
    | zero =>
      intro i hi
      have : i = 144 := by omega
      subst this
      refine px_iload_n (i := 2) (pc' := 11) dX1_start_10 rfl rfl rfl ?_
      refine px_sipush (v := 144) (pc' := 14) dX1_start_11 rfl (by decide) ?_
      refine px_icmp_ge (tgt := 55) (pc' := 17) dX1_start_14 (by decide) rfl (fun _ => ?_) (fun q_ => absurd (nI_le (a := 144) (by omega) (by omega)) q_)
      refine px_extl (a := 16) (by first | assumption | (repeat (first | exact pm_up_e rfl | refine pm_up_o (by decide) ?_ | apply pm_up_o (by decide))) <;> assumption) (f' := m_L (m_init (w * d) o)) (fun j hj => if_pos hj) ?_
      rw [pm_up_up]
      exact px_vret dX1_start_55 rfl rfl (⟨rfl, rfl, rfl⟩)
    | succ k ih =>
      intro i hi
      have hc : (nI i).toNatClampNeg = i := nI_clamp (by omega)
      have hci : (nI i).toInt = i := nI_toInt (by omega)
      have fin : ∀ x : Int64, x = m_L (m_init (w * d) o) i → pm_W G mX1_start z (pm_Φ G z (pm_qv (pm_up h 16 (pm_la 144 (m_L (m_init (w * d) o)))) (m_rst g o))) 48 [.ref 15, .int o, .int (nI i)] [.long x, .int (nI i), .ref 16] z (pm_up h 16 (pm_la 144 (fun j => if j < i then m_L (m_init (w * d) o) j else f j))) (m_rst g o) := by
        intro x hx
        refine px_last (pc' := 49) dX1_start_48 rfl (by first | assumption | (repeat (first | exact pm_up_e rfl | refine pm_up_o (by decide) ?_ | apply pm_up_o (by decide))) <;> assumption) (vp_in_nI (by omega) (by omega)) ?_
        refine sx_inc_3_2 (w := 1) (pc' := 52) dX1_start_49 rfl rfl (by decide) rfl ?_
        refine px_goto (tgt := 10) dX1_start_52 (by decide) ?_
        rw [nI_1, pm_up_up, hc, updL_fill hx]
        exact ih (i + 1) (by omega)
      refine px_iload_n (i := 2) (pc' := 11) dX1_start_10 rfl rfl rfl ?_
      refine px_sipush (v := 144) (pc' := 14) dX1_start_11 rfl (by decide) ?_
      refine px_icmp_ge (tgt := 55) (pc' := 17) dX1_start_14 (by decide) rfl (fun q_ => absurd q_ (nI_ge (b := 144) (by omega) (by omega))) (fun _ => ?_)
      refine px_aload_n (i := 0) (pc' := 18) dX1_start_17 rfl rfl rfl ?_
      refine pj_getr (pc' := 21) fl_1_9 dX1_start_18 rfl (by repeat (first | assumption | refine pm_J.up ?_ rfl | refine pm_J.uf ?_ rfl)) rfl rfl ?_
      refine px_iload_n (i := 2) (pc' := 22) dX1_start_21 rfl rfl rfl ?_
      refine px_aload_n (i := 0) (pc' := 23) dX1_start_22 rfl rfl rfl ?_
      refine pj_getr (pc' := 26) fl_1_22 dX1_start_23 rfl (by repeat (first | assumption | refine pm_J.up ?_ rfl | refine pm_J.uf ?_ rfl)) rfl rfl ?_
      refine px_iload_n (i := 2) (pc' := 27) dX1_start_26 rfl rfl rfl ?_
      refine pj_callV (pc' := 30) (k_has (by repeat (first | assumption | refine pm_J.up ?_ rfl | refine pm_J.uf ?_ rfl)) e1' e2' hw hd) okX3_has ivX3_has ml_X1_40 ⟨Nat.le_of_ble_eq_true rfl, Nat.le_of_ble_eq_true rfl⟩ dX1_start_27 rfl rfl rfl (Nat.le_of_ble_eq_true rfl) (by repeat (first | assumption | refine pm_J.up ?_ rfl | refine pm_J.uf ?_ rfl)) rfl cl_3 pm_le.rf pm_le.rf ?_
      rintro _ _ _ ⟨rfl, rfl, rfl⟩
      refine px_if_eq (tgt := 47) (pc' := 33) dX1_start_30 (by decide) rfl (fun q => ?_) (fun q => ?_)
      · rw [b_0, hci] at q
        refine px_lconst (v := 0) (pc' := 48) dX1_start_47 rfl (by decide) ?_
        refine fin _ ?_
        show (0 : Int64) = lN (m_init (w * d) o i)
        rw [m_init, if_neg (by omega)]
        exact l64_0
      rw [b_n0, hci] at q
      refine px_iload_n (i := 1) (pc' := 34) dX1_start_33 rfl rfl rfl ?_
      refine px_iconst (v := -1) (pc' := 35) dX1_start_34 rfl (by decide) ?_
      refine px_icmp_eq (tgt := 43) (pc' := 38) dX1_start_35 (by decide) rfl (fun q2 => ?_) (fun q2 => ?_)
      · refine px_lconst (v := 1) (pc' := 44) dX1_start_43 rfl (by decide) ?_
        refine px_goto (tgt := 48) dX1_start_44 (by decide) ?_
        refine fin _ ?_
        show (1 : Int64) = lN (m_init (w * d) o i)
        rw [m_init, if_pos ⟨by omega, Or.inl q2⟩]
        exact l64_1
      refine px_iload_n (i := 2) (pc' := 39) dX1_start_38 rfl rfl rfl ?_
      refine px_iload_n (i := 1) (pc' := 40) dX1_start_39 rfl rfl rfl ?_
      refine px_icmp_ne (tgt := 47) (pc' := 43) dX1_start_40 (by decide) rfl (fun q3 => ?_) (fun q3 => ?_)
      · refine px_lconst (v := 0) (pc' := 48) dX1_start_47 rfl (by decide) ?_
        refine fin _ ?_
        show (0 : Int64) = lN (m_init (w * d) o i)
        rw [m_init, if_neg (fun hh => hh.2.elim q2 q3)]
        exact l64_0
      · refine px_lconst (v := 1) (pc' := 44) dX1_start_43 rfl (by decide) ?_
        refine px_goto (tgt := 48) dX1_start_44 (by decide) ?_
        refine fin _ ?_
        show (1 : Int64) = lN (m_init (w * d) o i)
        rw [m_init, if_pos ⟨by omega, Or.inr q3⟩]
        exact l64_1
  have := loop 144 0 rfl
  rw [fill_0, pm_up_self e] at this
  exact this
theorem k_X6_init (o : h 1 = pm_ob 6) : pm_Met G mX6_init [.ref 1] (2, 10, 2) (3, 170, 3) h g (pm_qv (pm_up h 2 (pm_ia 1 160 (fun _ => 0))) (pm_uf (pm_uf g 1 0 (.ref 2)) 1 1 (.int 0))) := by
  refine enX6_init (⟨Nat.le_of_ble_eq_true rfl, Nat.le_of_ble_eq_true rfl⟩) ?_
  refine px_aload_n (i := 0) (pc' := 1) dX6_init_0 rfl rfl rfl ?_
  refine px_oi (pc' := 4) ml_X6_3 wd_oi_i wd_oi_c dX6_init_1 rfl (Nat.le_of_ble_eq_true rfl) (Nat.le_of_ble_eq_true rfl) ?_
  refine px_aload_n (i := 0) (pc' := 5) dX6_init_4 rfl rfl rfl ?_
  refine px_sipush (v := 160) (pc' := 8) dX6_init_5 rfl (by decide) ?_
  refine px_newbL (N := 160) (k' := 3) (m' := 170) (c' := 3) (pc' := 10) wd_arr_b dX6_init_8 rfl (by decide) rfl (by decide) (Nat.le_of_ble_eq_true rfl) (Nat.le_of_ble_eq_true rfl) rfl rfl rfl ?_
  refine px_putr (pc' := 13) ff_6_9 rfl dX6_init_10 rfl (by first | assumption | (repeat (first | exact pm_up_e rfl | refine pm_up_o (by decide) ?_ | apply pm_up_o (by decide))) <;> assumption) ?_
  refine px_aload_n (i := 0) (pc' := 14) dX6_init_13 rfl rfl rfl ?_
  refine px_iconst (v := 0) (pc' := 15) dX6_init_14 rfl (by decide) ?_
  refine px_puti (pc' := 18) fi_6_15 dX6_init_15 rfl (by first | assumption | (repeat (first | exact pm_up_e rfl | refine pm_up_o (by decide) ?_ | apply pm_up_o (by decide))) <;> assumption) ?_
  exact px_vret dX6_init_18 rfl rfl (⟨rfl, rfl, rfl⟩)
theorem k_X3_init (o : h 3 = pm_ob 3) : pm_Met G mX3_init [.ref 3] (4, 173, 4) (5, 317, 5) h g (pm_qv (pm_up h 4 (pm_ia 0 144 (fun _ => -1))) (pm_uf (pm_uf (pm_uf g 3 0 (.ref 4)) 3 1 (.int 2)) 3 2 (.int 2))) := by
  refine enX3_init (⟨Nat.le_of_ble_eq_true rfl, Nat.le_of_ble_eq_true rfl⟩) ?_
  refine px_aload_n (i := 0) (pc' := 1) dX3_init_0 rfl rfl rfl ?_
  refine px_oi (pc' := 4) ml_X3_3 wd_oi_i wd_oi_c dX3_init_1 rfl (Nat.le_of_ble_eq_true rfl) (Nat.le_of_ble_eq_true rfl) ?_
  refine px_aload_n (i := 0) (pc' := 5) dX3_init_4 rfl rfl rfl ?_
  refine px_sipush (v := 144) (pc' := 8) dX3_init_5 rfl (by decide) ?_
  refine px_newiL (N := 144) (k' := 5) (m' := 317) (c' := 5) (pc' := 10) wd_arr_i dX3_init_8 rfl (by decide) rfl (by decide) (Nat.le_of_ble_eq_true rfl) (Nat.le_of_ble_eq_true rfl) rfl rfl rfl ?_
  refine px_putr (pc' := 13) ff_3_9 rfl dX3_init_10 rfl (by first | assumption | (repeat (first | exact pm_up_e rfl | refine pm_up_o (by decide) ?_ | apply pm_up_o (by decide))) <;> assumption) ?_
  refine px_aload_n (i := 0) (pc' := 14) dX3_init_13 rfl rfl rfl ?_
  refine px_iconst (v := 2) (pc' := 15) dX3_init_14 rfl (by decide) ?_
  refine px_puti (pc' := 18) fi_3_15 dX3_init_15 rfl (by first | assumption | (repeat (first | exact pm_up_e rfl | refine pm_up_o (by decide) ?_ | apply pm_up_o (by decide))) <;> assumption) ?_
  refine px_aload_n (i := 0) (pc' := 19) dX3_init_18 rfl rfl rfl ?_
  refine px_iconst (v := 2) (pc' := 20) dX3_init_19 rfl (by decide) ?_
  refine px_puti (pc' := 23) fi_3_19 dX3_init_20 rfl (by first | assumption | (repeat (first | exact pm_up_e rfl | refine pm_up_o (by decide) ?_ | apply pm_up_o (by decide))) <;> assumption) ?_
  refine px_iconst (v := 0) (pc' := 24) dX3_init_23 rfl (by decide) ?_
  refine sx_i_n_2_1 (pc' := 25) dX3_init_24 rfl rfl rfl rfl ?_
  have loop : ∀ k i : Nat, i + k = 144 → pm_W G mX3_init (5, 317, 5) (pm_Φ G (5, 317, 5) (pm_qv (pm_up h 4 (pm_ia 0 144 (fun _ => -1))) (pm_uf (pm_uf (pm_uf g 3 0 (.ref 4)) 3 1 (.int 2)) 3 2 (.int 2)))) 25 [.ref 3, .int (nI i)] [] (5, 317, 5) (pm_up h 4 (pm_ia 0 144 (fun j => if j < i then -1 else 0))) (pm_uf (pm_uf (pm_uf g 3 0 (.ref 4)) 3 1 (.int 2)) 3 2 (.int 2)) := by
    intro k
    induction k with
    | zero =>
      intro i hi
      obtain rfl : i = 144 := by omega
      refine px_iload_n (i := 1) (pc' := 26) dX3_init_25 rfl rfl rfl ?_
      refine px_sipush (v := 144) (pc' := 29) dX3_init_26 rfl (by decide) ?_
      refine px_icmp_ge (tgt := 45) (pc' := 32) dX3_init_29 (by decide) rfl (fun _ => ?_) (fun q_ => absurd (nI_le (a := 144) (by omega) (by omega)) q_)
      refine px_exti (a := 4) (pm_up_s _ _ _) (f' := fun _ => -1) (fun j hj => if_pos hj) ?_
      rw [pm_up_up]
      exact px_vret dX3_init_45 rfl rfl (⟨rfl, rfl, rfl⟩)
    | succ k ih =>
      intro i hi
      refine px_iload_n (i := 1) (pc' := 26) dX3_init_25 rfl rfl rfl ?_
      refine px_sipush (v := 144) (pc' := 29) dX3_init_26 rfl (by decide) ?_
      refine px_icmp_ge (tgt := 45) (pc' := 32) dX3_init_29 (by decide) rfl (fun q_ => absurd q_ (nI_ge (b := 144) (by omega) (by omega))) (fun _ => ?_)
      refine px_aload_n (i := 0) (pc' := 33) dX3_init_32 rfl rfl rfl ?_
      refine px_getf (pc' := 36) fl_3_9 dX3_init_33 rfl (by first | assumption | (repeat (first | exact pm_up_e rfl | refine pm_up_o (by decide) ?_ | apply pm_up_o (by decide))) <;> assumption) (by first | assumption | (repeat (first | exact pm_uf_e rfl | exact pm_nf_e rfl | refine pm_uf_o (by decide) ?_ | refine pm_nf_o (by decide) ?_ | apply pm_uf_o (by decide) | apply pm_nf_o (by decide))) <;> assumption) ?_
      refine px_iload_n (i := 1) (pc' := 37) dX3_init_36 rfl rfl rfl ?_
      refine px_iconst (v := -1) (pc' := 38) dX3_init_37 rfl (by decide) ?_
      refine px_iast (pc' := 39) dX3_init_38 rfl (by first | assumption | (repeat (first | exact pm_up_e rfl | refine pm_up_o (by decide) ?_ | apply pm_up_o (by decide))) <;> assumption) (vp_in_nI (by omega) (by omega)) ?_
      refine sx_inc_2_1 (w := 1) (pc' := 42) dX3_init_39 rfl rfl (by decide) rfl ?_
      refine px_goto (tgt := 25) dX3_init_42 (by decide) ?_
      rw [nI_1, nI_clamp (by omega), pm_up_up, upd_fill (a := fun _ => -1) (f := fun _ => 0) rfl]
      exact ih (i + 1) (by omega)
  have := loop 144 0 (by omega)
  rw [fill_0 (a := fun _ => (-1 : Int32)) (f := fun _ => 0)] at this
  exact this
theorem k_X2_init (o : h 5 = pm_ob 2) : pm_Met G mX2_init [.ref 5] (6, 320, 6) (6, 320, 6) h g (pm_qv h (pm_uf (pm_uf (pm_uf g 5 0 (.int 0)) 5 1 (.int 1)) 5 2 (.int 0))) := by
  refine enX2_init (⟨Nat.le_of_ble_eq_true rfl, Nat.le_of_ble_eq_true rfl⟩) ?_
  refine px_aload_n (i := 0) (pc' := 1) dX2_init_0 rfl rfl rfl ?_
  refine px_oi (pc' := 4) ml_X2_3 wd_oi_i wd_oi_c dX2_init_1 rfl (Nat.le_of_ble_eq_true rfl) (Nat.le_of_ble_eq_true rfl) ?_
  refine px_aload_n (i := 0) (pc' := 5) dX2_init_4 rfl rfl rfl ?_
  refine px_iconst (v := 0) (pc' := 6) dX2_init_5 rfl (by decide) ?_
  refine px_puti (pc' := 9) fi_2_9 dX2_init_6 rfl (by first | assumption | (repeat (first | exact pm_up_e rfl | refine pm_up_o (by decide) ?_ | apply pm_up_o (by decide))) <;> assumption) ?_
  refine px_aload_n (i := 0) (pc' := 10) dX2_init_9 rfl rfl rfl ?_
  refine px_iconst (v := 1) (pc' := 11) dX2_init_10 rfl (by decide) ?_
  refine px_puti (pc' := 14) fi_2_15 dX2_init_11 rfl (by first | assumption | (repeat (first | exact pm_up_e rfl | refine pm_up_o (by decide) ?_ | apply pm_up_o (by decide))) <;> assumption) ?_
  refine px_aload_n (i := 0) (pc' := 15) dX2_init_14 rfl rfl rfl ?_
  refine px_iconst (v := 0) (pc' := 16) dX2_init_15 rfl (by decide) ?_
  refine px_puti (pc' := 19) fi_2_18 dX2_init_16 rfl (by first | assumption | (repeat (first | exact pm_up_e rfl | refine pm_up_o (by decide) ?_ | apply pm_up_o (by decide))) <;> assumption) ?_
  exact px_vret dX2_init_19 rfl rfl (⟨rfl, rfl, rfl⟩)
theorem k_X5_init (o : h 6 = pm_ob 5) : pm_Met G mX5_init [.ref 6] (7, 327, 7) (11, 431, 11) h g (pm_qv (pm_up (pm_up (pm_up (pm_up h 7 (pm_ia 0 12 (fun _ => 0))) 8 (pm_ia 0 12 (fun _ => 0))) 9 (pm_ia 0 40 (fun _ => 0))) 10 (pm_ia 0 40 (fun _ => 0))) (pm_uf (pm_uf (pm_uf (pm_uf (pm_uf (pm_uf (pm_uf g 6 0 (.ref 7)) 6 1 (.ref 8)) 6 2 (.ref 9)) 6 3 (.ref 10)) 6 4 (.int 0)) 6 5 (.int 0)) 6 6 (.int (-1)))) := by
  refine enX5_init (⟨Nat.le_of_ble_eq_true rfl, Nat.le_of_ble_eq_true rfl⟩) ?_
  refine px_aload_n (i := 0) (pc' := 1) dX5_init_0 rfl rfl rfl ?_
  refine px_oi (pc' := 4) ml_X5_3 wd_oi_i wd_oi_c dX5_init_1 rfl (Nat.le_of_ble_eq_true rfl) (Nat.le_of_ble_eq_true rfl) ?_
  refine px_aload_n (i := 0) (pc' := 5) dX5_init_4 rfl rfl rfl ?_
  refine px_bipush (v := 12) (pc' := 7) dX5_init_5 rfl (by decide) ?_
  refine px_newiL (N := 12) (k' := 8) (m' := 339) (c' := 8) (pc' := 9) wd_arr_i dX5_init_7 rfl (by decide) rfl (by decide) (Nat.le_of_ble_eq_true rfl) (Nat.le_of_ble_eq_true rfl) rfl rfl rfl ?_
  refine px_putr (pc' := 12) ff_5_9 rfl dX5_init_9 rfl (by first | assumption | (repeat (first | exact pm_up_e rfl | refine pm_up_o (by decide) ?_ | apply pm_up_o (by decide))) <;> assumption) ?_
  refine px_aload_n (i := 0) (pc' := 13) dX5_init_12 rfl rfl rfl ?_
  refine px_bipush (v := 12) (pc' := 15) dX5_init_13 rfl (by decide) ?_
  refine px_newiL (N := 12) (k' := 9) (m' := 351) (c' := 9) (pc' := 17) wd_arr_i dX5_init_15 rfl (by decide) rfl (by decide) (Nat.le_of_ble_eq_true rfl) (Nat.le_of_ble_eq_true rfl) rfl rfl rfl ?_
  refine px_putr (pc' := 20) ff_5_15 rfl dX5_init_17 rfl (by first | assumption | (repeat (first | exact pm_up_e rfl | refine pm_up_o (by decide) ?_ | apply pm_up_o (by decide))) <;> assumption) ?_
  refine px_aload_n (i := 0) (pc' := 21) dX5_init_20 rfl rfl rfl ?_
  refine px_bipush (v := 40) (pc' := 23) dX5_init_21 rfl (by decide) ?_
  refine px_newiL (N := 40) (k' := 10) (m' := 391) (c' := 10) (pc' := 25) wd_arr_i dX5_init_23 rfl (by decide) rfl (by decide) (Nat.le_of_ble_eq_true rfl) (Nat.le_of_ble_eq_true rfl) rfl rfl rfl ?_
  refine px_putr (pc' := 28) ff_5_18 rfl dX5_init_25 rfl (by first | assumption | (repeat (first | exact pm_up_e rfl | refine pm_up_o (by decide) ?_ | apply pm_up_o (by decide))) <;> assumption) ?_
  refine px_aload_n (i := 0) (pc' := 29) dX5_init_28 rfl rfl rfl ?_
  refine px_bipush (v := 40) (pc' := 31) dX5_init_29 rfl (by decide) ?_
  refine px_newiL (N := 40) (k' := 11) (m' := 431) (c' := 11) (pc' := 33) wd_arr_i dX5_init_31 rfl (by decide) rfl (by decide) (Nat.le_of_ble_eq_true rfl) (Nat.le_of_ble_eq_true rfl) rfl rfl rfl ?_
  refine px_putr (pc' := 36) ff_5_21 rfl dX5_init_33 rfl (by first | assumption | (repeat (first | exact pm_up_e rfl | refine pm_up_o (by decide) ?_ | apply pm_up_o (by decide))) <;> assumption) ?_
  refine px_aload_n (i := 0) (pc' := 37) dX5_init_36 rfl rfl rfl ?_
  refine px_iconst (v := 0) (pc' := 38) dX5_init_37 rfl (by decide) ?_
  refine px_puti (pc' := 41) fi_5_24 dX5_init_38 rfl (by first | assumption | (repeat (first | exact pm_up_e rfl | refine pm_up_o (by decide) ?_ | apply pm_up_o (by decide))) <;> assumption) ?_
  refine px_aload_n (i := 0) (pc' := 42) dX5_init_41 rfl rfl rfl ?_
  refine px_iconst (v := 0) (pc' := 43) dX5_init_42 rfl (by decide) ?_
  refine px_puti (pc' := 46) fi_5_28 dX5_init_43 rfl (by first | assumption | (repeat (first | exact pm_up_e rfl | refine pm_up_o (by decide) ?_ | apply pm_up_o (by decide))) <;> assumption) ?_
  refine px_aload_n (i := 0) (pc' := 47) dX5_init_46 rfl rfl rfl ?_
  refine px_iconst (v := -1) (pc' := 48) dX5_init_47 rfl (by decide) ?_
  refine px_puti (pc' := 51) fi_5_31 dX5_init_48 rfl (by first | assumption | (repeat (first | exact pm_up_e rfl | refine pm_up_o (by decide) ?_ | apply pm_up_o (by decide))) <;> assumption) ?_
  exact px_vret dX5_init_51 rfl rfl (⟨rfl, rfl, rfl⟩)
theorem k_X0_init (o : h 11 = pm_ob 0) : pm_Met G mX0_init [.ref 11, .ref 3, .ref 5] (12, 437, 12) (15, 869, 15) h g (pm_qv (pm_up (pm_up (pm_up h 12 (pm_ia 0 144 (fun _ => 0))) 13 (pm_ia 0 144 (fun _ => 0))) 14 (pm_ia 0 144 (fun _ => 0))) (pm_uf (pm_uf (pm_uf (pm_uf (pm_uf (pm_uf g 11 2 (.ref 12)) 11 3 (.ref 13)) 11 4 (.ref 14)) 11 5 (.int 0)) 11 0 (.ref 3)) 11 1 (.ref 5))) := by
  refine enX0_init (⟨Nat.le_of_ble_eq_true rfl, Nat.le_of_ble_eq_true rfl⟩) ?_
  refine px_aload_n (i := 0) (pc' := 1) dX0_init_0 rfl rfl rfl ?_
  refine px_oi (pc' := 4) ml_X0_3 wd_oi_i wd_oi_c dX0_init_1 rfl (Nat.le_of_ble_eq_true rfl) (Nat.le_of_ble_eq_true rfl) ?_
  refine px_aload_n (i := 0) (pc' := 5) dX0_init_4 rfl rfl rfl ?_
  refine px_sipush (v := 144) (pc' := 8) dX0_init_5 rfl (by decide) ?_
  refine px_newiL (N := 144) (k' := 13) (m' := 581) (c' := 13) (pc' := 10) wd_arr_i dX0_init_8 rfl (by decide) rfl (by decide) (Nat.le_of_ble_eq_true rfl) (Nat.le_of_ble_eq_true rfl) rfl rfl rfl ?_
  refine px_putr (pc' := 13) ff_0_9 rfl dX0_init_10 rfl (by first | assumption | (repeat (first | exact pm_up_e rfl | refine pm_up_o (by decide) ?_ | apply pm_up_o (by decide))) <;> assumption) ?_
  refine px_aload_n (i := 0) (pc' := 14) dX0_init_13 rfl rfl rfl ?_
  refine px_sipush (v := 144) (pc' := 17) dX0_init_14 rfl (by decide) ?_
  refine px_newiL (N := 144) (k' := 14) (m' := 725) (c' := 14) (pc' := 19) wd_arr_i dX0_init_17 rfl (by decide) rfl (by decide) (Nat.le_of_ble_eq_true rfl) (Nat.le_of_ble_eq_true rfl) rfl rfl rfl ?_
  refine px_putr (pc' := 22) ff_0_15 rfl dX0_init_19 rfl (by first | assumption | (repeat (first | exact pm_up_e rfl | refine pm_up_o (by decide) ?_ | apply pm_up_o (by decide))) <;> assumption) ?_
  refine px_aload_n (i := 0) (pc' := 23) dX0_init_22 rfl rfl rfl ?_
  refine px_sipush (v := 144) (pc' := 26) dX0_init_23 rfl (by decide) ?_
  refine px_newiL (N := 144) (k' := 15) (m' := 869) (c' := 15) (pc' := 28) wd_arr_i dX0_init_26 rfl (by decide) rfl (by decide) (Nat.le_of_ble_eq_true rfl) (Nat.le_of_ble_eq_true rfl) rfl rfl rfl ?_
  refine px_putr (pc' := 31) ff_0_18 rfl dX0_init_28 rfl (by first | assumption | (repeat (first | exact pm_up_e rfl | refine pm_up_o (by decide) ?_ | apply pm_up_o (by decide))) <;> assumption) ?_
  refine px_aload_n (i := 0) (pc' := 32) dX0_init_31 rfl rfl rfl ?_
  refine px_iconst (v := 0) (pc' := 33) dX0_init_32 rfl (by decide) ?_
  refine px_puti (pc' := 36) fi_0_21 dX0_init_33 rfl (by first | assumption | (repeat (first | exact pm_up_e rfl | refine pm_up_o (by decide) ?_ | apply pm_up_o (by decide))) <;> assumption) ?_
  refine px_aload_n (i := 0) (pc' := 37) dX0_init_36 rfl rfl rfl ?_
  refine px_aload_n (i := 1) (pc' := 38) dX0_init_37 rfl rfl rfl ?_
  refine px_putr (pc' := 41) ff_0_25 rfl dX0_init_38 rfl (by first | assumption | (repeat (first | exact pm_up_e rfl | refine pm_up_o (by decide) ?_ | apply pm_up_o (by decide))) <;> assumption) ?_
  refine px_aload_n (i := 0) (pc' := 42) dX0_init_41 rfl rfl rfl ?_
  refine px_aload_n (i := 2) (pc' := 43) dX0_init_42 rfl rfl rfl ?_
  refine px_putr (pc' := 46) ff_0_29 rfl dX0_init_43 rfl (by first | assumption | (repeat (first | exact pm_up_e rfl | refine pm_up_o (by decide) ?_ | apply pm_up_o (by decide))) <;> assumption) ?_
  exact px_vret dX0_init_46 rfl rfl (⟨rfl, rfl, rfl⟩)
theorem k_X1_init (o : h 15 = pm_ob 1) : pm_Met G mX1_init [.ref 15, .ref 3, .ref 5, .ref 6] (16, 875, 16) (18, 1163, 18) h g (pm_qv (pm_up (pm_up h 16 (pm_la 144 (fun _ => 0))) 17 (pm_la 144 (fun _ => 0))) (pm_uf (pm_uf (pm_uf (pm_uf (pm_uf (pm_uf g 15 3 (.ref 16)) 15 4 (.ref 17)) 15 5 (.int 0)) 15 0 (.ref 3)) 15 1 (.ref 5)) 15 2 (.ref 6))) := by
  refine enX1_init (⟨Nat.le_of_ble_eq_true rfl, Nat.le_of_ble_eq_true rfl⟩) ?_
  refine px_aload_n (i := 0) (pc' := 1) dX1_init_0 rfl rfl rfl ?_
  refine px_oi (pc' := 4) ml_X1_3 wd_oi_i wd_oi_c dX1_init_1 rfl (Nat.le_of_ble_eq_true rfl) (Nat.le_of_ble_eq_true rfl) ?_
  refine px_aload_n (i := 0) (pc' := 5) dX1_init_4 rfl rfl rfl ?_
  refine px_sipush (v := 144) (pc' := 8) dX1_init_5 rfl (by decide) ?_
  refine px_newlL (N := 144) (k' := 17) (m' := 1019) (c' := 17) (pc' := 10) wd_arr_l dX1_init_8 rfl (by decide) rfl (by decide) (Nat.le_of_ble_eq_true rfl) (Nat.le_of_ble_eq_true rfl) rfl rfl rfl ?_
  refine px_putr (pc' := 13) ff_1_9 rfl dX1_init_10 rfl (by first | assumption | (repeat (first | exact pm_up_e rfl | refine pm_up_o (by decide) ?_ | apply pm_up_o (by decide))) <;> assumption) ?_
  refine px_aload_n (i := 0) (pc' := 14) dX1_init_13 rfl rfl rfl ?_
  refine px_sipush (v := 144) (pc' := 17) dX1_init_14 rfl (by decide) ?_
  refine px_newlL (N := 144) (k' := 18) (m' := 1163) (c' := 18) (pc' := 19) wd_arr_l dX1_init_17 rfl (by decide) rfl (by decide) (Nat.le_of_ble_eq_true rfl) (Nat.le_of_ble_eq_true rfl) rfl rfl rfl ?_
  refine px_putr (pc' := 22) ff_1_15 rfl dX1_init_19 rfl (by first | assumption | (repeat (first | exact pm_up_e rfl | refine pm_up_o (by decide) ?_ | apply pm_up_o (by decide))) <;> assumption) ?_
  refine px_aload_n (i := 0) (pc' := 23) dX1_init_22 rfl rfl rfl ?_
  refine px_iconst (v := 0) (pc' := 24) dX1_init_23 rfl (by decide) ?_
  refine px_puti (pc' := 27) fi_1_18 dX1_init_24 rfl (by first | assumption | (repeat (first | exact pm_up_e rfl | refine pm_up_o (by decide) ?_ | apply pm_up_o (by decide))) <;> assumption) ?_
  refine px_aload_n (i := 0) (pc' := 28) dX1_init_27 rfl rfl rfl ?_
  refine px_aload_n (i := 1) (pc' := 29) dX1_init_28 rfl rfl rfl ?_
  refine px_putr (pc' := 32) ff_1_22 rfl dX1_init_29 rfl (by first | assumption | (repeat (first | exact pm_up_e rfl | refine pm_up_o (by decide) ?_ | apply pm_up_o (by decide))) <;> assumption) ?_
  refine px_aload_n (i := 0) (pc' := 33) dX1_init_32 rfl rfl rfl ?_
  refine px_aload_n (i := 2) (pc' := 34) dX1_init_33 rfl rfl rfl ?_
  refine px_putr (pc' := 37) ff_1_26 rfl dX1_init_34 rfl (by first | assumption | (repeat (first | exact pm_up_e rfl | refine pm_up_o (by decide) ?_ | apply pm_up_o (by decide))) <;> assumption) ?_
  refine px_aload_n (i := 0) (pc' := 38) dX1_init_37 rfl rfl rfl ?_
  refine px_aload_n (i := 3) (pc' := 39) dX1_init_38 rfl rfl rfl ?_
  refine px_putr (pc' := 42) ff_1_30 rfl dX1_init_39 rfl (by first | assumption | (repeat (first | exact pm_up_e rfl | refine pm_up_o (by decide) ?_ | apply pm_up_o (by decide))) <;> assumption) ?_
  exact px_vret dX1_init_42 rfl rfl (⟨rfl, rfl, rfl⟩)
theorem k_X4_init (o : h 18 = pm_ob 4) : pm_Met G mX4_init [.ref 18, .ref 3, .ref 5, .ref 6] (19, 1173, 19) (25, 3490, 25) h g (pm_qv (pm_up (pm_up (pm_up (pm_up (pm_up (pm_up h 19 (pm_ia 0 144 (fun _ => 0))) 20 (pm_la 144 (fun _ => 0))) 21 (pm_ia 0 144 (fun _ => 0))) 22 (pm_la 144 (fun _ => 0))) 23 (pm_ia 0 1728 (fun _ => 0))) 24 (pm_ia 0 13 (fun _ => 0))) (pm_uf (pm_uf (pm_uf (pm_uf (pm_uf (pm_uf (pm_uf (pm_uf (pm_uf (pm_uf g 18 3 (.ref 19)) 18 4 (.ref 20)) 18 5 (.ref 21)) 18 6 (.ref 22)) 18 7 (.ref 23)) 18 8 (.ref 24)) 18 9 (.int 0)) 18 0 (.ref 3)) 18 1 (.ref 5)) 18 2 (.ref 6))) := by
  refine enX4_init (⟨Nat.le_of_ble_eq_true rfl, Nat.le_of_ble_eq_true rfl⟩) ?_
  refine px_aload_n (i := 0) (pc' := 1) dX4_init_0 rfl rfl rfl ?_
  refine px_oi (pc' := 4) ml_X4_3 wd_oi_i wd_oi_c dX4_init_1 rfl (Nat.le_of_ble_eq_true rfl) (Nat.le_of_ble_eq_true rfl) ?_
  refine px_aload_n (i := 0) (pc' := 5) dX4_init_4 rfl rfl rfl ?_
  refine px_sipush (v := 144) (pc' := 8) dX4_init_5 rfl (by decide) ?_
  refine px_newiL (N := 144) (k' := 20) (m' := 1317) (c' := 20) (pc' := 10) wd_arr_i dX4_init_8 rfl (by decide) rfl (by decide) (Nat.le_of_ble_eq_true rfl) (Nat.le_of_ble_eq_true rfl) rfl rfl rfl ?_
  refine px_putr (pc' := 13) ff_4_9 rfl dX4_init_10 rfl (by first | assumption | (repeat (first | exact pm_up_e rfl | refine pm_up_o (by decide) ?_ | apply pm_up_o (by decide))) <;> assumption) ?_
  refine px_aload_n (i := 0) (pc' := 14) dX4_init_13 rfl rfl rfl ?_
  refine px_sipush (v := 144) (pc' := 17) dX4_init_14 rfl (by decide) ?_
  refine px_newlL (N := 144) (k' := 21) (m' := 1461) (c' := 21) (pc' := 19) wd_arr_l dX4_init_17 rfl (by decide) rfl (by decide) (Nat.le_of_ble_eq_true rfl) (Nat.le_of_ble_eq_true rfl) rfl rfl rfl ?_
  refine px_putr (pc' := 22) ff_4_15 rfl dX4_init_19 rfl (by first | assumption | (repeat (first | exact pm_up_e rfl | refine pm_up_o (by decide) ?_ | apply pm_up_o (by decide))) <;> assumption) ?_
  refine px_aload_n (i := 0) (pc' := 23) dX4_init_22 rfl rfl rfl ?_
  refine px_sipush (v := 144) (pc' := 26) dX4_init_23 rfl (by decide) ?_
  refine px_newiL (N := 144) (k' := 22) (m' := 1605) (c' := 22) (pc' := 28) wd_arr_i dX4_init_26 rfl (by decide) rfl (by decide) (Nat.le_of_ble_eq_true rfl) (Nat.le_of_ble_eq_true rfl) rfl rfl rfl ?_
  refine px_putr (pc' := 31) ff_4_19 rfl dX4_init_28 rfl (by first | assumption | (repeat (first | exact pm_up_e rfl | refine pm_up_o (by decide) ?_ | apply pm_up_o (by decide))) <;> assumption) ?_
  refine px_aload_n (i := 0) (pc' := 32) dX4_init_31 rfl rfl rfl ?_
  refine px_sipush (v := 144) (pc' := 35) dX4_init_32 rfl (by decide) ?_
  refine px_newlL (N := 144) (k' := 23) (m' := 1749) (c' := 23) (pc' := 37) wd_arr_l dX4_init_35 rfl (by decide) rfl (by decide) (Nat.le_of_ble_eq_true rfl) (Nat.le_of_ble_eq_true rfl) rfl rfl rfl ?_
  refine px_putr (pc' := 40) ff_4_22 rfl dX4_init_37 rfl (by first | assumption | (repeat (first | exact pm_up_e rfl | refine pm_up_o (by decide) ?_ | apply pm_up_o (by decide))) <;> assumption) ?_
  refine px_aload_n (i := 0) (pc' := 41) dX4_init_40 rfl rfl rfl ?_
  refine px_sipush (v := 1728) (pc' := 44) dX4_init_41 rfl (by decide) ?_
  refine px_newiL (N := 1728) (k' := 24) (m' := 3477) (c' := 24) (pc' := 46) wd_arr_i dX4_init_44 rfl (by decide) rfl (by decide) (Nat.le_of_ble_eq_true rfl) (Nat.le_of_ble_eq_true rfl) rfl rfl rfl ?_
  refine px_putr (pc' := 49) ff_4_25 rfl dX4_init_46 rfl (by first | assumption | (repeat (first | exact pm_up_e rfl | refine pm_up_o (by decide) ?_ | apply pm_up_o (by decide))) <;> assumption) ?_
  refine px_aload_n (i := 0) (pc' := 50) dX4_init_49 rfl rfl rfl ?_
  refine px_bipush (v := 13) (pc' := 52) dX4_init_50 rfl (by decide) ?_
  refine px_newiL (N := 13) (k' := 25) (m' := 3490) (c' := 25) (pc' := 54) wd_arr_i dX4_init_52 rfl (by decide) rfl (by decide) (Nat.le_of_ble_eq_true rfl) (Nat.le_of_ble_eq_true rfl) rfl rfl rfl ?_
  refine px_putr (pc' := 57) ff_4_28 rfl dX4_init_54 rfl (by first | assumption | (repeat (first | exact pm_up_e rfl | refine pm_up_o (by decide) ?_ | apply pm_up_o (by decide))) <;> assumption) ?_
  refine px_aload_n (i := 0) (pc' := 58) dX4_init_57 rfl rfl rfl ?_
  refine px_iconst (v := 0) (pc' := 59) dX4_init_58 rfl (by decide) ?_
  refine px_puti (pc' := 62) fi_4_31 dX4_init_59 rfl (by first | assumption | (repeat (first | exact pm_up_e rfl | refine pm_up_o (by decide) ?_ | apply pm_up_o (by decide))) <;> assumption) ?_
  refine px_aload_n (i := 0) (pc' := 63) dX4_init_62 rfl rfl rfl ?_
  refine px_aload_n (i := 1) (pc' := 64) dX4_init_63 rfl rfl rfl ?_
  refine px_putr (pc' := 67) ff_4_35 rfl dX4_init_64 rfl (by first | assumption | (repeat (first | exact pm_up_e rfl | refine pm_up_o (by decide) ?_ | apply pm_up_o (by decide))) <;> assumption) ?_
  refine px_aload_n (i := 0) (pc' := 68) dX4_init_67 rfl rfl rfl ?_
  refine px_aload_n (i := 2) (pc' := 69) dX4_init_68 rfl rfl rfl ?_
  refine px_putr (pc' := 72) ff_4_39 rfl dX4_init_69 rfl (by first | assumption | (repeat (first | exact pm_up_e rfl | refine pm_up_o (by decide) ?_ | apply pm_up_o (by decide))) <;> assumption) ?_
  refine px_aload_n (i := 0) (pc' := 73) dX4_init_72 rfl rfl rfl ?_
  refine px_aload_n (i := 3) (pc' := 74) dX4_init_73 rfl rfl rfl ?_
  refine px_putr (pc' := 77) ff_4_43 rfl dX4_init_74 rfl (by first | assumption | (repeat (first | exact pm_up_e rfl | refine pm_up_o (by decide) ?_ | apply pm_up_o (by decide))) <;> assumption) ?_
  exact px_vret dX4_init_77 rfl rfl (⟨rfl, rfl, rfl⟩)
theorem k_X7_init (o : h 25 = pm_ob 7) : pm_Met G mX7_init [.ref 25, .ref 3, .ref 5, .ref 1] (26, 3501, 26) (30, 4959, 30) h g (pm_qv (pm_up (pm_up (pm_up (pm_up h 26 (pm_ia 0 9 (fun _ => 0))) 27 (pm_ia 0 9 (fun _ => 0))) 28 (pm_ia 0 144 (fun _ => 0))) 29 (pm_ia 0 1296 (fun _ => 0))) (pm_uf (pm_uf (pm_uf (pm_uf (pm_uf (pm_uf (pm_uf (pm_uf (pm_uf (pm_uf (pm_uf g 25 3 (.ref 26)) 25 4 (.ref 27)) 25 5 (.int 0)) 25 6 (.ref 28)) 25 7 (.int 0)) 25 8 (.ref 29)) 25 9 (.int (-1))) 25 10 (.int (-1))) 25 0 (.ref 3)) 25 1 (.ref 5)) 25 2 (.ref 1))) := by
  refine enX7_init (⟨Nat.le_of_ble_eq_true rfl, Nat.le_of_ble_eq_true rfl⟩) ?_
  refine px_aload_n (i := 0) (pc' := 1) dX7_init_0 rfl rfl rfl ?_
  refine px_oi (pc' := 4) ml_X7_3 wd_oi_i wd_oi_c dX7_init_1 rfl (Nat.le_of_ble_eq_true rfl) (Nat.le_of_ble_eq_true rfl) ?_
  refine px_aload_n (i := 0) (pc' := 5) dX7_init_4 rfl rfl rfl ?_
  refine px_bipush (v := 9) (pc' := 7) dX7_init_5 rfl (by decide) ?_
  refine px_newiL (N := 9) (k' := 27) (m' := 3510) (c' := 27) (pc' := 9) wd_arr_i dX7_init_7 rfl (by decide) rfl (by decide) (Nat.le_of_ble_eq_true rfl) (Nat.le_of_ble_eq_true rfl) rfl rfl rfl ?_
  refine px_putr (pc' := 12) ff_7_9 rfl dX7_init_9 rfl (by first | assumption | (repeat (first | exact pm_up_e rfl | refine pm_up_o (by decide) ?_ | apply pm_up_o (by decide))) <;> assumption) ?_
  refine px_aload_n (i := 0) (pc' := 13) dX7_init_12 rfl rfl rfl ?_
  refine px_bipush (v := 9) (pc' := 15) dX7_init_13 rfl (by decide) ?_
  refine px_newiL (N := 9) (k' := 28) (m' := 3519) (c' := 28) (pc' := 17) wd_arr_i dX7_init_15 rfl (by decide) rfl (by decide) (Nat.le_of_ble_eq_true rfl) (Nat.le_of_ble_eq_true rfl) rfl rfl rfl ?_
  refine px_putr (pc' := 20) ff_7_15 rfl dX7_init_17 rfl (by first | assumption | (repeat (first | exact pm_up_e rfl | refine pm_up_o (by decide) ?_ | apply pm_up_o (by decide))) <;> assumption) ?_
  refine px_aload_n (i := 0) (pc' := 21) dX7_init_20 rfl rfl rfl ?_
  refine px_iconst (v := 0) (pc' := 22) dX7_init_21 rfl (by decide) ?_
  refine px_puti (pc' := 25) fi_7_18 dX7_init_22 rfl (by first | assumption | (repeat (first | exact pm_up_e rfl | refine pm_up_o (by decide) ?_ | apply pm_up_o (by decide))) <;> assumption) ?_
  refine px_aload_n (i := 0) (pc' := 26) dX7_init_25 rfl rfl rfl ?_
  refine px_sipush (v := 144) (pc' := 29) dX7_init_26 rfl (by decide) ?_
  refine px_newiL (N := 144) (k' := 29) (m' := 3663) (c' := 29) (pc' := 31) wd_arr_i dX7_init_29 rfl (by decide) rfl (by decide) (Nat.le_of_ble_eq_true rfl) (Nat.le_of_ble_eq_true rfl) rfl rfl rfl ?_
  refine px_putr (pc' := 34) ff_7_22 rfl dX7_init_31 rfl (by first | assumption | (repeat (first | exact pm_up_e rfl | refine pm_up_o (by decide) ?_ | apply pm_up_o (by decide))) <;> assumption) ?_
  refine px_aload_n (i := 0) (pc' := 35) dX7_init_34 rfl rfl rfl ?_
  refine px_iconst (v := 0) (pc' := 36) dX7_init_35 rfl (by decide) ?_
  refine px_puti (pc' := 39) fi_7_25 dX7_init_36 rfl (by first | assumption | (repeat (first | exact pm_up_e rfl | refine pm_up_o (by decide) ?_ | apply pm_up_o (by decide))) <;> assumption) ?_
  refine px_aload_n (i := 0) (pc' := 40) dX7_init_39 rfl rfl rfl ?_
  refine px_sipush (v := 1296) (pc' := 43) dX7_init_40 rfl (by decide) ?_
  refine px_newiL (N := 1296) (k' := 30) (m' := 4959) (c' := 30) (pc' := 45) wd_arr_i dX7_init_43 rfl (by decide) rfl (by decide) (Nat.le_of_ble_eq_true rfl) (Nat.le_of_ble_eq_true rfl) rfl rfl rfl ?_
  refine px_putr (pc' := 48) ff_7_28 rfl dX7_init_45 rfl (by first | assumption | (repeat (first | exact pm_up_e rfl | refine pm_up_o (by decide) ?_ | apply pm_up_o (by decide))) <;> assumption) ?_
  refine px_aload_n (i := 0) (pc' := 49) dX7_init_48 rfl rfl rfl ?_
  refine px_iconst (v := -1) (pc' := 50) dX7_init_49 rfl (by decide) ?_
  refine px_puti (pc' := 53) fi_7_31 dX7_init_50 rfl (by first | assumption | (repeat (first | exact pm_up_e rfl | refine pm_up_o (by decide) ?_ | apply pm_up_o (by decide))) <;> assumption) ?_
  refine px_aload_n (i := 0) (pc' := 54) dX7_init_53 rfl rfl rfl ?_
  refine px_iconst (v := -1) (pc' := 55) dX7_init_54 rfl (by decide) ?_
  refine px_puti (pc' := 58) fi_7_34 dX7_init_55 rfl (by first | assumption | (repeat (first | exact pm_up_e rfl | refine pm_up_o (by decide) ?_ | apply pm_up_o (by decide))) <;> assumption) ?_
  refine px_aload_n (i := 0) (pc' := 59) dX7_init_58 rfl rfl rfl ?_
  refine px_aload_n (i := 1) (pc' := 60) dX7_init_59 rfl rfl rfl ?_
  refine px_putr (pc' := 63) ff_7_37 rfl dX7_init_60 rfl (by first | assumption | (repeat (first | exact pm_up_e rfl | refine pm_up_o (by decide) ?_ | apply pm_up_o (by decide))) <;> assumption) ?_
  refine px_aload_n (i := 0) (pc' := 64) dX7_init_63 rfl rfl rfl ?_
  refine px_aload_n (i := 2) (pc' := 65) dX7_init_64 rfl rfl rfl ?_
  refine px_putr (pc' := 68) ff_7_41 rfl dX7_init_65 rfl (by first | assumption | (repeat (first | exact pm_up_e rfl | refine pm_up_o (by decide) ?_ | apply pm_up_o (by decide))) <;> assumption) ?_
  refine px_aload_n (i := 0) (pc' := 69) dX7_init_68 rfl rfl rfl ?_
  refine px_aload_n (i := 3) (pc' := 70) dX7_init_69 rfl rfl rfl ?_
  refine px_putr (pc' := 73) ff_7_45 rfl dX7_init_70 rfl (by first | assumption | (repeat (first | exact pm_up_e rfl | refine pm_up_o (by decide) ?_ | apply pm_up_o (by decide))) <;> assumption) ?_
  exact px_vret dX7_init_73 rfl rfl (⟨rfl, rfl, rfl⟩)
end CONS
