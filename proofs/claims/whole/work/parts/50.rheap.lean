section FGT
variable {G : pm_G} {M : pm_M} {zm : pm_z} {Φ : pm_F} {pc : Nat} {ls st : List Value} {z : pm_z} {h : pm_h} {g : pm_g}
/-- locals that are not looked at again -/
theorem px_loc {ls' : List Value} (hh : ∀ (i : Nat) (v : Value), ls'[i]? = some v → pm_un v = false → ls[i]? = some v) (k : pm_W G M zm Φ pc ls' st z h g) : pm_W G M zm Φ pc ls st z h g := by
  intro p e R s m args below meth c H locs z0 lc X hR hL hlo a1 a2 a3 a4 a5 a6
  exact k p e R s m args below meth c H locs z0 lc X hR hL ⟨hlo.1, hlo.2.1, fun i v h1 h2 => hlo.2.2 i v (hh i v h1 h2) h2⟩ a1 a2 a3 a4 a5 a6
theorem px_fk (n m : Nat) (k : pm_W G M zm Φ pc (ls.take n ++ List.replicate m pm_u) st z h g) : pm_W G M zm Φ pc ls st z h g := by
  refine px_loc (fun i v h1 h2 => ?_) k
  rw [List.getElem?_append] at h1
  split at h1
  · rename_i q
    rw [List.getElem?_take] at h1
    split at h1
    · exact h1
    · cases h1
  · have := List.eq_of_mem_replicate (List.mem_of_getElem? h1)
    rw [this] at h2
    cases h2
variable {a0 a1 a2 a3 a4 a5 a6 a7 a8 : Value}
theorem px_f9_1 (k : pm_W G M zm Φ pc [a0, pm_u, pm_u, pm_u, pm_u, pm_u, pm_u, pm_u, pm_u] st z h g) : pm_W G M zm Φ pc [a0, a1, a2, a3, a4, a5, a6, a7, a8] st z h g := px_fk 1 8 k
theorem px_f9_2 (k : pm_W G M zm Φ pc [a0, a1, pm_u, pm_u, pm_u, pm_u, pm_u, pm_u, pm_u] st z h g) : pm_W G M zm Φ pc [a0, a1, a2, a3, a4, a5, a6, a7, a8] st z h g := px_fk 2 7 k
theorem px_f9_3 (k : pm_W G M zm Φ pc [a0, a1, a2, pm_u, pm_u, pm_u, pm_u, pm_u, pm_u] st z h g) : pm_W G M zm Φ pc [a0, a1, a2, a3, a4, a5, a6, a7, a8] st z h g := px_fk 3 6 k
theorem px_f9_4 (k : pm_W G M zm Φ pc [a0, a1, a2, a3, pm_u, pm_u, pm_u, pm_u, pm_u] st z h g) : pm_W G M zm Φ pc [a0, a1, a2, a3, a4, a5, a6, a7, a8] st z h g := px_fk 4 5 k
theorem px_f9_5 (k : pm_W G M zm Φ pc [a0, a1, a2, a3, a4, pm_u, pm_u, pm_u, pm_u] st z h g) : pm_W G M zm Φ pc [a0, a1, a2, a3, a4, a5, a6, a7, a8] st z h g := px_fk 5 4 k
end FGT
/-- the reference's rows, and all else as it was -/
def r_H (h h1 : pm_h) (g : pm_g) (c1 c2 c3 c4 : Nat → Int32) (c5 c6 : Nat → Int64) : Prop :=
  pm_I h1 g ∧ (∀ a, a ≠ 43 → a ≠ 44 → a ≠ 45 → a ≠ 46 → a ≠ 48 → a ≠ 49 → h1 a = h a) ∧ h1 43 = pm_ia 0 144 c1 ∧ h1 44 = pm_ia 0 144 c2 ∧ h1 45 = pm_ia 0 1872 c3 ∧ h1 46 = pm_ia 0 1872 c4 ∧ h1 48 = pm_la 144 c5 ∧ h1 49 = pm_la 144 c6
section RHP
variable {h h1 : pm_h} {g : pm_g} {c1 c2 c3 c4 : Nat → Int32} {c5 c6 : Nat → Int64}
theorem r_H.u43 (q : r_H h h1 g c1 c2 c3 c4 c5 c6) (c : Nat → Int32) : r_H h (pm_up h1 43 (pm_ia 0 144 c)) g c c2 c3 c4 c5 c6 := by
  obtain ⟨I, fr, s1, s2, s3, s4, s5, s6⟩ := q
  exact ⟨(by repeat (first | assumption | refine pm_I.up ?_ rfl | refine pm_I.uf ?_ rfl)), fun a n1 n2 n3 n4 n5 n6 => (pm_up_n _ _ n1).trans (fr a n1 n2 n3 n4 n5 n6), (by first | assumption | (repeat (first | exact pm_up_e rfl | refine pm_up_o (by decide) ?_ | apply pm_up_o (by decide))) <;> assumption), (by first | assumption | (repeat (first | exact pm_up_e rfl | refine pm_up_o (by decide) ?_ | apply pm_up_o (by decide))) <;> assumption), (by first | assumption | (repeat (first | exact pm_up_e rfl | refine pm_up_o (by decide) ?_ | apply pm_up_o (by decide))) <;> assumption), (by first | assumption | (repeat (first | exact pm_up_e rfl | refine pm_up_o (by decide) ?_ | apply pm_up_o (by decide))) <;> assumption), (by first | assumption | (repeat (first | exact pm_up_e rfl | refine pm_up_o (by decide) ?_ | apply pm_up_o (by decide))) <;> assumption), (by first | assumption | (repeat (first | exact pm_up_e rfl | refine pm_up_o (by decide) ?_ | apply pm_up_o (by decide))) <;> assumption)⟩
theorem r_H.u44 (q : r_H h h1 g c1 c2 c3 c4 c5 c6) (c : Nat → Int32) : r_H h (pm_up h1 44 (pm_ia 0 144 c)) g c1 c c3 c4 c5 c6 := by
  obtain ⟨I, fr, s1, s2, s3, s4, s5, s6⟩ := q
  exact ⟨(by repeat (first | assumption | refine pm_I.up ?_ rfl | refine pm_I.uf ?_ rfl)), fun a n1 n2 n3 n4 n5 n6 => (pm_up_n _ _ n2).trans (fr a n1 n2 n3 n4 n5 n6), (by first | assumption | (repeat (first | exact pm_up_e rfl | refine pm_up_o (by decide) ?_ | apply pm_up_o (by decide))) <;> assumption), (by first | assumption | (repeat (first | exact pm_up_e rfl | refine pm_up_o (by decide) ?_ | apply pm_up_o (by decide))) <;> assumption), (by first | assumption | (repeat (first | exact pm_up_e rfl | refine pm_up_o (by decide) ?_ | apply pm_up_o (by decide))) <;> assumption), (by first | assumption | (repeat (first | exact pm_up_e rfl | refine pm_up_o (by decide) ?_ | apply pm_up_o (by decide))) <;> assumption), (by first | assumption | (repeat (first | exact pm_up_e rfl | refine pm_up_o (by decide) ?_ | apply pm_up_o (by decide))) <;> assumption), (by first | assumption | (repeat (first | exact pm_up_e rfl | refine pm_up_o (by decide) ?_ | apply pm_up_o (by decide))) <;> assumption)⟩
theorem r_H.u45 (q : r_H h h1 g c1 c2 c3 c4 c5 c6) (c : Nat → Int32) : r_H h (pm_up h1 45 (pm_ia 0 1872 c)) g c1 c2 c c4 c5 c6 := by
  obtain ⟨I, fr, s1, s2, s3, s4, s5, s6⟩ := q
  exact ⟨(by repeat (first | assumption | refine pm_I.up ?_ rfl | refine pm_I.uf ?_ rfl)), fun a n1 n2 n3 n4 n5 n6 => (pm_up_n _ _ n3).trans (fr a n1 n2 n3 n4 n5 n6), (by first | assumption | (repeat (first | exact pm_up_e rfl | refine pm_up_o (by decide) ?_ | apply pm_up_o (by decide))) <;> assumption), (by first | assumption | (repeat (first | exact pm_up_e rfl | refine pm_up_o (by decide) ?_ | apply pm_up_o (by decide))) <;> assumption), (by first | assumption | (repeat (first | exact pm_up_e rfl | refine pm_up_o (by decide) ?_ | apply pm_up_o (by decide))) <;> assumption), (by first | assumption | (repeat (first | exact pm_up_e rfl | refine pm_up_o (by decide) ?_ | apply pm_up_o (by decide))) <;> assumption), (by first | assumption | (repeat (first | exact pm_up_e rfl | refine pm_up_o (by decide) ?_ | apply pm_up_o (by decide))) <;> assumption), (by first | assumption | (repeat (first | exact pm_up_e rfl | refine pm_up_o (by decide) ?_ | apply pm_up_o (by decide))) <;> assumption)⟩
theorem r_H.u46 (q : r_H h h1 g c1 c2 c3 c4 c5 c6) (c : Nat → Int32) : r_H h (pm_up h1 46 (pm_ia 0 1872 c)) g c1 c2 c3 c c5 c6 := by
  obtain ⟨I, fr, s1, s2, s3, s4, s5, s6⟩ := q
  exact ⟨(by repeat (first | assumption | refine pm_I.up ?_ rfl | refine pm_I.uf ?_ rfl)), fun a n1 n2 n3 n4 n5 n6 => (pm_up_n _ _ n4).trans (fr a n1 n2 n3 n4 n5 n6), (by first | assumption | (repeat (first | exact pm_up_e rfl | refine pm_up_o (by decide) ?_ | apply pm_up_o (by decide))) <;> assumption), (by first | assumption | (repeat (first | exact pm_up_e rfl | refine pm_up_o (by decide) ?_ | apply pm_up_o (by decide))) <;> assumption), (by first | assumption | (repeat (first | exact pm_up_e rfl | refine pm_up_o (by decide) ?_ | apply pm_up_o (by decide))) <;> assumption), (by first | assumption | (repeat (first | exact pm_up_e rfl | refine pm_up_o (by decide) ?_ | apply pm_up_o (by decide))) <;> assumption), (by first | assumption | (repeat (first | exact pm_up_e rfl | refine pm_up_o (by decide) ?_ | apply pm_up_o (by decide))) <;> assumption), (by first | assumption | (repeat (first | exact pm_up_e rfl | refine pm_up_o (by decide) ?_ | apply pm_up_o (by decide))) <;> assumption)⟩
theorem r_H.u48 (q : r_H h h1 g c1 c2 c3 c4 c5 c6) (c : Nat → Int64) : r_H h (pm_up h1 48 (pm_la 144 c)) g c1 c2 c3 c4 c c6 := by
  obtain ⟨I, fr, s1, s2, s3, s4, s5, s6⟩ := q
  exact ⟨(by repeat (first | assumption | refine pm_I.up ?_ rfl | refine pm_I.uf ?_ rfl)), fun a n1 n2 n3 n4 n5 n6 => (pm_up_n _ _ n5).trans (fr a n1 n2 n3 n4 n5 n6), (by first | assumption | (repeat (first | exact pm_up_e rfl | refine pm_up_o (by decide) ?_ | apply pm_up_o (by decide))) <;> assumption), (by first | assumption | (repeat (first | exact pm_up_e rfl | refine pm_up_o (by decide) ?_ | apply pm_up_o (by decide))) <;> assumption), (by first | assumption | (repeat (first | exact pm_up_e rfl | refine pm_up_o (by decide) ?_ | apply pm_up_o (by decide))) <;> assumption), (by first | assumption | (repeat (first | exact pm_up_e rfl | refine pm_up_o (by decide) ?_ | apply pm_up_o (by decide))) <;> assumption), (by first | assumption | (repeat (first | exact pm_up_e rfl | refine pm_up_o (by decide) ?_ | apply pm_up_o (by decide))) <;> assumption), (by first | assumption | (repeat (first | exact pm_up_e rfl | refine pm_up_o (by decide) ?_ | apply pm_up_o (by decide))) <;> assumption)⟩
theorem r_H.u49 (q : r_H h h1 g c1 c2 c3 c4 c5 c6) (c : Nat → Int64) : r_H h (pm_up h1 49 (pm_la 144 c)) g c1 c2 c3 c4 c5 c := by
  obtain ⟨I, fr, s1, s2, s3, s4, s5, s6⟩ := q
  exact ⟨(by repeat (first | assumption | refine pm_I.up ?_ rfl | refine pm_I.uf ?_ rfl)), fun a n1 n2 n3 n4 n5 n6 => (pm_up_n _ _ n6).trans (fr a n1 n2 n3 n4 n5 n6), (by first | assumption | (repeat (first | exact pm_up_e rfl | refine pm_up_o (by decide) ?_ | apply pm_up_o (by decide))) <;> assumption), (by first | assumption | (repeat (first | exact pm_up_e rfl | refine pm_up_o (by decide) ?_ | apply pm_up_o (by decide))) <;> assumption), (by first | assumption | (repeat (first | exact pm_up_e rfl | refine pm_up_o (by decide) ?_ | apply pm_up_o (by decide))) <;> assumption), (by first | assumption | (repeat (first | exact pm_up_e rfl | refine pm_up_o (by decide) ?_ | apply pm_up_o (by decide))) <;> assumption), (by first | assumption | (repeat (first | exact pm_up_e rfl | refine pm_up_o (by decide) ?_ | apply pm_up_o (by decide))) <;> assumption), (by first | assumption | (repeat (first | exact pm_up_e rfl | refine pm_up_o (by decide) ?_ | apply pm_up_o (by decide))) <;> assumption)⟩
end RHP
section RBA
variable {G : pm_G} {z : pm_z} {h : pm_h} {g : pm_g} {Φ : pm_F}
/-- the first stage -/
theorem d_bestA {w d nr : Nat} {η ra rv : Nat → Int32} {st : Int32} (e9 : g 30 9 = .int (nI w)) (e10 : g 30 10 = .int (nI d)) (hw : w ≤ 12) (hd : d ≤ 12) (e24 : g 30 24 = .int st) (e23 : g 30 23 = .int (nI nr)) (hnr : nr ≤ 40) (f42 : h 42 = pm_ia 0 40 rv) (f41 : h 41 = pm_ia 0 40 ra) (f32 : h 32 = pm_ia 0 144 η) (hv : ∀ i, i < nr → 0 ≤ (rv i).toInt ∧ (rv i).toInt ≤ 255) (hb : ∀ c, c < 144 → m_bok (η c))
    (K : ∀ (h1 : pm_h) (c1 c2 c3 c4 : Nat → Int32) (c5 c6 : Nat → Int64), r_H h h1 g c1 c2 c3 c4 c5 c6 → (∀ j, j < w * d → c5 j = lN (if st = -1 ∨ st = nI j then 1 else 0) ∧ c1 j = nI (b_E ra rv η nr 0 j) ∧ c3 (13 * j) = nI j) → pm_W G mX9_best z Φ 70 [.ref 30, .int (nI (w * d)), pm_u, pm_u, pm_u, pm_u, pm_u, pm_u, pm_u] [] z h1 g) :
    ∀ k i : Nat, i + k = w * d → ∀ (h1 : pm_h) (c1 c2 c3 c4 : Nat → Int32) (c5 c6 : Nat → Int64), r_H h h1 g c1 c2 c3 c4 c5 c6 → (∀ j, j < i → c5 j = lN (if st = -1 ∨ st = nI j then 1 else 0) ∧ c1 j = nI (b_E ra rv η nr 0 j) ∧ c3 (13 * j) = nI j) →
      pm_W G mX9_best z Φ 7 [.ref 30, .int (nI i), pm_u, pm_u, pm_u, pm_u, pm_u, pm_u, pm_u] [] z h1 g := by
  have hwd := m_wd hw hd
  intro k
  induction k with
  | zero =>
    intro i hi h1 c1 c2 c3 c4 c5 c6 q inv
    obtain rfl : i = w * d := by omega
    obtain ⟨I, -⟩ := id q
    refine px_iload_n (i := 1) (pc' := 8) dX9_best_7 rfl rfl rfl ?_
    refine px_aload_n (i := 0) (pc' := 9) dX9_best_8 rfl rfl rfl ?_
    refine pi_callV (pc' := 12) (d_cells I e9 e10) okX9_cells ivX9_cells ml_X9_108 ⟨Nat.le_of_ble_eq_true rfl, Nat.le_of_ble_eq_true rfl⟩ dX9_best_9 rfl rfl rfl (Nat.le_of_ble_eq_true rfl) (by repeat (first | assumption | refine pm_I.up ?_ rfl | refine pm_I.uf ?_ rfl)) rfl cl_9 pm_le.rf pm_le.rf ?_
    rintro _ _ _ ⟨rfl, rfl, rfl⟩
    refine px_icmp_ge (tgt := 70) (pc' := 15) dX9_best_12 (by decide) rfl (fun _ => ?_) (fun q_ => absurd (nI_le (by omega) (by omega)) q_)
    exact K h1 c1 c2 c3 c4 c5 c6 q inv
  | succ k ih =>
    intro i hi h1 c1 c2 c3 c4 c5 c6 q inv
    obtain ⟨I, fr, s1, s2, s3, s4, s5, s6⟩ := id q
    have il : (nI i).toNatClampNeg = i := nI_clamp (by omega)
    have f42' := (fr 42 (by decide) (by decide) (by decide) (by decide) (by decide) (by decide)).trans f42
    have f41' := (fr 41 (by decide) (by decide) (by decide) (by decide) (by decide) (by decide)).trans f41
    have f32' := (fr 32 (by decide) (by decide) (by decide) (by decide) (by decide) (by decide)).trans f32
    have fin : ∀ v : Nat, v = (if st = -1 ∨ st = nI i then 1 else 0) → pm_W G mX9_best z Φ 41 [.ref 30, .int (nI i), pm_u, pm_u, pm_u, pm_u, pm_u, pm_u, pm_u] [.long (lN v), .int (nI i), .ref 48] z h1 g := by
      intro v hv'
      refine px_last (pc' := 42) dX9_best_41 rfl (by first | assumption | (repeat (first | exact pm_up_e rfl | refine pm_up_o (by decide) ?_ | apply pm_up_o (by decide))) <;> assumption) (vp_in_nI (by omega) (by omega)) ?_
      refine px_aload_n (i := 0) (pc' := 43) dX9_best_42 rfl rfl rfl ?_
      refine pi_getr (pc' := 46) fl_9_71 dX9_best_43 rfl (by repeat (first | assumption | refine pm_I.up ?_ rfl | refine pm_I.uf ?_ rfl)) rfl rfl ?_
      refine px_iload_n (i := 1) (pc' := 47) dX9_best_46 rfl rfl rfl ?_
      refine px_aload_n (i := 0) (pc' := 48) dX9_best_47 rfl rfl rfl ?_
      refine px_iload_n (i := 1) (pc' := 49) dX9_best_48 rfl rfl rfl ?_
      refine px_iconst (v := 0) (pc' := 50) dX9_best_49 rfl (by decide) ?_
      refine pi_callV (pc' := 53) (d_errs (t := 0) (n := nr) (η := η) (ra := ra) (rv := rv) (by repeat (first | assumption | refine pm_I.up ?_ rfl | refine pm_I.uf ?_ rfl)) e23 hnr (by first | assumption | (repeat (first | exact pm_up_e rfl | refine pm_up_o (by decide) ?_ | apply pm_up_o (by decide))) <;> assumption) (by first | assumption | (repeat (first | exact pm_up_e rfl | refine pm_up_o (by decide) ?_ | apply pm_up_o (by decide))) <;> assumption) (by first | assumption | (repeat (first | exact pm_up_e rfl | refine pm_up_o (by decide) ?_ | apply pm_up_o (by decide))) <;> assumption) hv (by omega) (hb i (by omega)) (by omega)) okX9_errs ivX9_errs ml_X9_165 ⟨Nat.le_of_ble_eq_true rfl, Nat.le_of_ble_eq_true rfl⟩ dX9_best_50 rfl rfl rfl (Nat.le_of_ble_eq_true rfl) (by repeat (first | assumption | refine pm_I.up ?_ rfl | refine pm_I.uf ?_ rfl)) rfl cl_9 pm_le.rf pm_le.rf ?_
      rintro _ _ _ ⟨rfl, rfl, rfl⟩
      refine px_iast (pc' := 54) dX9_best_53 rfl (by first | assumption | (repeat (first | exact pm_up_e rfl | refine pm_up_o (by decide) ?_ | apply pm_up_o (by decide))) <;> assumption) (vp_in_nI (by omega) (by omega)) ?_
      refine px_aload_n (i := 0) (pc' := 55) dX9_best_54 rfl rfl rfl ?_
      refine pi_getr (pc' := 58) fl_9_77 dX9_best_55 rfl (by repeat (first | assumption | refine pm_I.up ?_ rfl | refine pm_I.uf ?_ rfl)) rfl rfl ?_
      refine px_bipush (v := 13) (pc' := 60) dX9_best_58 rfl (by decide) ?_
      refine px_iload_n (i := 1) (pc' := 61) dX9_best_60 rfl rfl rfl ?_
      refine px_imul (pc' := 62) dX9_best_61 rfl ?_
      rw [show (13 : Int32) * nI i = nI (13 * i) by rw [show (13 : Int32) = nI 13 from rfl, pk_mul]]
      refine px_iload_n (i := 1) (pc' := 63) dX9_best_62 rfl rfl rfl ?_
      refine px_iast (pc' := 64) dX9_best_63 rfl (by first | assumption | (repeat (first | exact pm_up_e rfl | refine pm_up_o (by decide) ?_ | apply pm_up_o (by decide))) <;> assumption) (vp_in_nI (by omega) (by omega)) ?_
      refine sx_inc_9_1 (w := 1) (pc' := 67) dX9_best_64 rfl rfl (by decide) rfl ?_
      refine px_goto (tgt := 7) dX9_best_67 (by decide) ?_
      rw [nI_1, il, nI_clamp (by omega)]
      refine ih (i + 1) (by omega) _ _ _ _ _ _ _ (((q.u48 _).u43 _).u45 _) (fun j hj => ?_)
      by_cases hji : j = i
      · subst hji
        exact ⟨by rw [← hv']; exact if_pos rfl, if_pos rfl, if_pos rfl⟩
      · obtain ⟨t1, t2, t3⟩ := inv j (by omega)
        exact ⟨(if_neg hji).trans t1, (if_neg hji).trans t2, (if_neg (by omega)).trans t3⟩
    refine px_iload_n (i := 1) (pc' := 8) dX9_best_7 rfl rfl rfl ?_
    refine px_aload_n (i := 0) (pc' := 9) dX9_best_8 rfl rfl rfl ?_
    refine pi_callV (pc' := 12) (d_cells I e9 e10) okX9_cells ivX9_cells ml_X9_108 ⟨Nat.le_of_ble_eq_true rfl, Nat.le_of_ble_eq_true rfl⟩ dX9_best_9 rfl rfl rfl (Nat.le_of_ble_eq_true rfl) (by repeat (first | assumption | refine pm_I.up ?_ rfl | refine pm_I.uf ?_ rfl)) rfl cl_9 pm_le.rf pm_le.rf ?_
    rintro _ _ _ ⟨rfl, rfl, rfl⟩
    refine px_icmp_ge (tgt := 70) (pc' := 15) dX9_best_12 (by decide) rfl (fun q_ => absurd q_ (nI_ge (by omega) (by omega))) (fun _ => ?_)
    refine px_aload_n (i := 0) (pc' := 16) dX9_best_15 rfl rfl rfl ?_
    refine pi_getr (pc' := 19) fl_9_86 dX9_best_16 rfl (by repeat (first | assumption | refine pm_I.up ?_ rfl | refine pm_I.uf ?_ rfl)) rfl rfl ?_
    refine px_iload_n (i := 1) (pc' := 20) dX9_best_19 rfl rfl rfl ?_
    refine px_aload_n (i := 0) (pc' := 21) dX9_best_20 rfl rfl rfl ?_
    refine pi_geti (pc' := 24) fl_9_136 dX9_best_21 rfl (by repeat (first | assumption | refine pm_I.up ?_ rfl | refine pm_I.uf ?_ rfl)) rfl (by first | assumption | (repeat (first | exact pm_uf_e rfl | refine pm_uf_o (by decide) ?_ | apply pm_uf_o (by decide))) <;> assumption) ?_
    refine px_iconst (v := -1) (pc' := 25) dX9_best_24 rfl (by decide) ?_
    by_cases z1 : st = -1
    · refine px_icmp_eq (tgt := 36) (pc' := 28) dX9_best_25 (by decide) rfl (fun _ => ?_) (fun q_ => absurd (z1) q_)
      refine px_lconst (v := 1) (pc' := 37) dX9_best_36 rfl (by decide) ?_
      refine px_goto (tgt := 41) dX9_best_37 (by decide) ?_
      exact fin 1 (by rw [if_pos (Or.inl z1)])
    · refine px_icmp_eq (tgt := 36) (pc' := 28) dX9_best_25 (by decide) rfl (fun q_ => absurd q_ (z1)) (fun _ => ?_)
      refine px_aload_n (i := 0) (pc' := 29) dX9_best_28 rfl rfl rfl ?_
      refine pi_geti (pc' := 32) fl_9_136 dX9_best_29 rfl (by repeat (first | assumption | refine pm_I.up ?_ rfl | refine pm_I.uf ?_ rfl)) rfl (by first | assumption | (repeat (first | exact pm_uf_e rfl | refine pm_uf_o (by decide) ?_ | apply pm_uf_o (by decide))) <;> assumption) ?_
      refine px_iload_n (i := 1) (pc' := 33) dX9_best_32 rfl rfl rfl ?_
      by_cases z2 : st = nI i
      · refine px_icmp_ne (tgt := 40) (pc' := 36) dX9_best_33 (by decide) rfl (fun q_ => absurd (z2) q_) (fun _ => ?_)
        refine px_lconst (v := 1) (pc' := 37) dX9_best_36 rfl (by decide) ?_
        refine px_goto (tgt := 41) dX9_best_37 (by decide) ?_
        exact fin 1 (by rw [if_pos (Or.inr z2)])
      · refine px_icmp_ne (tgt := 40) (pc' := 36) dX9_best_33 (by decide) rfl (fun _ => ?_) (fun q_ => absurd q_ (z2))
        refine px_lconst (v := 0) (pc' := 41) dX9_best_40 rfl (by decide) ?_
        exact fin 0 (by rw [if_neg (fun hh => hh.elim z1 z2)])
/-- no ways yet -/
theorem d_bestB {w d s : Nat} {c1 c2 c3 c4 : Nat → Int32} {c5 : Nat → Int64} (e9 : g 30 9 = .int (nI w)) (e10 : g 30 10 = .int (nI d)) (hw : w ≤ 12) (hd : d ≤ 12)
    (K : ∀ (h1 : pm_h) (c6 : Nat → Int64), r_H h h1 g c1 c2 c3 c4 c5 c6 → (∀ j, j < w * d → c6 j = lN 0) → pm_W G mX9_best z Φ 103 [.ref 30, .int (nI s), .int (nI (w * d)), pm_u, pm_u, pm_u, pm_u, pm_u, pm_u] [] z h1 g) :
    ∀ k i : Nat, i + k = w * d → ∀ (h1 : pm_h) (c6 : Nat → Int64), r_H h h1 g c1 c2 c3 c4 c5 c6 → (∀ j, j < i → c6 j = lN 0) →
      pm_W G mX9_best z Φ 82 [.ref 30, .int (nI s), .int (nI i), pm_u, pm_u, pm_u, pm_u, pm_u, pm_u] [] z h1 g := by
  have hwd := m_wd hw hd
  intro k
  induction k with
  | zero =>
    intro i hi h1 c6 q inv
    obtain rfl : i = w * d := by omega
    obtain ⟨I, -⟩ := id q
    refine px_iload_n (i := 2) (pc' := 83) dX9_best_82 rfl rfl rfl ?_
    refine px_aload_n (i := 0) (pc' := 84) dX9_best_83 rfl rfl rfl ?_
    refine pi_callV (pc' := 87) (d_cells I e9 e10) okX9_cells ivX9_cells ml_X9_108 ⟨Nat.le_of_ble_eq_true rfl, Nat.le_of_ble_eq_true rfl⟩ dX9_best_84 rfl rfl rfl (Nat.le_of_ble_eq_true rfl) (by repeat (first | assumption | refine pm_I.up ?_ rfl | refine pm_I.uf ?_ rfl)) rfl cl_9 pm_le.rf pm_le.rf ?_
    rintro _ _ _ ⟨rfl, rfl, rfl⟩
    refine px_icmp_ge (tgt := 103) (pc' := 90) dX9_best_87 (by decide) rfl (fun _ => ?_) (fun q_ => absurd (nI_le (by omega) (by omega)) q_)
    exact K h1 c6 q inv
  | succ k ih =>
    intro i hi h1 c6 q inv
    obtain ⟨I, fr, s1, s2, s3, s4, s5, s6⟩ := id q
    have il : (nI i).toNatClampNeg = i := nI_clamp (by omega)
    refine px_iload_n (i := 2) (pc' := 83) dX9_best_82 rfl rfl rfl ?_
    refine px_aload_n (i := 0) (pc' := 84) dX9_best_83 rfl rfl rfl ?_
    refine pi_callV (pc' := 87) (d_cells I e9 e10) okX9_cells ivX9_cells ml_X9_108 ⟨Nat.le_of_ble_eq_true rfl, Nat.le_of_ble_eq_true rfl⟩ dX9_best_84 rfl rfl rfl (Nat.le_of_ble_eq_true rfl) (by repeat (first | assumption | refine pm_I.up ?_ rfl | refine pm_I.uf ?_ rfl)) rfl cl_9 pm_le.rf pm_le.rf ?_
    rintro _ _ _ ⟨rfl, rfl, rfl⟩
    refine px_icmp_ge (tgt := 103) (pc' := 90) dX9_best_87 (by decide) rfl (fun q_ => absurd q_ (nI_ge (by omega) (by omega))) (fun _ => ?_)
    refine px_aload_n (i := 0) (pc' := 91) dX9_best_90 rfl rfl rfl ?_
    refine pi_getr (pc' := 94) fl_9_89 dX9_best_91 rfl (by repeat (first | assumption | refine pm_I.up ?_ rfl | refine pm_I.uf ?_ rfl)) rfl rfl ?_
    refine px_iload_n (i := 2) (pc' := 95) dX9_best_94 rfl rfl rfl ?_
    refine px_lconst (v := 0) (pc' := 96) dX9_best_95 rfl (by decide) ?_
    refine px_last (pc' := 97) dX9_best_96 rfl (by first | assumption | (repeat (first | exact pm_up_e rfl | refine pm_up_o (by decide) ?_ | apply pm_up_o (by decide))) <;> assumption) (vp_in_nI (by omega) (by omega)) ?_
    refine sx_inc_9_2 (w := 1) (pc' := 100) dX9_best_97 rfl rfl (by decide) rfl ?_
    refine px_goto (tgt := 82) dX9_best_100 (by decide) ?_
    rw [nI_1, il]
    refine ih (i + 1) (by omega) _ _ (q.u49 _) (fun j hj => ?_)
    by_cases hji : j = i
    · subst hji
      exact if_pos rfl
    · exact (if_neg hji).trans (inv j (by omega))
end RBA
