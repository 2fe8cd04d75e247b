/-! the start: what the tables say -/
theorem pm_nw.inst {own : String} {index ci n : Nat} {d : Nat → Value} {q : vw_C} (hn : pm_nw own index ci n d) (h : vwCl[ci]? = some q) : Jvm.Cond.instantiable q.1 q.2.2 ∈ pm_T := by
  obtain ⟨q', ty, hq, -, -, hin, -⟩ := hn
  cases hq.symm.trans h
  exact hin
theorem wd_inst {ci : Nat} {q : vw_C} (h : vwCl[ci]? = some q) : Jvm.Cond.instantiable q.1 q.2.2 ∈ pm_T := by
  match ci, h with
  | 0, h => exact nw_X8_37.inst h
  | 1, h => exact nw_X8_46.inst h
  | 2, h => exact nw_X8_23.inst h
  | 3, h => exact nw_X8_16.inst h
  | 4, h => exact nw_X8_55.inst h
  | 5, h => exact nw_X8_30.inst h
  | 6, h => exact nw_X8_7.inst h
  | 7, h => exact nw_X8_62.inst h
  | 8, h => exact nw_L_8.inst h
  | 9, h => exact nw_L_16.inst h
  | ci + 10, h => simp [vwCl] at h
theorem arr_of {args : Array Value} {s : State} {ty : FieldType} (h : (Jvm.Cond.arrayClass ty).before args s = true) : ∃ cA : ClassId, ArrOfT s cA ty ∧ s.vm.findClass ("[" ++ ty.toString) = some cA := by
  obtain ⟨cA, kA, comp, h1, h2, h3⟩ := Cond.arrayClass_spec h
  exact ⟨cA, fun n z => ⟨fun k h => (by cases h), kA, h2, comp, h3⟩, h1⟩
theorem lw_in {w : Jvm.Cond} (i : Nat) (h : lw_tbl[i]? = some w) : w ∈ lw_tbl := List.mem_of_getElem? h
theorem K_start {l : Launch} {s : State} {args : Array Value} {b L : Nat} {xs : Nat → Int32} (hts : ∀ w ∈ lw_tbl, w.before args s = true) (hX : va_X b L xs s s.heap) (hbl : b < s.heap.size) (hst : l.stackTraces = false)
    (h1 : (Cond.isRef (.static Bundle.tN "UNASSIGNED_STACK" Bundle.steD)).before args s = true) (h2 : (Cond.isRef (.static Bundle.tN "SUPPRESSED_SENTINEL" Bundle.listD)).before args s = true) :
    ∃ (D : va_G) (dA : Nat → ClassId), pm_K (l, D, dA, s.heap.size, b, L, xs, s.heap) s := by
  have hT : ∀ w ∈ pm_T, w.before args s = true := fun w hw => hts w (List.mem_filter.mp hw).1
  have kn : ∀ c : Nat, ∃ q : ClassId × (Nat → Nat), ∀ r : vw_C, vwCl[c]? = some r → u_Kn s r.1 r.2.1 r.2.2 q.1 q.2 := by
    intro c
    cases hq : vwCl[c]? with
    | none => exact ⟨(s.heap.size, fun _ => 0), fun r h => by cases h⟩
    | some q =>
      obtain ⟨cC, iS, h⟩ := u_known (C := q.1) (T := q.2.1) (N := q.2.2) (n := q.2.2) hT (pm_cls hq).1 (hT _ (wd_inst hq))
      exact ⟨(cC, iS), fun r hr => by cases hr; exact h⟩
  have ar : ∀ kd : Nat, ∃ cA : ClassId, ArrOfT s cA (pm_ty kd) ∧ s.vm.findClass ("[" ++ (pm_ty kd).toString) = some cA := by
    intro kd
    match kd with
    | 0 => exact arr_of (hT _ wd_arr_i)
    | 1 => exact arr_of (hT _ wd_arr_b)
    | 2 => exact arr_of (hT _ wd_arr_z)
    | kd + 3 => exact arr_of (hT _ wd_arr_l)
  have zz := fun a (ha : a < s.heap.size) => (Nat.not_le.mpr ha : ¬ s.heap.size ≤ a)
  refine ⟨(fun c => (Classical.choose (kn c)).1, fun c => (Classical.choose (kn c)).2), fun kd => Classical.choose (ar kd), fun c q hq => Classical.choose_spec (kn c) q hq, fun kd _ => Classical.choose_spec (ar kd), fun w hw a' => ?_, fun q hq => ?_, hX, hbl, hst, ?_, ?_, ?_, fun x hx => ?_⟩
  · exact word_at (State.WarmedH.refl s) (good_of_word (List.mem_filter.mp hw).2) (hT w hw)
  · obtain ⟨w, hw, he⟩ := List.mem_filterMap.mp hq
    split at he
    · cases he
      exact va_Nw.of rfl (hts _ hw)
    · cases he
  · exact vx_Zqof (hts _ (lw_in 690 (by decide +kernel))) (hts _ (lw_in 46 (by decide +kernel))) h1 zz
  · exact vx_Zqof (hts _ (lw_in 692 (by decide +kernel))) (hts _ (lw_in 46 (by decide +kernel))) h2 zz
  · exact va_Nw.of rfl (hts _ (lw_in 665 (by decide +kernel)))
  · rcases List.mem_cons.mp hx with rfl | hx
    · exact va_Nw.of rfl (hts _ (lw_in 666 (by decide +kernel)))
    rcases List.mem_cons.mp hx with rfl | hx
    · exact va_Nw.of rfl (hts _ (lw_in 668 (by decide +kernel)))
    rcases List.mem_cons.mp hx with rfl | hx
    · exact va_Nw.of rfl (hts _ (lw_in 670 (by decide +kernel)))
    · cases hx
