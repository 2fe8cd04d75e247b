/-! The pure machine: what a method sees, with the cells numbered from the law's first one -/
abbrev pm_C : Type := (Nat × Nat × (Nat → Int32)) ⊕ (Nat × (Nat → Int64)) ⊕ Nat ⊕ Unit
abbrev pm_ia (kd n : Nat) (f : Nat → Int32) : pm_C := .inl (kd, n, f)
abbrev pm_la (n : Nat) (f : Nat → Int64) : pm_C := .inr (.inl (n, f))
abbrev pm_ob (ci : Nat) : pm_C := .inr (.inr (.inl ci))
abbrev pm_jk : pm_C := .inr (.inr (.inr ()))
abbrev pm_h : Type := Nat → pm_C
abbrev pm_g : Type := Nat → Nat → Value
/-- room: cells, slots; how many cells there are -/
abbrev pm_z : Type := Nat × Nat × Nat
def pm_ty : Nat → FieldType
  | 0 => .int
  | 1 => .byte
  | 2 => .boolean
  | _ => .long
/-- launch, class tables, array classes, base, the script's cell, its length and values, the heap at the beginning -/
abbrev pm_G : Type := Launch × va_G × (Nat → ClassId) × Nat × Nat × Nat × (Nat → Int32) × Heap
abbrev pm_l (G : pm_G) : Launch := G.1
abbrev pm_D (G : pm_G) : va_G := G.2.1
abbrev pm_dA (G : pm_G) : Nat → ClassId := G.2.2.1
abbrev pm_b (G : pm_G) : Nat := G.2.2.2.1
abbrev pm_s (G : pm_G) : Nat := G.2.2.2.2.1
abbrev pm_L (G : pm_G) : Nat := G.2.2.2.2.2.1
abbrev pm_xs (G : pm_G) : Nat → Int32 := G.2.2.2.2.2.2.1
abbrev pm_H0 (G : pm_G) : Heap := G.2.2.2.2.2.2.2
/-- a value of the pure machine, on the machine -/
def pm_tr (G : pm_G) : Value → Value
  | .ref k => .ref (pm_b G + k)
  | .retAddr _ => .ref (pm_s G)
  | .int v => .int v
  | .long v => .long v
  | .float v => .float v
  | .double v => .double v
  | .null => .null
theorem pm_tr_cat (G : pm_G) (v : Value) : (pm_tr G v).category = v.category := by cases v <;> rfl
theorem pm_tr_cats (G : pm_G) (st : List Value) : ((st.map (pm_tr G)).map fun v => v.category).sum = (st.map fun v => v.category).sum := by
  rw [List.map_map]
  congr 1
  exact List.map_congr_left (fun v _ => pm_tr_cat G v)
/-- one cell -/
def pm_at (G : pm_G) (a : Nat) (c : pm_C) (gv : Nat → Value) (H : Heap) : Prop := match c with
  | .inl q => H[pm_b G + a]? = some (arrV (pm_dA G q.1) q.2.1 (fun j => .int (q.2.2 j)))
  | .inr (.inl q) => H[pm_b G + a]? = some (arrV (pm_dA G 3) q.1 (fun j => .long (q.2 j)))
  | .inr (.inr (.inl ci)) => ∃ r : vw_C, vwCl[ci]? = some r ∧ t_OB (pm_b G + a) ((pm_D G).1 ci) r.2.2 ((pm_D G).2 ci) H (fun k => pm_tr G (gv k))
  | .inr (.inr (.inr _)) => True
def pm_R (G : pm_G) (n : Nat) (h : pm_h) (g : pm_g) (H : Heap) : Prop := H.size = pm_b G + n ∧ (∀ a, pm_at G a (h a) (g a) H) ∧ ∀ q, q < pm_b G → H[q]? = (pm_H0 G)[q]?
theorem pm_at.kept {G : pm_G} {a : Nat} {c : pm_C} {gv : Nat → Value} {H H1 : Heap} (h : pm_at G a c gv H) (hq : H1[pm_b G + a]? = H[pm_b G + a]?) : pm_at G a c gv H1 := by
  rcases c with q | q | ci | u
  · exact hq.trans h
  · exact hq.trans h
  · obtain ⟨r, h1, h2⟩ := h
    exact ⟨r, h1, h2.kept hq⟩
  · exact trivial
theorem pm_at.push {G : pm_G} {a n : Nat} {c : pm_C} {gv : Nat → Value} {H H1 : Heap} (h : pm_at G a c gv H) (hz : H.size = pm_b G + n) (hq : ∀ q : Nat, q < pm_b G + n → H1[q]? = H[q]?) : pm_at G a c gv H1 := by
  have key : ∀ x : Cell, H[pm_b G + a]? = some x → H1[pm_b G + a]? = H[pm_b G + a]? := fun x hx => hq _ (by rw [← hz]; exact (Array.getElem?_eq_some_iff.mp hx).1)
  rcases c with q | q | ci | u
  · exact (key _ h).trans h
  · exact (key _ h).trans h
  · obtain ⟨r, h1, cell, h2, h3⟩ := h
    exact ⟨r, h1, cell, (key _ h2).trans h2, h3⟩
  · exact trivial
/-- the tables' words that stay -/
def pm_T : List Jvm.Cond := lw_tbl.filter goodWord
def pm_N : List (String × Nat × MethodName × String) := lw_tbl.filterMap (fun w => match w with | .methodLinkNest a i x h => some (a, i, x, h) | _ => none)
theorem pm_inT {w : Jvm.Cond} (i : Nat) (h : lw_tbl[i]? = some w) (hg : goodWord w = true) : w ∈ pm_T := List.mem_filter.mpr ⟨List.mem_of_getElem? h, hg⟩
theorem pm_inN {a : String} {j : Nat} {x : MethodName} {b : String} (i : Nat) (h : lw_tbl[i]? = some (.methodLinkNest a j x b)) : (a, j, x, b) ∈ pm_N := List.mem_filterMap.mpr ⟨_, List.mem_of_getElem? h, rfl⟩
def pm_Dc : List MethodName := [Bundle.init0 "java/lang/RuntimeException", Bundle.init0 "java/lang/Exception", Bundle.init0 Bundle.tN]
/-- what the tables say: class tables, array classes, words, the script -/
def pm_K (G : pm_G) (s : State) : Prop := (∀ (c : Nat) (q : vw_C), vwCl[c]? = some q → u_Kn s q.1 q.2.1 q.2.2 ((pm_D G).1 c) ((pm_D G).2 c)) ∧ (∀ kd : Nat, kd < 4 → ArrOfT s (pm_dA G kd) (pm_ty kd) ∧ s.vm.findClass ("[" ++ (pm_ty kd).toString) = some (pm_dA G kd)) ∧
  (∀ w ∈ pm_T, ∀ a' : Array Value, w.before a' s = true) ∧ (∀ q ∈ pm_N, va_Nw (.methodLinkNest q.1 q.2.1 q.2.2.1 q.2.2.2) s) ∧ va_X (pm_s G) (pm_L G) (pm_xs G) s (pm_H0 G) ∧ pm_s G < pm_b G ∧ (pm_l G).stackTraces = false ∧ vx_Zq Bundle.tN "UNASSIGNED_STACK" Bundle.steD (fun q => pm_b G ≤ q) s (pm_H0 G) ∧ vx_Zq Bundle.tN "SUPPRESSED_SENTINEL" Bundle.listD (fun q => pm_b G ≤ q) s (pm_H0 G) ∧ va_Nw (.castable "java/util/NoSuchElementException" "java/util/NoSuchElementException") s ∧ ∀ x ∈ pm_Dc, va_Nw (.declares x) s
theorem pm_K.moved {G : pm_G} {s U : State} (hW : s.WarmedH U.vm) (h : pm_K G s) : pm_K G U := by
  obtain ⟨h1, h2, h3, h4, h5, h6, h7, h8, h9, h10, h11⟩ := h
  have hvm : s.vm.Alike U.vm := hW.alike
  refine ⟨fun c q hq => u_Kn_moved hvm (h1 c q hq), fun kd hk => ⟨arrOfT_moved hvm (h2 kd hk).1, by rw [hvm.findClass]; exact (h2 kd hk).2⟩, fun w hw a' => ?_, fun q hq => va_Nw.warmM hW (h4 q hq), va_X.moved hvm h5, h6, h7, h8.moved hvm, h9.moved hvm, va_Nw.warmC hW h10, fun x hx => va_Nw.warmD hW (h11 x hx)⟩
  exact word_at hW (good_of_word (List.mem_filter.mp hw).2) (h3 w hw #[])
/-- the vm alone -/
theorem pm_K.same {G : pm_G} {s U : State} (hv : s.vm = U.vm) (h : pm_K G s) : pm_K G U := by
  have hW : s.WarmedH U.vm := by rw [← hv]; exact State.WarmedH.refl _
  exact h.moved hW
/-- a method: name, code, locals, answer's type, room of frames and of locals -/
abbrev pm_M : Type := MethodName × ByteArray × Nat × Option FieldType × Nat × Nat
abbrev pm_y (M : pm_M) : MethodName := M.1
abbrev pm_cc (M : pm_M) : ByteArray := M.2.1
abbrev pm_ml (M : pm_M) : Nat := M.2.2.1
abbrev pm_rt (M : pm_M) : Option FieldType := M.2.2.2.1
abbrev pm_fr (M : pm_M) : Nat := M.2.2.2.2.1
abbrev pm_lr (M : pm_M) : Nat := M.2.2.2.2.2
/-- the handlers that a method has: of the law's share alone any -/
def pm_th (M : pm_M) : Option (List (Nat × Nat × Nat × Nat)) := if (pm_y M).cls = "HillFinderLaw" then (if (pm_y M).name = "share" then some [(0, 9, 12, 13)] else none) else some []
def pm_tb (M : pm_M) (c : Code) : Prop := ∀ hh, pm_th M = some hh → c.exceptionTable.toList = tableOf hh
def pm_X (G : pm_G) (M : pm_M) (p : Program) (R : Room) (s : State) (m : MethodId) (meth : Method) (c : Code) : Prop :=
  p.tables.exec = Jvm.exec ∧ c.code = pm_cc M ∧ c.maxLocals = pm_ml M ∧ meth.sig.returnType = pm_rt M ∧ meth.locks = false ∧ meth.name = (pm_y M).name ∧ s.vm.findClass (pm_y M).cls = some m.cls ∧ pm_K G s ∧ R.frames = pm_fr M ∧ R.locals = pm_lr M ∧ (pm_tb M c ∧ pm_b G ≤ s.heap.size)
/-- the locals: .float: nothing is known there -/
abbrev pm_u : Value := .float 0
def pm_un : Value → Bool
  | .float _ => true
  | _ => false
def pm_lo (G : pm_G) (lc : Array Slot) (n : Nat) (l : List Value) : Prop := lc.size = n ∧ lv_wf lc ∧ ∀ (i : Nat) (v : Value), l[i]? = some v → pm_un v = false → lc[i]? = some (.val (pm_tr G v))
def pm_as (G : pm_G) (l : List Value) : List (Nat × Value) := (l.zipIdx.filter (fun q => !pm_un q.1)).map (fun q => (q.2, pm_tr G q.1))
theorem pm_as_mem {G : pm_G} {l : List Value} {q : Nat × Value} : q ∈ pm_as G l ↔ ∃ v, l[q.1]? = some v ∧ pm_un v = false ∧ q.2 = pm_tr G v := by
  constructor
  · intro h
    obtain ⟨x, hx, rfl⟩ := List.mem_map.mp h
    obtain ⟨h1, h2⟩ := List.mem_filter.mp hx
    exact ⟨x.1, List.mem_zipIdx_iff_getElem?.mp h1, by simpa using h2, rfl⟩
  · rintro ⟨v, h1, h2, h3⟩
    refine List.mem_map.mpr ⟨(v, q.1), List.mem_filter.mpr ⟨List.mem_zipIdx_iff_getElem?.mpr h1, by simpa using h2⟩, ?_⟩
    rw [← h3]
theorem pm_lo.has {G : pm_G} {lc : Array Slot} {n : Nat} {l : List Value} (h : pm_lo G lc n l) : lv_has lc n (pm_as G l) := by
  refine ⟨h.1, h.2.1, fun q hq => ?_⟩
  obtain ⟨v, h1, h2, h3⟩ := pm_as_mem.mp hq
  rw [h3]
  exact h.2.2 _ v h1 h2
theorem pm_lo.of {G : pm_G} {lc : Array Slot} {n : Nat} {l : List Value} {lv : List (Nat × Value)} (h : lv_has lc n lv) (hs : ∀ (i : Nat) (v : Value), l[i]? = some v → pm_un v = false → (i, pm_tr G v) ∈ lv) : pm_lo G lc n l :=
  ⟨h.1, h.2.1, fun i v h1 h2 => h.2.2 (i, pm_tr G v) (hs i v h1 h2)⟩
/-- behind a store of one slot -/
theorem pm_lo.st1 {G : pm_G} {lc : Array Slot} {n i : Nat} {l l' : List Value} {v : Value} (h : lv_has lc n ((i, pm_tr G v) :: (pm_as G l).filter (fun q => !(q.1 == i) && !(q.1 + 1 == i && q.2.category == 2)))) (hl : l' = l.set i v) (hc : ∀ w, l[i - 1]? = some w → w.category = 1 ∨ i = 0) : pm_lo G lc n l' := by
  subst hl
  refine pm_lo.of h fun j w h1 h2 => ?_
  by_cases hj : i = j
  · subst hj
    by_cases hi : i < l.length
    · rw [List.getElem?_set_self hi] at h1
      cases h1
      exact List.mem_cons_self
    · rw [List.getElem?_eq_none (by rw [List.length_set]; omega)] at h1
      cases h1
  · rw [List.getElem?_set_ne hj] at h1
    refine List.mem_cons_of_mem _ (List.mem_filter.mpr ⟨pm_as_mem.mpr ⟨w, h1, h2, rfl⟩, ?_⟩)
    simp only [Bool.and_eq_true, Bool.not_eq_true', beq_eq_false_iff_ne, ne_eq, Bool.and_eq_false_iff]
    refine ⟨fun q => hj q.symm, ?_⟩
    by_cases hk : j + 1 = i
    · right
      rw [pm_tr_cat]
      have hh : l[i - 1]? = some w := by rw [← hk]; exact h1
      rcases hc w hh with z | z
      · rw [z]; decide
      · omega
    · exact Or.inl hk
/-- behind a store of two -/
theorem pm_lo.st2 {G : pm_G} {lc : Array Slot} {n i : Nat} {l l' : List Value} {v : Value} (h : lv_has lc n ((i, pm_tr G v) :: (pm_as G l).filter (fun q => !(q.1 == i) && (!(q.1 == i + 1) && !(q.1 + 1 == i && q.2.category == 2))))) (hl : l' = (l.set i v).set (i + 1) pm_u) (hc : ∀ w, l[i - 1]? = some w → w.category = 1 ∨ i = 0) : pm_lo G lc n l' := by
  subst hl
  refine pm_lo.of h fun j w h1 h2 => ?_
  by_cases hj1 : i + 1 = j
  · subst hj1
    by_cases hi : i + 1 < (l.set i v).length
    · rw [List.getElem?_set_self hi] at h1
      cases h1
      cases h2
    · rw [List.getElem?_eq_none (by rw [List.length_set]; omega)] at h1
      cases h1
  rw [List.getElem?_set_ne hj1] at h1
  by_cases hj : i = j
  · subst hj
    by_cases hi : i < l.length
    · rw [List.getElem?_set_self hi] at h1
      cases h1
      exact List.mem_cons_self
    · rw [List.getElem?_eq_none (by rw [List.length_set]; omega)] at h1
      cases h1
  · rw [List.getElem?_set_ne hj] at h1
    refine List.mem_cons_of_mem _ (List.mem_filter.mpr ⟨pm_as_mem.mpr ⟨w, h1, h2, rfl⟩, ?_⟩)
    simp only [Bool.and_eq_true, Bool.not_eq_true', beq_eq_false_iff_ne, ne_eq, Bool.and_eq_false_iff]
    refine ⟨fun q => hj q.symm, fun q => hj1 q.symm, ?_⟩
    by_cases hk : j + 1 = i
    · right
      rw [pm_tr_cat]
      have hh : l[i - 1]? = some w := by rw [← hk]; exact h1
      rcases hc w hh with z | z
      · rw [z]; decide
      · omega
    · exact Or.inl hk
/-- the locals at a method's entry -/
def pm_en : List Value → List Value
  | [] => []
  | v :: r => if v.category = 2 then v :: pm_u :: pm_en r else v :: pm_en r
theorem pm_en_args (G : pm_G) (k : Nat) : ∀ (As : List Value) (o : Nat) (i : Nat) (v : Value), (pm_en As ++ List.replicate k pm_u)[i]? = some v → pm_un v = false → (o + i, pm_tr G v) ∈ lv_args o (As.map (pm_tr G))
  | [], o, i, v, h1, h2 => by
    simp only [pm_en, List.nil_append] at h1
    have := List.eq_of_mem_replicate (List.mem_of_getElem? h1)
    rw [this] at h2
    cases h2
  | w :: r, o, i, v, h1, h2 => by
    simp only [pm_en] at h1
    simp only [List.map_cons, lv_args, pm_tr_cat]
    by_cases hc : w.category = 2
    · rw [if_pos hc] at h1 ⊢
      match i, h1 with
      | 0, h1 => cases h1; exact List.mem_cons_self
      | 1, h1 => cases h1; cases h2
      | i + 2, h1 =>
        have := pm_en_args G k r (o + 2) i v h1 h2
        rw [show o + (i + 2) = o + 2 + i by omega]
        exact List.mem_cons_of_mem _ this
    · rw [if_neg hc] at h1 ⊢
      match i, h1 with
      | 0, h1 => cases h1; exact List.mem_cons_self
      | i + 1, h1 =>
        have := pm_en_args G k r (o + 1) i v h1 h2
        rw [show o + (i + 1) = o + 1 + i by omega]
        exact List.mem_cons_of_mem _ this
theorem pm_en_len (G : pm_G) : ∀ As : List Value, (lg_sl (As.map (pm_tr G))).length = (pm_en As).length
  | [] => rfl
  | w :: r => by
    have ih := pm_en_len G r
    simp only [lg_sl, List.map_cons, List.flatMap_cons, List.length_append, pm_tr_cat, pm_en] at ih ⊢
    by_cases hc : w.category = 2
    · rw [if_pos hc, if_pos hc]; simp only [List.length_cons, List.length_nil]; omega
    · rw [if_neg hc, if_neg hc]; simp only [List.length_cons, List.length_nil]; omega
/-- THE JUDGEMENT: from here, whatever stands around it, the method comes to Φ -/
abbrev pm_F : Type := List Frame → Array Value → State → Nat → Nat → State → Prop
def pm_W (G : pm_G) (M : pm_M) (zm : pm_z) (Φ : pm_F) (pc : Nat) (ls st : List Value) (z : pm_z) (h : pm_h) (g : pm_g) : Prop :=
  ∀ (p : Program) (e : Env) (R : Room) (s : State) (m : MethodId) (args : Array Value) (below : List Frame) (meth : Method) (c : Code) (H : Heap) (locs : List Loc) (z0 : pm_z) (lc : Array Slot),
    pm_X G M p R s m meth c → pm_R G z.2.2 h g H → (∀ q ∈ locs, pm_b G ≤ q.base) → pm_lo G lc (pm_ml M) ls → z0.1 ≤ z.1 → z0.2.1 ≤ z.2.1 → z.1 ≤ zm.1 → z.2.1 ≤ zm.2.1 → R.cells = zm.1 - z0.1 → R.slots = zm.2.1 - z0.2.1 →
    W p (pm_l G) e R s m args below meth c H locs (z.1 - z0.1) (z.2.1 - z0.2.1) (Φ below args s (zm.1 - z0.1) (zm.2.1 - z0.2.1)) (F0 m pc lc (st.map (pm_tr G)))
/-- a method's end -/
def pm_Φ (G : pm_G) (zm : pm_z) (Q : Option Value → pm_h → pm_g → Prop) : pm_F := fun below args s mc ms =>
  MQ below (fun _ _ o t => ∃ (r : Option Value) (h' : pm_h) (g' : pm_g), Q r h' g' ∧ o = .returned (r.map (pm_tr G)) ∧ pm_R G zm.2.2 h' g' t.heap) args s mc ms (fun q => pm_b G ≤ q)
/-- a method's contract -/
def pm_Met (G : pm_G) (M : pm_M) (As : List Value) (z zm : pm_z) (h : pm_h) (g : pm_g) (Q : Option Value → pm_h → pm_g → Prop) : Prop :=
  Met (pm_l G) (pm_y M) [.code (pm_y M) (pm_cc M) (pm_ml M) (pm_rt M)] ({ frames := pm_fr M, cells := zm.1 - z.1, slots := zm.2.1 - z.2.1, locals := pm_lr M } : Room) (fun a U => a = (As.map (pm_tr G)).toArray ∧ pm_R G z.2.2 h g U.heap ∧ pm_K G U)
    (fun _ _ o t => ∃ (r : Option Value) (h' : pm_h) (g' : pm_g), Q r h' g' ∧ o = .returned (r.map (pm_tr G)) ∧ pm_R G zm.2.2 h' g' t.heap) (zm.1 - z.1) (zm.2.1 - z.2.1) (fun q => pm_b G ≤ q)
theorem pm_Met.of {G : pm_G} {M : pm_M} {As ls : List Value} {z zm : pm_z} {h : pm_h} {g : pm_g} {Q : Option Value → pm_h → pm_g → Prop} (hp : plainName (pm_y M).cls = true) (hth : pm_th M = some []) (hls : pm_en As ++ List.replicate (pm_ml M - (pm_en As).length) pm_u = ls) (hle : (pm_en As).length ≤ pm_ml M) (hz1 : z.1 ≤ zm.1) (hz2 : z.2.1 ≤ zm.2.1)
    (k : pm_W G M zm (pm_Φ G zm Q) 0 ls [] z h g) : pm_Met G M As z zm h g Q := by
  refine Met.ofW (cc := pm_cc M) (maxL := pm_ml M) (ret := pm_rt M) hp rfl ?_
  intro p e s m args below meth c s₁ B hml hP
  obtain ⟨rfl, hR, hK⟩ := hP
  have hown : s.vm.findClass (pm_y M).cls = some m.cls := findClass_of_methodNamed B.named
  have hlen := pm_en_len G As
  have hl := lv_entry (As.map (pm_tr G)) (n := pm_ml M) (by rw [hlen]; exact hle)
  rw [lg_entry_eq]
  generalize (lg_sl (As.map (pm_tr G)) ++ List.replicate (pm_ml M - (lg_sl (As.map (pm_tr G))).length) Slot.unset).toArray = lc at hl ⊢
  have hlo : pm_lo G lc (pm_ml M) ls := by
    refine pm_lo.of hl fun i v h1 h2 => ?_
    rw [← hls] at h1
    have := pm_en_args G _ As 0 i v h1 h2
    rwa [Nat.zero_add] at this
  have X : pm_X G M p (headSpec [Cond.code (pm_y M) (pm_cc M) (pm_ml M) (pm_rt M)] ({ frames := pm_fr M, cells := zm.1 - z.1, slots := zm.2.1 - z.2.1, locals := pm_lr M } : Room)).room s m meth c :=
    ⟨B.exec, B.bytes, hml, B.returns, B.notSynchronized, (name_of_methodNamed B.named B.method).1, hown, hK, rfl, rfl, fun hh hhe => by
      cases hth.symm.trans hhe
      obtain ⟨meth9, c9, h1, h2, -, -, -, -, h7, -⟩ := Cond.code_spec B.named (atoms_spec (ws := [Cond.code (pm_y M) (pm_cc M) (pm_ml M) (pm_rt M)]) B.pre _ List.mem_cons_self)
      cases Option.some.inj (h1.symm.trans B.method)
      cases Option.some.inj (h2.symm.trans (Stand.of_body B).code)
      rw [Array.isEmpty_iff.mp h7]
      rfl, by rw [hR.1]; exact Nat.le_add_right _ _⟩
  have w := k p e _ s m ((As.map (pm_tr G)).toArray) below meth c s.heap [] z lc X hR (fun q hq => by cases hq) hlo (Nat.le_refl _) (Nat.le_refl _) hz1 hz2 rfl rfl
  rw [Nat.sub_self, Nat.sub_self] at w
  exact w
