section PX
variable {G : pm_G} {M : pm_M} {zm : pm_z} {Φ : pm_F} {pc pc' : Nat} {ls st : List Value} {z : pm_z} {h : pm_h} {g : pm_g}
theorem px_iconst {n : Int} {v : Int32} (hd : decode (pm_cc M) pc = .ok (.iconst n, 1)) (hp : pc + 1 = pc') (hv : Int32.ofInt n = v) (k : pm_W G M zm Φ pc' ls (.int v :: st) z h g) : pm_W G M zm Φ pc ls (st) z h g := by
  subst hp
  intro p e R s m args below meth c H locs z0 lc X hR hL hlo a1 a2 a3 a4 a5 a6
  exact lv_iconst X.1 X.2.1 hd hv (k p e R s m args below meth c H locs z0 lc X hR hL hlo a1 a2 a3 a4 a5 a6)
theorem px_bipush {n : Int} {v : Int32} (hd : decode (pm_cc M) pc = .ok (.bipush n, 2)) (hp : pc + 2 = pc') (hv : (Int8.ofInt n).toInt32 = v) (k : pm_W G M zm Φ pc' ls (.int v :: st) z h g) : pm_W G M zm Φ pc ls (st) z h g := by
  subst hp
  intro p e R s m args below meth c H locs z0 lc X hR hL hlo a1 a2 a3 a4 a5 a6
  exact lv_bipush X.1 X.2.1 hd hv (k p e R s m args below meth c H locs z0 lc X hR hL hlo a1 a2 a3 a4 a5 a6)
theorem px_sipush {n : Int} {v : Int32} (hd : decode (pm_cc M) pc = .ok (.sipush n, 3)) (hp : pc + 3 = pc') (hv : (Int16.ofInt n).toInt32 = v) (k : pm_W G M zm Φ pc' ls (.int v :: st) z h g) : pm_W G M zm Φ pc ls (st) z h g := by
  subst hp
  intro p e R s m args below meth c H locs z0 lc X hR hL hlo a1 a2 a3 a4 a5 a6
  exact lv_sipush X.1 X.2.1 hd hv (k p e R s m args below meth c H locs z0 lc X hR hL hlo a1 a2 a3 a4 a5 a6)
theorem px_lconst {n : Fin 2} {v : Int64} (hd : decode (pm_cc M) pc = .ok (.lconst n, 1)) (hp : pc + 1 = pc') (hv : Int64.ofNat (n : Nat) = v) (k : pm_W G M zm Φ pc' ls (.long v :: st) z h g) : pm_W G M zm Φ pc ls (st) z h g := by
  subst hp
  intro p e R s m args below meth c H locs z0 lc X hR hL hlo a1 a2 a3 a4 a5 a6
  exact lv_lconst X.1 X.2.1 hd hv (k p e R s m args below meth c H locs z0 lc X hR hL hlo a1 a2 a3 a4 a5 a6)
theorem px_iload_n {j : Fin 4} {i : Nat} {x : Int32} (hd : decode (pm_cc M) pc = .ok (.iload_n j, 1)) (hp : pc + 1 = pc') (hi : (j : Nat) = i) (hl : ls[i]? = some (.int x)) (k : pm_W G M zm Φ pc' ls (.int x :: st) z h g) : pm_W G M zm Φ pc ls (st) z h g := by
  subst hp
  intro p e R s m args below meth c H locs z0 lc X hR hL hlo a1 a2 a3 a4 a5 a6
  exact lv_iload_n X.1 X.2.1 hd hi (hlo.2.2 i _ hl rfl) (k p e R s m args below meth c H locs z0 lc X hR hL hlo a1 a2 a3 a4 a5 a6)
theorem px_iload {i : Nat} {x : Int32} (hd : decode (pm_cc M) pc = .ok (.iload i, 2)) (hp : pc + 2 = pc') (hl : ls[i]? = some (.int x)) (k : pm_W G M zm Φ pc' ls (.int x :: st) z h g) : pm_W G M zm Φ pc ls (st) z h g := by
  subst hp
  intro p e R s m args below meth c H locs z0 lc X hR hL hlo a1 a2 a3 a4 a5 a6
  exact lv_iload X.1 X.2.1 hd (hlo.2.2 i _ hl rfl) (k p e R s m args below meth c H locs z0 lc X hR hL hlo a1 a2 a3 a4 a5 a6)
theorem px_lload_n {j : Fin 4} {i : Nat} {x : Int64} (hd : decode (pm_cc M) pc = .ok (.lload_n j, 1)) (hp : pc + 1 = pc') (hi : (j : Nat) = i) (hl : ls[i]? = some (.long x)) (k : pm_W G M zm Φ pc' ls (.long x :: st) z h g) : pm_W G M zm Φ pc ls (st) z h g := by
  subst hp
  intro p e R s m args below meth c H locs z0 lc X hR hL hlo a1 a2 a3 a4 a5 a6
  exact lv_lload_n X.1 X.2.1 hd hi (hlo.2.2 i _ hl rfl) (k p e R s m args below meth c H locs z0 lc X hR hL hlo a1 a2 a3 a4 a5 a6)
theorem px_lload {i : Nat} {x : Int64} (hd : decode (pm_cc M) pc = .ok (.lload i, 2)) (hp : pc + 2 = pc') (hl : ls[i]? = some (.long x)) (k : pm_W G M zm Φ pc' ls (.long x :: st) z h g) : pm_W G M zm Φ pc ls (st) z h g := by
  subst hp
  intro p e R s m args below meth c H locs z0 lc X hR hL hlo a1 a2 a3 a4 a5 a6
  exact lv_lload X.1 X.2.1 hd (hlo.2.2 i _ hl rfl) (k p e R s m args below meth c H locs z0 lc X hR hL hlo a1 a2 a3 a4 a5 a6)
theorem px_aload_n {j : Fin 4} {i x : Nat} (hd : decode (pm_cc M) pc = .ok (.aload_n j, 1)) (hp : pc + 1 = pc') (hi : (j : Nat) = i) (hl : ls[i]? = some (.ref x)) (k : pm_W G M zm Φ pc' ls (.ref x :: st) z h g) : pm_W G M zm Φ pc ls (st) z h g := by
  subst hp
  intro p e R s m args below meth c H locs z0 lc X hR hL hlo a1 a2 a3 a4 a5 a6
  exact lv_aload_n X.1 X.2.1 hd hi (hlo.2.2 i _ hl rfl) (k p e R s m args below meth c H locs z0 lc X hR hL hlo a1 a2 a3 a4 a5 a6)
theorem px_aload {i x : Nat} (hd : decode (pm_cc M) pc = .ok (.aload i, 2)) (hp : pc + 2 = pc') (hl : ls[i]? = some (.ref x)) (k : pm_W G M zm Φ pc' ls (.ref x :: st) z h g) : pm_W G M zm Φ pc ls (st) z h g := by
  subst hp
  intro p e R s m args below meth c H locs z0 lc X hR hL hlo a1 a2 a3 a4 a5 a6
  exact lv_aload X.1 X.2.1 hd (hlo.2.2 i _ hl rfl) (k p e R s m args below meth c H locs z0 lc X hR hL hlo a1 a2 a3 a4 a5 a6)
theorem px_aload_s {j : Fin 4} {i x : Nat} (hd : decode (pm_cc M) pc = .ok (.aload_n j, 1)) (hp : pc + 1 = pc') (hi : (j : Nat) = i) (hl : ls[i]? = some (.retAddr x)) (k : pm_W G M zm Φ pc' ls (.retAddr x :: st) z h g) : pm_W G M zm Φ pc ls (st) z h g := by
  subst hp
  intro p e R s m args below meth c H locs z0 lc X hR hL hlo a1 a2 a3 a4 a5 a6
  exact lv_aload_n X.1 X.2.1 hd hi (hlo.2.2 i _ hl rfl) (k p e R s m args below meth c H locs z0 lc X hR hL hlo a1 a2 a3 a4 a5 a6)
theorem px_istore_n {j : Fin 4} {i : Nat} {x : Int32} {ls' : List Value} (hd : decode (pm_cc M) pc = .ok (.istore_n j, 1)) (hp : pc + 1 = pc') (hi : (j : Nat) = i) (hn : i < pm_ml M) (hc : ∀ w, ls[i - 1]? = some w → w.category = 1 ∨ i = 0) (hs : ls' = (ls.set i (.int x))) (k : pm_W G M zm Φ pc' ls' (st) z h g) : pm_W G M zm Φ pc ls (.int x :: st) z h g := by
  subst hp
  intro p e R s m args below meth c H locs z0 lc X hR hL hlo a1 a2 a3 a4 a5 a6
  exact lv_istore_n X.1 X.2.1 hd hi hlo.has hn rfl (fun lc' hl' => k p e R s m args below meth c H locs z0 lc' X hR hL (pm_lo.st1 (v := .int x) hl' hs hc) a1 a2 a3 a4 a5 a6)
theorem px_istore {i : Nat} {x : Int32} {ls' : List Value} (hd : decode (pm_cc M) pc = .ok (.istore i, 2)) (hp : pc + 2 = pc') (hn : i < pm_ml M) (hc : ∀ w, ls[i - 1]? = some w → w.category = 1 ∨ i = 0) (hs : ls' = (ls.set i (.int x))) (k : pm_W G M zm Φ pc' ls' (st) z h g) : pm_W G M zm Φ pc ls (.int x :: st) z h g := by
  subst hp
  intro p e R s m args below meth c H locs z0 lc X hR hL hlo a1 a2 a3 a4 a5 a6
  exact lv_istore X.1 X.2.1 hd hlo.has hn rfl (fun lc' hl' => k p e R s m args below meth c H locs z0 lc' X hR hL (pm_lo.st1 (v := .int x) hl' hs hc) a1 a2 a3 a4 a5 a6)
theorem px_lstore_n {j : Fin 4} {i : Nat} {x : Int64} {ls' : List Value} (hd : decode (pm_cc M) pc = .ok (.lstore_n j, 1)) (hp : pc + 1 = pc') (hi : (j : Nat) = i) (hn : i + 1 < pm_ml M) (hc : ∀ w, ls[i - 1]? = some w → w.category = 1 ∨ i = 0) (hs : ls' = ((ls.set i (.long x)).set (i + 1) pm_u)) (k : pm_W G M zm Φ pc' ls' (st) z h g) : pm_W G M zm Φ pc ls (.long x :: st) z h g := by
  subst hp
  intro p e R s m args below meth c H locs z0 lc X hR hL hlo a1 a2 a3 a4 a5 a6
  exact lv_lstore_n X.1 X.2.1 hd hi hlo.has hn rfl (fun lc' hl' => k p e R s m args below meth c H locs z0 lc' X hR hL (pm_lo.st2 (v := .long x) hl' hs hc) a1 a2 a3 a4 a5 a6)
theorem px_lstore {i : Nat} {x : Int64} {ls' : List Value} (hd : decode (pm_cc M) pc = .ok (.lstore i, 2)) (hp : pc + 2 = pc') (hn : i + 1 < pm_ml M) (hc : ∀ w, ls[i - 1]? = some w → w.category = 1 ∨ i = 0) (hs : ls' = ((ls.set i (.long x)).set (i + 1) pm_u)) (k : pm_W G M zm Φ pc' ls' (st) z h g) : pm_W G M zm Φ pc ls (.long x :: st) z h g := by
  subst hp
  intro p e R s m args below meth c H locs z0 lc X hR hL hlo a1 a2 a3 a4 a5 a6
  exact lv_lstore X.1 X.2.1 hd hlo.has hn rfl (fun lc' hl' => k p e R s m args below meth c H locs z0 lc' X hR hL (pm_lo.st2 (v := .long x) hl' hs hc) a1 a2 a3 a4 a5 a6)
theorem px_astore_n {j : Fin 4} {i : Nat} {x : Nat} {ls' : List Value} (hd : decode (pm_cc M) pc = .ok (.astore_n j, 1)) (hp : pc + 1 = pc') (hi : (j : Nat) = i) (hn : i < pm_ml M) (hc : ∀ w, ls[i - 1]? = some w → w.category = 1 ∨ i = 0) (hs : ls' = (ls.set i (.ref x))) (k : pm_W G M zm Φ pc' ls' (st) z h g) : pm_W G M zm Φ pc ls (.ref x :: st) z h g := by
  subst hp
  intro p e R s m args below meth c H locs z0 lc X hR hL hlo a1 a2 a3 a4 a5 a6
  exact lv_astore_n X.1 X.2.1 hd hi hlo.has hn rfl (fun lc' hl' => k p e R s m args below meth c H locs z0 lc' X hR hL (pm_lo.st1 (v := .ref x) hl' hs hc) a1 a2 a3 a4 a5 a6)
theorem px_astore {i : Nat} {x : Nat} {ls' : List Value} (hd : decode (pm_cc M) pc = .ok (.astore i, 2)) (hp : pc + 2 = pc') (hn : i < pm_ml M) (hc : ∀ w, ls[i - 1]? = some w → w.category = 1 ∨ i = 0) (hs : ls' = (ls.set i (.ref x))) (k : pm_W G M zm Φ pc' ls' (st) z h g) : pm_W G M zm Φ pc ls (.ref x :: st) z h g := by
  subst hp
  intro p e R s m args below meth c H locs z0 lc X hR hL hlo a1 a2 a3 a4 a5 a6
  exact lv_astore X.1 X.2.1 hd hlo.has hn rfl (fun lc' hl' => k p e R s m args below meth c H locs z0 lc' X hR hL (pm_lo.st1 (v := .ref x) hl' hs hc) a1 a2 a3 a4 a5 a6)
theorem px_iinc {i : Nat} {n : Int} {x w : Int32} {ls' : List Value} (hd : decode (pm_cc M) pc = .ok (.iinc i n, 3)) (hp : pc + 3 = pc') (hn : i < pm_ml M) (hl : ls[i]? = some (.int x)) (hw : Int32.ofInt n = w) (hc : ∀ v, ls[i - 1]? = some v → v.category = 1 ∨ i = 0) (hs : ls' = ls.set i (.int (x + w))) (k : pm_W G M zm Φ pc' ls' (st) z h g) : pm_W G M zm Φ pc ls (st) z h g := by
  subst hp
  intro p e R s m args below meth c H locs z0 lc X hR hL hlo a1 a2 a3 a4 a5 a6
  have hm : (i, Value.int x) ∈ pm_as G ls := pm_as_mem.mpr ⟨_, hl, rfl, rfl⟩
  obtain ⟨q, hq⟩ := List.getElem?_of_mem hm
  exact lv_iinc X.1 X.2.1 hd hlo.has hq (by rw [hw]) hn rfl (fun lc' hl' => k p e R s m args below meth c H locs z0 lc' X hR hL (pm_lo.st1 (v := .int (x + w)) hl' hs hc) a1 a2 a3 a4 a5 a6)
theorem px_iadd {x y : Int32} (hd : decode (pm_cc M) pc = .ok (.iadd, 1)) (hp : pc + 1 = pc') (k : pm_W G M zm Φ pc' ls (.int (x + y) :: st) z h g) : pm_W G M zm Φ pc ls (.int y :: .int x :: st) z h g := by
  subst hp
  intro p e R s m args below meth c H locs z0 lc X hR hL hlo a1 a2 a3 a4 a5 a6
  exact lv_iadd X.1 X.2.1 hd (k p e R s m args below meth c H locs z0 lc X hR hL hlo a1 a2 a3 a4 a5 a6)
theorem px_isub {x y : Int32} (hd : decode (pm_cc M) pc = .ok (.isub, 1)) (hp : pc + 1 = pc') (k : pm_W G M zm Φ pc' ls (.int (x - y) :: st) z h g) : pm_W G M zm Φ pc ls (.int y :: .int x :: st) z h g := by
  subst hp
  intro p e R s m args below meth c H locs z0 lc X hR hL hlo a1 a2 a3 a4 a5 a6
  exact lv_isub X.1 X.2.1 hd (k p e R s m args below meth c H locs z0 lc X hR hL hlo a1 a2 a3 a4 a5 a6)
theorem px_imul {x y : Int32} (hd : decode (pm_cc M) pc = .ok (.imul, 1)) (hp : pc + 1 = pc') (k : pm_W G M zm Φ pc' ls (.int (x * y) :: st) z h g) : pm_W G M zm Φ pc ls (.int y :: .int x :: st) z h g := by
  subst hp
  intro p e R s m args below meth c H locs z0 lc X hR hL hlo a1 a2 a3 a4 a5 a6
  exact lv_imul X.1 X.2.1 hd (k p e R s m args below meth c H locs z0 lc X hR hL hlo a1 a2 a3 a4 a5 a6)
theorem px_iand {x y : Int32} (hd : decode (pm_cc M) pc = .ok (.iand, 1)) (hp : pc + 1 = pc') (k : pm_W G M zm Φ pc' ls (.int (x &&& y) :: st) z h g) : pm_W G M zm Φ pc ls (.int y :: .int x :: st) z h g := by
  subst hp
  intro p e R s m args below meth c H locs z0 lc X hR hL hlo a1 a2 a3 a4 a5 a6
  exact lv_iand X.1 X.2.1 hd (k p e R s m args below meth c H locs z0 lc X hR hL hlo a1 a2 a3 a4 a5 a6)
theorem px_ishl {x y : Int32} (hd : decode (pm_cc M) pc = .ok (.ishl, 1)) (hp : pc + 1 = pc') (k : pm_W G M zm Φ pc' ls (.int (x <<< (y &&& 31)) :: st) z h g) : pm_W G M zm Φ pc ls (.int y :: .int x :: st) z h g := by
  subst hp
  intro p e R s m args below meth c H locs z0 lc X hR hL hlo a1 a2 a3 a4 a5 a6
  exact lv_ishl X.1 X.2.1 hd (k p e R s m args below meth c H locs z0 lc X hR hL hlo a1 a2 a3 a4 a5 a6)
theorem px_ishr {x y : Int32} (hd : decode (pm_cc M) pc = .ok (.ishr, 1)) (hp : pc + 1 = pc') (k : pm_W G M zm Φ pc' ls (.int (x >>> (y &&& 31)) :: st) z h g) : pm_W G M zm Φ pc ls (.int y :: .int x :: st) z h g := by
  subst hp
  intro p e R s m args below meth c H locs z0 lc X hR hL hlo a1 a2 a3 a4 a5 a6
  exact lv_ishr X.1 X.2.1 hd (k p e R s m args below meth c H locs z0 lc X hR hL hlo a1 a2 a3 a4 a5 a6)
theorem px_idiv {x y : Int32} (hd : decode (pm_cc M) pc = .ok (.idiv, 1)) (hp : pc + 1 = pc') (hne : ¬ y = 0) (k : pm_W G M zm Φ pc' ls (.int (x / y) :: st) z h g) : pm_W G M zm Φ pc ls (.int y :: .int x :: st) z h g := by
  subst hp
  intro p e R s m args below meth c H locs z0 lc X hR hL hlo a1 a2 a3 a4 a5 a6
  exact lv_idiv X.1 X.2.1 hd hne (k p e R s m args below meth c H locs z0 lc X hR hL hlo a1 a2 a3 a4 a5 a6)
theorem px_irem {x y : Int32} (hd : decode (pm_cc M) pc = .ok (.irem, 1)) (hp : pc + 1 = pc') (hne : ¬ y = 0) (k : pm_W G M zm Φ pc' ls (.int (x - x / y * y) :: st) z h g) : pm_W G M zm Φ pc ls (.int y :: .int x :: st) z h g := by
  subst hp
  intro p e R s m args below meth c H locs z0 lc X hR hL hlo a1 a2 a3 a4 a5 a6
  exact lv_irem X.1 X.2.1 hd hne (k p e R s m args below meth c H locs z0 lc X hR hL hlo a1 a2 a3 a4 a5 a6)
theorem px_ladd {x y : Int64} (hd : decode (pm_cc M) pc = .ok (.ladd, 1)) (hp : pc + 1 = pc') (k : pm_W G M zm Φ pc' ls (.long (x + y) :: st) z h g) : pm_W G M zm Φ pc ls (.long y :: .long x :: st) z h g := by
  subst hp
  intro p e R s m args below meth c H locs z0 lc X hR hL hlo a1 a2 a3 a4 a5 a6
  exact lv_ladd X.1 X.2.1 hd (k p e R s m args below meth c H locs z0 lc X hR hL hlo a1 a2 a3 a4 a5 a6)
theorem px_lmul {x y : Int64} (hd : decode (pm_cc M) pc = .ok (.lmul, 1)) (hp : pc + 1 = pc') (k : pm_W G M zm Φ pc' ls (.long (x * y) :: st) z h g) : pm_W G M zm Φ pc ls (.long y :: .long x :: st) z h g := by
  subst hp
  intro p e R s m args below meth c H locs z0 lc X hR hL hlo a1 a2 a3 a4 a5 a6
  exact lv_lmul X.1 X.2.1 hd (k p e R s m args below meth c H locs z0 lc X hR hL hlo a1 a2 a3 a4 a5 a6)
theorem px_ldiv {x y : Int64} (hd : decode (pm_cc M) pc = .ok (.ldiv, 1)) (hp : pc + 1 = pc') (hne : ¬ y = 0) (k : pm_W G M zm Φ pc' ls (.long (x / y) :: st) z h g) : pm_W G M zm Φ pc ls (.long y :: .long x :: st) z h g := by
  subst hp
  intro p e R s m args below meth c H locs z0 lc X hR hL hlo a1 a2 a3 a4 a5 a6
  exact lv_ldiv X.1 X.2.1 hd hne (k p e R s m args below meth c H locs z0 lc X hR hL hlo a1 a2 a3 a4 a5 a6)
theorem px_lrem {x y : Int64} (hd : decode (pm_cc M) pc = .ok (.lrem, 1)) (hp : pc + 1 = pc') (hne : ¬ y = 0) (k : pm_W G M zm Φ pc' ls (.long (x - x / y * y) :: st) z h g) : pm_W G M zm Φ pc ls (.long y :: .long x :: st) z h g := by
  subst hp
  intro p e R s m args below meth c H locs z0 lc X hR hL hlo a1 a2 a3 a4 a5 a6
  exact lv_lrem X.1 X.2.1 hd hne (k p e R s m args below meth c H locs z0 lc X hR hL hlo a1 a2 a3 a4 a5 a6)
theorem px_ineg {x : Int32} (hd : decode (pm_cc M) pc = .ok (.ineg, 1)) (hp : pc + 1 = pc') (k : pm_W G M zm Φ pc' ls (.int (-x) :: st) z h g) : pm_W G M zm Φ pc ls (.int x :: st) z h g := by
  subst hp
  intro p e R s m args below meth c H locs z0 lc X hR hL hlo a1 a2 a3 a4 a5 a6
  exact lv_ineg X.1 X.2.1 hd (k p e R s m args below meth c H locs z0 lc X hR hL hlo a1 a2 a3 a4 a5 a6)
theorem px_i2l {x : Int32} (hd : decode (pm_cc M) pc = .ok (.i2l, 1)) (hp : pc + 1 = pc') (k : pm_W G M zm Φ pc' ls (.long x.toInt64 :: st) z h g) : pm_W G M zm Φ pc ls (.int x :: st) z h g := by
  subst hp
  intro p e R s m args below meth c H locs z0 lc X hR hL hlo a1 a2 a3 a4 a5 a6
  exact lv_i2l X.1 X.2.1 hd rfl (k p e R s m args below meth c H locs z0 lc X hR hL hlo a1 a2 a3 a4 a5 a6)
theorem px_i2b {x : Int32} (hd : decode (pm_cc M) pc = .ok (.i2b, 1)) (hp : pc + 1 = pc') (k : pm_W G M zm Φ pc' ls (.int x.toInt8.toInt32 :: st) z h g) : pm_W G M zm Φ pc ls (.int x :: st) z h g := by
  subst hp
  intro p e R s m args below meth c H locs z0 lc X hR hL hlo a1 a2 a3 a4 a5 a6
  exact lv_i2b X.1 X.2.1 hd rfl (k p e R s m args below meth c H locs z0 lc X hR hL hlo a1 a2 a3 a4 a5 a6)
theorem px_lcmp {x y : Int64} (hd : decode (pm_cc M) pc = .ok (.lcmp, 1)) (hp : pc + 1 = pc') (k : pm_W G M zm Φ pc' ls (.int (lg_cmp x y) :: st) z h g) : pm_W G M zm Φ pc ls (.long y :: .long x :: st) z h g := by
  subst hp
  intro p e R s m args below meth c H locs z0 lc X hR hL hlo a1 a2 a3 a4 a5 a6
  exact W.lcmp X.1 X.2.1 hd (k p e R s m args below meth c H locs z0 lc X hR hL hlo a1 a2 a3 a4 a5 a6)
theorem px_dup {v : Value} (hd : decode (pm_cc M) pc = .ok (.dup, 1)) (hp : pc + 1 = pc') (hc : v.category = 1) (k : pm_W G M zm Φ pc' ls (v :: v :: st) z h g) : pm_W G M zm Φ pc ls (v :: st) z h g := by
  subst hp
  intro p e R s m args below meth c H locs z0 lc X hR hL hlo a1 a2 a3 a4 a5 a6
  exact lv_dup X.1 X.2.1 hd ((pm_tr_cat G v).trans hc) (k p e R s m args below meth c H locs z0 lc X hR hL hlo a1 a2 a3 a4 a5 a6)
theorem px_pop {v : Value} (hd : decode (pm_cc M) pc = .ok (.pop, 1)) (hp : pc + 1 = pc') (hc : v.category = 1) (k : pm_W G M zm Φ pc' ls (st) z h g) : pm_W G M zm Φ pc ls (v :: st) z h g := by
  subst hp
  intro p e R s m args below meth c H locs z0 lc X hR hL hlo a1 a2 a3 a4 a5 a6
  exact lv_pop X.1 X.2.1 hd ((pm_tr_cat G v).trans hc) (k p e R s m args below meth c H locs z0 lc X hR hL hlo a1 a2 a3 a4 a5 a6)
theorem px_dup2 {v w : Value} (hd : decode (pm_cc M) pc = .ok (.dup2, 1)) (hp : pc + 1 = pc') (hc : v.category = 1) (hc2 : w.category = 1) (k : pm_W G M zm Φ pc' ls (v :: w :: v :: w :: st) z h g) : pm_W G M zm Φ pc ls (v :: w :: st) z h g := by
  subst hp
  intro p e R s m args below meth c H locs z0 lc X hR hL hlo a1 a2 a3 a4 a5 a6
  exact lv_dup2_11 X.1 X.2.1 hd ((pm_tr_cat G v).trans hc) ((pm_tr_cat G w).trans hc2) (k p e R s m args below meth c H locs z0 lc X hR hL hlo a1 a2 a3 a4 a5 a6)
theorem px_if_eq {x : Int32} {off : Int} {tgt : Nat} (hd : decode (pm_cc M) pc = .ok (.ifCond .eq off, 3)) (ht : (pc : Int) + off = (tgt : Int)) (hp : pc + 3 = pc') (kt : x = 0 → pm_W G M zm Φ tgt ls (st) z h g) (kf : ¬ x = 0 → pm_W G M zm Φ pc' ls (st) z h g) : pm_W G M zm Φ pc ls (.int x :: st) z h g := by
  subst hp
  intro p e R s m args below meth c H locs z0 lc X hR hL hlo a1 a2 a3 a4 a5 a6
  exact lv_if_eq X.1 X.2.1 hd ht (fun q => kt q p e R s m args below meth c H locs z0 lc X hR hL hlo a1 a2 a3 a4 a5 a6) (fun q => kf q p e R s m args below meth c H locs z0 lc X hR hL hlo a1 a2 a3 a4 a5 a6)
theorem px_icmp_eq {x y : Int32} {off : Int} {tgt : Nat} (hd : decode (pm_cc M) pc = .ok (.if_icmp .eq off, 3)) (ht : (pc : Int) + off = (tgt : Int)) (hp : pc + 3 = pc') (kt : x = y → pm_W G M zm Φ tgt ls (st) z h g) (kf : ¬ x = y → pm_W G M zm Φ pc' ls (st) z h g) : pm_W G M zm Φ pc ls (.int y :: .int x :: st) z h g := by
  subst hp
  intro p e R s m args below meth c H locs z0 lc X hR hL hlo a1 a2 a3 a4 a5 a6
  exact lv_icmp_eq X.1 X.2.1 hd ht (fun q => kt q p e R s m args below meth c H locs z0 lc X hR hL hlo a1 a2 a3 a4 a5 a6) (fun q => kf q p e R s m args below meth c H locs z0 lc X hR hL hlo a1 a2 a3 a4 a5 a6)
theorem px_if_ne {x : Int32} {off : Int} {tgt : Nat} (hd : decode (pm_cc M) pc = .ok (.ifCond .ne off, 3)) (ht : (pc : Int) + off = (tgt : Int)) (hp : pc + 3 = pc') (kt : ¬ x = 0 → pm_W G M zm Φ tgt ls (st) z h g) (kf : x = 0 → pm_W G M zm Φ pc' ls (st) z h g) : pm_W G M zm Φ pc ls (.int x :: st) z h g := by
  subst hp
  intro p e R s m args below meth c H locs z0 lc X hR hL hlo a1 a2 a3 a4 a5 a6
  exact lv_if_ne X.1 X.2.1 hd ht (fun q => kt q p e R s m args below meth c H locs z0 lc X hR hL hlo a1 a2 a3 a4 a5 a6) (fun q => kf q p e R s m args below meth c H locs z0 lc X hR hL hlo a1 a2 a3 a4 a5 a6)
theorem px_icmp_ne {x y : Int32} {off : Int} {tgt : Nat} (hd : decode (pm_cc M) pc = .ok (.if_icmp .ne off, 3)) (ht : (pc : Int) + off = (tgt : Int)) (hp : pc + 3 = pc') (kt : ¬ x = y → pm_W G M zm Φ tgt ls (st) z h g) (kf : x = y → pm_W G M zm Φ pc' ls (st) z h g) : pm_W G M zm Φ pc ls (.int y :: .int x :: st) z h g := by
  subst hp
  intro p e R s m args below meth c H locs z0 lc X hR hL hlo a1 a2 a3 a4 a5 a6
  exact lv_icmp_ne X.1 X.2.1 hd ht (fun q => kt q p e R s m args below meth c H locs z0 lc X hR hL hlo a1 a2 a3 a4 a5 a6) (fun q => kf q p e R s m args below meth c H locs z0 lc X hR hL hlo a1 a2 a3 a4 a5 a6)
theorem px_if_lt {x : Int32} {off : Int} {tgt : Nat} (hd : decode (pm_cc M) pc = .ok (.ifCond .lt off, 3)) (ht : (pc : Int) + off = (tgt : Int)) (hp : pc + 3 = pc') (kt : x < 0 → pm_W G M zm Φ tgt ls (st) z h g) (kf : ¬ x < 0 → pm_W G M zm Φ pc' ls (st) z h g) : pm_W G M zm Φ pc ls (.int x :: st) z h g := by
  subst hp
  intro p e R s m args below meth c H locs z0 lc X hR hL hlo a1 a2 a3 a4 a5 a6
  exact lv_if_lt X.1 X.2.1 hd ht (fun q => kt q p e R s m args below meth c H locs z0 lc X hR hL hlo a1 a2 a3 a4 a5 a6) (fun q => kf q p e R s m args below meth c H locs z0 lc X hR hL hlo a1 a2 a3 a4 a5 a6)
theorem px_icmp_lt {x y : Int32} {off : Int} {tgt : Nat} (hd : decode (pm_cc M) pc = .ok (.if_icmp .lt off, 3)) (ht : (pc : Int) + off = (tgt : Int)) (hp : pc + 3 = pc') (kt : x < y → pm_W G M zm Φ tgt ls (st) z h g) (kf : ¬ x < y → pm_W G M zm Φ pc' ls (st) z h g) : pm_W G M zm Φ pc ls (.int y :: .int x :: st) z h g := by
  subst hp
  intro p e R s m args below meth c H locs z0 lc X hR hL hlo a1 a2 a3 a4 a5 a6
  exact lv_icmp_lt X.1 X.2.1 hd ht (fun q => kt q p e R s m args below meth c H locs z0 lc X hR hL hlo a1 a2 a3 a4 a5 a6) (fun q => kf q p e R s m args below meth c H locs z0 lc X hR hL hlo a1 a2 a3 a4 a5 a6)
theorem px_if_ge {x : Int32} {off : Int} {tgt : Nat} (hd : decode (pm_cc M) pc = .ok (.ifCond .ge off, 3)) (ht : (pc : Int) + off = (tgt : Int)) (hp : pc + 3 = pc') (kt : 0 ≤ x → pm_W G M zm Φ tgt ls (st) z h g) (kf : ¬ 0 ≤ x → pm_W G M zm Φ pc' ls (st) z h g) : pm_W G M zm Φ pc ls (.int x :: st) z h g := by
  subst hp
  intro p e R s m args below meth c H locs z0 lc X hR hL hlo a1 a2 a3 a4 a5 a6
  exact lv_if_ge X.1 X.2.1 hd ht (fun q => kt q p e R s m args below meth c H locs z0 lc X hR hL hlo a1 a2 a3 a4 a5 a6) (fun q => kf q p e R s m args below meth c H locs z0 lc X hR hL hlo a1 a2 a3 a4 a5 a6)
theorem px_icmp_ge {x y : Int32} {off : Int} {tgt : Nat} (hd : decode (pm_cc M) pc = .ok (.if_icmp .ge off, 3)) (ht : (pc : Int) + off = (tgt : Int)) (hp : pc + 3 = pc') (kt : y ≤ x → pm_W G M zm Φ tgt ls (st) z h g) (kf : ¬ y ≤ x → pm_W G M zm Φ pc' ls (st) z h g) : pm_W G M zm Φ pc ls (.int y :: .int x :: st) z h g := by
  subst hp
  intro p e R s m args below meth c H locs z0 lc X hR hL hlo a1 a2 a3 a4 a5 a6
  exact lv_icmp_ge X.1 X.2.1 hd ht (fun q => kt q p e R s m args below meth c H locs z0 lc X hR hL hlo a1 a2 a3 a4 a5 a6) (fun q => kf q p e R s m args below meth c H locs z0 lc X hR hL hlo a1 a2 a3 a4 a5 a6)
theorem px_if_gt {x : Int32} {off : Int} {tgt : Nat} (hd : decode (pm_cc M) pc = .ok (.ifCond .gt off, 3)) (ht : (pc : Int) + off = (tgt : Int)) (hp : pc + 3 = pc') (kt : 0 < x → pm_W G M zm Φ tgt ls (st) z h g) (kf : ¬ 0 < x → pm_W G M zm Φ pc' ls (st) z h g) : pm_W G M zm Φ pc ls (.int x :: st) z h g := by
  subst hp
  intro p e R s m args below meth c H locs z0 lc X hR hL hlo a1 a2 a3 a4 a5 a6
  exact lv_if_gt X.1 X.2.1 hd ht (fun q => kt q p e R s m args below meth c H locs z0 lc X hR hL hlo a1 a2 a3 a4 a5 a6) (fun q => kf q p e R s m args below meth c H locs z0 lc X hR hL hlo a1 a2 a3 a4 a5 a6)
theorem px_icmp_gt {x y : Int32} {off : Int} {tgt : Nat} (hd : decode (pm_cc M) pc = .ok (.if_icmp .gt off, 3)) (ht : (pc : Int) + off = (tgt : Int)) (hp : pc + 3 = pc') (kt : y < x → pm_W G M zm Φ tgt ls (st) z h g) (kf : ¬ y < x → pm_W G M zm Φ pc' ls (st) z h g) : pm_W G M zm Φ pc ls (.int y :: .int x :: st) z h g := by
  subst hp
  intro p e R s m args below meth c H locs z0 lc X hR hL hlo a1 a2 a3 a4 a5 a6
  exact lv_icmp_gt X.1 X.2.1 hd ht (fun q => kt q p e R s m args below meth c H locs z0 lc X hR hL hlo a1 a2 a3 a4 a5 a6) (fun q => kf q p e R s m args below meth c H locs z0 lc X hR hL hlo a1 a2 a3 a4 a5 a6)
theorem px_if_le {x : Int32} {off : Int} {tgt : Nat} (hd : decode (pm_cc M) pc = .ok (.ifCond .le off, 3)) (ht : (pc : Int) + off = (tgt : Int)) (hp : pc + 3 = pc') (kt : x ≤ 0 → pm_W G M zm Φ tgt ls (st) z h g) (kf : ¬ x ≤ 0 → pm_W G M zm Φ pc' ls (st) z h g) : pm_W G M zm Φ pc ls (.int x :: st) z h g := by
  subst hp
  intro p e R s m args below meth c H locs z0 lc X hR hL hlo a1 a2 a3 a4 a5 a6
  exact lv_if_le X.1 X.2.1 hd ht (fun q => kt q p e R s m args below meth c H locs z0 lc X hR hL hlo a1 a2 a3 a4 a5 a6) (fun q => kf q p e R s m args below meth c H locs z0 lc X hR hL hlo a1 a2 a3 a4 a5 a6)
theorem px_icmp_le {x y : Int32} {off : Int} {tgt : Nat} (hd : decode (pm_cc M) pc = .ok (.if_icmp .le off, 3)) (ht : (pc : Int) + off = (tgt : Int)) (hp : pc + 3 = pc') (kt : x ≤ y → pm_W G M zm Φ tgt ls (st) z h g) (kf : ¬ x ≤ y → pm_W G M zm Φ pc' ls (st) z h g) : pm_W G M zm Φ pc ls (.int y :: .int x :: st) z h g := by
  subst hp
  intro p e R s m args below meth c H locs z0 lc X hR hL hlo a1 a2 a3 a4 a5 a6
  exact lv_icmp_le X.1 X.2.1 hd ht (fun q => kt q p e R s m args below meth c H locs z0 lc X hR hL hlo a1 a2 a3 a4 a5 a6) (fun q => kf q p e R s m args below meth c H locs z0 lc X hR hL hlo a1 a2 a3 a4 a5 a6)
theorem px_goto {off : Int} {tgt : Nat} (hd : decode (pm_cc M) pc = .ok (.goto off, 3)) (ht : (pc : Int) + off = (tgt : Int)) (k : pm_W G M zm Φ tgt ls (st) z h g) : pm_W G M zm Φ pc ls (st) z h g := by
  intro p e R s m args below meth c H locs z0 lc X hR hL hlo a1 a2 a3 a4 a5 a6
  exact lv_goto X.1 X.2.1 hd ht (k p e R s m args below meth c H locs z0 lc X hR hL hlo a1 a2 a3 a4 a5 a6)
theorem px_tblOut {dflt lo hi : Int} {offs : Array Int} {len : Nat} {x : Int32} {tgt : Nat} (hd : decode (pm_cc M) pc = .ok (.tableswitch dflt lo hi offs, len)) (hx : x.toInt < lo ∨ hi < x.toInt) (ht : (pc : Int) + dflt = (tgt : Int)) (k : pm_W G M zm Φ tgt ls (st) z h g) : pm_W G M zm Φ pc ls (.int x :: st) z h g := by
  intro p e R s m args below meth c H locs z0 lc X hR hL hlo a1 a2 a3 a4 a5 a6
  exact lv_tableOut X.1 X.2.1 hd hx ht (k p e R s m args below meth c H locs z0 lc X hR hL hlo a1 a2 a3 a4 a5 a6)
theorem px_tblIn {dflt lo hi : Int} {offs : Array Int} {len : Nat} {x : Int32} {off : Int} {tgt : Nat} (hd : decode (pm_cc M) pc = .ok (.tableswitch dflt lo hi offs, len)) (h1 : ¬ x.toInt < lo) (h2 : ¬ hi < x.toInt) (ho : offs[(x.toInt - lo).toNat]? = some off) (ht : (pc : Int) + off = (tgt : Int)) (k : pm_W G M zm Φ tgt ls (st) z h g) : pm_W G M zm Φ pc ls (.int x :: st) z h g := by
  intro p e R s m args below meth c H locs z0 lc X hR hL hlo a1 a2 a3 a4 a5 a6
  exact lv_tableIn X.1 X.2.1 hd h1 h2 ho ht (k p e R s m args below meth c H locs z0 lc X hR hL hlo a1 a2 a3 a4 a5 a6)
end PX
def pm_up (h : pm_h) (a : Nat) (c : pm_C) : pm_h := fun j => if j = a then c else h j
def pm_uf (g : pm_g) (a k : Nat) (v : Value) : pm_g := fun a' k' => if a' = a ∧ k' = k then v else g a' k'
def pm_nf (g : pm_g) (a : Nat) (d : Nat → Value) : pm_g := fun a' k' => if a' = a then d k' else g a' k'
theorem pm_up_s (h : pm_h) (a : Nat) (c : pm_C) : pm_up h a c a = c := if_pos rfl
theorem pm_up_n (h : pm_h) {a b : Nat} (c : pm_C) (hn : b ≠ a) : pm_up h a c b = h b := if_neg hn
theorem pm_up_e {h : pm_h} {a : Nat} {c d : pm_C} (e : c = d) : pm_up h a c a = d := (pm_up_s h a c).trans e
theorem pm_up_o {h : pm_h} {a b : Nat} {c d : pm_C} (hn : b ≠ a) (e : h b = d) : pm_up h a c b = d := (pm_up_n h c hn).trans e
theorem pm_up_up (h : pm_h) (a : Nat) (c d : pm_C) : pm_up (pm_up h a c) a d = pm_up h a d := by
  funext j
  unfold pm_up
  by_cases q : j = a
  · rw [if_pos q, if_pos q]
  · rw [if_neg q, if_neg q, if_neg q]
theorem pm_up_self {h : pm_h} {a : Nat} {c : pm_C} (e : h a = c) : pm_up h a c = h := by
  funext j
  unfold pm_up
  by_cases q : j = a
  · rw [if_pos q, q, e]
  · rw [if_neg q]
theorem pm_up_comm (h : pm_h) {a b : Nat} (c d : pm_C) (hn : a ≠ b) : pm_up (pm_up h a c) b d = pm_up (pm_up h b d) a c := by
  funext j
  unfold pm_up
  by_cases q : j = a
  · have q3 : ¬ j = b := by omega
    rw [if_neg q3, if_pos q, if_pos q]
  · by_cases q2 : j = b
    · rw [if_pos q2, if_neg q, if_pos q2]
    · rw [if_neg q2, if_neg q, if_neg q, if_neg q2]
theorem pm_uf_e {g : pm_g} {a k : Nat} {v w : Value} (e : v = w) : pm_uf g a k v a k = w := (if_pos ⟨rfl, rfl⟩ : pm_uf g a k v a k = v).trans e
theorem pm_uf_o {g : pm_g} {a k b j : Nat} {v w : Value} (hn : ¬ (b = a ∧ j = k)) (e : g b j = w) : pm_uf g a k v b j = w := (if_neg hn : pm_uf g a k v b j = g b j).trans e
theorem pm_uf_a {g : pm_g} {a k b : Nat} {v : Value} (hn : b ≠ a) : pm_uf g a k v b = g b := funext fun _ => if_neg fun q => hn q.1
theorem pm_uf_uf (g : pm_g) (a k : Nat) (v w : Value) : pm_uf (pm_uf g a k v) a k w = pm_uf g a k w := by
  funext b j
  unfold pm_uf
  by_cases q : b = a ∧ j = k
  · rw [if_pos q, if_pos q]
  · rw [if_neg q, if_neg q, if_neg q]
theorem pm_uf_self {g : pm_g} {a k : Nat} {v : Value} (e : g a k = v) : pm_uf g a k v = g := by
  funext b j
  unfold pm_uf
  by_cases q : b = a ∧ j = k
  · rw [if_pos q, q.1, q.2, e]
  · rw [if_neg q]
theorem pm_uf_comm (g : pm_g) {a k b j : Nat} (v w : Value) (hn : ¬ (a = b ∧ k = j)) : pm_uf (pm_uf g a k v) b j w = pm_uf (pm_uf g b j w) a k v := by
  funext c i
  unfold pm_uf
  by_cases q : c = a ∧ i = k
  · have q3 : ¬ (c = b ∧ i = j) := by omega
    rw [if_neg q3, if_pos q, if_pos q]
  · by_cases q2 : c = b ∧ i = j
    · rw [if_pos q2, if_neg q, if_pos q2]
    · rw [if_neg q2, if_neg q, if_neg q, if_neg q2]
theorem pm_nf_s (g : pm_g) (a : Nat) (d : Nat → Value) : pm_nf g a d a = d := funext fun _ => if_pos rfl
theorem pm_nf_a {g : pm_g} {a b : Nat} {d : Nat → Value} (hn : b ≠ a) : pm_nf g a d b = g b := funext fun _ => if_neg hn
theorem pm_nf_e {g : pm_g} {a k : Nat} {d : Nat → Value} {w : Value} (e : d k = w) : pm_nf g a d a k = w := (if_pos rfl : pm_nf g a d a k = d k).trans e
theorem pm_nf_o {g : pm_g} {a b k : Nat} {d : Nat → Value} {w : Value} (hn : b ≠ a) (e : g b k = w) : pm_nf g a d b k = w := (if_neg hn : pm_nf g a d b k = g b k).trans e
theorem pm_at.nf {G : pm_G} {g : pm_g} {a n : Nat} {d : Nat → Value} {c : pm_C} {H : Heap} (hz : H.size = pm_b G + n) (ha : n ≤ a) (h : pm_at G a c (g a) H) : pm_at G a c (d) H := by
  have key : ∀ x : Cell, ¬ H[pm_b G + a]? = some x := fun x hx => by
    have := (Array.getElem?_eq_some_iff.mp hx).1
    omega
  rcases c with q | q | ci | u
  · exact absurd h (key _)
  · exact absurd h (key _)
  · obtain ⟨r, h1, cell, h2, h3⟩ := h
    exact absurd h2 (key _)
  · exact trivial
/-- one cell written -/
theorem pm_R.put {G : pm_G} {n a : Nat} {h : pm_h} {g : pm_g} {H H1 : Heap} {c : pm_C} {g' : pm_g} (hR : pm_R G n h g H) (hz : H1.size = H.size) (ho : ∀ q : Nat, q ≠ pm_b G + a → H1[q]? = H[q]?) (hc : pm_at G a c (g' a) H1) (hg : ∀ b, b ≠ a → g' b = g b) : pm_R G n (pm_up h a c) g' H1 := by
  refine ⟨hz.trans hR.1, fun b => ?_, fun q hq => (ho q (by omega)).trans (hR.2.2 q hq)⟩
  by_cases hb : b = a
  · subst hb
    rw [pm_up_s]
    exact hc
  · rw [pm_up_n _ _ hb, hg b hb]
    exact (hR.2.1 b).kept (ho _ (by omega))
/-- one cell made -/
theorem pm_R.mk {G : pm_G} {n : Nat} {h : pm_h} {g : pm_g} {H H1 : Heap} {c : pm_C} {g' : pm_g} (hR : pm_R G n h g H) (hz : H1.size = H.size + 1) (ho : ∀ q : Nat, q < H.size → H1[q]? = H[q]?) (hc : pm_at G n c (g' n) H1) (hg : ∀ b, b ≠ n → g' b = g b) : pm_R G (n + 1) (pm_up h n c) g' H1 := by
  refine ⟨by rw [hz, hR.1]; omega, fun b => ?_, fun q hq => (ho q (by rw [hR.1]; omega)).trans (hR.2.2 q hq)⟩
  by_cases hb : b = n
  · subst hb
    rw [pm_up_s]
    exact hc
  · rw [pm_up_n _ _ hb, hg b hb]
    exact (hR.2.1 b).push hR.1 (fun q hq => ho q (by rw [hR.1]; exact hq))
