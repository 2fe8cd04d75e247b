def pm_pu : Option Value → List Value → List Value
  | some v, st => v :: st
  | none, st => st
/-- a callee: its code stands in the tables, its class is made, so many arguments -/
def pm_ok (M : pm_M) (n : Nat) : Prop := Jvm.Cond.code (pm_y M) (pm_cc M) (pm_ml M) (pm_rt M) ∈ pm_T ∧ Jvm.Cond.initialized (pm_y M).cls ∈ pm_T ∧ (pm_y M).cls ≠ "java/lang/invoke/MethodHandle" ∧ (pm_y M).cls ≠ "java/lang/invoke/VarHandle" ∧ (parseMethodDescriptor (pm_y M).desc).map (fun d => d.parameters.length) = some n
def pm_iv (M : pm_M) : Prop := Jvm.Cond.instanceMethod (pm_y M) ∈ pm_T ∧ Jvm.Cond.selects (pm_y M).cls (pm_y M) (pm_y M) ∈ pm_T
def pm_cl (ci : Nat) (C : String) : Prop := ∃ q : vw_C, vwCl[ci]? = some q ∧ q.1 = C
def pm_le (z zm : pm_z) : Prop := z.1 ≤ zm.1 ∧ z.2.1 ≤ zm.2.1
theorem pm_le.rf {z : pm_z} : pm_le z z := ⟨Nat.le_refl _, Nat.le_refl _⟩
def pm_rm (M' M : pm_M) : Prop := pm_fr M' + 1 ≤ pm_fr M ∧ 8 + (pm_ml M' + 11) + pm_lr M' ≤ pm_lr M
def pm_Pc (G : pm_G) (As : List Value) (n : Nat) (h : pm_h) (g : pm_g) : Array Value → State → Prop := fun a U => a = (As.map (pm_tr G)).toArray ∧ pm_R G n h g U.heap ∧ pm_K G U
theorem pm_blind {G : pm_G} {As : List Value} {n : Nat} {h : pm_h} {g : pm_g} : FrameBlind (pm_Pc G As n h g) := fun a U gg mk q => ⟨q.1, q.2.1, pm_K.same (s := U) (U := U.calling gg mk a) rfl q.2.2⟩
section PC
variable {G : pm_G} {M : pm_M} {zm : pm_z} {Φ : pm_F} {pc pc' : Nat} {ls st : List Value} {z : pm_z} {h : pm_h} {g : pm_g}
theorem pm_callB {M' : pm_M} {index n : Nat} {R : Room} {s : State} {m : MethodId} {args : Array Value} {meth : Method} {c : Code} {p : Program} {z zm' : pm_z} (X : pm_X G M p R s m meth c) (hok : pm_ok M' n) (hrm : pm_rm M' M) (hl : Jvm.Cond.methodLink (pm_y M).cls index (pm_y M') ∈ pm_T) :
    CallB R s args (pm_y M).cls index (pm_y M') (pm_cc M') (pm_ml M') (pm_rt M') [.code (pm_y M') (pm_cc M') (pm_ml M') (pm_rt M')] ({ frames := pm_fr M', cells := zm'.1 - z.1, slots := zm'.2.1 - z.2.1, locals := pm_lr M' } : Room) (zm'.1 - z.1) (zm'.2.1 - z.2.1) n := by
  obtain ⟨hx, hb, hml, hrt, hlk0, hnm, hown, hK, hfr, hlr, htb⟩ := X
  obtain ⟨o1, o2, o3, o4, o5⟩ := hok
  have hts : ∀ w ∈ pm_T, w.before args s = true := fun w hw => hK.2.2.1 w hw args
  refine ⟨rfl, rfl, by rw [hfr]; exact hrm.1, by rw [hlr]; exact hrm.2, fun w hw a' U hW => ?_, List.mem_cons_self, hts _ o1, hts _ o2, ⟨o3, o4⟩, fun sig h => ?_, hts _ hl⟩
  · rw [List.mem_singleton.mp hw]
    exact (hK.moved hW).2.2.1 _ o1 a'
  · rw [h] at o5
    exact (Option.some.inj o5).symm
/-- behind a call -/
theorem pm_back {p : Program} {e : Env} {R : Room} {s : State} {m : MethodId} {args : Array Value} {below : List Frame} {meth : Method} {c : Code} {H : Heap} {locs : List Loc} {z0 zm' : pm_z} {lc : Array Slot} {Q' : Option Value → pm_h → pm_g → Prop} {stk : List Value}
    (X : pm_X G M p R s m meth c) (hR : pm_R G z.2.2 h g H) (hL : ∀ q ∈ locs, pm_b G ≤ q.base) (hlo : pm_lo G lc (pm_ml M) ls) (a1 : z0.1 ≤ z.1) (a2 : z0.2.1 ≤ z.2.1) (a5 : R.cells = zm.1 - z0.1) (a6 : R.slots = zm.2.1 - z0.2.1) (hzz : pm_le z zm') (hzm : pm_le zm' zm)
    (run : va_Run p (pm_l G) e R s m args below meth c H locs (z.1 - z0.1) (z.2.1 - z0.2.1) (zm'.1 - z.1) (zm'.2.1 - z.2.1) (F0 m pc lc stk) (st.map (pm_tr G)) (fun _ o t => ∃ (r : Option Value) (h' : pm_h) (g' : pm_g), Q' r h' g' ∧ o = .returned (r.map (pm_tr G)) ∧ pm_R G zm'.2.2 h' g' t.heap) (fun q => pm_b G ≤ q))
    (kk : ∀ r h' g', Q' r h' g' → pm_W G M zm Φ (pc + 3) ls (pm_pu r st) zm' h' g') : W p (pm_l G) e R s m args below meth c H locs (z.1 - z0.1) (z.2.1 - z0.2.1) (Φ below args s (zm.1 - z0.1) (zm.2.1 - z0.2.1)) (F0 m pc lc stk) := by
  intro T hT X'
  obtain ⟨v, st₀, t, T', L, h0, X2, hL2, e1, e2, ⟨r, h', g', hQ, hv, hR'⟩, stp⟩ := run T hT X'
  cases hv
  obtain ⟨z1, z2⟩ := hzz
  have w := kk r h' g' hQ p e R s m args below meth c T'.heap (locs ++ L) z0 lc X (by rw [e1]; exact hR') (fun q hq => by
    rcases List.mem_append.mp hq with hq | hq
    · exact hL q hq
    · exact hL2 q hq) hlo (by omega) (by omega) hzm.1 hzm.2 a5 a6
  rw [show z.1 - z0.1 + (zm'.1 - z.1) = zm'.1 - z0.1 by omega, show z.2.1 - z0.2.1 + (zm'.2.1 - z.2.1) = zm'.2.1 - z0.2.1 by omega] at X2
  obtain ⟨t2, b1, b2⟩ := w T' rfl X2
  refine ⟨t2, stp t2 ?_, b2⟩
  cases r <;> exact b1
theorem px_callV {M' : pm_M} {index n a ci : Nat} {As stk : List Value} {zm' : pm_z} {Q' : Option Value → pm_h → pm_g → Prop} (hM : pm_Met G M' (.ref a :: As) z zm' h g Q') (hok : pm_ok M' n) (hiv : pm_iv M') (hl : Jvm.Cond.methodLink (pm_y M).cls index (pm_y M') ∈ pm_T) (hrm : pm_rm M' M) (hd : decode (pm_cc M) pc = .ok (.invokevirtual index, 3)) (hp : pc + 3 = pc') (hn : As.length = n) (hst : stk = As.reverse ++ .ref a :: st) (hs : (st.map fun v => v.category).sum ≤ 8) (hc : h a = pm_ob ci) (hcl : pm_cl ci (pm_y M').cls) (hzz : pm_le z zm') (hzm : pm_le zm' zm) (kk : ∀ r h' g', Q' r h' g' → pm_W G M zm Φ pc' ls (pm_pu r st) zm' h' g') : pm_W G M zm Φ pc ls (stk) z h g := by
  subst hp
  subst hst
  intro p e R s m args below meth c H locs z0 lc X hR hL hlo a1 a2 a3 a4 a5 a6
  have hK := X.2.2.2.2.2.2.2.1
  have hts : ∀ w ∈ pm_T, w.before args s = true := fun w hw => hK.2.2.1 w hw args
  refine pm_back (st := st) (Q' := Q') X hR hL hlo a1 a2 a5 a6 hzz hzm ?_ kk
  refine va_runV (Ts := pm_T) (As := As.map (pm_tr G)) (b := pm_b G + a) (n := n) ⟨X.1, X.2.1, X.2.2.1, X.2.2.2.2.2.2.1, hts⟩ hM ⟨pm_callB X hok hrm hl, hts _ hiv.1, hts _ hiv.2⟩ ⟨pm_blind (As := .ref a :: As), ?_, fun U hU hW => ⟨rfl, by rw [hU]; exact hR, hK.moved hW⟩⟩ rfl (by rw [List.length_map]; exact hn) hlo.1 (by simp [List.map_append, List.map_reverse, List.map_cons, pm_tr]) (lv_room (by rw [pm_tr_cats]; exact hs)) hd ⟨by rw [a5]; have := hzz.1; have := hzm.1; omega, by rw [a6]; have := hzz.2; have := hzm.2; omega⟩
  obtain ⟨q, hq, hqc⟩ := hcl
  have hat := hR.2.1 a
  rw [hc] at hat
  obtain ⟨r, h1, cell, q1, q2, q3, q4⟩ := hat
  cases hq.symm.trans h1
  exact ⟨cell, q1, by rw [q3]; rfl, by rw [q2, ← hqc]; exact (hK.1 ci _ hq).2.1⟩
theorem px_callS {M' : pm_M} {index n : Nat} {As stk : List Value} {zm' : pm_z} {Q' : Option Value → pm_h → pm_g → Prop} (hM : pm_Met G M' As z zm' h g Q') (hok : pm_ok M' n) (hsv : Jvm.Cond.static (pm_y M') ∈ pm_T) (hl : Jvm.Cond.methodLink (pm_y M).cls index (pm_y M') ∈ pm_T) (hrm : pm_rm M' M) (hd : decode (pm_cc M) pc = .ok (.invokestatic index, 3)) (hp : pc + 3 = pc') (hn : As.length = n) (hst : stk = As.reverse ++ st) (hs : (st.map fun v => v.category).sum ≤ 8) (hzz : pm_le z zm') (hzm : pm_le zm' zm) (kk : ∀ r h' g', Q' r h' g' → pm_W G M zm Φ pc' ls (pm_pu r st) zm' h' g') : pm_W G M zm Φ pc ls (stk) z h g := by
  subst hp
  subst hst
  intro p e R s m args below meth c H locs z0 lc X hR hL hlo a1 a2 a3 a4 a5 a6
  have hK := X.2.2.2.2.2.2.2.1
  have hts : ∀ w ∈ pm_T, w.before args s = true := fun w hw => hK.2.2.1 w hw args
  refine pm_back (st := st) (Q' := Q') X hR hL hlo a1 a2 a5 a6 hzz hzm ?_ kk
  refine va_runS (Ts := pm_T) (As := As.map (pm_tr G)) (n := n) ⟨X.1, X.2.1, X.2.2.1, X.2.2.2.2.2.2.1, hts⟩ hM ⟨pm_callB X hok hrm hl, hts _ hsv⟩ ⟨pm_blind (As := As), fun U hU hW => ⟨rfl, by rw [hU]; exact hR, hK.moved hW⟩⟩ rfl (by rw [List.length_map]; exact hn) hlo.1 (by simp [List.map_append, List.map_reverse, List.map_cons, pm_tr]) (lv_room (by rw [pm_tr_cats]; exact hs)) hd ⟨by rw [a5]; have := hzz.1; have := hzm.1; omega, by rw [a6]; have := hzz.2; have := hzm.2; omega⟩
theorem px_callI {M' : pm_M} {index n a : Nat} {As stk : List Value} {zm' : pm_z} {Q' : Option Value → pm_h → pm_g → Prop} (hM : pm_Met G M' (.ref a :: As) z zm' h g Q') (hok : pm_ok M' n) (hret : pm_rt M' = none) (hin : (pm_y M').name = "<init>") (hiv : Jvm.Cond.instanceMethod (pm_y M') ∈ pm_T) (hl : Jvm.Cond.methodLink (pm_y M).cls index (pm_y M') ∈ pm_T) (hrm : pm_rm M' M) (hd : decode (pm_cc M) pc = .ok (.invokespecial index, 3)) (hp : pc + 3 = pc') (hn : As.length = n) (hst : stk = As.reverse ++ .ref a :: st) (hs : (st.map fun v => v.category).sum ≤ 8) (hzz : pm_le z zm') (hzm : pm_le zm' zm) (kk : ∀ r h' g', Q' r h' g' → pm_W G M zm Φ pc' ls (pm_pu r st) zm' h' g') : pm_W G M zm Φ pc ls (stk) z h g := by
  subst hp
  subst hst
  obtain ⟨y1, c1, l1, r1, f1, r2⟩ := M'
  have hret : r1 = none := hret
  subst hret
  intro p e R s m args below meth c H locs z0 lc X hR hL hlo a1 a2 a3 a4 a5 a6
  have hK := X.2.2.2.2.2.2.2.1
  have hts : ∀ w ∈ pm_T, w.before args s = true := fun w hw => hK.2.2.1 w hw args
  refine pm_back (st := st) (Q' := Q') X hR hL hlo a1 a2 a5 a6 hzz hzm ?_ kk
  refine va_runI (Ts := pm_T) (As := As.map (pm_tr G)) (b := pm_b G + a) (n := n) ⟨X.1, X.2.1, X.2.2.1, X.2.2.2.2.2.2.1, hts⟩ hM ⟨pm_callB X hok hrm hl, hin, hts _ hiv⟩ ⟨pm_blind (As := (.ref a :: As)), fun U hU hW => ⟨rfl, by rw [hU]; exact hR, hK.moved hW⟩⟩ rfl (by rw [List.length_map]; exact hn) hlo.1 (by simp [List.map_append, List.map_reverse, List.map_cons, pm_tr]) (lv_room (by rw [pm_tr_cats]; exact hs)) hd ⟨by rw [a5]; have := hzz.1; have := hzm.1; omega, by rw [a6]; have := hzz.2; have := hzm.2; omega⟩
theorem px_callNS {M' : pm_M} {index n : Nat} {As stk : List Value} {zm' : pm_z} {Q' : Option Value → pm_h → pm_g → Prop} (hM : pm_Met G M' As z zm' h g Q') (hok : pm_ok M' n) {host : String} (hsv : Jvm.Cond.static (pm_y M') ∈ pm_T) (hl : ((pm_y M).cls, index, pm_y M', host) ∈ pm_N) (hrm : pm_rm M' M) (hd : decode (pm_cc M) pc = .ok (.invokestatic index, 3)) (hp : pc + 3 = pc') (hn : As.length = n) (hst : stk = As.reverse ++ st) (hs : (st.map fun v => v.category).sum ≤ 8) (hzz : pm_le z zm') (hzm : pm_le zm' zm) (kk : ∀ r h' g', Q' r h' g' → pm_W G M zm Φ pc' ls (pm_pu r st) zm' h' g') : pm_W G M zm Φ pc ls (stk) z h g := by
  subst hp
  subst hst
  intro p e R s m args below meth c H locs z0 lc X hR hL hlo a1 a2 a3 a4 a5 a6
  have hK := X.2.2.2.2.2.2.2.1
  have hts : ∀ w ∈ pm_T, w.before args s = true := fun w hw => hK.2.2.1 w hw args
  refine pm_back (st := st) (Q' := Q') X hR hL hlo a1 a2 a5 a6 hzz hzm ?_ kk
  refine va_runSN (Ts := pm_T) (As := As.map (pm_tr G)) (n := n) ⟨X.1, X.2.1, X.2.2.1, X.2.2.2.2.2.2.1, hts⟩ hM (bytes := pm_cc M') (maxL := pm_ml M') (ret := pm_rt M') ⟨⟨⟨rfl, rfl, by rw [X.2.2.2.2.2.2.2.2.1]; exact hrm.1, by rw [X.2.2.2.2.2.2.2.2.2.1]; exact hrm.2, fun w hw a' U hW => by rw [List.mem_singleton.mp hw]; exact (hK.moved hW).2.2.1 _ hok.1 a', List.mem_cons_self⟩, hts _ hok.1, hts _ hok.2.1, ⟨hok.2.2.1, hok.2.2.2.1⟩, fun sig hg => by have o5 := hok.2.2.2.2; rw [hg] at o5; exact (Option.some.inj o5).symm, va_Nw.use rfl (hK.2.2.2.1 _ hl)⟩, hts _ hsv, trivial⟩ ⟨pm_blind (As := As), fun U hU hW => ⟨rfl, by rw [hU]; exact hR, hK.moved hW⟩⟩ rfl (by rw [List.length_map]; exact hn) hlo.1 (by simp [List.map_append, List.map_reverse, List.map_cons, pm_tr]) (lv_room (by rw [pm_tr_cats]; exact hs)) hd ⟨by rw [a5]; have := hzz.1; have := hzm.1; omega, by rw [a6]; have := hzz.2; have := hzm.2; omega⟩
theorem px_callNI {M' : pm_M} {index n a : Nat} {As stk : List Value} {zm' : pm_z} {Q' : Option Value → pm_h → pm_g → Prop} (hM : pm_Met G M' (.ref a :: As) z zm' h g Q') (hok : pm_ok M' n) {host : String} (hret : pm_rt M' = none) (hin : (pm_y M').name = "<init>") (hiv : Jvm.Cond.instanceMethod (pm_y M') ∈ pm_T) (hl : ((pm_y M).cls, index, pm_y M', host) ∈ pm_N) (hrm : pm_rm M' M) (hd : decode (pm_cc M) pc = .ok (.invokespecial index, 3)) (hp : pc + 3 = pc') (hn : As.length = n) (hst : stk = As.reverse ++ .ref a :: st) (hs : (st.map fun v => v.category).sum ≤ 8) (hzz : pm_le z zm') (hzm : pm_le zm' zm) (kk : ∀ r h' g', Q' r h' g' → pm_W G M zm Φ pc' ls (pm_pu r st) zm' h' g') : pm_W G M zm Φ pc ls (stk) z h g := by
  subst hp
  subst hst
  obtain ⟨y1, c1, l1, r1, f1, r2⟩ := M'
  have hret : r1 = none := hret
  subst hret
  intro p e R s m args below meth c H locs z0 lc X hR hL hlo a1 a2 a3 a4 a5 a6
  have hK := X.2.2.2.2.2.2.2.1
  have hts : ∀ w ∈ pm_T, w.before args s = true := fun w hw => hK.2.2.1 w hw args
  refine pm_back (st := st) (Q' := Q') X hR hL hlo a1 a2 a5 a6 hzz hzm ?_ kk
  refine va_runIN (Ts := pm_T) (As := As.map (pm_tr G)) (b := pm_b G + a) (n := n) ⟨X.1, X.2.1, X.2.2.1, X.2.2.2.2.2.2.1, hts⟩ hM (bytes := c1) (maxL := l1) ⟨⟨⟨rfl, rfl, by rw [X.2.2.2.2.2.2.2.2.1]; exact hrm.1, by rw [X.2.2.2.2.2.2.2.2.2.1]; exact hrm.2, fun w hw a' U hW => by rw [List.mem_singleton.mp hw]; exact (hK.moved hW).2.2.1 _ hok.1 a', List.mem_cons_self⟩, hts _ hok.1, hts _ hok.2.1, ⟨hok.2.2.1, hok.2.2.2.1⟩, fun sig hg => by have o5 := hok.2.2.2.2; rw [hg] at o5; exact (Option.some.inj o5).symm, va_Nw.use rfl (hK.2.2.2.1 _ hl)⟩, hin, hts _ hiv⟩ ⟨pm_blind (As := (.ref a :: As)), fun U hU hW => ⟨rfl, by rw [hU]; exact hR, hK.moved hW⟩⟩ rfl (by rw [List.length_map]; exact hn) hlo.1 (by simp [List.map_append, List.map_reverse, List.map_cons, pm_tr]) (lv_room (by rw [pm_tr_cats]; exact hs)) hd ⟨by rw [a5]; have := hzz.1; have := hzm.1; omega, by rw [a6]; have := hzz.2; have := hzm.2; omega⟩
variable {Q : Option Value → pm_h → pm_g → Prop}
theorem px_zret {x : Int32} {ty : FieldType} (hd : decode (pm_cc M) pc = .ok (.ireturn, 1)) (hr : pm_rt M = some ty) (hn : narrow ty (.int x) = .int x) (hz : z = zm) (hQ : Q (some (.int x)) h g) : pm_W G M zm (pm_Φ G zm Q) pc ls [.int x] z h g := by
  subst hz
  intro p e R s m args below meth c H locs z0 lc X hR hL hlo a1 a2 a3 a4 a5 a6
  exact W.zret X.1 X.2.1 (X.2.2.2.1.trans hr) hn (fun t ht hW => ⟨_, h, g, hQ, rfl, by rw [ht]; exact hR⟩) hL hd X.2.2.2.2.1
theorem px_iret {x : Int32} (hd : decode (pm_cc M) pc = .ok (.ireturn, 1)) (hr : pm_rt M = some .int) (hz : z = zm) (hQ : Q (some (.int x)) h g) : pm_W G M zm (pm_Φ G zm Q) pc ls [.int x] z h g := px_zret hd hr rfl hz hQ
theorem px_lret {x : Int64} (hd : decode (pm_cc M) pc = .ok (.lreturn, 1)) (hr : pm_rt M = some .long) (hz : z = zm) (hQ : Q (some (.long x)) h g) : pm_W G M zm (pm_Φ G zm Q) pc ls [.long x] z h g := by
  subst hz
  intro p e R s m args below meth c H locs z0 lc X hR hL hlo a1 a2 a3 a4 a5 a6
  exact W.lret X.1 X.2.1 (X.2.2.2.1.trans hr) (fun t ht hW => ⟨_, h, g, hQ, rfl, by rw [ht]; exact hR⟩) hL hd X.2.2.2.2.1
theorem px_vret (hd : decode (pm_cc M) pc = .ok (.return_, 1)) (hr : pm_rt M = none) (hz : z = zm) (hQ : Q none h g) : pm_W G M zm (pm_Φ G zm Q) pc ls [] z h g := by
  subst hz
  intro p e R s m args below meth c H locs z0 lc X hR hL hlo a1 a2 a3 a4 a5 a6
  exact W.vret X.1 X.2.1 (X.2.2.2.1.trans hr) (fun t ht hW => ⟨_, h, g, hQ, rfl, by rw [ht]; exact hR⟩) hL hd X.2.2.2.2.1
theorem px_copyi {index a0 a n0 n1 : Nat} {f f1 : Nat → Int32} {sp dp n : Int32} (hl : Jvm.Cond.methodLink (pm_y M).cls index arraycopyName ∈ pm_T) (hnat : Jvm.Cond.native arraycopyName ∈ pm_T) (hs : Jvm.Cond.static arraycopyName ∈ pm_T) (hi : Jvm.Cond.initialized "java/lang/System" ∈ pm_T) (hd : decode (pm_cc M) pc = .ok (.invokestatic index, 3)) (hp : pc + 3 = pc') (hf1 : 1 ≤ pm_fr M) (hf2 : (st.map fun v => v.category).sum + (nativeFrameWords "java/lang/System" "arraycopy" 5 + 11) ≤ pm_lr M)
    (hc0 : h a0 = pm_ia 0 n0 f) (hc1 : h a = pm_ia 0 n1 f1) (h1 : ¬ sp < 0) (h2 : ¬ dp < 0) (h3 : ¬ n < 0) (h4 : sp.toNatClampNeg + n.toNatClampNeg ≤ n0) (h5 : dp.toNatClampNeg + n.toNatClampNeg ≤ n1) (kk : pm_W G M zm Φ pc' ls (st) z (pm_up h a (pm_ia 0 n1 (va_cpy f f1 sp.toNatClampNeg dp.toNatClampNeg n.toNatClampNeg))) g) : pm_W G M zm Φ pc ls (.int n :: .int dp :: .ref a :: .int sp :: .ref a0 :: st) z h g := by
  subst hp
  intro p e R s m args below meth c H locs z0 lc X hR hL hlo a1 a2 a3 a4 a5 a6
  obtain ⟨hx, hb, hml, hrt, hlk0, hnm, hown, hK, hfr, hlr, htb⟩ := id X
  have hts : ∀ w ∈ pm_T, w.before args s = true := fun w hw => hK.2.2.1 w hw args
  have nn : ∀ z : Int32, ¬ z < 0 → z.toInt = (z.toNatClampNeg : Int) := by
    intro z hz
    have hz0 : (0 : Int) ≤ z.toInt := by
      have := Int32.not_lt.mp hz
      simpa using Int32.le_iff_toInt_le.mp this
    show z.toInt = ((z.toInt.toNat : Nat) : Int)
    omega
  have hat0 : H[pm_b G + a0]? = some (arrV (pm_dA G 0) n0 (fun j => .int (f j))) := by have := hR.2.1 a0; rw [hc0] at this; exact this
  have hat1 : H[pm_b G + a]? = some (arrV (pm_dA G 0) n1 (fun j => .int (f1 j))) := by have := hR.2.1 a; rw [hc1] at this; exact this
  obtain ⟨-, k0, hk0, cm0, hkk0⟩ := (hK.2.1 0 (by decide)).1 n0 (fun j => .int (f j))
  obtain ⟨-, k1, hk1, cm1, hkk1⟩ := (hK.2.1 0 (by decide)).1 n1 (fun j => .int (f1 j))
  intro T hT X'
  obtain ⟨vm', X2, step⟩ := X'.arraycopy hx hown (hts _ hl) (hts _ hnat) (hts _ hs) (hts _ hi) (src := pm_b G + a0) (dst := pm_b G + a) (srcPos := sp) (destPos := dp) (n := n) (by rw [hT]; exact hat0) (by rw [hT]; exact hat1)
    (fun _ h => by cases h) (fun _ h => by cases h) (fun h => by cases h) (fun h => by cases h) hk0 hk1 hkk0 hkk1 (by simp [pm_ty, refKind]) h1 h2 h3
    (by rw [nn sp h1, nn n h3, arrV_size]; omega) (by rw [nn dp h2, nn n h3, arrV_size]; omega)
    (fun vm₁ _ i hi => by
      have e : (arrV (pm_dA G 0) n0 (fun j => .int (f j))).slots.getD (sp.toNatClampNeg + i) .null = .int (f (sp.toNatClampNeg + i)) := by
        rw [Array.getD_eq_getD_getElem?, arrV_read _ _ (by omega)]
        rfl
      rw [e]
      exact ⟨rfl, trivial⟩)
    (g := F0 m pc lc (.int n :: .int dp :: .ref (pm_b G + a) :: .int sp :: .ref (pm_b G + a0) :: st.map (pm_tr G))) rfl (by show lc.size = _; rw [hlo.1, hml]) (rest := st.map (pm_tr G)) rfl (by rw [hb]; exact hd) (by rw [hfr]; exact hf1) (by show 2 * 0 + _ + _ ≤ _; rw [pm_tr_cats, hlr]; omega)
  have e1 : copied (arrV (pm_dA G 0) n0 (fun j => .int (f j))) (arrV (pm_dA G 0) n1 (fun j => .int (f1 j))) sp dp n = arrV (pm_dA G 0) n1 (fun j => .int (va_cpy f f1 sp.toNatClampNeg dp.toNatClampNeg n.toNatClampNeg j)) := va_copied (fun z => .int z) (pm_dA G 0) (pm_dA G 0) f f1 h4
  rw [e1] at X2 step
  have hlt : pm_b G + a < H.size := (Array.getElem?_eq_some_iff.mp hat1).1
  have hR' : pm_R G z.2.2 (pm_up h a (pm_ia 0 n1 (va_cpy f f1 sp.toNatClampNeg dp.toNatClampNeg n.toNatClampNeg))) g (H.setIfInBounds (pm_b G + a) (arrV (pm_dA G 0) n1 (fun j => .int (va_cpy f f1 sp.toNatClampNeg dp.toNatClampNeg n.toNatClampNeg j)))) :=
    hR.put (by simp) (fun q hq => by simp [Array.getElem?_setIfInBounds, Ne.symm hq]) (show (H.setIfInBounds (pm_b G + a) _)[pm_b G + a]? = some _ by simp [Array.getElem?_setIfInBounds, hlt]) (fun _ _ => rfl)
  obtain ⟨t, b1, b2⟩ := kk p e R s m args below meth c _ _ z0 lc X hR' (fun l hl => by
    rcases List.mem_append.mp hl with hl | hl
    · exact hL l hl
    · obtain ⟨x, -, hx⟩ := List.mem_map.mp hl
      rw [← hx]
      exact Nat.le_add_right _ _) hlo a1 a2 a3 a4 a5 a6 _ (by rw [← hT]; rfl) X2
  exact ⟨t, step t b1, b2⟩
theorem px_copyl {index a0 a n0 n1 : Nat} {f f1 : Nat → Int64} {sp dp n : Int32} (hl : Jvm.Cond.methodLink (pm_y M).cls index arraycopyName ∈ pm_T) (hnat : Jvm.Cond.native arraycopyName ∈ pm_T) (hs : Jvm.Cond.static arraycopyName ∈ pm_T) (hi : Jvm.Cond.initialized "java/lang/System" ∈ pm_T) (hd : decode (pm_cc M) pc = .ok (.invokestatic index, 3)) (hp : pc + 3 = pc') (hf1 : 1 ≤ pm_fr M) (hf2 : (st.map fun v => v.category).sum + (nativeFrameWords "java/lang/System" "arraycopy" 5 + 11) ≤ pm_lr M)
    (hc0 : h a0 = pm_la n0 f) (hc1 : h a = pm_la n1 f1) (h1 : ¬ sp < 0) (h2 : ¬ dp < 0) (h3 : ¬ n < 0) (h4 : sp.toNatClampNeg + n.toNatClampNeg ≤ n0) (h5 : dp.toNatClampNeg + n.toNatClampNeg ≤ n1) (kk : pm_W G M zm Φ pc' ls (st) z (pm_up h a (pm_la n1 (va_cpy f f1 sp.toNatClampNeg dp.toNatClampNeg n.toNatClampNeg))) g) : pm_W G M zm Φ pc ls (.int n :: .int dp :: .ref a :: .int sp :: .ref a0 :: st) z h g := by
  subst hp
  intro p e R s m args below meth c H locs z0 lc X hR hL hlo a1 a2 a3 a4 a5 a6
  obtain ⟨hx, hb, hml, hrt, hlk0, hnm, hown, hK, hfr, hlr, htb⟩ := id X
  have hts : ∀ w ∈ pm_T, w.before args s = true := fun w hw => hK.2.2.1 w hw args
  have nn : ∀ z : Int32, ¬ z < 0 → z.toInt = (z.toNatClampNeg : Int) := by
    intro z hz
    have hz0 : (0 : Int) ≤ z.toInt := by
      have := Int32.not_lt.mp hz
      simpa using Int32.le_iff_toInt_le.mp this
    show z.toInt = ((z.toInt.toNat : Nat) : Int)
    omega
  have hat0 : H[pm_b G + a0]? = some (arrV (pm_dA G 3) n0 (fun j => .long (f j))) := by have := hR.2.1 a0; rw [hc0] at this; exact this
  have hat1 : H[pm_b G + a]? = some (arrV (pm_dA G 3) n1 (fun j => .long (f1 j))) := by have := hR.2.1 a; rw [hc1] at this; exact this
  obtain ⟨-, k0, hk0, cm0, hkk0⟩ := (hK.2.1 3 (by decide)).1 n0 (fun j => .long (f j))
  obtain ⟨-, k1, hk1, cm1, hkk1⟩ := (hK.2.1 3 (by decide)).1 n1 (fun j => .long (f1 j))
  intro T hT X'
  obtain ⟨vm', X2, step⟩ := X'.arraycopy hx hown (hts _ hl) (hts _ hnat) (hts _ hs) (hts _ hi) (src := pm_b G + a0) (dst := pm_b G + a) (srcPos := sp) (destPos := dp) (n := n) (by rw [hT]; exact hat0) (by rw [hT]; exact hat1)
    (fun _ h => by cases h) (fun _ h => by cases h) (fun h => by cases h) (fun h => by cases h) hk0 hk1 hkk0 hkk1 (by simp [pm_ty, refKind]) h1 h2 h3
    (by rw [nn sp h1, nn n h3, arrV_size]; omega) (by rw [nn dp h2, nn n h3, arrV_size]; omega)
    (fun vm₁ _ i hi => by
      have e : (arrV (pm_dA G 3) n0 (fun j => .long (f j))).slots.getD (sp.toNatClampNeg + i) .null = .long (f (sp.toNatClampNeg + i)) := by
        rw [Array.getD_eq_getD_getElem?, arrV_read _ _ (by omega)]
        rfl
      rw [e]
      exact ⟨rfl, trivial⟩)
    (g := F0 m pc lc (.int n :: .int dp :: .ref (pm_b G + a) :: .int sp :: .ref (pm_b G + a0) :: st.map (pm_tr G))) rfl (by show lc.size = _; rw [hlo.1, hml]) (rest := st.map (pm_tr G)) rfl (by rw [hb]; exact hd) (by rw [hfr]; exact hf1) (by show 2 * 0 + _ + _ ≤ _; rw [pm_tr_cats, hlr]; omega)
  have e1 : copied (arrV (pm_dA G 3) n0 (fun j => .long (f j))) (arrV (pm_dA G 3) n1 (fun j => .long (f1 j))) sp dp n = arrV (pm_dA G 3) n1 (fun j => .long (va_cpy f f1 sp.toNatClampNeg dp.toNatClampNeg n.toNatClampNeg j)) := va_copied (fun z => .long z) (pm_dA G 3) (pm_dA G 3) f f1 h4
  rw [e1] at X2 step
  have hlt : pm_b G + a < H.size := (Array.getElem?_eq_some_iff.mp hat1).1
  have hR' : pm_R G z.2.2 (pm_up h a (pm_la n1 (va_cpy f f1 sp.toNatClampNeg dp.toNatClampNeg n.toNatClampNeg))) g (H.setIfInBounds (pm_b G + a) (arrV (pm_dA G 3) n1 (fun j => .long (va_cpy f f1 sp.toNatClampNeg dp.toNatClampNeg n.toNatClampNeg j)))) :=
    hR.put (by simp) (fun q hq => by simp [Array.getElem?_setIfInBounds, Ne.symm hq]) (show (H.setIfInBounds (pm_b G + a) _)[pm_b G + a]? = some _ by simp [Array.getElem?_setIfInBounds, hlt]) (fun _ _ => rfl)
  obtain ⟨t, b1, b2⟩ := kk p e R s m args below meth c _ _ z0 lc X hR' (fun l hl => by
    rcases List.mem_append.mp hl with hl | hl
    · exact hL l hl
    · obtain ⟨x, -, hx⟩ := List.mem_map.mp hl
      rw [← hx]
      exact Nat.le_add_right _ _) hlo a1 a2 a3 a4 a5 a6 _ (by rw [← hT]; rfl) X2
  exact ⟨t, step t b1, b2⟩
end PC
