set_option maxRecDepth 100000 in
theorem pm_lay0 : ∀ w ∈ wsX00, w ∈ pm_T := by
  have e : wsX00 = [145, 147, 149, 151, 153, 155].filterMap (fun i => lw_tbl[i]?) := by decide +kernel
  have f : wsX00.all goodWord = true := by decide +kernel
  intro w hw
  have h1 := List.all_eq_true.mp f w hw
  rw [e] at hw
  obtain ⟨i, -, hi⟩ := List.mem_filterMap.mp hw
  exact List.mem_filter.mpr ⟨List.mem_of_getElem? hi, h1⟩
set_option maxRecDepth 100000 in
theorem pm_lay1 : ∀ w ∈ wsX10, w ∈ pm_T := by
  have e : wsX10 = [170, 172, 174, 176, 178, 180].filterMap (fun i => lw_tbl[i]?) := by decide +kernel
  have f : wsX10.all goodWord = true := by decide +kernel
  intro w hw
  have h1 := List.all_eq_true.mp f w hw
  rw [e] at hw
  obtain ⟨i, -, hi⟩ := List.mem_filterMap.mp hw
  exact List.mem_filter.mpr ⟨List.mem_of_getElem? hi, h1⟩
set_option maxRecDepth 100000 in
theorem pm_lay2 : ∀ w ∈ wsX20, w ∈ pm_T := by
  have e : wsX20 = [98, 100, 102].filterMap (fun i => lw_tbl[i]?) := by decide +kernel
  have f : wsX20.all goodWord = true := by decide +kernel
  intro w hw
  have h1 := List.all_eq_true.mp f w hw
  rw [e] at hw
  obtain ⟨i, -, hi⟩ := List.mem_filterMap.mp hw
  exact List.mem_filter.mpr ⟨List.mem_of_getElem? hi, h1⟩
set_option maxRecDepth 100000 in
theorem pm_lay3 : ∀ w ∈ wsX30, w ∈ pm_T := by
  have e : wsX30 = [81, 83, 85].filterMap (fun i => lw_tbl[i]?) := by decide +kernel
  have f : wsX30.all goodWord = true := by decide +kernel
  intro w hw
  have h1 := List.all_eq_true.mp f w hw
  rw [e] at hw
  obtain ⟨i, -, hi⟩ := List.mem_filterMap.mp hw
  exact List.mem_filter.mpr ⟨List.mem_of_getElem? hi, h1⟩
set_option maxRecDepth 100000 in
theorem pm_lay4 : ∀ w ∈ wsX40, w ∈ pm_T := by
  have e : wsX40 = [200, 202, 204, 206, 208, 210, 212, 214, 216, 218].filterMap (fun i => lw_tbl[i]?) := by decide +kernel
  have f : wsX40.all goodWord = true := by decide +kernel
  intro w hw
  have h1 := List.all_eq_true.mp f w hw
  rw [e] at hw
  obtain ⟨i, -, hi⟩ := List.mem_filterMap.mp hw
  exact List.mem_filter.mpr ⟨List.mem_of_getElem? hi, h1⟩
set_option maxRecDepth 100000 in
theorem pm_lay5 : ∀ w ∈ wsX50, w ∈ pm_T := by
  have e : wsX50 = [118, 120, 122, 124, 126, 128, 130].filterMap (fun i => lw_tbl[i]?) := by decide +kernel
  have f : wsX50.all goodWord = true := by decide +kernel
  intro w hw
  have h1 := List.all_eq_true.mp f w hw
  rw [e] at hw
  obtain ⟨i, -, hi⟩ := List.mem_filterMap.mp hw
  exact List.mem_filter.mpr ⟨List.mem_of_getElem? hi, h1⟩
set_option maxRecDepth 100000 in
theorem pm_lay6 : ∀ w ∈ wsX60, w ∈ pm_T := by
  have e : wsX60 = [66, 68].filterMap (fun i => lw_tbl[i]?) := by decide +kernel
  have f : wsX60.all goodWord = true := by decide +kernel
  intro w hw
  have h1 := List.all_eq_true.mp f w hw
  rw [e] at hw
  obtain ⟨i, -, hi⟩ := List.mem_filterMap.mp hw
  exact List.mem_filter.mpr ⟨List.mem_of_getElem? hi, h1⟩
set_option maxRecDepth 100000 in
theorem pm_lay7 : ∀ w ∈ wsX70, w ∈ pm_T := by
  have e : wsX70 = [238, 240, 242, 244, 246, 248, 250, 252, 254, 256, 258].filterMap (fun i => lw_tbl[i]?) := by decide +kernel
  have f : wsX70.all goodWord = true := by decide +kernel
  intro w hw
  have h1 := List.all_eq_true.mp f w hw
  rw [e] at hw
  obtain ⟨i, -, hi⟩ := List.mem_filterMap.mp hw
  exact List.mem_filter.mpr ⟨List.mem_of_getElem? hi, h1⟩
set_option maxRecDepth 100000 in
theorem pm_lay8 : ∀ w ∈ wsX80, w ∈ pm_T := by
  have e : wsX80 = [285, 287, 289, 291, 293, 295, 297, 299].filterMap (fun i => lw_tbl[i]?) := by decide +kernel
  have f : wsX80.all goodWord = true := by decide +kernel
  intro w hw
  have h1 := List.all_eq_true.mp f w hw
  rw [e] at hw
  obtain ⟨i, -, hi⟩ := List.mem_filterMap.mp hw
  exact List.mem_filter.mpr ⟨List.mem_of_getElem? hi, h1⟩
set_option maxRecDepth 100000 in
theorem pm_lay9 : ∀ w ∈ wsX90, w ∈ pm_T := by
  have e : wsX90 = [800, 802, 804, 806, 808, 810, 812, 814, 816, 818, 820, 822, 824, 826, 828, 830, 832, 834, 836, 838, 840, 842, 844, 846, 848, 850, 852, 854, 856, 858, 860, 862, 864, 866, 868, 870, 872, 874].filterMap (fun i => lw_tbl[i]?) := by decide +kernel
  have f : wsX90.all goodWord = true := by decide +kernel
  intro w hw
  have h1 := List.all_eq_true.mp f w hw
  rw [e] at hw
  obtain ⟨i, -, hi⟩ := List.mem_filterMap.mp hw
  exact List.mem_filter.mpr ⟨List.mem_of_getElem? hi, h1⟩
/-- the tables of the classes -/
theorem pm_cls {ci : Nat} {q : vw_C} (h : vwCl[ci]? = some q) : (∀ w ∈ u_ws q.1 q.2.1 q.2.2, w ∈ pm_T) ∧ (∃ ty : Nat → FieldType, ∀ k, k < q.2.2 → parseFieldDescriptor (q.2.1 k).2.2.1 = some (ty k)) ∧ ∀ a, a < q.2.2 → ∀ b, b < q.2.2 → a ≠ b → (q.2.1 a).2.1 ≠ (q.2.1 b).2.1 := by
  match ci, h with
  | 0, h => cases h; exact ⟨pm_lay0, ⟨tyX0, tyX0_ok⟩, nmX0⟩
  | 1, h => cases h; exact ⟨pm_lay1, ⟨tyX1, tyX1_ok⟩, nmX1⟩
  | 2, h => cases h; exact ⟨pm_lay2, ⟨tyX2, tyX2_ok⟩, nmX2⟩
  | 3, h => cases h; exact ⟨pm_lay3, ⟨tyX3, tyX3_ok⟩, nmX3⟩
  | 4, h => cases h; exact ⟨pm_lay4, ⟨tyX4, tyX4_ok⟩, nmX4⟩
  | 5, h => cases h; exact ⟨pm_lay5, ⟨tyX5, tyX5_ok⟩, nmX5⟩
  | 6, h => cases h; exact ⟨pm_lay6, ⟨tyX6, tyX6_ok⟩, nmX6⟩
  | 7, h => cases h; exact ⟨pm_lay7, ⟨tyX7, tyX7_ok⟩, nmX7⟩
  | 8, h => cases h; exact ⟨pm_lay8, ⟨tyX8, tyX8_ok⟩, nmX8⟩
  | 9, h => cases h; exact ⟨pm_lay9, ⟨tyX9, tyX9_ok⟩, nmX9⟩
  | ci + 10, h => simp [vwCl] at h
/-- a field's link: its class's number, its number in it -/
def pm_fl (own : String) (index ci k : Nat) : Prop := ∃ q : vw_C, vwCl[ci]? = some q ∧ k < q.2.2 ∧ Jvm.Cond.fieldLink own index (q.2.1 k).1 (q.2.1 k).2.1 (q.2.1 k).2.2.1 ∈ pm_T
/-- .. of an int field that isn't final -/
def pm_fi (own : String) (index ci k : Nat) : Prop := ∃ q : vw_C, vwCl[ci]? = some q ∧ k < q.2.2 ∧ Jvm.Cond.fieldLink own index (q.2.1 k).1 (q.2.1 k).2.1 (q.2.1 k).2.2.1 ∈ pm_T ∧ (q.2.1 k).2.2.1 = "I" ∧ (q.2.1 k).2.2.2 = false
/-- .. of a final field, a reference -/
def pm_ff (own : String) (index ci k : Nat) : Prop := ∃ q : vw_C, vwCl[ci]? = some q ∧ k < q.2.2 ∧ Jvm.Cond.fieldLink own index (q.2.1 k).1 (q.2.1 k).2.1 (q.2.1 k).2.2.1 ∈ pm_T ∧ (∃ ty, parseFieldDescriptor (q.2.1 k).2.2.1 = some ty ∧ ∀ a : Nat, narrow ty (.ref a) = .ref a ∧ fits ty (.ref a) = true) ∧ (q.2.1 k).2.2.2 = true ∧ (q.2.1 k).1 = own
/-- a class's link -/
def pm_nw (own : String) (index ci : Nat) (n : Nat) (d : Nat → Value) : Prop := ∃ (q : vw_C) (ty : Nat → FieldType), vwCl[ci]? = some q ∧ q.2.2 = n ∧ Jvm.Cond.classLink own index q.1 ∈ pm_T ∧ Jvm.Cond.instantiable q.1 q.2.2 ∈ pm_T ∧ Jvm.Cond.initialized q.1 ∈ pm_T ∧ (∀ k, k < q.2.2 → parseFieldDescriptor (q.2.1 k).2.2.1 = some (ty k)) ∧ ∀ k, k < q.2.2 → d k = defaultValue (ty k)
theorem pm_tr_df (G : pm_G) (ty : FieldType) : pm_tr G (defaultValue ty) = defaultValue ty := by cases ty <;> rfl
section PH
variable {G : pm_G} {M : pm_M} {zm : pm_z} {Φ : pm_F} {pc pc' : Nat} {ls st : List Value} {z : pm_z} {h : pm_h} {g : pm_g}
theorem px_getf {index ci k a : Nat} {v : Value} (hf : pm_fl (pm_y M).cls index ci k) (hd : decode (pm_cc M) pc = .ok (.getfield index, 3)) (hp : pc + 3 = pc') (hc : h a = pm_ob ci) (hv : g a k = v) (kk : pm_W G M zm Φ pc' ls (v :: st) z h g) : pm_W G M zm Φ pc ls (.ref a :: st) z h g := by
  subst hp
  obtain ⟨q, hq, hk, hlk⟩ := hf
  intro p e R s m args below meth c H locs z0 lc X hR hL hlo a1 a2 a3 a4 a5 a6
  obtain ⟨hx, hb, hml, hrt, hlk0, hnm, hown, hK, hfr, hlr, htb⟩ := id X
  have hat := hR.2.1 a
  rw [hc] at hat
  obtain ⟨r, h1, cell, q1, q2, q3, q4⟩ := hat
  cases hq.symm.trans h1
  obtain ⟨hS, hfc, kC, hkC, hkind⟩ := hK.1 ci _ hq
  obtain ⟨cf, kf, fi, f, hi, hsl⟩ := hS k hk
  have hts : ∀ w ∈ pm_T, w.before args s = true := fun w hw => hK.2.2.1 w hw args
  refine W.getf hx hb hown (hts _ hlk) hi (u_facts hfc hkC (u_lays hts (pm_cls hq).1 hk) hi).1 q1 (by rw [q3]; exact fun h => by cases h) (v := pm_tr G v) ?_ rfl rfl hd (kk p e R s m args below meth c H locs z0 lc X hR hL hlo a1 a2 a3 a4 a5 a6)
  rw [hsl, q4 k hk]
  show some (pm_tr G (g a k)) = _
  rw [hv]
theorem px_put {index ci k a : Nat} {v : Value} {q : vw_C} {ty : FieldType} (hq : vwCl[ci]? = some q) (hk : k < q.2.2) (hlk : Jvm.Cond.fieldLink (pm_y M).cls index (q.2.1 k).1 (q.2.1 k).2.1 (q.2.1 k).2.2.1 ∈ pm_T) (hty : parseFieldDescriptor (q.2.1 k).2.2.1 = some ty) (hn : narrow ty (pm_tr G v) = pm_tr G v) (hft : fits ty (pm_tr G v) = true)
    (hfin : (q.2.1 k).2.2.2 = false ∨ ((q.2.1 k).2.2.2 = true ∧ (pm_y M).name = "<init>" ∧ (q.2.1 k).1 = (pm_y M).cls)) (hd : decode (pm_cc M) pc = .ok (.putfield index, 3)) (hp : pc + 3 = pc') (hc : h a = pm_ob ci) (kk : pm_W G M zm Φ pc' ls (st) z h (pm_uf g a k v)) : pm_W G M zm Φ pc ls (v :: .ref a :: st) z h g := by
  subst hp
  intro p e R s m args below meth c H locs z0 lc X hR hL hlo a1 a2 a3 a4 a5 a6
  obtain ⟨hx, hb, hml, hrt, hlk0, hnm, hown, hK, hfr, hlr, htb⟩ := id X
  have hat := hR.2.1 a
  rw [hc] at hat
  obtain ⟨r, h1, cell, q1, q2, q3, q4⟩ := hat
  cases hq.symm.trans h1
  have hKn := hK.1 ci _ hq
  obtain ⟨hS, hfc, kC, hkC, hkind⟩ := id hKn
  obtain ⟨cf, kf, fi, f, hi, hsl⟩ := hS k hk
  have hts : ∀ w ∈ pm_T, w.before args s = true := fun w hw => hK.2.2.1 w hw args
  obtain ⟨hlays, ⟨tys, htys⟩, hnms⟩ := pm_cls hq
  have hst := (u_facts hfc hkC (u_lays hts hlays hk) hi).1
  have hap : ∀ x y, x < q.2.2 → y < q.2.2 → x ≠ y → (pm_D G).2 ci x ≠ (pm_D G).2 ci y := by
    intro x y hx hy hne
    obtain ⟨_, _, _, fa, hia, ea⟩ := hS x hx
    obtain ⟨_, _, _, fb, hib, eb⟩ := hS y hy
    rw [← ea, ← eb]
    refine u_apart (u_lays hts hlays hx) (u_lays hts hlays hy) hia hib ?_
    rw [(State.fieldFound?_type hia (htys x hx)).1, (State.fieldFound?_type hib (htys y hy)).1]
    exact hnms x hx y hy hne
  have fin : ∀ H' : Heap, H'[pm_b G + a]? = some (cell.setSlot f.slot (pm_tr G v)) → H'.size = H.size → (∀ q, q ≠ pm_b G + a → H'[q]? = H[q]?) → W p (pm_l G) e R s m args below meth c H' (locs ++ [⟨pm_b G + a, f.slot⟩]) (z.1 - z0.1) (z.2.1 - z0.2.1) (Φ below args s (zm.1 - z0.1) (zm.2.1 - z0.2.1)) (F0 m (pc + 3) lc (st.map (pm_tr G))) := by
    intro H' e1 e2 e3
    rw [hsl] at e1
    have hR' : pm_R G z.2.2 (pm_up h a (pm_ob ci)) (pm_uf g a k v) H' := by
      refine hR.put e2 e3 ⟨_, hq, t_OB.to (V := updV (fun j => pm_tr G (g a j)) k (pm_tr G v)) ⟨_, e1, q2, q3, t_set q4 hap hk (pm_tr G v)⟩ (fun j _ => ?_)⟩ (fun b hb => pm_uf_a hb)
      simp only [updV, pm_uf]
      by_cases hj : j = k
      · simp [hj]
      · simp [hj]
    rw [pm_up_self hc] at hR'
    refine kk p e R s m args below meth c H' _ z0 lc X hR' (fun l hl => ?_) hlo a1 a2 a3 a4 a5 a6
    rcases List.mem_append.mp hl with hl | hl
    · exact hL l hl
    · rw [List.mem_singleton.mp hl]
      exact Nat.le_add_right _ _
  have hslot : f.slot < cell.slots.size := by rw [hsl]; exact k2_hasslot (q4 k hk)
  have hlay := hts _ (hlays _ (u_in_lay hk))
  rcases hfin with hfin | ⟨hfin, hin, hdecl⟩
  · unfold u_lay at hlay
    rw [if_neg (by rw [hfin]; decide)] at hlay
    have h6 := u_store hfc hkC hkind hlay hi hty hn hft
    exact W.putK hx hb (f := f) ⟨hown, hts _ hlk, ⟨_, _, _, hi⟩, hst⟩ (by rw [q2]; exact h6) q1 q3 hslot rfl rfl hd fin
  · unfold u_lay at hlay
    rw [if_pos hfin] at hlay
    have hcf : m.cls = cf := by
      obtain ⟨_, _, c', _, _, _, -, -, hf', -, -, -, hown2, -⟩ := Cond.laysFinal_spec hlay
      have e1 : c' = cf := by have := hi.symm.trans hf'; simp at this; exact this.1.symm
      rw [hdecl] at hown2
      rw [← e1]; exact Option.some.inj (hown.symm.trans hown2)
    have h6 := u_fits hfc hkC hkind (Or.inr hlay) hi hty hn hft
    exact W.putFinK hx hb hown (hts _ hlk) hi hst hcf (hnm.trans hin) (by rw [q2]; exact h6) q1 q3 hslot rfl rfl hd fin
theorem px_puti {index ci k a : Nat} {x : Int32} (hf : pm_fi (pm_y M).cls index ci k) (hd : decode (pm_cc M) pc = .ok (.putfield index, 3)) (hp : pc + 3 = pc') (hc : h a = pm_ob ci) (kk : pm_W G M zm Φ pc' ls (st) z h (pm_uf g a k (.int x))) : pm_W G M zm Φ pc ls (.int x :: .ref a :: st) z h g := by
  obtain ⟨q, hq, hk, hlk, hI, hfin⟩ := hf
  exact px_put hq hk hlk (ty := .int) (by rw [hI]; decide +kernel) rfl rfl (Or.inl hfin) hd hp hc kk
theorem px_putr {index ci k a b : Nat} (hf : pm_ff (pm_y M).cls index ci k) (hin : (pm_y M).name = "<init>") (hd : decode (pm_cc M) pc = .ok (.putfield index, 3)) (hp : pc + 3 = pc') (hc : h a = pm_ob ci) (kk : pm_W G M zm Φ pc' ls (st) z h (pm_uf g a k (.ref b))) : pm_W G M zm Φ pc ls (.ref b :: .ref a :: st) z h g := by
  obtain ⟨q, hq, hk, hlk, ⟨ty, h1, h2⟩, hfin, hdecl⟩ := hf
  exact px_put hq hk hlk h1 (h2 _).1 (h2 _).2 (Or.inr ⟨hfin, hin, hdecl⟩) hd hp hc kk
theorem px_iald {a n : Nat} {f : Nat → Int32} {i : Int32} (hd : decode (pm_cc M) pc = .ok (.iaload, 1)) (hp : pc + 1 = pc') (hc : h a = pm_ia 0 n f) (hin : vp_in i n) (kk : pm_W G M zm Φ pc' ls (.int (f i.toNatClampNeg) :: st) z h g) : pm_W G M zm Φ pc ls (.int i :: .ref a :: st) z h g := by
  subst hp
  intro p e R s m args below meth c H locs z0 lc X hR hL hlo a1 a2 a3 a4 a5 a6
  have hat := hR.2.1 a
  rw [hc] at hat
  have hlt : i.toNatClampNeg < n := Nat.not_le.mp fun q => hin (Or.inr q)
  exact W.iald (v := .int (f i.toNatClampNeg)) X.1 X.2.1 hat ((X.2.2.2.2.2.2.2.1.2.1 0 (by decide)).1 n (fun j => .int (f j))) (fun q => by cases q) (by rw [arrV_size]; exact hin) (by rw [arrV_read _ _ hlt]) rfl rfl hd (kk p e R s m args below meth c H locs z0 lc X hR hL hlo a1 a2 a3 a4 a5 a6)
theorem px_bald {a n : Nat} {f : Nat → Int32} {i : Int32} (hd : decode (pm_cc M) pc = .ok (.baload, 1)) (hp : pc + 1 = pc') (hc : h a = pm_ia 1 n f) (hin : vp_in i n) (kk : pm_W G M zm Φ pc' ls (.int (f i.toNatClampNeg) :: st) z h g) : pm_W G M zm Φ pc ls (.int i :: .ref a :: st) z h g := by
  subst hp
  intro p e R s m args below meth c H locs z0 lc X hR hL hlo a1 a2 a3 a4 a5 a6
  have hat := hR.2.1 a
  rw [hc] at hat
  have hlt : i.toNatClampNeg < n := Nat.not_le.mp fun q => hin (Or.inr q)
  exact W.bald (v := .int (f i.toNatClampNeg)) X.1 X.2.1 hat ((X.2.2.2.2.2.2.2.1.2.1 1 (by decide)).1 n (fun j => .int (f j))) (fun q => by cases q) (by rw [arrV_size]; exact hin) (by rw [arrV_read _ _ hlt]) rfl rfl hd (kk p e R s m args below meth c H locs z0 lc X hR hL hlo a1 a2 a3 a4 a5 a6)
theorem px_zald {a n : Nat} {f : Nat → Int32} {i : Int32} (hd : decode (pm_cc M) pc = .ok (.baload, 1)) (hp : pc + 1 = pc') (hc : h a = pm_ia 2 n f) (hin : vp_in i n) (kk : pm_W G M zm Φ pc' ls (.int (f i.toNatClampNeg) :: st) z h g) : pm_W G M zm Φ pc ls (.int i :: .ref a :: st) z h g := by
  subst hp
  intro p e R s m args below meth c H locs z0 lc X hR hL hlo a1 a2 a3 a4 a5 a6
  have hat := hR.2.1 a
  rw [hc] at hat
  have hlt : i.toNatClampNeg < n := Nat.not_le.mp fun q => hin (Or.inr q)
  exact W.zald (v := .int (f i.toNatClampNeg)) X.1 X.2.1 hat ((X.2.2.2.2.2.2.2.1.2.1 2 (by decide)).1 n (fun j => .int (f j))) (fun q => by cases q) (by rw [arrV_size]; exact hin) (by rw [arrV_read _ _ hlt]) rfl rfl hd (kk p e R s m args below meth c H locs z0 lc X hR hL hlo a1 a2 a3 a4 a5 a6)
theorem px_lald {a n : Nat} {f : Nat → Int64} {i : Int32} (hd : decode (pm_cc M) pc = .ok (.laload, 1)) (hp : pc + 1 = pc') (hc : h a = pm_la n f) (hin : vp_in i n) (kk : pm_W G M zm Φ pc' ls (.long (f i.toNatClampNeg) :: st) z h g) : pm_W G M zm Φ pc ls (.int i :: .ref a :: st) z h g := by
  subst hp
  intro p e R s m args below meth c H locs z0 lc X hR hL hlo a1 a2 a3 a4 a5 a6
  have hat := hR.2.1 a
  rw [hc] at hat
  have hlt : i.toNatClampNeg < n := Nat.not_le.mp fun q => hin (Or.inr q)
  exact W.lald (v := .long (f i.toNatClampNeg)) X.1 X.2.1 hat ((X.2.2.2.2.2.2.2.1.2.1 3 (by decide)).1 n (fun j => .long (f j))) (fun q => by cases q) (by rw [arrV_size]; exact hin) (by rw [arrV_read _ _ hlt]) rfl rfl hd (kk p e R s m args below meth c H locs z0 lc X hR hL hlo a1 a2 a3 a4 a5 a6)
theorem px_iast {a n : Nat} {f : Nat → Int32} {i x : Int32} (hd : decode (pm_cc M) pc = .ok (.iastore, 1)) (hp : pc + 1 = pc') (hc : h a = pm_ia 0 n f) (hin : vp_in i n) (kk : pm_W G M zm Φ pc' ls (st) z (pm_up h a (pm_ia 0 n (upd f i.toNatClampNeg x))) g) : pm_W G M zm Φ pc ls (.int x :: .int i :: .ref a :: st) z h g := by
  subst hp
  intro p e R s m args below meth c H locs z0 lc X hR hL hlo a1 a2 a3 a4 a5 a6
  have hat := hR.2.1 a
  rw [hc] at hat
  refine W.iast X.1 X.2.1 hat ((X.2.2.2.2.2.2.2.1.2.1 0 (by decide)).1 n (fun j => .int (f j))) (fun q => by cases q) (by rw [arrV_size]; exact hin) rfl rfl hd fun H' e1 e2 e3 => ?_
  have hR' : pm_R G z.2.2 (pm_up h a (pm_ia 0 n (upd f i.toNatClampNeg x))) g H' := by
    refine hR.put e2 e3 ?_ (fun _ _ => rfl)
    show H'[pm_b G + a]? = some _
    rw [e1, arrV_store]
    congr 2
    funext q
    by_cases hq : q = i.toNatClampNeg
    · subst hq
      simp [updV, upd, vp_nar]
      try rfl
    · simp [updV, upd, hq]
  refine kk p e R s m args below meth c H' _ z0 lc X hR' (fun l hl => ?_) hlo a1 a2 a3 a4 a5 a6
  rcases List.mem_append.mp hl with hl | hl
  · exact hL l hl
  · rw [List.mem_singleton.mp hl]
    exact Nat.le_add_right _ _
theorem px_bast {a n : Nat} {f : Nat → Int32} {i x : Int32} (hd : decode (pm_cc M) pc = .ok (.bastore, 1)) (hp : pc + 1 = pc') (hc : h a = pm_ia 1 n f) (hin : vp_in i n) (kk : pm_W G M zm Φ pc' ls (st) z (pm_up h a (pm_ia 1 n (upd f i.toNatClampNeg (vp_nar .byte x)))) g) : pm_W G M zm Φ pc ls (.int x :: .int i :: .ref a :: st) z h g := by
  subst hp
  intro p e R s m args below meth c H locs z0 lc X hR hL hlo a1 a2 a3 a4 a5 a6
  have hat := hR.2.1 a
  rw [hc] at hat
  refine W.bast X.1 X.2.1 hat ((X.2.2.2.2.2.2.2.1.2.1 1 (by decide)).1 n (fun j => .int (f j))) (fun q => by cases q) (by rw [arrV_size]; exact hin) rfl rfl hd fun H' e1 e2 e3 => ?_
  have hR' : pm_R G z.2.2 (pm_up h a (pm_ia 1 n (upd f i.toNatClampNeg (vp_nar .byte x)))) g H' := by
    refine hR.put e2 e3 ?_ (fun _ _ => rfl)
    show H'[pm_b G + a]? = some _
    rw [e1, arrV_store]
    congr 2
    funext q
    by_cases hq : q = i.toNatClampNeg
    · subst hq
      simp [updV, upd, vp_nar]
      try rfl
    · simp [updV, upd, hq]
  refine kk p e R s m args below meth c H' _ z0 lc X hR' (fun l hl => ?_) hlo a1 a2 a3 a4 a5 a6
  rcases List.mem_append.mp hl with hl | hl
  · exact hL l hl
  · rw [List.mem_singleton.mp hl]
    exact Nat.le_add_right _ _
theorem px_zast {a n : Nat} {f : Nat → Int32} {i x : Int32} (hd : decode (pm_cc M) pc = .ok (.bastore, 1)) (hp : pc + 1 = pc') (hc : h a = pm_ia 2 n f) (hin : vp_in i n) (kk : pm_W G M zm Φ pc' ls (st) z (pm_up h a (pm_ia 2 n (upd f i.toNatClampNeg (vp_nar .boolean x)))) g) : pm_W G M zm Φ pc ls (.int x :: .int i :: .ref a :: st) z h g := by
  subst hp
  intro p e R s m args below meth c H locs z0 lc X hR hL hlo a1 a2 a3 a4 a5 a6
  have hat := hR.2.1 a
  rw [hc] at hat
  refine W.zast X.1 X.2.1 hat ((X.2.2.2.2.2.2.2.1.2.1 2 (by decide)).1 n (fun j => .int (f j))) (fun q => by cases q) (by rw [arrV_size]; exact hin) rfl rfl hd fun H' e1 e2 e3 => ?_
  have hR' : pm_R G z.2.2 (pm_up h a (pm_ia 2 n (upd f i.toNatClampNeg (vp_nar .boolean x)))) g H' := by
    refine hR.put e2 e3 ?_ (fun _ _ => rfl)
    show H'[pm_b G + a]? = some _
    rw [e1, arrV_store]
    congr 2
    funext q
    by_cases hq : q = i.toNatClampNeg
    · subst hq
      simp [updV, upd, vp_nar]
      try rfl
    · simp [updV, upd, hq]
  refine kk p e R s m args below meth c H' _ z0 lc X hR' (fun l hl => ?_) hlo a1 a2 a3 a4 a5 a6
  rcases List.mem_append.mp hl with hl | hl
  · exact hL l hl
  · rw [List.mem_singleton.mp hl]
    exact Nat.le_add_right _ _
theorem px_last {a n : Nat} {f : Nat → Int64} {i : Int32} {x : Int64} (hd : decode (pm_cc M) pc = .ok (.lastore, 1)) (hp : pc + 1 = pc') (hc : h a = pm_la n f) (hin : vp_in i n) (kk : pm_W G M zm Φ pc' ls (st) z (pm_up h a (pm_la n (vp_updL f i.toNatClampNeg x))) g) : pm_W G M zm Φ pc ls (.long x :: .int i :: .ref a :: st) z h g := by
  subst hp
  intro p e R s m args below meth c H locs z0 lc X hR hL hlo a1 a2 a3 a4 a5 a6
  have hat := hR.2.1 a
  rw [hc] at hat
  refine W.last X.1 X.2.1 hat ((X.2.2.2.2.2.2.2.1.2.1 3 (by decide)).1 n (fun j => .long (f j))) (fun q => by cases q) (by rw [arrV_size]; exact hin) rfl rfl hd fun H' e1 e2 e3 => ?_
  have hR' : pm_R G z.2.2 (pm_up h a (pm_la n (vp_updL f i.toNatClampNeg x))) g H' := by
    refine hR.put e2 e3 ?_ (fun _ _ => rfl)
    show H'[pm_b G + a]? = some _
    rw [e1, arrV_store]
    congr 2
    funext q
    by_cases hq : q = i.toNatClampNeg
    · subst hq
      simp [updV, vp_updL]
    · simp [updV, vp_updL, hq]
  refine kk p e R s m args below meth c H' _ z0 lc X hR' (fun l hl => ?_) hlo a1 a2 a3 a4 a5 a6
  rcases List.mem_append.mp hl with hl | hl
  · exact hL l hl
  · rw [List.mem_singleton.mp hl]
    exact Nat.le_add_right _ _
theorem px_aleni {a n kd : Nat} {f : Nat → Int32} (hk : kd < 4) (hd : decode (pm_cc M) pc = .ok (.arraylength, 1)) (hp : pc + 1 = pc') (hc : h a = pm_ia kd n f) (kk : pm_W G M zm Φ pc' ls (.int (Int32.ofNat n) :: st) z h g) : pm_W G M zm Φ pc ls (.ref a :: st) z h g := by
  subst hp
  intro p e R s m args below meth c H locs z0 lc X hR hL hlo a1 a2 a3 a4 a5 a6
  have hat := hR.2.1 a
  rw [hc] at hat
  exact W.alen (n := Int32.ofNat n) X.1 X.2.1 hat ((X.2.2.2.2.2.2.2.1.2.1 kd hk).1 n (fun j => .int (f j))) (by rw [arrV_size] <;> rfl) rfl rfl hd (kk p e R s m args below meth c H locs z0 lc X hR hL hlo a1 a2 a3 a4 a5 a6)
theorem px_slen {a : Nat} (hd : decode (pm_cc M) pc = .ok (.arraylength, 1)) (hp : pc + 1 = pc') (kk : pm_W G M zm Φ pc' ls (.int (Int32.ofNat (pm_L G)) :: st) z h g) : pm_W G M zm Φ pc ls (.retAddr a :: st) z h g := by
  subst hp
  intro p e R s m args below meth c H locs z0 lc X hR hL hlo a1 a2 a3 a4 a5 a6
  obtain ⟨⟨scr, h1, h2, h3, h4, h5⟩, hlt, -⟩ := X.2.2.2.2.2.2.2.1.2.2.2.2
  exact W.alen (n := Int32.ofNat (pm_L G)) X.1 X.2.1 (by rw [hR.2.2 _ hlt]; exact h1) h2 (by rw [h4] <;> rfl) rfl rfl hd (kk p e R s m args below meth c H locs z0 lc X hR hL hlo a1 a2 a3 a4 a5 a6)
theorem px_sld {a : Nat} {i : Int32} (hd : decode (pm_cc M) pc = .ok (.iaload, 1)) (hp : pc + 1 = pc') (hin : vp_in i (pm_L G)) (kk : pm_W G M zm Φ pc' ls (.int (pm_xs G i.toNatClampNeg) :: st) z h g) : pm_W G M zm Φ pc ls (.int i :: .retAddr a :: st) z h g := by
  subst hp
  intro p e R s m args below meth c H locs z0 lc X hR hL hlo a1 a2 a3 a4 a5 a6
  obtain ⟨⟨scr, h1, h2, h3, h4, h5⟩, hlt, -⟩ := X.2.2.2.2.2.2.2.1.2.2.2.2
  have hl : i.toNatClampNeg < pm_L G := Nat.not_le.mp fun q => hin (Or.inr q)
  exact W.iald (v := .int (pm_xs G i.toNatClampNeg)) X.1 X.2.1 (by rw [hR.2.2 _ hlt]; exact h1) h2 h3 (by rw [h4]; exact hin) (h5 _ hl) rfl rfl hd (kk p e R s m args below meth c H locs z0 lc X hR hL hlo a1 a2 a3 a4 a5 a6)
theorem px_newi {n : Int32} {N : Nat} (hw : Jvm.Cond.arrayClass .int ∈ pm_T) (hd : decode (pm_cc M) pc = .ok (.newarray .int, 2)) (hp : pc + 2 = pc') (hn : ¬ n < 0) (hN : n.toNatClampNeg = N) (hbytes : N * 8 ≤ 536870912) (hz1 : z.1 + 1 ≤ zm.1) (hz2 : z.2.1 + N ≤ zm.2.1) (kk : pm_W G M zm Φ pc' ls (.ref z.2.2 :: st) (z.1 + 1, z.2.1 + N, z.2.2 + 1) (pm_up h z.2.2 (pm_ia 0 N (fun _ => 0))) g) : pm_W G M zm Φ pc ls (.int n :: st) z h g := by
  subst hp
  intro p e R s m args below meth c H locs z0 lc X hR hL hlo a1 a2 a3 a4 a5 a6
  have hc := (X.2.2.2.2.2.2.2.1.2.1 0 (by decide)).2
  refine va_newaK X.1 X.2.1 (atype := .int) (X.2.2.2.2.2.2.2.1.2.2.1 _ hw args) rfl hd rfl hn hN (Nat.le_trans (Nat.mul_le_mul (Nat.le_refl N) (by decide)) hbytes) (by omega) (by omega) hR.1 fun H' cA e1 e2 e3 hA hf => ?_
  cases Option.some.inj (hf.symm.trans hc)
  have hR' : pm_R G (z.2.2 + 1) (pm_up h z.2.2 (pm_ia 0 N (fun _ => 0))) g H' := hR.mk (by rw [e2, hR.1]) (fun q hq => e3 q (by rw [← hR.1]; exact hq)) e1 (fun _ _ => rfl)
  have w := kk p e R s m args below meth c H' locs z0 lc X hR' hL hlo (by show z0.1 ≤ z.1 + 1; omega) (by show z0.2.1 ≤ z.2.1 + N; omega) hz1 hz2 a5 a6
  rw [show z.1 - z0.1 + 1 = z.1 + 1 - z0.1 by omega, show z.2.1 - z0.2.1 + N = z.2.1 + N - z0.2.1 by omega]
  exact w
theorem px_newb {n : Int32} {N : Nat} (hw : Jvm.Cond.arrayClass .byte ∈ pm_T) (hd : decode (pm_cc M) pc = .ok (.newarray .byte, 2)) (hp : pc + 2 = pc') (hn : ¬ n < 0) (hN : n.toNatClampNeg = N) (hbytes : N * 8 ≤ 536870912) (hz1 : z.1 + 1 ≤ zm.1) (hz2 : z.2.1 + N ≤ zm.2.1) (kk : pm_W G M zm Φ pc' ls (.ref z.2.2 :: st) (z.1 + 1, z.2.1 + N, z.2.2 + 1) (pm_up h z.2.2 (pm_ia 1 N (fun _ => 0))) g) : pm_W G M zm Φ pc ls (.int n :: st) z h g := by
  subst hp
  intro p e R s m args below meth c H locs z0 lc X hR hL hlo a1 a2 a3 a4 a5 a6
  have hc := (X.2.2.2.2.2.2.2.1.2.1 1 (by decide)).2
  refine va_newaK X.1 X.2.1 (atype := .byte) (X.2.2.2.2.2.2.2.1.2.2.1 _ hw args) rfl hd rfl hn hN (Nat.le_trans (Nat.mul_le_mul (Nat.le_refl N) (by decide)) hbytes) (by omega) (by omega) hR.1 fun H' cA e1 e2 e3 hA hf => ?_
  cases Option.some.inj (hf.symm.trans hc)
  have hR' : pm_R G (z.2.2 + 1) (pm_up h z.2.2 (pm_ia 1 N (fun _ => 0))) g H' := hR.mk (by rw [e2, hR.1]) (fun q hq => e3 q (by rw [← hR.1]; exact hq)) e1 (fun _ _ => rfl)
  have w := kk p e R s m args below meth c H' locs z0 lc X hR' hL hlo (by show z0.1 ≤ z.1 + 1; omega) (by show z0.2.1 ≤ z.2.1 + N; omega) hz1 hz2 a5 a6
  rw [show z.1 - z0.1 + 1 = z.1 + 1 - z0.1 by omega, show z.2.1 - z0.2.1 + N = z.2.1 + N - z0.2.1 by omega]
  exact w
theorem px_newz {n : Int32} {N : Nat} (hw : Jvm.Cond.arrayClass .boolean ∈ pm_T) (hd : decode (pm_cc M) pc = .ok (.newarray .boolean, 2)) (hp : pc + 2 = pc') (hn : ¬ n < 0) (hN : n.toNatClampNeg = N) (hbytes : N * 8 ≤ 536870912) (hz1 : z.1 + 1 ≤ zm.1) (hz2 : z.2.1 + N ≤ zm.2.1) (kk : pm_W G M zm Φ pc' ls (.ref z.2.2 :: st) (z.1 + 1, z.2.1 + N, z.2.2 + 1) (pm_up h z.2.2 (pm_ia 2 N (fun _ => 0))) g) : pm_W G M zm Φ pc ls (.int n :: st) z h g := by
  subst hp
  intro p e R s m args below meth c H locs z0 lc X hR hL hlo a1 a2 a3 a4 a5 a6
  have hc := (X.2.2.2.2.2.2.2.1.2.1 2 (by decide)).2
  refine va_newaK X.1 X.2.1 (atype := .boolean) (X.2.2.2.2.2.2.2.1.2.2.1 _ hw args) rfl hd rfl hn hN (Nat.le_trans (Nat.mul_le_mul (Nat.le_refl N) (by decide)) hbytes) (by omega) (by omega) hR.1 fun H' cA e1 e2 e3 hA hf => ?_
  cases Option.some.inj (hf.symm.trans hc)
  have hR' : pm_R G (z.2.2 + 1) (pm_up h z.2.2 (pm_ia 2 N (fun _ => 0))) g H' := hR.mk (by rw [e2, hR.1]) (fun q hq => e3 q (by rw [← hR.1]; exact hq)) e1 (fun _ _ => rfl)
  have w := kk p e R s m args below meth c H' locs z0 lc X hR' hL hlo (by show z0.1 ≤ z.1 + 1; omega) (by show z0.2.1 ≤ z.2.1 + N; omega) hz1 hz2 a5 a6
  rw [show z.1 - z0.1 + 1 = z.1 + 1 - z0.1 by omega, show z.2.1 - z0.2.1 + N = z.2.1 + N - z0.2.1 by omega]
  exact w
theorem px_newl {n : Int32} {N : Nat} (hw : Jvm.Cond.arrayClass .long ∈ pm_T) (hd : decode (pm_cc M) pc = .ok (.newarray .long, 2)) (hp : pc + 2 = pc') (hn : ¬ n < 0) (hN : n.toNatClampNeg = N) (hbytes : N * 8 ≤ 536870912) (hz1 : z.1 + 1 ≤ zm.1) (hz2 : z.2.1 + N ≤ zm.2.1) (kk : pm_W G M zm Φ pc' ls (.ref z.2.2 :: st) (z.1 + 1, z.2.1 + N, z.2.2 + 1) (pm_up h z.2.2 (pm_la N (fun _ => 0))) g) : pm_W G M zm Φ pc ls (.int n :: st) z h g := by
  subst hp
  intro p e R s m args below meth c H locs z0 lc X hR hL hlo a1 a2 a3 a4 a5 a6
  have hc := (X.2.2.2.2.2.2.2.1.2.1 3 (by decide)).2
  refine va_newaK X.1 X.2.1 (atype := .long) (X.2.2.2.2.2.2.2.1.2.2.1 _ hw args) rfl hd rfl hn hN (Nat.le_trans (Nat.mul_le_mul (Nat.le_refl N) (by decide)) hbytes) (by omega) (by omega) hR.1 fun H' cA e1 e2 e3 hA hf => ?_
  cases Option.some.inj (hf.symm.trans hc)
  have hR' : pm_R G (z.2.2 + 1) (pm_up h z.2.2 (pm_la N (fun _ => 0))) g H' := hR.mk (by rw [e2, hR.1]) (fun q hq => e3 q (by rw [← hR.1]; exact hq)) e1 (fun _ _ => rfl)
  have w := kk p e R s m args below meth c H' locs z0 lc X hR' hL hlo (by show z0.1 ≤ z.1 + 1; omega) (by show z0.2.1 ≤ z.2.1 + N; omega) hz1 hz2 a5 a6
  rw [show z.1 - z0.1 + 1 = z.1 + 1 - z0.1 by omega, show z.2.1 - z0.2.1 + N = z.2.1 + N - z0.2.1 by omega]
  exact w
theorem px_new {index ci n : Nat} {d : Nat → Value} (hf : pm_nw (pm_y M).cls index ci n d) (hd : decode (pm_cc M) pc = .ok (.new index, 3)) (hp : pc + 3 = pc') (hz1 : z.1 + 1 ≤ zm.1) (hz2 : z.2.1 + n ≤ zm.2.1) (kk : pm_W G M zm Φ pc' ls (.ref z.2.2 :: st) (z.1 + 1, z.2.1 + n, z.2.2 + 1) (pm_up h z.2.2 (pm_ob ci)) (pm_nf g z.2.2 d)) : pm_W G M zm Φ pc ls (st) z h g := by
  subst hp
  obtain ⟨q, ty, hq, hn, hcl, hin, hini, hty, hdf⟩ := hf
  subst hn
  intro p e R s m args below meth c H locs z0 lc X hR hL hlo a1 a2 a3 a4 a5 a6
  obtain ⟨hx, hb, hml, hrt, hlk0, hnm, hown, hK, hfr, hlr, htb⟩ := id X
  have hKn := hK.1 ci _ hq
  have hts : ∀ w ∈ pm_T, w.before args s = true := fun w hw => hK.2.2.1 w hw args
  refine W.newcK hx hb hown (hts _ hcl) (hts _ hin) (hts _ hini) rfl hd (by omega) (by omega) hKn.2.1 hR.1 fun H' kC hkC e1 e2 e3 => ?_
  have hR' : pm_R G (z.2.2 + 1) (pm_up h z.2.2 (pm_ob ci)) (pm_nf g z.2.2 d) H' := by
    refine hR.mk (by rw [e2, hR.1]) (fun q hq => e3 q (by rw [← hR.1]; exact hq)) ⟨_, hq, (u_born ty hts (pm_cls hq).1 hKn hkC e1 hty).to (fun j hj => ?_)⟩ (fun _ hb => pm_nf_a hb)
    rw [pm_nf_s, hdf j hj, pm_tr_df]
  have w := kk p e R s m args below meth c H' locs z0 lc X hR' hL hlo (by show z0.1 ≤ z.1 + 1; omega) (by show z0.2.1 ≤ z.2.1 + q.2.2; omega) hz1 hz2 a5 a6
  rw [show z.1 - z0.1 + 1 = z.1 + 1 - z0.1 by omega, show z.2.1 - z0.2.1 + q.2.2 = z.2.1 + q.2.2 - z0.2.1 by omega]
  exact w
theorem px_oi {index a : Nat} (hl : Jvm.Cond.methodLink (pm_y M).cls index Lib.objectInit ∈ pm_T) (hi : Jvm.Cond.instanceMethod Lib.objectInit ∈ pm_T) (hcd : Jvm.Cond.code Lib.objectInit ⟨#[0xb1]⟩ 1 none ∈ pm_T) (hd : decode (pm_cc M) pc = .ok (.invokespecial index, 3)) (hp : pc + 3 = pc') (h1 : 1 ≤ pm_fr M) (h2 : (st.map fun v => v.category).sum + 12 ≤ pm_lr M) (kk : pm_W G M zm Φ pc' ls (st) z h g) : pm_W G M zm Φ pc ls (.ref a :: st) z h g := by
  subst hp
  intro p e R s m args below meth c H locs z0 lc X hR hL hlo a1 a2 a3 a4 a5 a6
  obtain ⟨hx, hb, hml, hrt, hlk0, hnm, hown, hK, hfr, hlr, htb⟩ := id X
  have hts : ∀ w ∈ pm_T, w.before args s = true := fun w hw => hK.2.2.1 w hw args
  refine W.objInit hx hb hown (hts _ hl) (hts _ hi) (hts _ hcd) rfl (by show lc.size = _; rw [hlo.1, hml]) rfl hd (by rw [hfr]; exact h1) ?_ (kk p e R s m args below meth c H locs z0 lc X hR hL hlo a1 a2 a3 a4 a5 a6)
  show 2 * 0 + ((st.map (pm_tr G)).map fun v => v.category).sum + 12 ≤ R.locals
  rw [pm_tr_cats, hlr]
  omega
theorem px_mmax {index : Nat} {x y : Int32} (hl : Jvm.Cond.methodLink (pm_y M).cls index Lib.Math.max.name ∈ pm_T) (hs : Jvm.Cond.static Lib.Math.max.name ∈ pm_T) (hi : Jvm.Cond.initialized "java/lang/Math" ∈ pm_T) (hcd : Jvm.Cond.code Lib.Math.max.name Lib.Math.max.code 2 (some .int) ∈ pm_T) (hd : decode (pm_cc M) pc = .ok (.invokestatic index, 3)) (hp : pc + 3 = pc') (h1 : 1 ≤ pm_fr M) (h2 : (st.map fun v => v.category).sum + 13 ≤ pm_lr M) (kk : pm_W G M zm Φ pc' ls (.int (if x < y then y else x) :: st) z h g) : pm_W G M zm Φ pc ls (.int y :: .int x :: st) z h g := by
  subst hp
  intro p e R s m args below meth c H locs z0 lc X hR hL hlo a1 a2 a3 a4 a5 a6
  obtain ⟨hx, hb, hml, hrt, hlk0, hnm, hown, hK, hfr, hlr, htb⟩ := id X
  have hts : ∀ w ∈ pm_T, w.before args s = true := fun w hw => hK.2.2.1 w hw args
  have w := kk p e R s m args below meth c H locs z0 lc X hR hL hlo a1 a2 a3 a4 a5 a6
  refine va_mmax hx hb (by rw [hlo.1, hml]) hown (hts _ hl) (hts _ hs) (hts _ hi) (hts _ hcd) (by rw [hfr]; exact h1) (by rw [pm_tr_cats, hlr]; omega) (by omega) (by omega) hd w
theorem px_mmin {index : Nat} {x y : Int32} (hl : Jvm.Cond.methodLink (pm_y M).cls index Lib.Math.min.name ∈ pm_T) (hs : Jvm.Cond.static Lib.Math.min.name ∈ pm_T) (hi : Jvm.Cond.initialized "java/lang/Math" ∈ pm_T) (hcd : Jvm.Cond.code Lib.Math.min.name Lib.Math.min.code 2 (some .int) ∈ pm_T) (hd : decode (pm_cc M) pc = .ok (.invokestatic index, 3)) (hp : pc + 3 = pc') (h1 : 1 ≤ pm_fr M) (h2 : (st.map fun v => v.category).sum + 13 ≤ pm_lr M) (kk : pm_W G M zm Φ pc' ls (.int (if y < x then y else x) :: st) z h g) : pm_W G M zm Φ pc ls (.int y :: .int x :: st) z h g := by
  subst hp
  intro p e R s m args below meth c H locs z0 lc X hR hL hlo a1 a2 a3 a4 a5 a6
  obtain ⟨hx, hb, hml, hrt, hlk0, hnm, hown, hK, hfr, hlr, htb⟩ := id X
  have hts : ∀ w ∈ pm_T, w.before args s = true := fun w hw => hK.2.2.1 w hw args
  have w := kk p e R s m args below meth c H locs z0 lc X hR hL hlo a1 a2 a3 a4 a5 a6
  refine va_mmin hx hb (by rw [hlo.1, hml]) hown (hts _ hl) (hts _ hs) (hts _ hi) (hts _ hcd) (by rw [hfr]; exact h1) (by rw [pm_tr_cats, hlr]; omega) (by omega) (by omega) hd w
theorem px_mabs {index : Nat} {x : Int32} (hl : Jvm.Cond.methodLink (pm_y M).cls index Lib.Math.abs.name ∈ pm_T) (hs : Jvm.Cond.static Lib.Math.abs.name ∈ pm_T) (hi : Jvm.Cond.initialized "java/lang/Math" ∈ pm_T) (hcd : Jvm.Cond.code Lib.Math.abs.name Lib.Math.abs.code 1 (some .int) ∈ pm_T) (hd : decode (pm_cc M) pc = .ok (.invokestatic index, 3)) (hp : pc + 3 = pc') (h1 : 1 ≤ pm_fr M) (h2 : (st.map fun v => v.category).sum + 13 ≤ pm_lr M) (kk : pm_W G M zm Φ pc' ls (.int (if 0 ≤ x then x else 0 - x) :: st) z h g) : pm_W G M zm Φ pc ls (.int x :: st) z h g := by
  subst hp
  intro p e R s m args below meth c H locs z0 lc X hR hL hlo a1 a2 a3 a4 a5 a6
  obtain ⟨hx, hb, hml, hrt, hlk0, hnm, hown, hK, hfr, hlr, htb⟩ := id X
  have hts : ∀ w ∈ pm_T, w.before args s = true := fun w hw => hK.2.2.1 w hw args
  have w := kk p e R s m args below meth c H locs z0 lc X hR hL hlo a1 a2 a3 a4 a5 a6
  refine va_mabs hx hb (by rw [hlo.1, hml]) hown (hts _ hl) (hts _ hs) (hts _ hi) (hts _ hcd) (by rw [hfr]; exact h1) (by rw [pm_tr_cats, hlr]; omega) (by omega) (by omega) hd w
end PH
-- words
theorem wd_arr_i : Jvm.Cond.arrayClass .int ∈ pm_T := pm_inT 88 (by decide +kernel) (by decide +kernel)
theorem wd_arr_b : Jvm.Cond.arrayClass .byte ∈ pm_T := pm_inT 71 (by decide +kernel) (by decide +kernel)
theorem wd_arr_z : Jvm.Cond.arrayClass .boolean ∈ pm_T := pm_inT 877 (by decide +kernel) (by decide +kernel)
theorem wd_arr_l : Jvm.Cond.arrayClass .long ∈ pm_T := pm_inT 183 (by decide +kernel) (by decide +kernel)
theorem fl_6_9 : pm_fl RX6 9 6 0 := ⟨_, rfl, by decide +kernel, pm_inT 64 (by decide +kernel) (by decide +kernel)⟩
theorem ff_6_9 : pm_ff RX6 9 6 0 := ⟨_, rfl, by decide +kernel, pm_inT 64 (by decide +kernel) (by decide +kernel), ⟨_, tyX6_ok 0 (by decide), fun _ => ⟨rfl, rfl⟩⟩, rfl, rfl⟩
theorem fl_6_15 : pm_fl RX6 15 6 1 := ⟨_, rfl, by decide +kernel, pm_inT 65 (by decide +kernel) (by decide +kernel)⟩
theorem fi_6_15 : pm_fi RX6 15 6 1 := ⟨_, rfl, by decide +kernel, pm_inT 65 (by decide +kernel) (by decide +kernel), rfl, rfl⟩
theorem fl_3_9 : pm_fl RX3 9 3 0 := ⟨_, rfl, by decide +kernel, pm_inT 78 (by decide +kernel) (by decide +kernel)⟩
theorem ff_3_9 : pm_ff RX3 9 3 0 := ⟨_, rfl, by decide +kernel, pm_inT 78 (by decide +kernel) (by decide +kernel), ⟨_, tyX3_ok 0 (by decide), fun _ => ⟨rfl, rfl⟩⟩, rfl, rfl⟩
theorem fl_3_15 : pm_fl RX3 15 3 1 := ⟨_, rfl, by decide +kernel, pm_inT 79 (by decide +kernel) (by decide +kernel)⟩
theorem fi_3_15 : pm_fi RX3 15 3 1 := ⟨_, rfl, by decide +kernel, pm_inT 79 (by decide +kernel) (by decide +kernel), rfl, rfl⟩
theorem fl_3_19 : pm_fl RX3 19 3 2 := ⟨_, rfl, by decide +kernel, pm_inT 80 (by decide +kernel) (by decide +kernel)⟩
theorem fi_3_19 : pm_fi RX3 19 3 2 := ⟨_, rfl, by decide +kernel, pm_inT 80 (by decide +kernel) (by decide +kernel), rfl, rfl⟩
theorem fl_2_9 : pm_fl RX2 9 2 0 := ⟨_, rfl, by decide +kernel, pm_inT 95 (by decide +kernel) (by decide +kernel)⟩
theorem fi_2_9 : pm_fi RX2 9 2 0 := ⟨_, rfl, by decide +kernel, pm_inT 95 (by decide +kernel) (by decide +kernel), rfl, rfl⟩
theorem fl_2_15 : pm_fl RX2 15 2 1 := ⟨_, rfl, by decide +kernel, pm_inT 96 (by decide +kernel) (by decide +kernel)⟩
theorem fi_2_15 : pm_fi RX2 15 2 1 := ⟨_, rfl, by decide +kernel, pm_inT 96 (by decide +kernel) (by decide +kernel), rfl, rfl⟩
theorem fl_2_18 : pm_fl RX2 18 2 2 := ⟨_, rfl, by decide +kernel, pm_inT 97 (by decide +kernel) (by decide +kernel)⟩
theorem fi_2_18 : pm_fi RX2 18 2 2 := ⟨_, rfl, by decide +kernel, pm_inT 97 (by decide +kernel) (by decide +kernel), rfl, rfl⟩
theorem fl_5_9 : pm_fl RX5 9 5 0 := ⟨_, rfl, by decide +kernel, pm_inT 111 (by decide +kernel) (by decide +kernel)⟩
theorem ff_5_9 : pm_ff RX5 9 5 0 := ⟨_, rfl, by decide +kernel, pm_inT 111 (by decide +kernel) (by decide +kernel), ⟨_, tyX5_ok 0 (by decide), fun _ => ⟨rfl, rfl⟩⟩, rfl, rfl⟩
theorem fl_5_15 : pm_fl RX5 15 5 1 := ⟨_, rfl, by decide +kernel, pm_inT 112 (by decide +kernel) (by decide +kernel)⟩
theorem ff_5_15 : pm_ff RX5 15 5 1 := ⟨_, rfl, by decide +kernel, pm_inT 112 (by decide +kernel) (by decide +kernel), ⟨_, tyX5_ok 1 (by decide), fun _ => ⟨rfl, rfl⟩⟩, rfl, rfl⟩
theorem fl_5_18 : pm_fl RX5 18 5 2 := ⟨_, rfl, by decide +kernel, pm_inT 113 (by decide +kernel) (by decide +kernel)⟩
theorem ff_5_18 : pm_ff RX5 18 5 2 := ⟨_, rfl, by decide +kernel, pm_inT 113 (by decide +kernel) (by decide +kernel), ⟨_, tyX5_ok 2 (by decide), fun _ => ⟨rfl, rfl⟩⟩, rfl, rfl⟩
theorem fl_5_21 : pm_fl RX5 21 5 3 := ⟨_, rfl, by decide +kernel, pm_inT 114 (by decide +kernel) (by decide +kernel)⟩
theorem ff_5_21 : pm_ff RX5 21 5 3 := ⟨_, rfl, by decide +kernel, pm_inT 114 (by decide +kernel) (by decide +kernel), ⟨_, tyX5_ok 3 (by decide), fun _ => ⟨rfl, rfl⟩⟩, rfl, rfl⟩
theorem fl_5_24 : pm_fl RX5 24 5 4 := ⟨_, rfl, by decide +kernel, pm_inT 115 (by decide +kernel) (by decide +kernel)⟩
theorem fi_5_24 : pm_fi RX5 24 5 4 := ⟨_, rfl, by decide +kernel, pm_inT 115 (by decide +kernel) (by decide +kernel), rfl, rfl⟩
theorem fl_5_28 : pm_fl RX5 28 5 5 := ⟨_, rfl, by decide +kernel, pm_inT 116 (by decide +kernel) (by decide +kernel)⟩
theorem fi_5_28 : pm_fi RX5 28 5 5 := ⟨_, rfl, by decide +kernel, pm_inT 116 (by decide +kernel) (by decide +kernel), rfl, rfl⟩
theorem fl_5_31 : pm_fl RX5 31 5 6 := ⟨_, rfl, by decide +kernel, pm_inT 117 (by decide +kernel) (by decide +kernel)⟩
theorem fi_5_31 : pm_fi RX5 31 5 6 := ⟨_, rfl, by decide +kernel, pm_inT 117 (by decide +kernel) (by decide +kernel), rfl, rfl⟩
theorem fl_0_25 : pm_fl RX0 25 0 0 := ⟨_, rfl, by decide +kernel, pm_inT 139 (by decide +kernel) (by decide +kernel)⟩
theorem ff_0_25 : pm_ff RX0 25 0 0 := ⟨_, rfl, by decide +kernel, pm_inT 139 (by decide +kernel) (by decide +kernel), ⟨_, tyX0_ok 0 (by decide), fun _ => ⟨rfl, rfl⟩⟩, rfl, rfl⟩
theorem fl_0_29 : pm_fl RX0 29 0 1 := ⟨_, rfl, by decide +kernel, pm_inT 140 (by decide +kernel) (by decide +kernel)⟩
theorem ff_0_29 : pm_ff RX0 29 0 1 := ⟨_, rfl, by decide +kernel, pm_inT 140 (by decide +kernel) (by decide +kernel), ⟨_, tyX0_ok 1 (by decide), fun _ => ⟨rfl, rfl⟩⟩, rfl, rfl⟩
theorem fl_0_9 : pm_fl RX0 9 0 2 := ⟨_, rfl, by decide +kernel, pm_inT 141 (by decide +kernel) (by decide +kernel)⟩
theorem ff_0_9 : pm_ff RX0 9 0 2 := ⟨_, rfl, by decide +kernel, pm_inT 141 (by decide +kernel) (by decide +kernel), ⟨_, tyX0_ok 2 (by decide), fun _ => ⟨rfl, rfl⟩⟩, rfl, rfl⟩
theorem fl_0_15 : pm_fl RX0 15 0 3 := ⟨_, rfl, by decide +kernel, pm_inT 142 (by decide +kernel) (by decide +kernel)⟩
theorem ff_0_15 : pm_ff RX0 15 0 3 := ⟨_, rfl, by decide +kernel, pm_inT 142 (by decide +kernel) (by decide +kernel), ⟨_, tyX0_ok 3 (by decide), fun _ => ⟨rfl, rfl⟩⟩, rfl, rfl⟩
theorem fl_0_18 : pm_fl RX0 18 0 4 := ⟨_, rfl, by decide +kernel, pm_inT 143 (by decide +kernel) (by decide +kernel)⟩
theorem ff_0_18 : pm_ff RX0 18 0 4 := ⟨_, rfl, by decide +kernel, pm_inT 143 (by decide +kernel) (by decide +kernel), ⟨_, tyX0_ok 4 (by decide), fun _ => ⟨rfl, rfl⟩⟩, rfl, rfl⟩
theorem fl_0_21 : pm_fl RX0 21 0 5 := ⟨_, rfl, by decide +kernel, pm_inT 144 (by decide +kernel) (by decide +kernel)⟩
theorem fi_0_21 : pm_fi RX0 21 0 5 := ⟨_, rfl, by decide +kernel, pm_inT 144 (by decide +kernel) (by decide +kernel), rfl, rfl⟩
theorem fl_1_22 : pm_fl RX1 22 1 0 := ⟨_, rfl, by decide +kernel, pm_inT 164 (by decide +kernel) (by decide +kernel)⟩
theorem ff_1_22 : pm_ff RX1 22 1 0 := ⟨_, rfl, by decide +kernel, pm_inT 164 (by decide +kernel) (by decide +kernel), ⟨_, tyX1_ok 0 (by decide), fun _ => ⟨rfl, rfl⟩⟩, rfl, rfl⟩
theorem fl_1_26 : pm_fl RX1 26 1 1 := ⟨_, rfl, by decide +kernel, pm_inT 165 (by decide +kernel) (by decide +kernel)⟩
theorem ff_1_26 : pm_ff RX1 26 1 1 := ⟨_, rfl, by decide +kernel, pm_inT 165 (by decide +kernel) (by decide +kernel), ⟨_, tyX1_ok 1 (by decide), fun _ => ⟨rfl, rfl⟩⟩, rfl, rfl⟩
theorem fl_1_30 : pm_fl RX1 30 1 2 := ⟨_, rfl, by decide +kernel, pm_inT 166 (by decide +kernel) (by decide +kernel)⟩
theorem ff_1_30 : pm_ff RX1 30 1 2 := ⟨_, rfl, by decide +kernel, pm_inT 166 (by decide +kernel) (by decide +kernel), ⟨_, tyX1_ok 2 (by decide), fun _ => ⟨rfl, rfl⟩⟩, rfl, rfl⟩
theorem fl_1_9 : pm_fl RX1 9 1 3 := ⟨_, rfl, by decide +kernel, pm_inT 167 (by decide +kernel) (by decide +kernel)⟩
theorem ff_1_9 : pm_ff RX1 9 1 3 := ⟨_, rfl, by decide +kernel, pm_inT 167 (by decide +kernel) (by decide +kernel), ⟨_, tyX1_ok 3 (by decide), fun _ => ⟨rfl, rfl⟩⟩, rfl, rfl⟩
theorem fl_1_15 : pm_fl RX1 15 1 4 := ⟨_, rfl, by decide +kernel, pm_inT 168 (by decide +kernel) (by decide +kernel)⟩
theorem ff_1_15 : pm_ff RX1 15 1 4 := ⟨_, rfl, by decide +kernel, pm_inT 168 (by decide +kernel) (by decide +kernel), ⟨_, tyX1_ok 4 (by decide), fun _ => ⟨rfl, rfl⟩⟩, rfl, rfl⟩
theorem fl_1_18 : pm_fl RX1 18 1 5 := ⟨_, rfl, by decide +kernel, pm_inT 169 (by decide +kernel) (by decide +kernel)⟩
theorem fi_1_18 : pm_fi RX1 18 1 5 := ⟨_, rfl, by decide +kernel, pm_inT 169 (by decide +kernel) (by decide +kernel), rfl, rfl⟩
theorem fl_4_35 : pm_fl RX4 35 4 0 := ⟨_, rfl, by decide +kernel, pm_inT 190 (by decide +kernel) (by decide +kernel)⟩
theorem ff_4_35 : pm_ff RX4 35 4 0 := ⟨_, rfl, by decide +kernel, pm_inT 190 (by decide +kernel) (by decide +kernel), ⟨_, tyX4_ok 0 (by decide), fun _ => ⟨rfl, rfl⟩⟩, rfl, rfl⟩
theorem fl_4_39 : pm_fl RX4 39 4 1 := ⟨_, rfl, by decide +kernel, pm_inT 191 (by decide +kernel) (by decide +kernel)⟩
theorem ff_4_39 : pm_ff RX4 39 4 1 := ⟨_, rfl, by decide +kernel, pm_inT 191 (by decide +kernel) (by decide +kernel), ⟨_, tyX4_ok 1 (by decide), fun _ => ⟨rfl, rfl⟩⟩, rfl, rfl⟩
theorem fl_4_43 : pm_fl RX4 43 4 2 := ⟨_, rfl, by decide +kernel, pm_inT 192 (by decide +kernel) (by decide +kernel)⟩
theorem ff_4_43 : pm_ff RX4 43 4 2 := ⟨_, rfl, by decide +kernel, pm_inT 192 (by decide +kernel) (by decide +kernel), ⟨_, tyX4_ok 2 (by decide), fun _ => ⟨rfl, rfl⟩⟩, rfl, rfl⟩
theorem fl_4_9 : pm_fl RX4 9 4 3 := ⟨_, rfl, by decide +kernel, pm_inT 193 (by decide +kernel) (by decide +kernel)⟩
theorem ff_4_9 : pm_ff RX4 9 4 3 := ⟨_, rfl, by decide +kernel, pm_inT 193 (by decide +kernel) (by decide +kernel), ⟨_, tyX4_ok 3 (by decide), fun _ => ⟨rfl, rfl⟩⟩, rfl, rfl⟩
theorem fl_4_15 : pm_fl RX4 15 4 4 := ⟨_, rfl, by decide +kernel, pm_inT 194 (by decide +kernel) (by decide +kernel)⟩
theorem ff_4_15 : pm_ff RX4 15 4 4 := ⟨_, rfl, by decide +kernel, pm_inT 194 (by decide +kernel) (by decide +kernel), ⟨_, tyX4_ok 4 (by decide), fun _ => ⟨rfl, rfl⟩⟩, rfl, rfl⟩
theorem fl_4_19 : pm_fl RX4 19 4 5 := ⟨_, rfl, by decide +kernel, pm_inT 195 (by decide +kernel) (by decide +kernel)⟩
theorem ff_4_19 : pm_ff RX4 19 4 5 := ⟨_, rfl, by decide +kernel, pm_inT 195 (by decide +kernel) (by decide +kernel), ⟨_, tyX4_ok 5 (by decide), fun _ => ⟨rfl, rfl⟩⟩, rfl, rfl⟩
theorem fl_4_22 : pm_fl RX4 22 4 6 := ⟨_, rfl, by decide +kernel, pm_inT 196 (by decide +kernel) (by decide +kernel)⟩
theorem ff_4_22 : pm_ff RX4 22 4 6 := ⟨_, rfl, by decide +kernel, pm_inT 196 (by decide +kernel) (by decide +kernel), ⟨_, tyX4_ok 6 (by decide), fun _ => ⟨rfl, rfl⟩⟩, rfl, rfl⟩
theorem fl_4_25 : pm_fl RX4 25 4 7 := ⟨_, rfl, by decide +kernel, pm_inT 197 (by decide +kernel) (by decide +kernel)⟩
theorem ff_4_25 : pm_ff RX4 25 4 7 := ⟨_, rfl, by decide +kernel, pm_inT 197 (by decide +kernel) (by decide +kernel), ⟨_, tyX4_ok 7 (by decide), fun _ => ⟨rfl, rfl⟩⟩, rfl, rfl⟩
theorem fl_4_28 : pm_fl RX4 28 4 8 := ⟨_, rfl, by decide +kernel, pm_inT 198 (by decide +kernel) (by decide +kernel)⟩
theorem ff_4_28 : pm_ff RX4 28 4 8 := ⟨_, rfl, by decide +kernel, pm_inT 198 (by decide +kernel) (by decide +kernel), ⟨_, tyX4_ok 8 (by decide), fun _ => ⟨rfl, rfl⟩⟩, rfl, rfl⟩
theorem fl_4_31 : pm_fl RX4 31 4 9 := ⟨_, rfl, by decide +kernel, pm_inT 199 (by decide +kernel) (by decide +kernel)⟩
theorem fi_4_31 : pm_fi RX4 31 4 9 := ⟨_, rfl, by decide +kernel, pm_inT 199 (by decide +kernel) (by decide +kernel), rfl, rfl⟩
theorem fl_7_37 : pm_fl RX7 37 7 0 := ⟨_, rfl, by decide +kernel, pm_inT 227 (by decide +kernel) (by decide +kernel)⟩
theorem ff_7_37 : pm_ff RX7 37 7 0 := ⟨_, rfl, by decide +kernel, pm_inT 227 (by decide +kernel) (by decide +kernel), ⟨_, tyX7_ok 0 (by decide), fun _ => ⟨rfl, rfl⟩⟩, rfl, rfl⟩
theorem fl_7_41 : pm_fl RX7 41 7 1 := ⟨_, rfl, by decide +kernel, pm_inT 228 (by decide +kernel) (by decide +kernel)⟩
theorem ff_7_41 : pm_ff RX7 41 7 1 := ⟨_, rfl, by decide +kernel, pm_inT 228 (by decide +kernel) (by decide +kernel), ⟨_, tyX7_ok 1 (by decide), fun _ => ⟨rfl, rfl⟩⟩, rfl, rfl⟩
theorem fl_7_45 : pm_fl RX7 45 7 2 := ⟨_, rfl, by decide +kernel, pm_inT 229 (by decide +kernel) (by decide +kernel)⟩
theorem ff_7_45 : pm_ff RX7 45 7 2 := ⟨_, rfl, by decide +kernel, pm_inT 229 (by decide +kernel) (by decide +kernel), ⟨_, tyX7_ok 2 (by decide), fun _ => ⟨rfl, rfl⟩⟩, rfl, rfl⟩
theorem fl_7_9 : pm_fl RX7 9 7 3 := ⟨_, rfl, by decide +kernel, pm_inT 230 (by decide +kernel) (by decide +kernel)⟩
theorem ff_7_9 : pm_ff RX7 9 7 3 := ⟨_, rfl, by decide +kernel, pm_inT 230 (by decide +kernel) (by decide +kernel), ⟨_, tyX7_ok 3 (by decide), fun _ => ⟨rfl, rfl⟩⟩, rfl, rfl⟩
theorem fl_7_15 : pm_fl RX7 15 7 4 := ⟨_, rfl, by decide +kernel, pm_inT 231 (by decide +kernel) (by decide +kernel)⟩
theorem ff_7_15 : pm_ff RX7 15 7 4 := ⟨_, rfl, by decide +kernel, pm_inT 231 (by decide +kernel) (by decide +kernel), ⟨_, tyX7_ok 4 (by decide), fun _ => ⟨rfl, rfl⟩⟩, rfl, rfl⟩
theorem fl_7_18 : pm_fl RX7 18 7 5 := ⟨_, rfl, by decide +kernel, pm_inT 232 (by decide +kernel) (by decide +kernel)⟩
theorem fi_7_18 : pm_fi RX7 18 7 5 := ⟨_, rfl, by decide +kernel, pm_inT 232 (by decide +kernel) (by decide +kernel), rfl, rfl⟩
theorem fl_7_22 : pm_fl RX7 22 7 6 := ⟨_, rfl, by decide +kernel, pm_inT 233 (by decide +kernel) (by decide +kernel)⟩
theorem ff_7_22 : pm_ff RX7 22 7 6 := ⟨_, rfl, by decide +kernel, pm_inT 233 (by decide +kernel) (by decide +kernel), ⟨_, tyX7_ok 6 (by decide), fun _ => ⟨rfl, rfl⟩⟩, rfl, rfl⟩
theorem fl_7_25 : pm_fl RX7 25 7 7 := ⟨_, rfl, by decide +kernel, pm_inT 234 (by decide +kernel) (by decide +kernel)⟩
theorem fi_7_25 : pm_fi RX7 25 7 7 := ⟨_, rfl, by decide +kernel, pm_inT 234 (by decide +kernel) (by decide +kernel), rfl, rfl⟩
theorem fl_7_28 : pm_fl RX7 28 7 8 := ⟨_, rfl, by decide +kernel, pm_inT 235 (by decide +kernel) (by decide +kernel)⟩
theorem ff_7_28 : pm_ff RX7 28 7 8 := ⟨_, rfl, by decide +kernel, pm_inT 235 (by decide +kernel) (by decide +kernel), ⟨_, tyX7_ok 8 (by decide), fun _ => ⟨rfl, rfl⟩⟩, rfl, rfl⟩
theorem fl_7_31 : pm_fl RX7 31 7 9 := ⟨_, rfl, by decide +kernel, pm_inT 236 (by decide +kernel) (by decide +kernel)⟩
theorem fi_7_31 : pm_fi RX7 31 7 9 := ⟨_, rfl, by decide +kernel, pm_inT 236 (by decide +kernel) (by decide +kernel), rfl, rfl⟩
theorem fl_7_34 : pm_fl RX7 34 7 10 := ⟨_, rfl, by decide +kernel, pm_inT 237 (by decide +kernel) (by decide +kernel)⟩
theorem fi_7_34 : pm_fi RX7 34 7 10 := ⟨_, rfl, by decide +kernel, pm_inT 237 (by decide +kernel) (by decide +kernel), rfl, rfl⟩
theorem fl_8_10 : pm_fl RX8 10 8 0 := ⟨_, rfl, by decide +kernel, pm_inT 277 (by decide +kernel) (by decide +kernel)⟩
theorem ff_8_10 : pm_ff RX8 10 8 0 := ⟨_, rfl, by decide +kernel, pm_inT 277 (by decide +kernel) (by decide +kernel), ⟨_, tyX8_ok 0 (by decide), fun _ => ⟨rfl, rfl⟩⟩, rfl, rfl⟩
theorem fl_8_19 : pm_fl RX8 19 8 1 := ⟨_, rfl, by decide +kernel, pm_inT 278 (by decide +kernel) (by decide +kernel)⟩
theorem ff_8_19 : pm_ff RX8 19 8 1 := ⟨_, rfl, by decide +kernel, pm_inT 278 (by decide +kernel) (by decide +kernel), ⟨_, tyX8_ok 1 (by decide), fun _ => ⟨rfl, rfl⟩⟩, rfl, rfl⟩
theorem fl_8_26 : pm_fl RX8 26 8 2 := ⟨_, rfl, by decide +kernel, pm_inT 279 (by decide +kernel) (by decide +kernel)⟩
theorem ff_8_26 : pm_ff RX8 26 8 2 := ⟨_, rfl, by decide +kernel, pm_inT 279 (by decide +kernel) (by decide +kernel), ⟨_, tyX8_ok 2 (by decide), fun _ => ⟨rfl, rfl⟩⟩, rfl, rfl⟩
theorem fl_8_42 : pm_fl RX8 42 8 3 := ⟨_, rfl, by decide +kernel, pm_inT 280 (by decide +kernel) (by decide +kernel)⟩
theorem ff_8_42 : pm_ff RX8 42 8 3 := ⟨_, rfl, by decide +kernel, pm_inT 280 (by decide +kernel) (by decide +kernel), ⟨_, tyX8_ok 3 (by decide), fun _ => ⟨rfl, rfl⟩⟩, rfl, rfl⟩
theorem fl_8_33 : pm_fl RX8 33 8 4 := ⟨_, rfl, by decide +kernel, pm_inT 281 (by decide +kernel) (by decide +kernel)⟩
theorem ff_8_33 : pm_ff RX8 33 8 4 := ⟨_, rfl, by decide +kernel, pm_inT 281 (by decide +kernel) (by decide +kernel), ⟨_, tyX8_ok 4 (by decide), fun _ => ⟨rfl, rfl⟩⟩, rfl, rfl⟩
theorem fl_8_51 : pm_fl RX8 51 8 5 := ⟨_, rfl, by decide +kernel, pm_inT 282 (by decide +kernel) (by decide +kernel)⟩
theorem ff_8_51 : pm_ff RX8 51 8 5 := ⟨_, rfl, by decide +kernel, pm_inT 282 (by decide +kernel) (by decide +kernel), ⟨_, tyX8_ok 5 (by decide), fun _ => ⟨rfl, rfl⟩⟩, rfl, rfl⟩
theorem fl_8_58 : pm_fl RX8 58 8 6 := ⟨_, rfl, by decide +kernel, pm_inT 283 (by decide +kernel) (by decide +kernel)⟩
theorem ff_8_58 : pm_ff RX8 58 8 6 := ⟨_, rfl, by decide +kernel, pm_inT 283 (by decide +kernel) (by decide +kernel), ⟨_, tyX8_ok 6 (by decide), fun _ => ⟨rfl, rfl⟩⟩, rfl, rfl⟩
theorem fl_8_67 : pm_fl RX8 67 8 7 := ⟨_, rfl, by decide +kernel, pm_inT 284 (by decide +kernel) (by decide +kernel)⟩
theorem ff_8_67 : pm_ff RX8 67 8 7 := ⟨_, rfl, by decide +kernel, pm_inT 284 (by decide +kernel) (by decide +kernel), ⟨_, tyX8_ok 7 (by decide), fun _ => ⟨rfl, rfl⟩⟩, rfl, rfl⟩
theorem fl_9_1 : pm_fl RX9 1 9 0 := ⟨_, rfl, by decide +kernel, pm_inT 762 (by decide +kernel) (by decide +kernel)⟩
theorem fi_9_1 : pm_fi RX9 1 9 0 := ⟨_, rfl, by decide +kernel, pm_inT 762 (by decide +kernel) (by decide +kernel), rfl, rfl⟩
theorem fl_9_14 : pm_fl RX9 14 9 1 := ⟨_, rfl, by decide +kernel, pm_inT 763 (by decide +kernel) (by decide +kernel)⟩
theorem ff_9_14 : pm_ff RX9 14 9 1 := ⟨_, rfl, by decide +kernel, pm_inT 763 (by decide +kernel) (by decide +kernel), ⟨_, tyX9_ok 1 (by decide), fun _ => ⟨rfl, rfl⟩⟩, rfl, rfl⟩
theorem fl_9_7 : pm_fl RX9 7 9 2 := ⟨_, rfl, by decide +kernel, pm_inT 764 (by decide +kernel) (by decide +kernel)⟩
theorem fi_9_7 : pm_fi RX9 7 9 2 := ⟨_, rfl, by decide +kernel, pm_inT 764 (by decide +kernel) (by decide +kernel), rfl, rfl⟩
theorem fl_9_18 : pm_fl RX9 18 9 3 := ⟨_, rfl, by decide +kernel, pm_inT 765 (by decide +kernel) (by decide +kernel)⟩
theorem fi_9_18 : pm_fi RX9 18 9 3 := ⟨_, rfl, by decide +kernel, pm_inT 765 (by decide +kernel) (by decide +kernel), rfl, rfl⟩
theorem fl_9_27 : pm_fl RX9 27 9 4 := ⟨_, rfl, by decide +kernel, pm_inT 766 (by decide +kernel) (by decide +kernel)⟩
theorem ff_9_27 : pm_ff RX9 27 9 4 := ⟨_, rfl, by decide +kernel, pm_inT 766 (by decide +kernel) (by decide +kernel), ⟨_, tyX9_ok 4 (by decide), fun _ => ⟨rfl, rfl⟩⟩, rfl, rfl⟩
theorem fl_9_31 : pm_fl RX9 31 9 5 := ⟨_, rfl, by decide +kernel, pm_inT 767 (by decide +kernel) (by decide +kernel)⟩
theorem ff_9_31 : pm_ff RX9 31 9 5 := ⟨_, rfl, by decide +kernel, pm_inT 767 (by decide +kernel) (by decide +kernel), ⟨_, tyX9_ok 5 (by decide), fun _ => ⟨rfl, rfl⟩⟩, rfl, rfl⟩
theorem fl_9_34 : pm_fl RX9 34 9 6 := ⟨_, rfl, by decide +kernel, pm_inT 768 (by decide +kernel) (by decide +kernel)⟩
theorem ff_9_34 : pm_ff RX9 34 9 6 := ⟨_, rfl, by decide +kernel, pm_inT 768 (by decide +kernel) (by decide +kernel), ⟨_, tyX9_ok 6 (by decide), fun _ => ⟨rfl, rfl⟩⟩, rfl, rfl⟩
theorem fl_9_37 : pm_fl RX9 37 9 7 := ⟨_, rfl, by decide +kernel, pm_inT 769 (by decide +kernel) (by decide +kernel)⟩
theorem ff_9_37 : pm_ff RX9 37 9 7 := ⟨_, rfl, by decide +kernel, pm_inT 769 (by decide +kernel) (by decide +kernel), ⟨_, tyX9_ok 7 (by decide), fun _ => ⟨rfl, rfl⟩⟩, rfl, rfl⟩
theorem fl_9_40 : pm_fl RX9 40 9 8 := ⟨_, rfl, by decide +kernel, pm_inT 770 (by decide +kernel) (by decide +kernel)⟩
theorem ff_9_40 : pm_ff RX9 40 9 8 := ⟨_, rfl, by decide +kernel, pm_inT 770 (by decide +kernel) (by decide +kernel), ⟨_, tyX9_ok 8 (by decide), fun _ => ⟨rfl, rfl⟩⟩, rfl, rfl⟩
theorem fl_9_43 : pm_fl RX9 43 9 9 := ⟨_, rfl, by decide +kernel, pm_inT 771 (by decide +kernel) (by decide +kernel)⟩
theorem fi_9_43 : pm_fi RX9 43 9 9 := ⟨_, rfl, by decide +kernel, pm_inT 771 (by decide +kernel) (by decide +kernel), rfl, rfl⟩
theorem fl_9_46 : pm_fl RX9 46 9 10 := ⟨_, rfl, by decide +kernel, pm_inT 772 (by decide +kernel) (by decide +kernel)⟩
theorem fi_9_46 : pm_fi RX9 46 9 10 := ⟨_, rfl, by decide +kernel, pm_inT 772 (by decide +kernel) (by decide +kernel), rfl, rfl⟩
theorem fl_9_121 : pm_fl RX9 121 9 11 := ⟨_, rfl, by decide +kernel, pm_inT 773 (by decide +kernel) (by decide +kernel)⟩
theorem fi_9_121 : pm_fi RX9 121 9 11 := ⟨_, rfl, by decide +kernel, pm_inT 773 (by decide +kernel) (by decide +kernel), rfl, rfl⟩
theorem fl_9_49 : pm_fl RX9 49 9 12 := ⟨_, rfl, by decide +kernel, pm_inT 774 (by decide +kernel) (by decide +kernel)⟩
theorem fi_9_49 : pm_fi RX9 49 9 12 := ⟨_, rfl, by decide +kernel, pm_inT 774 (by decide +kernel) (by decide +kernel), rfl, rfl⟩
theorem fl_9_124 : pm_fl RX9 124 9 13 := ⟨_, rfl, by decide +kernel, pm_inT 775 (by decide +kernel) (by decide +kernel)⟩
theorem fi_9_124 : pm_fi RX9 124 9 13 := ⟨_, rfl, by decide +kernel, pm_inT 775 (by decide +kernel) (by decide +kernel), rfl, rfl⟩
theorem fl_9_115 : pm_fl RX9 115 9 14 := ⟨_, rfl, by decide +kernel, pm_inT 776 (by decide +kernel) (by decide +kernel)⟩
theorem fi_9_115 : pm_fi RX9 115 9 14 := ⟨_, rfl, by decide +kernel, pm_inT 776 (by decide +kernel) (by decide +kernel), rfl, rfl⟩
theorem fl_9_118 : pm_fl RX9 118 9 15 := ⟨_, rfl, by decide +kernel, pm_inT 777 (by decide +kernel) (by decide +kernel)⟩
theorem fi_9_118 : pm_fi RX9 118 9 15 := ⟨_, rfl, by decide +kernel, pm_inT 777 (by decide +kernel) (by decide +kernel), rfl, rfl⟩
theorem fl_9_52 : pm_fl RX9 52 9 16 := ⟨_, rfl, by decide +kernel, pm_inT 778 (by decide +kernel) (by decide +kernel)⟩
theorem ff_9_52 : pm_ff RX9 52 9 16 := ⟨_, rfl, by decide +kernel, pm_inT 778 (by decide +kernel) (by decide +kernel), ⟨_, tyX9_ok 16 (by decide), fun _ => ⟨rfl, rfl⟩⟩, rfl, rfl⟩
theorem fl_9_56 : pm_fl RX9 56 9 17 := ⟨_, rfl, by decide +kernel, pm_inT 779 (by decide +kernel) (by decide +kernel)⟩
theorem ff_9_56 : pm_ff RX9 56 9 17 := ⟨_, rfl, by decide +kernel, pm_inT 779 (by decide +kernel) (by decide +kernel), ⟨_, tyX9_ok 17 (by decide), fun _ => ⟨rfl, rfl⟩⟩, rfl, rfl⟩
theorem fl_9_59 : pm_fl RX9 59 9 18 := ⟨_, rfl, by decide +kernel, pm_inT 780 (by decide +kernel) (by decide +kernel)⟩
theorem ff_9_59 : pm_ff RX9 59 9 18 := ⟨_, rfl, by decide +kernel, pm_inT 780 (by decide +kernel) (by decide +kernel), ⟨_, tyX9_ok 18 (by decide), fun _ => ⟨rfl, rfl⟩⟩, rfl, rfl⟩
theorem fl_9_62 : pm_fl RX9 62 9 19 := ⟨_, rfl, by decide +kernel, pm_inT 781 (by decide +kernel) (by decide +kernel)⟩
theorem ff_9_62 : pm_ff RX9 62 9 19 := ⟨_, rfl, by decide +kernel, pm_inT 781 (by decide +kernel) (by decide +kernel), ⟨_, tyX9_ok 19 (by decide), fun _ => ⟨rfl, rfl⟩⟩, rfl, rfl⟩
theorem fl_9_65 : pm_fl RX9 65 9 20 := ⟨_, rfl, by decide +kernel, pm_inT 782 (by decide +kernel) (by decide +kernel)⟩
theorem ff_9_65 : pm_ff RX9 65 9 20 := ⟨_, rfl, by decide +kernel, pm_inT 782 (by decide +kernel) (by decide +kernel), ⟨_, tyX9_ok 20 (by decide), fun _ => ⟨rfl, rfl⟩⟩, rfl, rfl⟩
theorem fl_9_68 : pm_fl RX9 68 9 21 := ⟨_, rfl, by decide +kernel, pm_inT 783 (by decide +kernel) (by decide +kernel)⟩
theorem ff_9_68 : pm_ff RX9 68 9 21 := ⟨_, rfl, by decide +kernel, pm_inT 783 (by decide +kernel) (by decide +kernel), ⟨_, tyX9_ok 21 (by decide), fun _ => ⟨rfl, rfl⟩⟩, rfl, rfl⟩
theorem fl_9_130 : pm_fl RX9 130 9 22 := ⟨_, rfl, by decide +kernel, pm_inT 784 (by decide +kernel) (by decide +kernel)⟩
theorem fi_9_130 : pm_fi RX9 130 9 22 := ⟨_, rfl, by decide +kernel, pm_inT 784 (by decide +kernel) (by decide +kernel), rfl, rfl⟩
theorem fl_9_133 : pm_fl RX9 133 9 23 := ⟨_, rfl, by decide +kernel, pm_inT 785 (by decide +kernel) (by decide +kernel)⟩
theorem fi_9_133 : pm_fi RX9 133 9 23 := ⟨_, rfl, by decide +kernel, pm_inT 785 (by decide +kernel) (by decide +kernel), rfl, rfl⟩
theorem fl_9_136 : pm_fl RX9 136 9 24 := ⟨_, rfl, by decide +kernel, pm_inT 786 (by decide +kernel) (by decide +kernel)⟩
theorem fi_9_136 : pm_fi RX9 136 9 24 := ⟨_, rfl, by decide +kernel, pm_inT 786 (by decide +kernel) (by decide +kernel), rfl, rfl⟩
theorem fl_9_71 : pm_fl RX9 71 9 25 := ⟨_, rfl, by decide +kernel, pm_inT 787 (by decide +kernel) (by decide +kernel)⟩
theorem ff_9_71 : pm_ff RX9 71 9 25 := ⟨_, rfl, by decide +kernel, pm_inT 787 (by decide +kernel) (by decide +kernel), ⟨_, tyX9_ok 25 (by decide), fun _ => ⟨rfl, rfl⟩⟩, rfl, rfl⟩
theorem fl_9_74 : pm_fl RX9 74 9 26 := ⟨_, rfl, by decide +kernel, pm_inT 788 (by decide +kernel) (by decide +kernel)⟩
theorem ff_9_74 : pm_ff RX9 74 9 26 := ⟨_, rfl, by decide +kernel, pm_inT 788 (by decide +kernel) (by decide +kernel), ⟨_, tyX9_ok 26 (by decide), fun _ => ⟨rfl, rfl⟩⟩, rfl, rfl⟩
theorem fl_9_77 : pm_fl RX9 77 9 27 := ⟨_, rfl, by decide +kernel, pm_inT 789 (by decide +kernel) (by decide +kernel)⟩
theorem ff_9_77 : pm_ff RX9 77 9 27 := ⟨_, rfl, by decide +kernel, pm_inT 789 (by decide +kernel) (by decide +kernel), ⟨_, tyX9_ok 27 (by decide), fun _ => ⟨rfl, rfl⟩⟩, rfl, rfl⟩
theorem fl_9_80 : pm_fl RX9 80 9 28 := ⟨_, rfl, by decide +kernel, pm_inT 790 (by decide +kernel) (by decide +kernel)⟩
theorem ff_9_80 : pm_ff RX9 80 9 28 := ⟨_, rfl, by decide +kernel, pm_inT 790 (by decide +kernel) (by decide +kernel), ⟨_, tyX9_ok 28 (by decide), fun _ => ⟨rfl, rfl⟩⟩, rfl, rfl⟩
theorem fl_9_83 : pm_fl RX9 83 9 29 := ⟨_, rfl, by decide +kernel, pm_inT 791 (by decide +kernel) (by decide +kernel)⟩
theorem ff_9_83 : pm_ff RX9 83 9 29 := ⟨_, rfl, by decide +kernel, pm_inT 791 (by decide +kernel) (by decide +kernel), ⟨_, tyX9_ok 29 (by decide), fun _ => ⟨rfl, rfl⟩⟩, rfl, rfl⟩
theorem fl_9_86 : pm_fl RX9 86 9 30 := ⟨_, rfl, by decide +kernel, pm_inT 792 (by decide +kernel) (by decide +kernel)⟩
theorem ff_9_86 : pm_ff RX9 86 9 30 := ⟨_, rfl, by decide +kernel, pm_inT 792 (by decide +kernel) (by decide +kernel), ⟨_, tyX9_ok 30 (by decide), fun _ => ⟨rfl, rfl⟩⟩, rfl, rfl⟩
theorem fl_9_89 : pm_fl RX9 89 9 31 := ⟨_, rfl, by decide +kernel, pm_inT 793 (by decide +kernel) (by decide +kernel)⟩
theorem ff_9_89 : pm_ff RX9 89 9 31 := ⟨_, rfl, by decide +kernel, pm_inT 793 (by decide +kernel) (by decide +kernel), ⟨_, tyX9_ok 31 (by decide), fun _ => ⟨rfl, rfl⟩⟩, rfl, rfl⟩
theorem fl_9_176 : pm_fl RX9 176 9 32 := ⟨_, rfl, by decide +kernel, pm_inT 794 (by decide +kernel) (by decide +kernel)⟩
theorem fi_9_176 : pm_fi RX9 176 9 32 := ⟨_, rfl, by decide +kernel, pm_inT 794 (by decide +kernel) (by decide +kernel), rfl, rfl⟩
theorem fl_9_92 : pm_fl RX9 92 9 33 := ⟨_, rfl, by decide +kernel, pm_inT 795 (by decide +kernel) (by decide +kernel)⟩
theorem ff_9_92 : pm_ff RX9 92 9 33 := ⟨_, rfl, by decide +kernel, pm_inT 795 (by decide +kernel) (by decide +kernel), ⟨_, tyX9_ok 33 (by decide), fun _ => ⟨rfl, rfl⟩⟩, rfl, rfl⟩
theorem fl_9_95 : pm_fl RX9 95 9 34 := ⟨_, rfl, by decide +kernel, pm_inT 796 (by decide +kernel) (by decide +kernel)⟩
theorem ff_9_95 : pm_ff RX9 95 9 34 := ⟨_, rfl, by decide +kernel, pm_inT 796 (by decide +kernel) (by decide +kernel), ⟨_, tyX9_ok 34 (by decide), fun _ => ⟨rfl, rfl⟩⟩, rfl, rfl⟩
theorem fl_9_99 : pm_fl RX9 99 9 35 := ⟨_, rfl, by decide +kernel, pm_inT 797 (by decide +kernel) (by decide +kernel)⟩
theorem ff_9_99 : pm_ff RX9 99 9 35 := ⟨_, rfl, by decide +kernel, pm_inT 797 (by decide +kernel) (by decide +kernel), ⟨_, tyX9_ok 35 (by decide), fun _ => ⟨rfl, rfl⟩⟩, rfl, rfl⟩
theorem fl_9_102 : pm_fl RX9 102 9 36 := ⟨_, rfl, by decide +kernel, pm_inT 798 (by decide +kernel) (by decide +kernel)⟩
theorem fi_9_102 : pm_fi RX9 102 9 36 := ⟨_, rfl, by decide +kernel, pm_inT 798 (by decide +kernel) (by decide +kernel), rfl, rfl⟩
theorem fl_9_179 : pm_fl RX9 179 9 37 := ⟨_, rfl, by decide +kernel, pm_inT 799 (by decide +kernel) (by decide +kernel)⟩
theorem fi_9_179 : pm_fi RX9 179 9 37 := ⟨_, rfl, by decide +kernel, pm_inT 799 (by decide +kernel) (by decide +kernel), rfl, rfl⟩
