/-! the reference's search for the best path, as numbers -/
def r_bt (s f1 w1 : Nat) (p1 : Nat → Nat) (f2 w2 : Nat) (p2 : Nat → Nat) : Prop := f1 < f2 ∨ (f1 = f2 ∧ (w2 < w1 ∨ (w1 = w2 ∧ (b_lt 0 s p1 p2 ∨ b_eq 0 s p1 p2))))
theorem r_bt_rf {s f w : Nat} {p : Nat → Nat} : r_bt s f w p f w p := Or.inr ⟨rfl, Or.inr ⟨rfl, Or.inr fun _ _ => rfl⟩⟩
theorem r_bt_trans {s f1 w1 f2 w2 f3 w3 : Nat} {p1 p2 p3 : Nat → Nat} (h1 : r_bt s f1 w1 p1 f2 w2 p2) (h2 : r_bt s f2 w2 p2 f3 w3 p3) : r_bt s f1 w1 p1 f3 w3 p3 := by
  unfold r_bt at *
  rcases h1 with h1 | ⟨e1, h1⟩
  · rcases h2 with h2 | ⟨y, _⟩ <;> exact Or.inl (by omega)
  rcases h2 with h2 | ⟨e2, h2⟩
  · exact Or.inl (by omega)
  refine Or.inr ⟨by omega, ?_⟩
  rcases h1 with h1 | ⟨y1, h1⟩
  · rcases h2 with h2 | ⟨y2, _⟩ <;> exact Or.inl (by omega)
  rcases h2 with h2 | ⟨y2, h2⟩
  · exact Or.inl (by omega)
  exact Or.inr ⟨by omega, b_le_trans h1 h2⟩
/-- what the rows say at a stage -/
def r_D (N : Nat) (E : Nat → Nat → Nat) (V : Nat → Nat → Nat → Nat) (St : Nat → Prop) (s : Nat) (c1 c3 : Nat → Int32) (c5 : Nat → Int64) (W f : Nat → Nat) (pp : Nat → Nat → Nat) : Prop :=
  ∀ j, j < N → c5 j = lN (W j) ∧ ((W j = 0 ∧ ¬ ∃ q : Nat → Nat, q s = j ∧ St (q 0) ∧ b_ok N V 0 s q) ∨ (0 < W j ∧ c1 j = nI (f j) ∧ f j = b_fl E 0 (pp j) s ∧ W j = b_wy V 0 (pp j) s ∧ b_to N E V St s j (pp j) ∧ ∀ t, t ≤ s → c3 (13 * j + t) = nI (pp j t)))
/-- what the ways B have brought so far; the way to j that is best comes from pr j -/
def r_T (N : Nat) (V : Nat → Nat → Nat → Nat) (s : Nat) (W f : Nat → Nat) (pp : Nat → Nat → Nat) (B : Nat → Nat → Prop) (c2 c4 : Nat → Int32) (c6 : Nat → Int64) (W2 pr : Nat → Nat) : Prop :=
  ∀ j, j < N → c6 j = lN (W2 j) ∧ ((W2 j = 0 ∧ ∀ i', i' < N → B i' j → 0 < V s i' j → W i' = 0) ∨
    (pr j < N ∧ 0 < V s (pr j) j ∧ 0 < W (pr j) ∧ W2 j = W (pr j) * V s (pr j) j ∧ c2 j = nI (f (pr j)) ∧ (∀ t, t ≤ s → c4 (13 * j + t) = nI (pp (pr j) t)) ∧
      ∀ i', i' < N → B i' j → 0 < V s i' j → 0 < W i' → r_bt s (f (pr j)) (W2 j) (pp (pr j)) (f i') (W i' * V s i' j) (pp i')))
section RP
variable {N s : Nat} {E : Nat → Nat → Nat} {V : Nat → Nat → Nat → Nat} {St : Nat → Prop} {c1 c2 c3 c4 c1' c2' c3' c4' : Nat → Int32} {c5 c6 c5' c6' : Nat → Int64} {W f W2 pr : Nat → Nat} {pp : Nat → Nat → Nat} {B B' : Nat → Nat → Prop}
theorem r_D_0 (h1 : ∀ j, j < N → c5 j = lN (W j)) (hW : ∀ j, j < N → (St j ∧ W j = 1) ∨ (¬ St j ∧ W j = 0)) (h2 : ∀ j, j < N → c1 j = nI (E 0 j)) (h3 : ∀ j, j < N → c3 (13 * j) = nI j) : r_D N E V St 0 c1 c3 c5 W (fun j => E 0 j) (fun j _ => j) := by
  intro j hj
  refine ⟨h1 j hj, ?_⟩
  rcases hW j hj with ⟨q, hw⟩ | ⟨q, hw⟩
  · refine Or.inr ⟨by omega, h2 j hj, rfl, hw, b_to_0 hj q rfl, fun t ht => ?_⟩
    obtain rfl : t = 0 := by omega
    exact h3 j hj
  · refine Or.inl ⟨hw, fun ⟨p, p1, p2, _⟩ => ?_⟩
    rw [p1] at p2
    exact q p2
theorem r_T_0 (h : ∀ j, j < N → c6 j = lN 0) : r_T N V s W f pp (fun _ _ => False) c2 c4 c6 (fun _ => 0) (fun _ => 0) := fun j hj => ⟨h j hj, Or.inl ⟨rfl, fun _ _ hf => hf.elim⟩⟩
/-- nothing new -/
theorem r_T_no (T : r_T N V s W f pp B c2 c4 c6 W2 pr) (hB : ∀ i' j, j < N → B' i' j → B i' j ∨ ¬ (0 < V s i' j ∧ 0 < W i')) : r_T N V s W f pp B' c2 c4 c6 W2 pr := by
  intro j hj
  obtain ⟨t1, t2⟩ := T j hj
  refine ⟨t1, ?_⟩
  rcases t2 with ⟨t2, t3⟩ | ⟨t2, t3, t4, t5, t6, t7, t8⟩
  · refine Or.inl ⟨t2, fun i' hi' hb hv => ?_⟩
    rcases hB i' j hj hb with q | q
    · exact t3 i' hi' q hv
    · omega
  · refine Or.inr ⟨t2, t3, t4, t5, t6, t7, fun i' hi' hb hv hw => ?_⟩
    rcases hB i' j hj hb with q | q
    · exact t8 i' hi' q hv hw
    · exact absurd ⟨hv, hw⟩ q
/-- one more that is no better -/
theorem r_T_keep {i to : Nat} (T : r_T N V s W f pp B c2 c4 c6 W2 pr) (h0 : 0 < W2 to) (hB : ∀ i' j, j < N → B' i' j → B i' j ∨ (i' = i ∧ j = to)) (hb : r_bt s (f (pr to)) (W2 to) (pp (pr to)) (f i) (W i * V s i to) (pp i)) : r_T N V s W f pp B' c2 c4 c6 W2 pr := by
  intro j hj
  obtain ⟨t1, t2⟩ := T j hj
  refine ⟨t1, ?_⟩
  rcases t2 with ⟨t2, t3⟩ | ⟨t2, t3, t4, t5, t6, t7, t8⟩
  · refine Or.inl ⟨t2, fun i' hi' hb' hv => ?_⟩
    rcases hB i' j hj hb' with q | ⟨_, rfl⟩
    · exact t3 i' hi' q hv
    · omega
  · refine Or.inr ⟨t2, t3, t4, t5, t6, t7, fun i' hi' hb' hv hw => ?_⟩
    rcases hB i' j hj hb' with q | ⟨rfl, rfl⟩
    · exact t8 i' hi' q hv hw
    · exact hb
/-- one more that is better -/
theorem r_T_take {i to : Nat} (hs : s < 12) (T : r_T N V s W f pp B c2 c4 c6 W2 pr) (hi : i < N) (hto : to < N) (hv : 0 < V s i to) (hw : 0 < W i) (hB : ∀ i' j, j < N → B' i' j → B i' j ∨ (i' = i ∧ j = to))
    (hb : W2 to = 0 ∨ r_bt s (f i) (W i * V s i to) (pp i) (f (pr to)) (W2 to) (pp (pr to))) (k6 : ∀ j, c6' j = if j = to then lN (W i * V s i to) else c6 j) (k2 : ∀ j, c2' j = if j = to then nI (f i) else c2 j)
    (k4 : ∀ t, t ≤ s → c4' (13 * to + t) = nI (pp i t)) (k4' : ∀ x, x < 13 * to ∨ 13 * to + s < x → c4' x = c4 x) : r_T N V s W f pp B' c2' c4' c6' (fun j => if j = to then W i * V s i to else W2 j) (fun j => if j = to then i else pr j) := by
  intro j hj
  obtain ⟨t1, t2⟩ := T j hj
  dsimp only
  rw [k6, k2]
  by_cases hjt : j = to
  · subst hjt
    rw [if_pos rfl, if_pos rfl, if_pos rfl, if_pos rfl]
    refine ⟨rfl, Or.inr ⟨hi, hv, hw, rfl, rfl, k4, fun i' hi' hb' hv' hw' => ?_⟩⟩
    rcases hB i' j hj hb' with q | ⟨rfl, _⟩
    · rcases t2 with ⟨t2, t3⟩ | ⟨t2, t3, t4, t5, t6, t7, t8⟩
      · have := t3 i' hi' q hv'
        omega
      · have p : 0 < W (pr j) * V s (pr j) j := Nat.mul_pos t4 t3
        rcases hb with hb | hb
        · omega
        · exact r_bt_trans hb (t8 i' hi' q hv' hw')
    · exact r_bt_rf
  · rw [if_neg hjt, if_neg hjt, if_neg hjt, if_neg hjt]
    refine ⟨t1, ?_⟩
    rcases t2 with ⟨t2, t3⟩ | ⟨t2, t3, t4, t5, t6, t7, t8⟩
    · refine Or.inl ⟨t2, fun i' hi' hb' hv' => ?_⟩
      rcases hB i' j hj hb' with q | ⟨_, q⟩
      · exact t3 i' hi' q hv'
      · exact absurd q hjt
    · refine Or.inr ⟨t2, t3, t4, t5, t6, fun t ht => by rw [k4' _ (by omega)]; exact t7 t ht, fun i' hi' hb' hv' hw' => ?_⟩
      rcases hB i' j hj hb' with q | ⟨_, q⟩
      · exact t8 i' hi' q hv' hw'
      · exact absurd q hjt
/-- a stage further -/
theorem r_T_D (D : r_D N E V St s c1 c3 c5 W f pp) (T : r_T N V s W f pp B c2 c4 c6 W2 pr) (hB : ∀ i j, i < N → j < N → 0 < V s i j → B i j)
    (k1 : ∀ j, j < N → c1' j = c2 j + nI (E (s + 1) j)) (k5 : ∀ j, j < N → c5' j = c6 j) (k3 : ∀ j, j < N → ∀ t, t ≤ s → c3' (13 * j + t) = c4 (13 * j + t)) (k3' : ∀ j, j < N → c3' (13 * j + (s + 1)) = nI j) :
    r_D N E V St (s + 1) c1' c3' c5' W2 (fun j => f (pr j) + E (s + 1) j) (fun j t => if t ≤ s then pp (pr j) t else j) := by
  intro j hj
  obtain ⟨t1, t2⟩ := T j hj
  refine ⟨(k5 j hj).trans t1, ?_⟩
  rcases t2 with ⟨t2, t3⟩ | ⟨t2, t3, t4, t5, t6, t7, t8⟩
  · refine Or.inl ⟨t2, fun ⟨q, hq, sq, oq⟩ => ?_⟩
    obtain ⟨o1, o2, o3⟩ := b_ok_s.mp oq
    have hi := o1.1 s (Nat.le_refl _)
    rw [Nat.zero_add] at hi
    rw [hq] at o3
    have w0 := t3 (q s) hi (hB _ _ hi hj o3) o3
    rcases (D (q s) hi).2 with ⟨_, d2⟩ | ⟨d1, _⟩
    · exact d2 ⟨q, rfl, sq, o1⟩
    · omega
  · rcases (D (pr j) t2).2 with ⟨d1, _⟩ | ⟨d1, d2, d3, d4, d5, d6⟩
    · omega
    obtain ⟨p, hp⟩ : ∃ p : Nat → Nat, (fun t => if t ≤ s then pp (pr j) t else j) = p := ⟨_, rfl⟩
    have pt : ∀ t, t ≤ s → p t = pp (pr j) t := fun t ht => by rw [← hp]; exact if_pos ht
    have pe : b_eq 0 s (pp (pr j)) p := fun t ht => by
      rw [Nat.zero_add]
      exact (pt t ht).symm
    have ps : p (s + 1) = j := by rw [← hp]; exact if_neg (by omega)
    have pi : p s = pr j := (pt s (Nat.le_refl _)).trans d5.1
    have fe := b_fl_e (E := E) s pe
    have we := b_wy_e (V := V) s pe
    show _ ∨ (0 < W2 j ∧ c1' j = nI (f (pr j) + E (s + 1) j) ∧ f (pr j) + E (s + 1) j = b_fl E 0 (fun t => if t ≤ s then pp (pr j) t else j) (s + 1) ∧ W2 j = b_wy V 0 (fun t => if t ≤ s then pp (pr j) t else j) (s + 1) ∧ b_to N E V St (s + 1) j (fun t => if t ≤ s then pp (pr j) t else j) ∧ ∀ t, t ≤ s + 1 → c3' (13 * j + t) = nI ((fun t => if t ≤ s then pp (pr j) t else j) t))
    rw [hp]
    refine Or.inr ⟨by rw [t5]; exact Nat.mul_pos t4 t3, ?_, ?_, ?_, ?_, fun t ht => ?_⟩
    · rw [k1 j hj, t6, nI_add]
    · rw [b_fl, Nat.zero_add, ps, ← fe, ← d3]
    · rw [b_wy, Nat.zero_add, ps, pi, ← we, ← d4]
      exact t5
    · refine b_on ps hj pi t3 (b_to_eq pe d5) (fun i' p' hp' hv' => ?_) (fun i' ⟨q, hq, sq, oq⟩ => ?_)
      · have hi' : i' < N := by
          have := hp'.2.2.1.1 s (Nat.le_refl _)
          rw [Nat.zero_add, hp'.1] at this
          exact this
        rcases (D i' hi').2 with ⟨_, y2⟩ | ⟨y1, y2, y3, y4, y5, y6⟩
        · exact absurd ⟨p', hp'.1, hp'.2.1, hp'.2.2.1⟩ y2
        have same := b_one (y5.2.2.2 p' hp'.1 hp'.2.1 hp'.2.2.1) (hp'.2.2.2 _ y5.1 y5.2.1 y5.2.2.1)
        have := t8 i' hi' (hB _ _ hi' hj hv') hv' y1
        unfold r_bt at this
        rw [t5, d3, d4, y3, y4, b_fl_e s same, b_wy_e s same, fe, we] at this
        rcases this with this | ⟨z1, this | ⟨z2, this⟩⟩
        · exact Or.inl this
        · exact Or.inr ⟨z1, Or.inl this⟩
        · refine Or.inr ⟨z1, Or.inr ⟨z2, b_le_trans (b_le_trans (Or.inr fun u hu => (pe u hu).symm) this) (Or.inr same)⟩⟩
      · have hi' : i' < N := by
          have := oq.1 s (Nat.le_refl _)
          rw [Nat.zero_add, hq] at this
          exact this
        rcases (D i' hi').2 with ⟨_, y2⟩ | ⟨y1, y2, y3, y4, y5, y6⟩
        · exact absurd ⟨q, hq, sq, oq⟩ y2
        · exact ⟨_, y5⟩
    · by_cases q : t ≤ s
      · rw [pt t q, k3 j hj t q]
        exact t7 t q
      · obtain rfl : t = s + 1 := by omega
        rw [ps]
        exact k3' j hj
/-- the choice at the end -/
theorem r_D_top {i : Nat} (D : r_D N E V St s c1 c3 c5 W f pp) (hi : i < N) (hw : 0 < W i) (hb : ∀ i', i' < N → 0 < W i' → r_bt s (f i) (W i) (pp i) (f i') (W i') (pp i')) : b_top N E V St s (pp i) := by
  rcases (D i hi).2 with ⟨d1, _⟩ | ⟨d1, d2, d3, d4, d5, d6⟩
  · omega
  refine b_top_on d5 (fun j' p' hp' => ?_) (fun i' ⟨q, hq, sq, oq⟩ => ?_)
  · have hi' : j' < N := by
      have := hp'.2.2.1.1 s (Nat.le_refl _)
      rw [Nat.zero_add, hp'.1] at this
      exact this
    rcases (D j' hi').2 with ⟨_, y2⟩ | ⟨y1, y2, y3, y4, y5, y6⟩
    · exact absurd ⟨p', hp'.1, hp'.2.1, hp'.2.2.1⟩ y2
    have same := b_one (y5.2.2.2 p' hp'.1 hp'.2.1 hp'.2.2.1) (hp'.2.2.2 _ y5.1 y5.2.1 y5.2.2.1)
    have := hb j' hi' y1
    unfold r_bt at this
    rw [d3, d4, y3, y4, b_fl_e s same, b_wy_e s same] at this
    unfold b_bt
    rcases this with this | ⟨z1, this | ⟨z2, this⟩⟩
    · exact Or.inl this
    · exact Or.inr ⟨z1, Or.inl this⟩
    · exact Or.inr ⟨z1, Or.inr ⟨z2, b_le_trans this (Or.inr same)⟩⟩
  · have hi' : i' < N := by
      have := oq.1 s (Nat.le_refl _)
      rw [Nat.zero_add, hq] at this
      exact this
    rcases (D i' hi').2 with ⟨_, y2⟩ | ⟨y1, y2, y3, y4, y5, y6⟩
    · exact absurd ⟨q, hq, sq, oq⟩ y2
    · exact ⟨_, y5⟩
end RP
/-- the winds that have been, of the cell i -/
def r_B (w d : Nat) (lx ly : Nat → Int32) (s i : Nat) (a b : Int) (i' j' : Nat) : Prop := i' < i ∨ (i' = i ∧ ∃ a' b' : Int, (-1 ≤ a' ∧ a' ≤ 1) ∧ (-1 ≤ b' ∧ b' ≤ 1) ∧ (a' < a ∨ (a' = a ∧ b' < b)) ∧ m_off w d (((i % w : Nat) + (lx s).toInt) + a') (((i / w : Nat) + (ly s).toInt) + b') = (j' : Int))
section RB
variable {w d s i i' j' a0 a1 : Nat} {lx ly : Nat → Int32} {a b : Int}
theorem r_B_s (h : r_B w d lx ly s i a (b + 1) i' j') : r_B w d lx ly s i a b i' j' ∨ (i' = i ∧ m_off w d (((i % w : Nat) + (lx s).toInt) + a) (((i / w : Nat) + (ly s).toInt) + b) = (j' : Int)) := by
  rcases h with h | ⟨h1, a', b', h2, h3, h4, h5⟩
  · exact Or.inl (Or.inl h)
  · by_cases q : a' = a ∧ b' = b
    · obtain ⟨rfl, rfl⟩ := q
      exact Or.inr ⟨h1, h5⟩
    · exact Or.inl (Or.inr ⟨h1, a', b', h2, h3, by omega, h5⟩)
theorem r_B_row (h : r_B w d lx ly s i (a + 1) (-1) i' j') : r_B w d lx ly s i a 2 i' j' := by
  rcases h with h | ⟨h1, a', b', h2, h3, h4, h5⟩
  · exact Or.inl h
  · exact Or.inr ⟨h1, a', b', h2, h3, by omega, h5⟩
theorem r_B_nx (h : r_B w d lx ly s (i + 1) (-1) (-1) i' j') (hw : 0 < w) (hj : j' < w * d) (hv : 0 < b_V w a0 a1 lx ly s i' j') : r_B w d lx ly s i 2 (-1) i' j' := by
  rcases h with h | ⟨h1, a', b', h2, h3, h4, h5⟩
  · by_cases q : i' < i
    · exact Or.inl q
    · obtain rfl : i' = i := by omega
      obtain ⟨a, b, ha, hb, ho⟩ := b_V_ex (d := d) hw hj hv
      exact Or.inr ⟨rfl, a, b, ha, hb, by omega, ho⟩
  · omega
end RB
