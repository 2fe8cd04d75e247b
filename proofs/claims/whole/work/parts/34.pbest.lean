/-! the best path: as numbers. A path is a function p; [k, k+n] is the part of it that is looked at. -/
def b_fl (E : Nat → Nat → Nat) (k : Nat) (p : Nat → Nat) : Nat → Nat
  | 0 => E k (p k)
  | n + 1 => b_fl E k p n + E (k + n + 1) (p (k + n + 1))
def b_wy (V : Nat → Nat → Nat → Nat) (k : Nat) (p : Nat → Nat) : Nat → Nat
  | 0 => 1
  | n + 1 => b_wy V k p n * V (k + n) (p (k + n)) (p (k + n + 1))
def b_eq (k n : Nat) (p q : Nat → Nat) : Prop := ∀ s, s ≤ n → p (k + s) = q (k + s)
def b_lt (k n : Nat) (p q : Nat → Nat) : Prop := ∃ t, t ≤ n ∧ (∀ s, s < t → p (k + s) = q (k + s)) ∧ p (k + t) < q (k + t)
/-- p is no worse than q: by faults, ways, order -/
def b_bt (E : Nat → Nat → Nat) (V : Nat → Nat → Nat → Nat) (k n : Nat) (p q : Nat → Nat) : Prop :=
  b_fl E k p n < b_fl E k q n ∨ (b_fl E k p n = b_fl E k q n ∧ (b_wy V k q n < b_wy V k p n ∨ (b_wy V k p n = b_wy V k q n ∧ (b_lt k n p q ∨ b_eq k n p q))))
def b_ok (N : Nat) (V : Nat → Nat → Nat → Nat) (k n : Nat) (p : Nat → Nat) : Prop := (∀ s, s ≤ n → p (k + s) < N) ∧ 0 < b_wy V k p n
section PB
variable {N : Nat} {E : Nat → Nat → Nat} {V : Nat → Nat → Nat → Nat}
theorem b_fl_c (k : Nat) (p : Nat → Nat) : ∀ n, b_fl E k p (n + 1) = E k (p k) + b_fl E (k + 1) p n
  | 0 => rfl
  | n + 1 => by
    rw [b_fl, b_fl_c k p n, b_fl, Nat.add_assoc, show k + (n + 1) + 1 = k + 1 + n + 1 by omega]
theorem b_wy_c (k : Nat) (p : Nat → Nat) : ∀ n, b_wy V k p (n + 1) = V k (p k) (p (k + 1)) * b_wy V (k + 1) p n
  | 0 => by rw [b_wy, b_wy, b_wy, Nat.one_mul, Nat.mul_one]; rfl
  | n + 1 => by
    rw [b_wy, b_wy_c k p n, b_wy, Nat.mul_assoc, show k + (n + 1) = k + 1 + n by omega]
theorem b_fl_e {k : Nat} {p q : Nat → Nat} : ∀ n, b_eq k n p q → b_fl E k p n = b_fl E k q n
  | 0, h => by rw [b_fl, b_fl, show p k = q k from h 0 (Nat.le_refl _)]
  | n + 1, h => by
    rw [b_fl, b_fl, b_fl_e n (fun s hs => h s (by omega)), show p (k + n + 1) = q (k + n + 1) from h (n + 1) (Nat.le_refl _)]
theorem b_wy_e {k : Nat} {p q : Nat → Nat} : ∀ n, b_eq k n p q → b_wy V k p n = b_wy V k q n
  | 0, _ => rfl
  | n + 1, h => by
    rw [b_wy, b_wy, b_wy_e n (fun s hs => h s (by omega)), show p (k + n + 1) = q (k + n + 1) from h (n + 1) (Nat.le_refl _), show p (k + n) = q (k + n) from h n (by omega)]
theorem b_lt_asym {k n : Nat} {p q : Nat → Nat} (h1 : b_lt k n p q) (h2 : b_lt k n q p) : False := by
  obtain ⟨t, t1, t2, t3⟩ := h1
  obtain ⟨u, u1, u2, u3⟩ := h2
  rcases Nat.lt_trichotomy t u with q1 | q1 | q1
  · have := u2 t q1; omega
  · subst q1; omega
  · have := t2 u q1; omega
/-- two that are best are one -/
theorem b_one {k n : Nat} {p q : Nat → Nat} (h1 : b_bt E V k n p q) (h2 : b_bt E V k n q p) : b_eq k n p q := by
  unfold b_bt at h1 h2
  rcases h1 with h1 | ⟨e1, h1 | ⟨e2, h1 | h1⟩⟩
  · rcases h2 with h2 | ⟨f1, _⟩ <;> omega
  · rcases h2 with h2 | ⟨f1, h2 | ⟨f2, _⟩⟩ <;> omega
  · rcases h2 with h2 | ⟨f1, h2 | ⟨f2, h2 | h2⟩⟩
    · omega
    · omega
    · exact absurd h2 (fun h2 => b_lt_asym h1 h2)
    · exact fun s hs => (h2 s hs).symm
  · exact h1
/-- a part that begins one later -/
theorem b_ok_c {k n : Nat} {p : Nat → Nat} : b_ok N V k (n + 1) p ↔ p k < N ∧ 0 < V k (p k) (p (k + 1)) ∧ b_ok N V (k + 1) n p := by
  unfold b_ok
  rw [b_wy_c]
  constructor
  · intro ⟨h1, h2⟩
    exact ⟨h1 0 (by omega), Nat.pos_of_mul_pos_right h2, fun s hs => by have := h1 (s + 1) (by omega); rwa [show k + (s + 1) = k + 1 + s by omega] at this, Nat.pos_of_mul_pos_left h2⟩
  · intro ⟨h1, h2, h3, h4⟩
    refine ⟨fun s hs => ?_, Nat.mul_pos h2 h4⟩
    cases s with
    | zero => exact h1
    | succ s => have := h3 s (by omega); rwa [show k + 1 + s = k + (s + 1) by omega] at this
/-- best of those that begin at i -/
def b_from (N : Nat) (E : Nat → Nat → Nat) (V : Nat → Nat → Nat → Nat) (k n i : Nat) (p : Nat → Nat) : Prop := p k = i ∧ b_ok N V k n p ∧ ∀ q, q k = i → b_ok N V k n q → b_bt E V k n p q
theorem b_lt_c {k n : Nat} {p q : Nat → Nat} (h0 : p k = q k) (h : b_lt (k + 1) n p q) : b_lt k (n + 1) p q := by
  obtain ⟨t, t1, t2, t3⟩ := h
  refine ⟨t + 1, by omega, fun s hs => ?_, by rw [show k + (t + 1) = k + 1 + t by omega]; exact t3⟩
  cases s with
  | zero => exact h0
  | succ s => have := t2 s (by omega); rwa [show k + 1 + s = k + (s + 1) by omega] at this
theorem b_eq_c {k n : Nat} {p q : Nat → Nat} (h0 : p k = q k) (h : b_eq (k + 1) n p q) : b_eq k (n + 1) p q := by
  intro s hs
  cases s with
  | zero => exact h0
  | succ s => have := h s (by omega); rwa [show k + 1 + s = k + (s + 1) by omega] at this
/-- one step back -/
theorem b_back {k n i j : Nat} {p : Nat → Nat} (hi : i < N) (hp : p k = i) (hj : p (k + 1) = j) (hv : 0 < V k i j) (hb : b_from N E V (k + 1) n j p)
    (best : ∀ j' p', b_from N E V (k + 1) n j' p' → 0 < V k i j' → b_fl E (k + 1) p n < b_fl E (k + 1) p' n ∨ (b_fl E (k + 1) p n = b_fl E (k + 1) p' n ∧ (b_wy V (k + 1) p' n * V k i j' < b_wy V (k + 1) p n * V k i j ∨ (b_wy V (k + 1) p n * V k i j = b_wy V (k + 1) p' n * V k i j' ∧ j ≤ j'))))
    (ex : ∀ j', (∃ q, q (k + 1) = j' ∧ b_ok N V (k + 1) n q) → ∃ p', b_from N E V (k + 1) n j' p') : b_from N E V k (n + 1) i p := by
  refine ⟨hp, b_ok_c.mpr ⟨by omega, by rw [hp, hj]; exact hv, hb.2.1⟩, fun q hq oq => ?_⟩
  obtain ⟨o1, o2, o3⟩ := b_ok_c.mp oq
  have h0 : p k = q k := by rw [hp, hq]
  unfold b_bt
  rw [b_fl_c, b_fl_c, b_wy_c, b_wy_c, hp, hq, hj]
  rw [hq] at o2
  by_cases hjq : q (k + 1) = j
  · have h2 := hb.2.2 q hjq o3
    unfold b_bt at h2
    rw [hjq]
    rcases h2 with h2 | ⟨e1, h2 | ⟨e2, h2 | h2⟩⟩
    · exact Or.inl (by omega)
    · exact Or.inr ⟨by omega, Or.inl (Nat.mul_lt_mul_of_pos_left h2 hv)⟩
    · exact Or.inr ⟨by omega, Or.inr ⟨by rw [e2], Or.inl (b_lt_c h0 h2)⟩⟩
    · exact Or.inr ⟨by omega, Or.inr ⟨by rw [e2], Or.inr (b_eq_c h0 h2)⟩⟩
  · obtain ⟨p', hp'⟩ := ex (q (k + 1)) ⟨q, rfl, o3⟩
    have h1 := best _ p' hp' o2
    have h2 := hp'.2.2 q rfl o3
    unfold b_bt at h2
    rw [Nat.mul_comm (b_wy V (k + 1) p' n), Nat.mul_comm (b_wy V (k + 1) p n)] at h1
    have hlt : j < q (k + 1) → b_lt k (n + 1) p q := fun hh => ⟨1, by omega, fun s hs => by
      obtain rfl : s = 0 := by omega
      exact h0, by rw [hj]; exact hh⟩
    have smono : b_wy V (k + 1) q n < b_wy V (k + 1) p' n → V k i (q (k + 1)) * b_wy V (k + 1) q n < V k i (q (k + 1)) * b_wy V (k + 1) p' n := fun hh => Nat.mul_lt_mul_of_pos_left hh o2
    rcases h2 with h2 | ⟨e1, h2⟩
    · rcases h1 with h1 | ⟨f1, _⟩ <;> exact Or.inl (by omega)
    rcases h1 with h1 | ⟨f1, h1⟩
    · exact Or.inl (by omega)
    refine Or.inr ⟨by omega, ?_⟩
    rcases h2 with h2 | ⟨e2, _⟩
    · have := smono h2
      rcases h1 with h1 | ⟨f2, _⟩ <;> exact Or.inl (by omega)
    · rw [← e2]
      rcases h1 with h1 | ⟨f2, f3⟩
      · exact Or.inl h1
      · exact Or.inr ⟨f2, Or.inl (hlt (by omega))⟩
/-- best of those that come to j -/
def b_to (N : Nat) (E : Nat → Nat → Nat) (V : Nat → Nat → Nat → Nat) (St : Nat → Prop) (n j : Nat) (p : Nat → Nat) : Prop := p n = j ∧ St (p 0) ∧ b_ok N V 0 n p ∧ ∀ q, q n = j → St (q 0) → b_ok N V 0 n q → b_bt E V 0 n p q
theorem b_ok_s {n : Nat} {p : Nat → Nat} : b_ok N V 0 (n + 1) p ↔ b_ok N V 0 n p ∧ p (n + 1) < N ∧ 0 < V n (p n) (p (n + 1)) := by
  unfold b_ok
  rw [b_wy]
  simp only [Nat.zero_add]
  constructor
  · intro ⟨h1, h2⟩
    exact ⟨⟨fun s hs => h1 s (by omega), Nat.pos_of_mul_pos_right h2⟩, h1 (n + 1) (by omega), Nat.pos_of_mul_pos_left h2⟩
  · intro ⟨⟨h1, h2⟩, h3, h4⟩
    refine ⟨fun s hs => ?_, Nat.mul_pos h2 h4⟩
    by_cases hsn : s = n + 1
    · rw [hsn]; exact h3
    · exact h1 s (by omega)
theorem b_lt_s {n : Nat} {p q : Nat → Nat} (h : b_lt 0 n p q) : b_lt 0 (n + 1) p q := by
  obtain ⟨t, t1, t2⟩ := h
  exact ⟨t, by omega, t2⟩
/-- one step on -/
theorem b_on {St : Nat → Prop} {n i j : Nat} {p : Nat → Nat} (hj : p (n + 1) = j) (hjN : j < N) (hi : p n = i) (hv : 0 < V n i j) (hb : b_to N E V St n i p)
    (best : ∀ i' p', b_to N E V St n i' p' → 0 < V n i' j → b_fl E 0 p n < b_fl E 0 p' n ∨ (b_fl E 0 p n = b_fl E 0 p' n ∧ (b_wy V 0 p' n * V n i' j < b_wy V 0 p n * V n i j ∨ (b_wy V 0 p n * V n i j = b_wy V 0 p' n * V n i' j ∧ (b_lt 0 n p p' ∨ b_eq 0 n p p')))))
    (ex : ∀ i', (∃ q, q n = i' ∧ St (q 0) ∧ b_ok N V 0 n q) → ∃ p', b_to N E V St n i' p') : b_to N E V St (n + 1) j p := by
  refine ⟨hj, hb.2.1, b_ok_s.mpr ⟨hb.2.2.1, by omega, by rw [hi, hj]; exact hv⟩, fun q hq sq oq => ?_⟩
  obtain ⟨o1, o2, o3⟩ := b_ok_s.mp oq
  obtain ⟨p', hp'⟩ := ex (q n) ⟨q, rfl, sq, o1⟩
  rw [hq] at o3
  have h1 := best _ p' hp' o3
  have h2 := hp'.2.2.2 q rfl sq o1
  unfold b_bt at h2 ⊢
  rw [b_fl, b_fl, b_wy, b_wy]
  simp only [Nat.zero_add]
  rw [hj, hq, hi]
  have smono : b_wy V 0 q n < b_wy V 0 p' n → b_wy V 0 q n * V n (q n) j < b_wy V 0 p' n * V n (q n) j := fun hh => Nat.mul_lt_mul_of_pos_right hh o3
  rcases h2 with h2 | ⟨e1, h2⟩
  · rcases h1 with h1 | ⟨f1, _⟩ <;> exact Or.inl (by omega)
  rcases h1 with h1 | ⟨f1, h1⟩
  · exact Or.inl (by omega)
  refine Or.inr ⟨by omega, ?_⟩
  rcases h2 with h2 | ⟨e2, h2⟩
  · have := smono h2
    rcases h1 with h1 | ⟨f2, _⟩ <;> exact Or.inl (by omega)
  rw [← e2]
  rcases h1 with h1 | ⟨f2, h1⟩
  · exact Or.inl h1
  refine Or.inr ⟨f2, ?_⟩
  have tr : (b_lt 0 n p q ∨ b_eq 0 n p q) := by
    rcases h1 with ⟨t, t1, t2, t3⟩ | h1
    · rcases h2 with ⟨u, u1, u2, u3⟩ | h2
      · refine Or.inl ?_
        rcases Nat.lt_trichotomy t u with z | z | z
        · exact ⟨t, t1, fun s hs => (t2 s hs).trans (u2 s (by omega)), by rw [← u2 t z]; exact t3⟩
        · subst z
          exact ⟨t, t1, fun s hs => (t2 s hs).trans (u2 s hs), by omega⟩
        · exact ⟨u, u1, fun s hs => (t2 s (by omega)).trans (u2 s hs), by rw [t2 u z]; exact u3⟩
      · exact Or.inl ⟨t, t1, fun s hs => (t2 s hs).trans (h2 s (by omega)), by rw [← h2 t t1]; exact t3⟩
    · rcases h2 with ⟨u, u1, u2, u3⟩ | h2
      · exact Or.inl ⟨u, u1, fun s hs => (h1 s (by omega)).trans (u2 s hs), by rw [h1 u u1]; exact u3⟩
      · exact Or.inr (fun s hs => (h1 s hs).trans (h2 s hs))
  rcases tr with tr | tr
  · exact Or.inl (b_lt_s tr)
  · refine Or.inr (fun s hs => ?_)
    by_cases hsn : s = n + 1
    · rw [hsn, Nat.zero_add, hj, hq]
    · exact tr s (by omega)
theorem b_le_trans {k n : Nat} {p q r : Nat → Nat} (h1 : b_lt k n p q ∨ b_eq k n p q) (h2 : b_lt k n q r ∨ b_eq k n q r) : b_lt k n p r ∨ b_eq k n p r := by
  rcases h1 with ⟨t, t1, t2, t3⟩ | h1
  · rcases h2 with ⟨u, u1, u2, u3⟩ | h2
    · refine Or.inl ?_
      rcases Nat.lt_trichotomy t u with z | z | z
      · exact ⟨t, t1, fun s hs => (t2 s hs).trans (u2 s (by omega)), by rw [← u2 t z]; exact t3⟩
      · subst z
        exact ⟨t, t1, fun s hs => (t2 s hs).trans (u2 s hs), by omega⟩
      · exact ⟨u, u1, fun s hs => (t2 s (by omega)).trans (u2 s hs), by rw [t2 u z]; exact u3⟩
    · exact Or.inl ⟨t, t1, fun s hs => (t2 s hs).trans (h2 s (by omega)), by rw [← h2 t t1]; exact t3⟩
  · rcases h2 with ⟨u, u1, u2, u3⟩ | h2
    · exact Or.inl ⟨u, u1, fun s hs => (h1 s (by omega)).trans (u2 s hs), by rw [h1 u u1]; exact u3⟩
    · exact Or.inr (fun s hs => (h1 s hs).trans (h2 s hs))
theorem b_bt_trans {k n : Nat} {p q r : Nat → Nat} (h1 : b_bt E V k n p q) (h2 : b_bt E V k n q r) : b_bt E V k n p r := by
  unfold b_bt at *
  rcases h1 with h1 | ⟨e1, h1 | ⟨e2, h1⟩⟩
  · rcases h2 with h2 | ⟨f1, _⟩ <;> exact Or.inl (by omega)
  · rcases h2 with h2 | ⟨f1, h2 | ⟨f2, _⟩⟩
    · exact Or.inl (by omega)
    · exact Or.inr ⟨by omega, Or.inl (by omega)⟩
    · exact Or.inr ⟨by omega, Or.inl (by omega)⟩
  · rcases h2 with h2 | ⟨f1, h2 | ⟨f2, h2⟩⟩
    · exact Or.inl (by omega)
    · exact Or.inr ⟨by omega, Or.inl (by omega)⟩
    · exact Or.inr ⟨by omega, Or.inr ⟨by omega, b_le_trans h1 h2⟩⟩
theorem b_bt_rf {k n : Nat} {p : Nat → Nat} : b_bt E V k n p p := Or.inr ⟨rfl, Or.inr ⟨rfl, Or.inr fun _ _ => rfl⟩⟩
/-- best of all -/
def b_top (N : Nat) (E : Nat → Nat → Nat) (V : Nat → Nat → Nat → Nat) (St : Nat → Prop) (n : Nat) (p : Nat → Nat) : Prop := St (p 0) ∧ b_ok N V 0 n p ∧ ∀ q, St (q 0) → b_ok N V 0 n q → b_bt E V 0 n p q
theorem b_top_one {St : Nat → Prop} {n : Nat} {p q : Nat → Nat} (h1 : b_top N E V St n p) (h2 : b_top N E V St n q) : b_eq 0 n p q := b_one (h1.2.2 q h2.1 h2.2.1) (h2.2.2 p h1.1 h1.2.1)
theorem b_top_back {St : Nat → Prop} {n i : Nat} {p : Nat → Nat} (hi : St i) (hb : b_from N E V 0 n i p)
    (best : ∀ i' p', St i' → b_from N E V 0 n i' p' → b_fl E 0 p n < b_fl E 0 p' n ∨ (b_fl E 0 p n = b_fl E 0 p' n ∧ (b_wy V 0 p' n < b_wy V 0 p n ∨ (b_wy V 0 p n = b_wy V 0 p' n ∧ i ≤ i'))))
    (ex : ∀ i', (∃ q, q 0 = i' ∧ b_ok N V 0 n q) → ∃ p', b_from N E V 0 n i' p') : b_top N E V St n p := by
  refine ⟨by rw [hb.1]; exact hi, hb.2.1, fun q sq oq => ?_⟩
  by_cases hq : q 0 = i
  · exact hb.2.2 q hq oq
  obtain ⟨p', hp'⟩ := ex (q 0) ⟨q, rfl, oq⟩
  refine b_bt_trans ?_ (hp'.2.2 q rfl oq)
  rcases best _ p' sq hp' with h1 | ⟨e1, h1 | ⟨e2, h1⟩⟩
  · exact Or.inl h1
  · exact Or.inr ⟨e1, Or.inl h1⟩
  · refine Or.inr ⟨e1, Or.inr ⟨e2, Or.inl ⟨0, Nat.zero_le _, fun s hs => absurd hs (Nat.not_lt_zero s), ?_⟩⟩⟩
    show p 0 < p' 0
    rw [hb.1, hp'.1]
    omega
theorem b_top_on {St : Nat → Prop} {n j : Nat} {p : Nat → Nat} (hb : b_to N E V St n j p)
    (best : ∀ j' p', b_to N E V St n j' p' → b_bt E V 0 n p p')
    (ex : ∀ j', (∃ q, q n = j' ∧ St (q 0) ∧ b_ok N V 0 n q) → ∃ p', b_to N E V St n j' p') : b_top N E V St n p := by
  refine ⟨hb.2.1, hb.2.2.1, fun q sq oq => ?_⟩
  obtain ⟨p', hp'⟩ := ex (q n) ⟨q, rfl, sq, oq⟩
  exact b_bt_trans (best _ p' hp') (hp'.2.2.2 q rfl sq oq)
theorem b_ok_eq {k n : Nat} {p q : Nat → Nat} (h : b_eq k n p q) (o : b_ok N V k n p) : b_ok N V k n q :=
  ⟨fun s hs => by rw [← h s hs]; exact o.1 s hs, by rw [← b_wy_e n h]; exact o.2⟩
theorem b_bt_eq {k n : Nat} {p q r : Nat → Nat} (h : b_eq k n p q) (o : b_bt E V k n p r) : b_bt E V k n q r :=
  b_bt_trans (Or.inr ⟨(b_fl_e n h).symm, Or.inr ⟨(b_wy_e n h).symm, Or.inr fun s hs => (h s hs).symm⟩⟩) o
theorem b_from_eq {k n i : Nat} {p q : Nat → Nat} (h : b_eq k n p q) (o : b_from N E V k n i p) : b_from N E V k n i q :=
  ⟨(h 0 (Nat.zero_le _)).symm.trans o.1, b_ok_eq h o.2.1, fun r hr or => b_bt_eq h (o.2.2 r hr or)⟩
theorem b_to_eq {St : Nat → Prop} {n i : Nat} {p q : Nat → Nat} (h : b_eq 0 n p q) (o : b_to N E V St n i p) : b_to N E V St n i q := by
  have h' : ∀ s, s ≤ n → p s = q s := fun s hs => by have := h s hs; rwa [Nat.zero_add] at this
  exact ⟨(h' n (Nat.le_refl _)).symm.trans o.1, by rw [← h' 0 (Nat.zero_le _)]; exact o.2.1, b_ok_eq h o.2.2.1, fun r hr sr or => b_bt_eq h (o.2.2.2 r hr sr or)⟩
/-- beginnings -/
theorem b_from_0 {k i : Nat} {p : Nat → Nat} (hi : i < N) (hp : p k = i) : b_from N E V k 0 i p :=
  ⟨hp, ⟨fun s hs => by
    obtain rfl : s = 0 := by omega
    rw [Nat.add_zero, hp]; exact hi, Nat.one_pos⟩, fun q hq _ => Or.inr ⟨by rw [b_fl, b_fl, hp, hq], Or.inr ⟨rfl, Or.inr fun s hs => by
    obtain rfl : s = 0 := by omega
    rw [Nat.add_zero, hp, hq]⟩⟩⟩
theorem b_to_0 {St : Nat → Prop} {i : Nat} {p : Nat → Nat} (hi : i < N) (hs : St i) (hp : p 0 = i) : b_to N E V St 0 i p :=
  ⟨hp, by rw [hp]; exact hs, (b_from_0 (E := E) (V := V) hi hp).2.1, fun q hq _ o => (b_from_0 (E := E) (V := V) hi hp).2.2 q hq o⟩
/-- bounds -/
theorem b_wy_le {k B : Nat} {p : Nat → Nat} (hV : ∀ t i j, V t i j ≤ B) : ∀ n, b_wy V k p n ≤ B ^ n
  | 0 => Nat.le_refl _
  | n + 1 => by
    rw [b_wy, Nat.pow_succ]
    exact Nat.mul_le_mul (b_wy_le hV n) (hV _ _ _)
theorem b_fl_le {k B : Nat} {p : Nat → Nat} (hE : ∀ t i, E t i ≤ B) : ∀ n, b_fl E k p n ≤ (n + 1) * B
  | 0 => by rw [b_fl, Nat.zero_add, Nat.one_mul]; exact hE _ _
  | n + 1 => by
    have := b_fl_le (k := k) (p := p) hE n
    have := hE (k + n + 1) (p (k + n + 1))
    rw [b_fl, Nat.succ_mul]
    omega
end PB
