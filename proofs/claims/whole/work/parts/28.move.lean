/-! a move: both orders of the nine winds give one flight; how far shares grow -/
theorem m_ou9 {w d w0 w1 s : Nat} {X Y : Int} {F : Nat → Nat} : m_ou w d w0 w1 s X Y F 3 =
    m_add (m_add (m_add (m_add (m_add (m_add (m_add (m_add (m_add F
      (m_off w d (X + -1) (Y + -1)) (s * m_wt w0 w1 (-1) (-1))) (m_off w d (X + -1) (Y + 0)) (s * m_wt w0 w1 (-1) 0)) (m_off w d (X + -1) (Y + 1)) (s * m_wt w0 w1 (-1) 1))
      (m_off w d (X + 0) (Y + -1)) (s * m_wt w0 w1 0 (-1))) (m_off w d (X + 0) (Y + 0)) (s * m_wt w0 w1 0 0)) (m_off w d (X + 0) (Y + 1)) (s * m_wt w0 w1 0 1))
      (m_off w d (X + 1) (Y + -1)) (s * m_wt w0 w1 1 (-1))) (m_off w d (X + 1) (Y + 0)) (s * m_wt w0 w1 1 0)) (m_off w d (X + 1) (Y + 1)) (s * m_wt w0 w1 1 1) := by
  have e1 : m_ou w d w0 w1 s X Y F 3 =
    m_add (m_add (m_add (m_add (m_add (m_add (m_add (m_add (m_add F
      (m_off w d (X + -1) (Y + -1)) (s * m_wt w0 w1 (-1) (-1))) (m_off w d (X + 0) (Y + -1)) (s * m_wt w0 w1 0 (-1))) (m_off w d (X + 1) (Y + -1)) (s * m_wt w0 w1 1 (-1)))
      (m_off w d (X + -1) (Y + 0)) (s * m_wt w0 w1 (-1) 0)) (m_off w d (X + 0) (Y + 0)) (s * m_wt w0 w1 0 0)) (m_off w d (X + 1) (Y + 0)) (s * m_wt w0 w1 1 0))
      (m_off w d (X + -1) (Y + 1)) (s * m_wt w0 w1 (-1) 1)) (m_off w d (X + 0) (Y + 1)) (s * m_wt w0 w1 0 1)) (m_off w d (X + 1) (Y + 1)) (s * m_wt w0 w1 1 1) := rfl
  rw [e1]
  funext j
  unfold m_add
  ac_rfl
/-- how many of the first cells a wind brings to j: one at most -/
def m_hit (w d : Nat) (x y : Int) (j : Nat) : Nat → Nat
  | 0 => 0
  | c + 1 => m_hit w d x y j c + if (j : Int) = m_off w d ((c % w : Nat) + x) ((c / w : Nat) + y) then 1 else 0
theorem m_hit_ex {w d : Nat} {x y : Int} {j : Nat} : ∀ c, m_hit w d x y j c ≠ 0 → ∃ k, k < c ∧ (j : Int) = m_off w d ((k % w : Nat) + x) ((k / w : Nat) + y)
  | 0 => fun h => absurd rfl h
  | c + 1 => fun h => by
    by_cases hq : (j : Int) = m_off w d ((c % w : Nat) + x) ((c / w : Nat) + y)
    · exact ⟨c, by omega, hq⟩
    · rw [m_hit, if_neg hq] at h
      obtain ⟨k, h1, h2⟩ := m_hit_ex c h
      exact ⟨k, by omega, h2⟩
theorem m_off_pos {w d : Nat} {X Y : Int} {j : Nat} (h : (j : Int) = m_off w d X Y) : X = ((j % w : Nat) : Int) ∧ Y = ((j / w : Nat) : Int) := by
  unfold m_off at h
  split at h
  · rename_i q
    obtain ⟨q1, q2, q3, q4⟩ := q
    obtain ⟨x, rfl⟩ : ∃ x : Nat, X = x := ⟨X.toNat, by omega⟩
    obtain ⟨y, rfl⟩ : ∃ y : Nat, Y = y := ⟨Y.toNat, by omega⟩
    have : j = w * y + x := by exact_mod_cast h
    subst this
    obtain ⟨c1, c2⟩ := m_cw (w := w) (x := x) (y := y) (by omega)
    rw [c1, c2]
    exact ⟨rfl, rfl⟩
  · omega
theorem m_hit_le {w d : Nat} {x y : Int} {j : Nat} : ∀ c, m_hit w d x y j c ≤ 1
  | 0 => Nat.zero_le _
  | c + 1 => by
    have ih := m_hit_le (w := w) (d := d) (x := x) (y := y) (j := j) c
    rw [m_hit]
    split
    · rename_i hq
      by_cases h0 : m_hit w d x y j c = 0
      · omega
      · obtain ⟨k, hk, hk2⟩ := m_hit_ex c h0
        obtain ⟨a1, a2⟩ := m_off_pos hq
        obtain ⟨b1, b2⟩ := m_off_pos hk2
        have c1 : c % w = k % w := by omega
        have c2 : c / w = k / w := by omega
        have d1 := Nat.div_add_mod c w
        have d2 := Nat.div_add_mod k w
        rw [c1, c2] at d1
        omega
    · omega
theorem m_onew {B s v : Nat} {P : Prop} [Decidable P] (hs : s ≤ B) : (if P then s * v else 0) ≤ B * v * (if P then 1 else 0) := by
  split
  · rw [Nat.mul_one]; exact Nat.mul_le_mul_right _ hs
  · exact Nat.zero_le _
theorem m_fl_le {w d w0 w1 B : Nat} {dx dy : Int} {S : Nat → Nat} (hS : ∀ j, S j ≤ B) (j : Nat) : ∀ c, m_fl w d w0 w1 dx dy S c j ≤
    B * m_wt w0 w1 (-1) (-1) * m_hit w d (dx + -1) (dy + -1) j c + B * m_wt w0 w1 (-1) 0 * m_hit w d (dx + -1) (dy + 0) j c + B * m_wt w0 w1 (-1) 1 * m_hit w d (dx + -1) (dy + 1) j c +
    B * m_wt w0 w1 0 (-1) * m_hit w d (dx + 0) (dy + -1) j c + B * m_wt w0 w1 0 0 * m_hit w d (dx + 0) (dy + 0) j c + B * m_wt w0 w1 0 1 * m_hit w d (dx + 0) (dy + 1) j c +
    B * m_wt w0 w1 1 (-1) * m_hit w d (dx + 1) (dy + -1) j c + B * m_wt w0 w1 1 0 * m_hit w d (dx + 1) (dy + 0) j c + B * m_wt w0 w1 1 1 * m_hit w d (dx + 1) (dy + 1) j c
  | 0 => Nat.zero_le _
  | c + 1 => by
    have ih := m_fl_le hS j (w := w) (d := d) (w0 := w0) (w1 := w1) (dx := dx) (dy := dy) c
    rw [m_fl_s, m_ou9]
    simp only [m_add, m_hit, Nat.mul_add, Int.add_assoc]
    have o := fun (v : Nat) (x y : Int) => m_onew (B := B) (v := v) (P := (j : Int) = m_off w d ((c % w : Nat) + x) ((c / w : Nat) + y)) (hS c)
    have o1 := o (m_wt w0 w1 (-1) (-1)) (dx + -1) (dy + -1)
    have o2 := o (m_wt w0 w1 (-1) 0) (dx + -1) (dy + 0)
    have o3 := o (m_wt w0 w1 (-1) 1) (dx + -1) (dy + 1)
    have o4 := o (m_wt w0 w1 0 (-1)) (dx + 0) (dy + -1)
    have o5 := o (m_wt w0 w1 0 0) (dx + 0) (dy + 0)
    have o6 := o (m_wt w0 w1 0 1) (dx + 0) (dy + 1)
    have o7 := o (m_wt w0 w1 1 (-1)) (dx + 1) (dy + -1)
    have o8 := o (m_wt w0 w1 1 0) (dx + 1) (dy + 0)
    have o9 := o (m_wt w0 w1 1 1) (dx + 1) (dy + 1)
    refine Nat.le_trans (Nat.add_le_add (Nat.add_le_add (Nat.add_le_add (Nat.add_le_add (Nat.add_le_add (Nat.add_le_add (Nat.add_le_add (Nat.add_le_add (Nat.add_le_add ih o1) o2) o3) o4) o5) o6) o7) o8) o9) (Nat.le_of_eq ?_)
    ac_rfl
theorem m_fl_25 {w d w0 w1 B : Nat} {dx dy : Int} {S : Nat → Nat} (h0 : w0 ≤ 3) (h1 : w1 ≤ 1) (hS : ∀ j, S j ≤ B) (c j : Nat) : m_fl w d w0 w1 dx dy S c j ≤ 25 * B := by
  refine Nat.le_trans (m_fl_le hS j c) ?_
  have o : ∀ (v k : Nat) (x y : Int), v ≤ k → B * v * m_hit w d x y j c ≤ k * B := fun v k x y hv => by
    have h1 := Nat.mul_le_mul (Nat.le_refl (B * v)) (m_hit_le (w := w) (d := d) (x := x) (y := y) (j := j) c)
    have h2 := Nat.mul_le_mul (Nat.le_refl B) hv
    rw [Nat.mul_one] at h1
    rw [Nat.mul_comm B k] at h2
    omega
  have p : ∀ x y a b : Nat, x ≤ a → y ≤ b → x * y ≤ a * b := fun _ _ _ _ => Nat.mul_le_mul
  have o1 := o (m_wt w0 w1 (-1) (-1)) (1 * 1) (dx + -1) (dy + -1) (p _ _ _ _ h1 h1)
  have o2 := o (m_wt w0 w1 (-1) 0) (1 * 3) (dx + -1) (dy + 0) (p _ _ _ _ h1 h0)
  have o3 := o (m_wt w0 w1 (-1) 1) (1 * 1) (dx + -1) (dy + 1) (p _ _ _ _ h1 h1)
  have o4 := o (m_wt w0 w1 0 (-1)) (3 * 1) (dx + 0) (dy + -1) (p _ _ _ _ h0 h1)
  have o5 := o (m_wt w0 w1 0 0) (3 * 3) (dx + 0) (dy + 0) (p _ _ _ _ h0 h0)
  have o6 := o (m_wt w0 w1 0 1) (3 * 1) (dx + 0) (dy + 1) (p _ _ _ _ h0 h1)
  have o7 := o (m_wt w0 w1 1 (-1)) (1 * 1) (dx + 1) (dy + -1) (p _ _ _ _ h1 h1)
  have o8 := o (m_wt w0 w1 1 0) (1 * 3) (dx + 1) (dy + 0) (p _ _ _ _ h1 h0)
  have o9 := o (m_wt w0 w1 1 1) (1 * 1) (dx + 1) (dy + 1) (p _ _ _ _ h1 h1)
  omega
def m_mx (n : Nat) (F : Nat → Nat) (f : Nat → Int64) : Nat → Int64 := fun j => if j < n then lN (F j) else f j
theorem m_mx_no {n v : Nat} {F : Nat → Nat} {f : Nat → Int64} {t : Int} (ht : t < 0) : m_mx n (m_add F t v) f = m_mx n F f := by
  funext j
  unfold m_mx m_add
  rw [if_neg (show ¬ (j : Int) = t by omega), Nat.add_zero]
theorem m_mx_add {n v t : Nat} {F : Nat → Nat} {f : Nat → Int64} (ht : t < n) : vp_updL (m_mx n F f) t (lN (F t + v)) = m_mx n (m_add F t v) f := by
  funext j
  show (if j = t then lN (F t + v) else m_mx n F f j) = m_mx n (m_add F t v) f j
  unfold m_mx m_add
  by_cases hj : j = t
  · subst hj
    rw [if_pos rfl, if_pos ht, if_pos rfl]
  · rw [if_neg hj, if_neg (show ¬ (j : Int) = t by omega), Nat.add_zero]
