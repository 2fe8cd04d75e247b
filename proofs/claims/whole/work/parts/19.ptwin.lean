/-! routes, twins: as numbers -/
def m_ox (T : Nat → Int32) (fr : Nat) : Nat → Int
  | 0 => 0
  | i + 1 => m_ox T fr i + (T (fr + 2 * i)).toInt
def m_oy (T : Nat → Int32) (fr : Nat) : Nat → Int
  | 0 => 0
  | i + 1 => m_oy T fr i + (T (fr + 2 * i + 1)).toInt
def m_rt (T : Nat → Int32) (fr sz : Nat) : Prop := sz % 2 = 0 ∧ sz ≤ 16 ∧ ∀ k, k < sz → -5 ≤ (T (fr + k)).toInt ∧ (T (fr + k)).toInt ≤ 5
theorem m_ox_bd {T : Nat → Int32} {fr sz : Nat} (h : ∀ k, k < sz → -5 ≤ (T (fr + k)).toInt ∧ (T (fr + k)).toInt ≤ 5) : ∀ i, 2 * i ≤ sz → -5 * (i : Int) ≤ m_ox T fr i ∧ m_ox T fr i ≤ 5 * i ∧ -5 * (i : Int) ≤ m_oy T fr i ∧ m_oy T fr i ≤ 5 * i
  | 0, _ => by simp [m_ox, m_oy]
  | i + 1, hi => by
    have ih := m_ox_bd h i (by omega)
    have h1 := h (2 * i) (by omega)
    have h2 := h (2 * i + 1) (by omega)
    rw [← Nat.add_assoc] at h2
    unfold m_ox m_oy
    omega
/-- where a route is, behind i moves, from the cell c: -1 beyond the map -/
def m_ps (w d : Nat) (T : Nat → Int32) (fr c i : Nat) : Int := m_off w d ((c % w : Nat) + m_ox T fr i) ((c / w : Nat) + m_oy T fr i)
def m_fw (w d : Nat) (T : Nat → Int32) (fr m c : Nat) : Prop := ∀ i, i ≤ m → 0 ≤ m_ps w d T fr c i
/-- the height there -/
def m_hp (w d : Nat) (T f : Nat → Int32) (fr c i : Nat) : Int32 := f (m_ps w d T fr c i).toNat
def m_al (e : Nat) (a b : Int) : Prop := a = -1 ∨ b = -1 ∨ ((a - b).natAbs : Int) ≤ 2 * e
/-- twins -/
def m_tw (w d e : Nat) (T f : Nat → Int32) (fr m a b : Nat) : Prop := m_fw w d T fr m a ∧ m_fw w d T fr m b ∧ ∀ i, i ≤ m → m_al e (m_hp w d T f fr a i).toInt (m_hp w d T f fr b i).toInt
/-- a pair more -/
def m_one (a b : Nat) (s : Nat × Int) : Nat × Int := (s.1 + 1, if s.2 = -1 then 200 * (a : Int) + b else s.2)
/-- the pairs of a with the b below a bound, behind what was counted -/
noncomputable def m_row (P : Nat → Nat → Prop) (a : Nat) (s : Nat × Int) : Nat → Nat × Int
  | 0 => s
  | b + 1 => @ite _ (a < b ∧ P a b) (Classical.propDecidable _) (m_one a b (m_row P a s b)) (m_row P a s b)
noncomputable def m_all (P : Nat → Nat → Prop) (n : Nat) : Nat → Nat × Int
  | 0 => (0, -1)
  | a + 1 => m_row P a (m_all P n a) n
theorem m_row_t {P : Nat → Nat → Prop} {a b : Nat} {s : Nat × Int} (h : a < b ∧ P a b) : m_row P a s (b + 1) = m_one a b (m_row P a s b) := if_pos h
theorem m_row_f {P : Nat → Nat → Prop} {a b : Nat} {s : Nat × Int} (h : ¬ (a < b ∧ P a b)) : m_row P a s (b + 1) = m_row P a s b := if_neg h
theorem m_all_s {P : Nat → Nat → Prop} {n a : Nat} : m_all P n (a + 1) = m_row P a (m_all P n a) n := rfl
theorem m_row_skip {P : Nat → Nat → Prop} {a b : Nat} {s : Nat × Int} : ∀ k, (∀ x, b ≤ x → x < b + k → ¬ (a < x ∧ P a x)) → m_row P a s (b + k) = m_row P a s b
  | 0, _ => rfl
  | k + 1, h => by
    rw [← Nat.add_assoc, m_row_f (h (b + k) (by omega) (by omega))]
    exact m_row_skip k (fun x h1 h2 => h x h1 (by omega))
theorem m_all_skip {P : Nat → Nat → Prop} {n a : Nat} : ∀ k, (∀ x, a ≤ x → x < a + k → ∀ b, b < n → ¬ P x b) → m_all P n (a + k) = m_all P n a
  | 0, _ => rfl
  | k + 1, h => by
    rw [← Nat.add_assoc, m_all_s]
    have e := m_row_skip (P := P) (a := a + k) (b := 0) (s := m_all P n (a + k)) n (fun x h1 h2 hh => h (a + k) (by omega) (by omega) x (by omega) hh.2)
    rw [Nat.zero_add] at e
    rw [e]
    exact m_all_skip k (fun x h1 h2 => h x h1 (by omega))
theorem m_row_bd {P : Nat → Nat → Prop} {a : Nat} {s : Nat × Int} (hs : -1 ≤ s.2 ∧ s.2 < 100000) (ha : a < 200) : ∀ b, b ≤ 200 → (m_row P a s b).1 ≤ s.1 + b ∧ -1 ≤ (m_row P a s b).2 ∧ (m_row P a s b).2 < 100000
  | 0, _ => ⟨Nat.le_refl _, hs⟩
  | b + 1, hb => by
    have ih := m_row_bd (P := P) hs ha b (by omega)
    by_cases q : a < b ∧ P a b
    · rw [m_row_t q]
      unfold m_one
      dsimp only
      refine ⟨by omega, ?_⟩
      split <;> omega
    · rw [m_row_f q]
      exact ⟨by omega, ih.2⟩
theorem m_all_bd {P : Nat → Nat → Prop} {n : Nat} (hn : n ≤ 200) : ∀ a, a ≤ n → (m_all P n a).1 ≤ a * n ∧ -1 ≤ (m_all P n a).2 ∧ (m_all P n a).2 < 100000
  | 0, _ => ⟨Nat.zero_le _, by simp [m_all], by simp [m_all]⟩
  | a + 1, ha => by
    have ih := m_all_bd (P := P) hn a (by omega)
    have := m_row_bd (P := P) (a := a) ih.2 (by omega) n hn
    rw [m_all_s]
    refine ⟨?_, this.2⟩
    have e : (a + 1) * n = a * n + n := Nat.succ_mul a n
    omega
/-- how many cells below c are flown -/
noncomputable def m_rk (F : Nat → Prop) : Nat → Nat
  | 0 => 0
  | c + 1 => m_rk F c + @ite _ (F c) (Classical.propDecidable _) 1 0
theorem m_rk_t {F : Nat → Prop} {c : Nat} (h : F c) : m_rk F (c + 1) = m_rk F c + 1 := by
  rw [m_rk, if_pos h]
theorem m_rk_f {F : Nat → Prop} {c : Nat} (h : ¬ F c) : m_rk F (c + 1) = m_rk F c := by
  rw [m_rk, if_neg h]
  rfl
theorem m_rk_le {F : Nat → Prop} : ∀ c, m_rk F c ≤ c
  | 0 => Nat.le_refl _
  | c + 1 => by
    have := m_rk_le (F := F) c
    by_cases q : F c
    · rw [m_rk_t q]; omega
    · rw [m_rk_f q]; omega
theorem m_rk_mono {F : Nat → Prop} {a : Nat} : ∀ k, m_rk F a ≤ m_rk F (a + k)
  | 0 => Nat.le_refl _
  | k + 1 => by
    have := m_rk_mono (F := F) (a := a) k
    rw [← Nat.add_assoc]
    by_cases q : F (a + k)
    · rw [m_rk_t q]; omega
    · rw [m_rk_f q]; omega
theorem m_rk_lt {F : Nat → Prop} {a b : Nat} (h : a < b) (ha : F a) : m_rk F a < m_rk F b := by
  have := m_rk_mono (F := F) (a := a + 1) (b - (a + 1))
  rw [show a + 1 + (b - (a + 1)) = b by omega, m_rk_t ha] at this
  omega
/-- the next flown one -/
theorem m_rk_next {F : Nat → Prop} {a n : Nat} (han : a ≤ n) (h : m_rk F a < m_rk F n) : ∃ c, a ≤ c ∧ c < n ∧ F c ∧ m_rk F c = m_rk F a ∧ ∀ x, a ≤ x → x < c → ¬ F x := by
  have key : ∀ k, a + k ≤ n → (∀ x, a ≤ x → x < a + k → ¬ F x) ∨ ∃ c, a ≤ c ∧ c < n ∧ F c ∧ m_rk F c = m_rk F a ∧ ∀ x, a ≤ x → x < c → ¬ F x := by
    intro k
    induction k with
    | zero => intro _; exact Or.inl (fun x h1 h2 => by omega)
    | succ k ih =>
      intro hk
      rcases ih (by omega) with h1 | h1
      · by_cases q : F (a + k)
        · refine Or.inr ⟨a + k, by omega, by omega, q, ?_, h1⟩
          have e : ∀ j, j ≤ k → m_rk F (a + j) = m_rk F a := by
            intro j
            induction j with
            | zero => intro _; rfl
            | succ j ihj => intro hj; rw [← Nat.add_assoc, m_rk_f (h1 (a + j) (by omega) (by omega))]; exact ihj (by omega)
          exact e k (Nat.le_refl _)
        · refine Or.inl (fun x h2 h3 => ?_)
          by_cases hx : x = a + k
          · rw [hx]; exact q
          · exact h1 x h2 (by omega)
      · exact Or.inr h1
  rcases key (n - a) (by omega) with h1 | h1
  · exfalso
    have e : ∀ j, j ≤ n - a → m_rk F (a + j) = m_rk F a := by
      intro j
      induction j with
      | zero => intro _; rfl
      | succ j ihj => intro hj; rw [← Nat.add_assoc, m_rk_f (h1 (a + j) (by omega) (by omega))]; exact ihj (by omega)
    have := e (n - a) (Nat.le_refl _)
    rw [show a + (n - a) = n by omega] at this
    omega
  · exact h1
theorem m_rk_end {F : Nat → Prop} {a n : Nat} (han : a ≤ n) (h : m_rk F a = m_rk F n) : ∀ x, a ≤ x → x < n → ¬ F x := by
  intro x h1 h2 hx
  have e1 := m_rk_mono (F := F) (a := a) (x - a)
  rw [show a + (x - a) = x by omega] at e1
  have := m_rk_lt h2 hx
  omega
