/-! plain facts of numbers; answers as posts -/
def pm_q (v : Value) (h : pm_h) (g : pm_g) : Option Value → pm_h → pm_g → Prop := fun r h' g' => r = some v ∧ h = h' ∧ g = g'
def pm_qv (h : pm_h) (g : pm_g) : Option Value → pm_h → pm_g → Prop := fun r h' g' => r = none ∧ h = h' ∧ g = g'
theorem i_lt (a b : Int32) : a < b ↔ a.toInt < b.toInt := Int32.lt_iff_toInt_lt
theorem i_le (a b : Int32) : a ≤ b ↔ a.toInt ≤ b.toInt := Int32.le_iff_toInt_le
theorem i_eq (a b : Int32) : a = b ↔ a.toInt = b.toInt := Int32.toInt_inj.symm
theorem i_rng (x : Int32) : -2147483648 ≤ x.toInt ∧ x.toInt < 2147483648 := by
  have h1 := x.minValue_le_toInt
  have h2 := x.toInt_lt
  exact ⟨by simpa using h1, by simpa using h2⟩
theorem i_bmod {z : Int} (h1 : -2147483648 ≤ z) (h2 : z < 2147483648) : z.bmod (2 ^ 32) = z := by
  rw [Int.bmod_def]
  omega
def iZ (z : Int) : Int32 := Int32.ofInt z
theorem iZ_t {z : Int} (h1 : -2147483648 ≤ z) (h2 : z < 2147483648) : (iZ z).toInt = z := by
  unfold iZ
  rw [Int32.toInt_ofInt]
  exact i_bmod h1 h2
theorem iZ_i (x : Int32) : iZ x.toInt = x := by
  unfold iZ
  exact Int32.ofInt_toInt x
theorem iZ_n (n : Nat) : iZ (n : Int) = nI n := by
  unfold iZ nI
  exact Int32.ofInt_eq_ofNat
theorem iZ_inj {a b : Int} (h1 : -2147483648 ≤ a) (h2 : a < 2147483648) (h3 : -2147483648 ≤ b) (h4 : b < 2147483648) : iZ a = iZ b ↔ a = b := by
  rw [i_eq, iZ_t h1 h2, iZ_t h3 h4]
theorem i_add {x y : Int32} (h1 : -2147483648 ≤ x.toInt + y.toInt) (h2 : x.toInt + y.toInt < 2147483648) : (x + y).toInt = x.toInt + y.toInt := by
  rw [Int32.toInt_add]
  exact i_bmod h1 h2
theorem i_sub {x y : Int32} (h1 : -2147483648 ≤ x.toInt - y.toInt) (h2 : x.toInt - y.toInt < 2147483648) : (x - y).toInt = x.toInt - y.toInt := by
  rw [Int32.toInt_sub]
  exact i_bmod h1 h2
theorem i_mul {x y : Int32} (h1 : -2147483648 ≤ x.toInt * y.toInt) (h2 : x.toInt * y.toInt < 2147483648) : (x * y).toInt = x.toInt * y.toInt := by
  rw [Int32.toInt_mul]
  exact i_bmod h1 h2
theorem i_neg {x : Int32} (h1 : -2147483648 < x.toInt) : (-x).toInt = -x.toInt := by
  rw [Int32.toInt_neg]
  have := i_rng x
  exact i_bmod (by omega) (by omega)
theorem iZ_add (a b : Int) : iZ a + iZ b = iZ (a + b) := by
  unfold iZ
  exact (Int32.ofInt_add a b).symm
theorem iZ_sub (a b : Int) : iZ a - iZ b = iZ (a - b) := by
  unfold iZ
  exact (Int32.ofInt_sub a b).symm
theorem iZ_mul (a b : Int) : iZ a * iZ b = iZ (a * b) := by
  unfold iZ
  exact (Int32.ofInt_mul a b).symm
theorem iZ_clamp {n : Nat} (h : n < 2147483648) : (iZ (n : Int)).toNatClampNeg = n := by
  rw [iZ_n]
  exact nI_clamp (by omega)
theorem i_clamp (x : Int32) : x.toNatClampNeg = x.toInt.toNat := rfl
theorem i_in {x : Int32} {n : Nat} (h1 : 0 ≤ x.toInt) (h2 : x.toInt < n) : vp_in x n := vp_in_iff.mpr ⟨h1, h2⟩
theorem i_0 : (0 : Int32).toInt = 0 := by decide
theorem b_0 {P : Prop} [Decidable P] : ((if P then (1 : Int32) else 0) = 0) ↔ ¬ P := by
  by_cases hp : P
  · rw [if_pos hp]; exact ⟨fun q => absurd q (by decide), fun q => absurd hp q⟩
  · rw [if_neg hp]; exact ⟨fun _ => hp, fun _ => rfl⟩
theorem b_n0 {P : Prop} [Decidable P] : (¬ (if P then (1 : Int32) else 0) = 0) ↔ P := by
  by_cases hp : P
  · rw [if_pos hp]; exact ⟨fun _ => hp, fun _ => by decide⟩
  · rw [if_neg hp]; exact ⟨fun q => absurd rfl q, fun q => absurd q hp⟩
theorem b_nar {P : Prop} [Decidable P] : narrow .boolean (.int (if P then (1 : Int32) else 0)) = .int (if P then (1 : Int32) else 0) := by
  by_cases hp : P
  · rw [if_pos hp]; rfl
  · rw [if_neg hp]; rfl
/-- the number of the cell at X, Y; -1 beyond -/
def m_off (w d : Nat) (X Y : Int) : Int := if 0 ≤ X ∧ X < w ∧ 0 ≤ Y ∧ Y < d then w * Y + X else -1
theorem m_cell {w d : Nat} {X Y : Int} (h : 0 ≤ X ∧ X < w ∧ 0 ≤ Y ∧ Y < d) : 0 ≤ w * Y + X ∧ w * Y + X < (w * d : Nat) := by
  obtain ⟨h1, h2, h3, h4⟩ := h
  have e : (w : Int) * Y ≤ w * (d - 1) := Int.mul_le_mul_of_nonneg_left (by omega) (by omega)
  have e2 : 0 ≤ (w : Int) * Y := Int.mul_nonneg (by omega) h3
  have e3 : (w : Int) * (d - 1) = (w * d : Nat) - w := by rw [Int.mul_sub]; simp
  omega
theorem m_off_lt {w d : Nat} (X Y : Int) : -1 ≤ m_off w d X Y ∧ m_off w d X Y < (w * d : Nat) := by
  unfold m_off
  split
  · rename_i h
    have := m_cell h
    omega
  · constructor
    · omega
    · have : (0 : Int) ≤ (w * d : Nat) := Int.natCast_nonneg _
      omega
theorem m_wd {w d : Nat} (hw : w ≤ 12) (hd : d ≤ 12) : w * d ≤ 144 := Nat.mul_le_mul hw hd
theorem upd_fill {a f : Nat → Int32} {i : Nat} {x : Int32} (hx : x = a i) : upd (fun j => if j < i then a j else f j) i x = fun j => if j < i + 1 then a j else f j := by
  funext j
  show (if j = i then x else if j < i then a j else f j) = if j < i + 1 then a j else f j
  by_cases hj : j = i
  · subst hj
    rw [if_pos rfl, if_pos (by omega), hx]
  · rw [if_neg hj]
    by_cases hl : j < i
    · rw [if_pos hl, if_pos (by omega)]
    · rw [if_neg hl, if_neg (by omega)]
theorem updL_fill {a f : Nat → Int64} {i : Nat} {x : Int64} (hx : x = a i) : vp_updL (fun j => if j < i then a j else f j) i x = fun j => if j < i + 1 then a j else f j := by
  funext j
  show (if j = i then x else if j < i then a j else f j) = if j < i + 1 then a j else f j
  by_cases hj : j = i
  · subst hj
    rw [if_pos rfl, if_pos (by omega), hx]
  · rw [if_neg hj]
    by_cases hl : j < i
    · rw [if_pos hl, if_pos (by omega)]
    · rw [if_neg hl, if_neg (by omega)]
theorem fill_0 {α : Type} {a f : Nat → α} : (fun j : Nat => if j < 0 then a j else f j) = f := funext fun j => if_neg (Nat.not_lt_zero j)
