section FND
variable {G : pm_G} {z : pm_z} {h : pm_h} {g : pm_g}
/-- the stage s is done -/
def b_SD (w d a0 a1 lg s : Nat) (lx ly : Nat → Int32) (E : Nat → Nat → Nat) (h : pm_h) (g : pm_g) (h1 : pm_h) : Prop :=
  pm_I h1 g ∧ (∀ a, a ≠ 19 → a ≠ 20 → a ≠ 21 → a ≠ 22 → a ≠ 23 → h1 a = h a) ∧ ∃ (cf lf fol : Nat → Int32) (C : Nat → Nat) (LW : Nat → Int64), h1 19 = pm_ia 0 144 cf ∧ h1 20 = pm_la 144 (m_L C) ∧ h1 21 = pm_ia 0 144 lf ∧ h1 22 = pm_la 144 LW ∧ h1 23 = pm_ia 0 1728 fol ∧
    b_D (w * d) E (b_V w a0 a1 lx ly) (lg - s) s cf C fol ∧ (∀ j, j < 144 → C j ≤ 9 ^ (lg - s)) ∧ (∀ i, w * d ≤ i → i < 144 → cf i = -1)
theorem va_cpy_l {c n : Nat} {a b : Nat → Int64} {j : Nat} (hj : j < n) (hc : c = n) : va_cpy a b 0 0 c j = a j := by
  subst hc
  unfold va_cpy
  simp [hj]
theorem va_cpy_i {c n : Nat} {a b : Nat → Int32} {j : Nat} (hj : j < n) (hc : c = n) : va_cpy a b 0 0 c j = a j := by
  subst hc
  unfold va_cpy
  simp [hj]
end FND
