/-- a stage that is rated is right -/
theorem b_SI_D {w d a0 a1 s n : Nat} {lx ly lf fo0 cf fol : Nat → Int32} {LW C : Nat → Nat} {E : Nat → Nat → Nat} (hw : 0 < w) (hN : w * d ≤ 144) (hE : ∀ t j, E t j ≤ 10200) (hn : n ≤ 11)
    (D : b_D (w * d) E (b_V w a0 a1 lx ly) n (s + 1) lf LW fo0) (s5 : ∀ t c, s + 1 ≤ t → c < 144 → fol (t * 144 + c) = fo0 (t * 144 + c))
    (s6 : ∀ i, i < w * d → ∃ CF : Int32, b_inv w d a0 a1 lx ly s i lf LW (b_bef 0 2) CF (C i) (fol (s * 144 + i)) ∧ cf i = if CF = -1 then -1 else CF + nI (E s i)) : b_D (w * d) E (b_V w a0 a1 lx ly) (n + 1) s cf C fol := by
  intro i hi
  obtain ⟨CF, inv, hcf⟩ := s6 i hi
  rcases b_stage hw hN hE (by omega) hi D inv rfl s5 with ⟨c1, c2⟩ | ⟨c1, c2, c3, c4, c5⟩
  · rw [if_pos c1] at hcf
    exact Or.inl ⟨hcf, c2⟩
  · rw [if_neg c1] at hcf
    exact Or.inr ⟨hcf.trans c2, c3, c4, c5⟩
/-- the last stage is right -/
theorem b_D_0 {N L : Nat} {E : Nat → Nat → Nat} {V : Nat → Nat → Nat → Nat} {cf fol : Nat → Int32} (h : ∀ j, j < N → cf j = nI (E L j)) : b_D N E V 0 L cf (fun _ => 1) fol := by
  intro j hj
  have p0 : b_pa fol L j L = j := by unfold b_pa; rw [Nat.sub_self]; rfl
  refine Or.inr ⟨?_, rfl, b_from_0 hj p0, fun m hm => absurd hm (Nat.not_lt_zero m)⟩
  rw [h j hj, b_fl, p0]
