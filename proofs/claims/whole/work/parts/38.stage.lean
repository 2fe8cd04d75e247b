/-! a stage back: what the class' rate has found is best -/
def b_foN (fol : Nat → Int32) (s i : Nat) : Nat → Nat
  | 0 => i
  | m + 1 => (fol ((s + m) * 144 + b_foN fol s i m)).toNatClampNeg
/-- the path that the followers tell -/
def b_pa (fol : Nat → Int32) (s i : Nat) : Nat → Nat := fun t => b_foN fol s i (t - s)
theorem b_foN_c (fol : Nat → Int32) (s i : Nat) : ∀ m, b_foN fol s i (m + 1) = b_foN fol (s + 1) ((fol (s * 144 + i)).toNatClampNeg) m
  | 0 => rfl
  | m + 1 => by
    rw [b_foN, b_foN_c fol s i m, b_foN, show s + (m + 1) = s + 1 + m by omega]
def b_D (N : Nat) (E : Nat → Nat → Nat) (V : Nat → Nat → Nat → Nat) (n s : Nat) (lf : Nat → Int32) (LW : Nat → Nat) (fol : Nat → Int32) : Prop :=
  ∀ j, j < N → (lf j = -1 ∧ ¬ ∃ q : Nat → Nat, q s = j ∧ b_ok N V s n q) ∨ (lf j = nI (b_fl E s (b_pa fol s j) n) ∧ LW j = b_wy V s (b_pa fol s j) n ∧ b_from N E V s n j (b_pa fol s j) ∧ ∀ m, m < n → fol ((s + m) * 144 + b_foN fol s j m) = nI (b_foN fol s j (m + 1)))
theorem b_foN_e {N s j : Nat} {fol fol' : Nat → Int32} (hN : N ≤ 144) : ∀ n, (∀ m, m < n → b_foN fol s j m < N) → (∀ t c, s ≤ t → c < 144 → fol' (t * 144 + c) = fol (t * 144 + c)) → ∀ m, m ≤ n → b_foN fol' s j m = b_foN fol s j m
  | n, h1, h2, 0, _ => rfl
  | n, h1, h2, m + 1, hm => by
    rw [b_foN, b_foN, b_foN_e hN n h1 h2 m (by omega), h2 (s + m) _ (by omega) (by have := h1 m (by omega); omega)]
theorem nI_ne_m1 {k : Nat} (hk : k < 2147483648) : ¬ nI k = -1 := fun q => by
  have := congrArg Int32.toInt q
  rw [nI_toInt (by omega), l_m1] at this
  omega
theorem b_stage {w d a0 a1 s n i : Nat} {lx ly lf fol fol' : Nat → Int32} {E : Nat → Nat → Nat} {LW : Nat → Nat} {CF CL : Int32} {CW : Nat} (hw : 0 < w) (hN : w * d ≤ 144) (hE : ∀ t j, E t j ≤ 10200) (hn : n ≤ 12) (hi : i < w * d)
    (D : b_D (w * d) E (b_V w a0 a1 lx ly) n (s + 1) lf LW fol) (inv : b_inv w d a0 a1 lx ly s i lf LW (b_bef 0 2) CF CW CL) (h1 : fol' (s * 144 + i) = CL) (h2 : ∀ t c, s + 1 ≤ t → c < 144 → fol' (t * 144 + c) = fol (t * 144 + c)) :
    (CF = -1 ∧ ¬ ∃ q : Nat → Nat, q s = i ∧ b_ok (w * d) (b_V w a0 a1 lx ly) s (n + 1) q) ∨ (¬ CF = -1 ∧ CF + nI (E s i) = nI (b_fl E s (b_pa fol' s i) (n + 1)) ∧ CW = b_wy (b_V w a0 a1 lx ly) s (b_pa fol' s i) (n + 1) ∧ b_from (w * d) E (b_V w a0 a1 lx ly) s (n + 1) i (b_pa fol' s i) ∧ ∀ m, m < n + 1 → fol' ((s + m) * 144 + b_foN fol' s i m) = nI (b_foN fol' s i (m + 1))) := by
  have flb : ∀ (k : Nat) (p : Nat → Nat), b_fl E k p n < 2147483648 := fun k p => by
    have := b_fl_le (k := k) (p := p) (B := 10200) hE n
    have := Nat.mul_le_mul (show n + 1 ≤ 13 by omega) (Nat.le_refl 10200)
    omega
  have bef : ∀ a b : Int, -1 ≤ a ∧ a ≤ 1 → -1 ≤ b ∧ b ≤ 1 → b_bef 0 2 a b := fun a b ha hb => ⟨ha, hb, by omega⟩
  rcases inv with ⟨c1, c2, c3, c4⟩ | ⟨j, j1, j2, j3, c1, c2, c3, -, c4⟩
  · refine Or.inl ⟨c1, fun ⟨q, hq, oq⟩ => ?_⟩
    obtain ⟨o1, o2, o3⟩ := b_ok_c.mp oq
    rw [hq] at o2
    have hj := o3.1 0 (Nat.zero_le _)
    rw [Nat.add_zero] at hj
    obtain ⟨a, b, ha, hb, ho⟩ := b_V_ex (d := d) hw hj o2
    have hl := c4 a b (bef a b ha hb) _ ho o2
    rcases D _ hj with ⟨_, d2⟩ | ⟨d1, _⟩
    · exact d2 ⟨q, rfl, o3⟩
    · rw [hl] at d1
      exact nI_ne_m1 (flb _ _) d1.symm
  · have Dj : ∀ j', j' < w * d → ¬ lf j' = -1 → lf j' = nI (b_fl E (s + 1) (b_pa fol (s + 1) j') n) ∧ LW j' = b_wy (b_V w a0 a1 lx ly) (s + 1) (b_pa fol (s + 1) j') n ∧ b_from (w * d) E (b_V w a0 a1 lx ly) (s + 1) n j' (b_pa fol (s + 1) j') ∧ (∀ m, m < n → fol ((s + 1 + m) * 144 + b_foN fol (s + 1) j' m) = nI (b_foN fol (s + 1) j' (m + 1))) := fun j' hj' hl => by
      rcases D j' hj' with ⟨d1, _⟩ | d1
      · exact absurd d1 hl
      · exact d1
    obtain ⟨d1, d2, d3, d4⟩ := Dj j j1 j3
    have p0 : b_pa fol' s i s = i := by unfold b_pa; rw [Nat.sub_self]; rfl
    have hjc : (fol' (s * 144 + i)).toNatClampNeg = j := by rw [h1, c3]; exact nI_clamp (by omega)
    have pe : b_eq (s + 1) n (b_pa fol (s + 1) j) (b_pa fol' s i) := fun m hm => by
      unfold b_pa
      rw [show s + 1 + m - (s + 1) = m by omega, show s + 1 + m - s = m + 1 by omega, b_foN_c, hjc]
      refine (b_foN_e (N := w * d) hN n (fun m hm => ?_) h2 m hm).symm
      have := d3.2.1.1 m (by omega)
      unfold b_pa at this
      rwa [show s + 1 + m - (s + 1) = m by omega] at this
    have p1 : b_pa fol' s i (s + 1) = j := by
      have := pe 0 (Nat.zero_le _)
      rw [Nat.add_zero] at this
      rw [← this]
      exact d3.1
    have fe := b_fl_e (E := E) n pe
    have we := b_wy_e (V := b_V w a0 a1 lx ly) n pe
    have cell : ∀ m, m ≤ n → b_foN fol (s + 1) j m < w * d := fun m hm => by
      have := d3.2.1.1 m hm
      unfold b_pa at this
      rwa [show s + 1 + m - (s + 1) = m by omega] at this
    have fe' := b_foN_e (N := w * d) (s := s + 1) (j := j) hN n (fun m hm => cell m (by omega)) h2
    refine Or.inr ⟨by rw [c1]; exact j3, ?_, ?_, ?_, fun m hm => ?_⟩
    · rw [c1, d1, b_fl_c, p0, fe, nI_add, Nat.add_comm]
    · rw [c2, b_wy_c, p0, p1, d2, we, Nat.mul_comm]
    · refine b_back hi p0 p1 j2 (b_from_eq pe d3) (fun j' p' hp' hv' => ?_) (fun j' ⟨q, hq, oq⟩ => ?_)
      · have hj' : j' < w * d := by
          have := hp'.2.1.1 0 (Nat.zero_le _)
          rw [Nat.add_zero, hp'.1] at this
          exact this
        have hl' : ¬ lf j' = -1 := by
          rcases D j' hj' with ⟨_, y2⟩ | ⟨y1, _⟩
          · exact absurd ⟨p', hp'.1, hp'.2.1⟩ y2
          · rw [y1]; exact nI_ne_m1 (flb _ _)
        obtain ⟨y1, y2, y3, -⟩ := Dj j' hj' hl'
        have same := b_one (y3.2.2 p' hp'.1 hp'.2.1) (hp'.2.2 _ y3.1 y3.2.1)
        obtain ⟨a, b, ha, hb, ho⟩ := b_V_ex (d := d) hw hj' hv'
        have := c4 a b (bef a b ha hb) j' ho hv' hl'
        rw [d1, d2, y1, y2, nI_toInt (flb _ _), nI_toInt (flb _ _), b_fl_e n same, b_wy_e n same, fe, we] at this
        omega
      · have hj' : j' < w * d := by
          have := oq.1 0 (Nat.zero_le _)
          rw [Nat.add_zero, hq] at this
          exact this
        rcases D j' hj' with ⟨_, y2⟩ | ⟨_, _, y3, _⟩
        · exact absurd ⟨q, hq, oq⟩ y2
        · exact ⟨_, y3⟩
    · cases m with
      | zero =>
        rw [b_foN_c, hjc, Nat.add_zero]
        exact h1.trans c3
      | succ m =>
        rw [b_foN_c, b_foN_c, hjc, fe' m (by omega), fe' (m + 1) (by omega), show s + (m + 1) = s + 1 + m by omega, h2 (s + 1 + m) _ (by omega) (by have := cell m (by omega); omega)]
        exact d4 m (by omega)
