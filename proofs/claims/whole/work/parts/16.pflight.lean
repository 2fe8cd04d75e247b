/-! shares as numbers -/
section EXT
variable {G : pm_G} {M : pm_M} {zm : pm_z} {Φ : pm_F} {pc : Nat} {ls st : List Value} {z : pm_z} {h : pm_h} {g : pm_g}
theorem arrV_ext {c n : Nat} {f f' : Nat → Value} (he : ∀ j, j < n → f j = f' j) : arrV c n f = arrV c n f' := by
  unfold arrV
  congr 1
  apply Array.ext
  · simp
  · intro i h1 h2
    simp only [Array.getElem_ofFn]
    exact he i (by simpa using h1)
theorem pm_R.ext {n a : Nat} {c : pm_C} {H : Heap} (hR : pm_R G n h g H) (hc : pm_at G a (h a) (g a) H → pm_at G a c (g a) H) : pm_R G n (pm_up h a c) g H := by
  refine ⟨hR.1, fun b => ?_, hR.2.2⟩
  by_cases hb : b = a
  · subst hb
    rw [pm_up_s]
    exact hc (hR.2.1 b)
  · rw [pm_up_n _ _ hb]
    exact hR.2.1 b
theorem px_extl {a n : Nat} {f f' : Nat → Int64} (hc : h a = pm_la n f) (he : ∀ j, j < n → f j = f' j) (k : pm_W G M zm Φ pc ls st z (pm_up h a (pm_la n f')) g) : pm_W G M zm Φ pc ls st z h g := by
  intro p e R s m args below meth c H locs z0 lc X hR hL hlo a1 a2 a3 a4 a5 a6
  refine k p e R s m args below meth c H locs z0 lc X (hR.ext fun ha => ?_) hL hlo a1 a2 a3 a4 a5 a6
  rw [hc] at ha
  show H[_]? = some _
  rw [← arrV_ext (f := fun j => .long (f j)) (fun j hj => by rw [he j hj])]
  exact ha
theorem px_exti {a n kd : Nat} {f f' : Nat → Int32} (hc : h a = pm_ia kd n f) (he : ∀ j, j < n → f j = f' j) (k : pm_W G M zm Φ pc ls st z (pm_up h a (pm_ia kd n f')) g) : pm_W G M zm Φ pc ls st z h g := by
  intro p e R s m args below meth c H locs z0 lc X hR hL hlo a1 a2 a3 a4 a5 a6
  refine k p e R s m args below meth c H locs z0 lc X (hR.ext fun ha => ?_) hL hlo a1 a2 a3 a4 a5 a6
  rw [hc] at ha
  show H[_]? = some _
  rw [← arrV_ext (f := fun j => .int (f j)) (fun j hj => by rw [he j hj])]
  exact ha
end EXT
def m_L (S : Nat → Nat) : Nat → Int64 := fun j => lN (S j)
theorem m_L_upd {S : Nat → Nat} {t v : Nat} : vp_updL (m_L S) t (lN v) = m_L (fun j => if j = t then v else S j) := by
  funext j
  show (if j = t then lN v else lN (S j)) = lN (if j = t then v else S j)
  by_cases q : j = t
  · rw [if_pos q, if_pos q]
  · rw [if_neg q, if_neg q]
/-- the shares at a flight's begin -/
def m_init (n : Nat) (only : Int32) : Nat → Nat := fun j => if j < n ∧ (only = -1 ∨ nI j = only) then 1 else 0
/-- some share more at the cell t (none: -1) -/
def m_add (F : Nat → Nat) (t : Int) (v : Nat) : Nat → Nat := fun j => F j + if (j : Int) = t then v else 0
def m_wt (w0 w1 : Nat) (a b : Int) : Nat := (if a = 0 then w0 else w1) * (if b = 0 then w0 else w1)
def m_in (w d w0 w1 s : Nat) (X Y b : Int) (F : Nat → Nat) : Nat → Nat → Nat
  | 0 => F
  | i + 1 => m_add (m_in w d w0 w1 s X Y b F i) (m_off w d (X + ((i : Int) - 1)) (Y + b)) (s * m_wt w0 w1 ((i : Int) - 1) b)
def m_ou (w d w0 w1 s : Nat) (X Y : Int) (F : Nat → Nat) : Nat → Nat → Nat
  | 0 => F
  | k + 1 => m_in w d w0 w1 s X Y ((k : Int) - 1) (m_ou w d w0 w1 s X Y F k) 3
/-- what has come of the first c cells -/
def m_fl (w d w0 w1 : Nat) (dx dy : Int) (S : Nat → Nat) : Nat → Nat → Nat
  | 0 => fun _ => 0
  | c + 1 => m_ou w d w0 w1 (S c) ((c % w : Nat) + dx) ((c / w : Nat) + dy) (m_fl w d w0 w1 dx dy S c) 3
theorem m_add_0 {F : Nat → Nat} {t : Int} : m_add F t 0 = F := by
  funext j
  unfold m_add
  split <;> rfl
theorem m_in_0 {w d w0 w1 : Nat} {X Y b : Int} {F : Nat → Nat} : ∀ i, m_in w d w0 w1 0 X Y b F i = F
  | 0 => rfl
  | i + 1 => by rw [m_in, m_in_0 i, Nat.zero_mul, m_add_0]
theorem m_ou_0 {w d w0 w1 : Nat} {X Y : Int} {F : Nat → Nat} : ∀ i, m_ou w d w0 w1 0 X Y F i = F
  | 0 => rfl
  | i + 1 => by rw [m_ou, m_ou_0 i, m_in_0]
theorem m_add_hi {w d : Nat} {F : Nat → Nat} {X Y : Int} {v : Nat} (hF : ∀ j, w * d ≤ j → F j = 0) : ∀ j, w * d ≤ j → m_add F (m_off w d X Y) v j = 0 := by
  intro j hj
  have h1 := hF j hj
  have h2 := m_off_lt (w := w) (d := d) X Y
  unfold m_add
  rw [h1, if_neg (by omega)]
theorem m_in_hi {w d w0 w1 s : Nat} {X Y b : Int} {F : Nat → Nat} (hF : ∀ j, w * d ≤ j → F j = 0) : ∀ i, ∀ j, w * d ≤ j → m_in w d w0 w1 s X Y b F i j = 0
  | 0 => hF
  | i + 1 => m_add_hi (m_in_hi hF i)
theorem m_ou_hi {w d w0 w1 s : Nat} {X Y : Int} {F : Nat → Nat} (hF : ∀ j, w * d ≤ j → F j = 0) : ∀ i, ∀ j, w * d ≤ j → m_ou w d w0 w1 s X Y F i j = 0
  | 0 => hF
  | i + 1 => m_in_hi (m_ou_hi hF i) 3
theorem m_fl_hi {w d w0 w1 : Nat} {dx dy : Int} {S : Nat → Nat} : ∀ c, ∀ j, w * d ≤ j → m_fl w d w0 w1 dx dy S c j = 0
  | 0 => fun _ _ => rfl
  | c + 1 => m_ou_hi (m_fl_hi c) 3
def m_cnt (S : Nat → Nat) : Nat → Nat
  | 0 => 0
  | n + 1 => m_cnt S n + if 0 < S n then 1 else 0
theorem m_cnt_le (S : Nat → Nat) : ∀ n, m_cnt S n ≤ n
  | 0 => Nat.le_refl _
  | n + 1 => by
    have := m_cnt_le S n
    unfold m_cnt
    split <;> omega
theorem m_cnt_hi {S : Nat → Nat} {n : Nat} (hS : ∀ j, n ≤ j → S j = 0) : ∀ k, m_cnt S (n + k) = m_cnt S n
  | 0 => rfl
  | k + 1 => by
    rw [← Nat.add_assoc, m_cnt, m_cnt_hi hS k, if_neg (by rw [hS _ (by omega)]; omega)]
    rfl
def m_sum (S : Nat → Nat) : Nat → Nat
  | 0 => 0
  | n + 1 => m_sum S n + S n
theorem m_sum_hi {S : Nat → Nat} {n : Nat} (hS : ∀ j, n ≤ j → S j = 0) : ∀ k, m_sum S (n + k) = m_sum S n
  | 0 => rfl
  | k + 1 => by
    rw [← Nat.add_assoc, m_sum, m_sum_hi hS k, hS _ (by omega)]
    rfl
/-- the first greatest of 0 to n -/
def m_lk (S : Nat → Nat) : Nat → Nat
  | 0 => 0
  | n + 1 => if S (m_lk S n) < S (n + 1) then n + 1 else m_lk S n
theorem m_lk_le (S : Nat → Nat) : ∀ n, m_lk S n ≤ n
  | 0 => Nat.le_refl _
  | n + 1 => by
    have := m_lk_le S n
    unfold m_lk
    split <;> omega
theorem m_lk_hi {S : Nat → Nat} {n : Nat} (hS : ∀ j, n < j → S j = 0) : ∀ k, m_lk S (n + k) = m_lk S n
  | 0 => rfl
  | k + 1 => by
    rw [← Nat.add_assoc, m_lk, m_lk_hi hS k, if_neg (by rw [hS (n + k + 1) (by omega)]; omega)]
/-- the least or greatest x or y of the first cells with a share; -1: none yet -/
def m_ed (w : Nat) (S : Nat → Nat) (what : Nat) : Nat → Int
  | 0 => -1
  | c + 1 => if 0 < S c then
      (if m_ed w S what c = -1 ∨ (if what % 2 = 1 then m_ed w S what c < ((if what < 2 then c % w else c / w : Nat) : Int) else ((if what < 2 then c % w else c / w : Nat) : Int) < m_ed w S what c) then ((if what < 2 then c % w else c / w : Nat) : Int) else m_ed w S what c)
    else m_ed w S what c
theorem m_ed_bd {w : Nat} {S : Nat → Nat} {what : Nat} : ∀ c, -1 ≤ m_ed w S what c ∧ m_ed w S what c < c + 1
  | 0 => ⟨Int.le_refl _, by simp [m_ed]⟩
  | c + 1 => by
    have ih := m_ed_bd (w := w) (S := S) (what := what) c
    have h1 : c % w ≤ c := Nat.mod_le _ _
    have h2 : c / w ≤ c := Nat.div_le_self _ _
    have h3 : ((if what < 2 then c % w else c / w : Nat) : Int) ≤ c := by split <;> omega
    have h4 : 0 ≤ ((if what < 2 then c % w else c / w : Nat) : Int) := Int.natCast_nonneg _
    unfold m_ed
    split
    · split <;> omega
    · omega
theorem m_cw {w x y : Nat} (hx : x < w) : (w * y + x) % w = x ∧ (w * y + x) / w = y := by
  constructor
  · rw [Nat.mul_add_mod, Nat.mod_eq_of_lt hx]
  · rw [Nat.mul_add_div (by omega), Nat.div_eq_of_lt hx, Nat.add_zero]
theorem m_cnt_s (S : Nat → Nat) (n : Nat) : m_cnt S (n + 1) = m_cnt S n + if 0 < S n then 1 else 0 := rfl
theorem m_sum_s (S : Nat → Nat) (n : Nat) : m_sum S (n + 1) = m_sum S n + S n := rfl
theorem m_lk_s (S : Nat → Nat) (n : Nat) : m_lk S (n + 1) = if S (m_lk S n) < S (n + 1) then n + 1 else m_lk S n := rfl
theorem m_fl_s (w d w0 w1 : Nat) (dx dy : Int) (S : Nat → Nat) (c : Nat) : m_fl w d w0 w1 dx dy S (c + 1) = m_ou w d w0 w1 (S c) ((c % w : Nat) + dx) ((c / w : Nat) + dy) (m_fl w d w0 w1 dx dy S c) 3 := rfl
theorem m_ed_s (w : Nat) (S : Nat → Nat) (what c : Nat) : m_ed w S what (c + 1) = if 0 < S c then
      (if m_ed w S what c = -1 ∨ (if what % 2 = 1 then m_ed w S what c < ((if what < 2 then c % w else c / w : Nat) : Int) else ((if what < 2 then c % w else c / w : Nat) : Int) < m_ed w S what c) then ((if what < 2 then c % w else c / w : Nat) : Int) else m_ed w S what c)
    else m_ed w S what c := rfl
