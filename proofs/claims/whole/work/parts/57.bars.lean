/-! BARS: sets of one, two, three RULES as numbers -/
section BARS
def p2 (a : Int) : Int := ((2 ^ a.toNat : Nat) : Int)
theorem p2_s {a : Int} (h : 0 ≤ a) : p2 (a + 1) = 2 * p2 a := by
  unfold p2
  rw [show (a + 1).toNat = a.toNat + 1 by omega, Nat.pow_succ]
  omega
theorem p2_0 : p2 0 = 1 := rfl
theorem p2_pos (a : Int) : 0 < p2 a := by
  unfold p2
  have : 0 < 2 ^ a.toNat := Nat.two_pow_pos _
  omega
theorem p2_le {a b : Int} (h0 : 0 ≤ a) (h : a ≤ b) : p2 a ≤ p2 b := by
  unfold p2
  have : 2 ^ a.toNat ≤ 2 ^ b.toNat := Nat.pow_le_pow_right (by omega) (by omega)
  omega
theorem p2_lt {a b : Int} (h0 : 0 ≤ a) (h : a < b) : 2 * p2 a ≤ p2 b := by
  rw [← p2_s h0]
  exact p2_le (by omega) (by omega)
/-- the number of a set: a; a, b; or a, b, c -/
def sOf (m a b c : Int) : Int := p2 a + (if 1 < m then p2 b else 0) + (if 2 < m then p2 c else 0)
def vs (m a b c : Int) : Prop := (0 ≤ a ∧ a < 24) ∧ (1 < m → a < b ∧ b < 24) ∧ (¬ 1 < m → b = 23) ∧ (2 < m → b < c ∧ c < 24) ∧ (¬ 2 < m → c = 23)
theorem set1 : ∀ a : Fin 24, ior (ior (ishl 1 ((a.val : Nat) : Int)) 0) 0 = ((2 ^ a.val : Nat) : Int) := by decide +kernel
theorem set2 : ∀ a b : Fin 24, a < b → ior (ior (ishl 1 ((a.val : Nat) : Int)) (ishl 1 ((b.val : Nat) : Int))) 0 = ((2 ^ a.val : Nat) : Int) + ((2 ^ b.val : Nat) : Int) := by decide +kernel
theorem set3 : ∀ a b c : Fin 24, a < b → b < c → ior (ior (ishl 1 ((a.val : Nat) : Int)) (ishl 1 ((b.val : Nat) : Int))) (ishl 1 ((c.val : Nat) : Int)) = ((2 ^ a.val : Nat) : Int) + ((2 ^ b.val : Nat) : Int) + ((2 ^ c.val : Nat) : Int) := by decide +kernel
theorem set_1 {m a b c : Int} (h : vs m a b c) (hm : m ≤ 1) : ior (ior (ishl 1 a) 0) 0 = sOf m a b c := by
  obtain ⟨⟨h1, h2⟩, -⟩ := h
  obtain ⟨x, rfl⟩ := Int.eq_ofNat_of_zero_le h1
  have e := set1 ⟨x, by omega⟩
  unfold sOf p2
  rw [if_neg (by omega), if_neg (by omega)]
  simpa using e
theorem set_2 {m a b c : Int} (h : vs m a b c) (hm : 1 < m) (hm2 : m ≤ 2) : ior (ior (ishl 1 a) (ishl 1 b)) 0 = sOf m a b c := by
  obtain ⟨⟨h1, h2⟩, h3, -⟩ := h
  have h4 := h3 hm
  obtain ⟨x, rfl⟩ := Int.eq_ofNat_of_zero_le h1
  obtain ⟨y, rfl⟩ := Int.eq_ofNat_of_zero_le (show 0 ≤ b by omega)
  have e := set2 ⟨x, by omega⟩ ⟨y, by omega⟩ (by show x < y; omega)
  unfold sOf p2
  rw [if_pos (by omega), if_neg (by omega)]
  simpa using e
theorem set_3 {m a b c : Int} (h : vs m a b c) (hm : 2 < m) : ior (ior (ishl 1 a) (ishl 1 b)) (ishl 1 c) = sOf m a b c := by
  obtain ⟨⟨h1, h2⟩, h3, -, h5, -⟩ := h
  have h4 := h3 (by omega)
  have h6 := h5 hm
  obtain ⟨x, rfl⟩ := Int.eq_ofNat_of_zero_le h1
  obtain ⟨y, rfl⟩ := Int.eq_ofNat_of_zero_le (show 0 ≤ b by omega)
  obtain ⟨z, rfl⟩ := Int.eq_ofNat_of_zero_le (show 0 ≤ c by omega)
  have e := set3 ⟨x, by omega⟩ ⟨y, by omega⟩ ⟨z, by omega⟩ (by show x < y; omega) (by show y < z; omega)
  unfold sOf p2
  rw [if_pos (by omega), if_pos (by omega)]
  exact e
theorem sOf_pos {m a b c : Int} : 0 < sOf m a b c := by
  have h1 := p2_pos a; have h2 := p2_pos b; have h3 := p2_pos c
  unfold sOf
  split <;> split <;> omega
theorem sOf_top {m a b c : Int} (h : vs m a b c) : sOf m a b c < 16777216 * 2 := by
  obtain ⟨⟨h1, h2⟩, h3, h4, h5, h6⟩ := h
  have e : p2 24 = 16777216 := by decide
  have a1 := p2_lt h1 h2
  unfold sOf
  split
  · rename_i q
    have q3 := h3 q
    have b1 := p2_lt (a := b) (b := 24) (by omega) (by omega)
    have b2 := p2_lt (a := a) (b := b) (by omega) (by omega)
    split
    · rename_i q'
      have q4 := h5 q'
      have c1 := p2_lt (a := c) (b := 24) (by omega) (by omega)
      omega
    · omega
  · split
    · omega
    · omega
/-- an agreement that can be freed -/
def agG (g : Gm) (r : Int) : Prop := r < g 10 1 ∧ g 7 r = 1
def agS (g : Gm) (m a b c : Int) : Prop := agG g a ∧ (1 < m → agG g b) ∧ (2 < m → agG g c)
/-- a set of m agreements without which it is READ -/
def fr (g : Gm) (w : Int → Int) (n m S : Int) : Prop := ∃ a b c, vs m a b c ∧ agS g m a b c ∧ S = sOf m a b c ∧ READ g (hasb S) w n
def barsV (g : Gm) (w : Int → Int) (n z : Int) : Prop :=
  (∃ m, 1 ≤ m ∧ m ≤ 3 ∧ (∀ m', 1 ≤ m' → m' < m → ∀ S, ¬ fr g w n m' S) ∧ fr g w n m z ∧ ∀ S, fr g w n m S → z ≤ S) ∨ (z = -4 ∧ ∀ m, 1 ≤ m → m ≤ 3 → ∀ S, ¬ fr g w n m S)
theorem barsV_one {g : Gm} {w : Int → Int} {n z z' : Int} (h : barsV g w n z) (h' : barsV g w n z') : z = z' := by
  rcases h with ⟨m, m1, m2, m3, m4, m5⟩ | ⟨rfl, q⟩
  · rcases h' with ⟨k, k1, k2, k3, k4, k5⟩ | ⟨rfl, q'⟩
    · rcases Int.lt_trichotomy m k with e | e | e
      · exact absurd m4 (k3 m m1 e z)
      · subst e
        exact Int.le_antisymm (m5 _ k4) (k5 _ m4)
      · exact absurd k4 (m3 k k1 e z')
    · exact absurd m4 (q' m m1 m2 z)
  · rcases h' with ⟨k, k1, k2, k3, k4, k5⟩ | ⟨rfl, q'⟩
    · exact absurd k4 (q k k1 k2 z')
    · rfl
/-- the least so far -/
def bst (g : Gm) (w : Int → Int) (n m : Int) (D : Int → Int → Int → Prop) (best : Int) : Prop :=
  (best = -4 ∨ fr g w n m best) ∧ ∀ a b c, vs m a b c → D a b c → agS g m a b c → READ g (hasb (sOf m a b c)) w n → best ≠ -4 ∧ best ≤ sOf m a b c
variable {g : Gm} {w : Int → Int} {n m best : Int} {D D' : Int → Int → Int → Prop}
theorem bst_0 (hD : ∀ a b c, vs m a b c → ¬ D a b c) : bst g w n m D (-4) := ⟨Or.inl rfl, fun a b c h1 h2 => absurd h2 (hD a b c h1)⟩
theorem bst_sub (h : bst g w n m D best) (hD : ∀ a b c, vs m a b c → D' a b c → D a b c) : bst g w n m D' best := ⟨h.1, fun a b c h1 h2 => h.2 a b c h1 (hD a b c h1 h2)⟩
theorem bst_no {a b c : Int} (h : bst g w n m D best) (hn : ¬ agS g m a b c) (hD : ∀ a' b' c', vs m a' b' c' → D' a' b' c' → D a' b' c' ∨ (a' = a ∧ b' = b ∧ c' = c)) : bst g w n m D' best := by
  refine ⟨h.1, fun a' b' c' h1 h2 h3 h4 => ?_⟩
  rcases hD a' b' c' h1 h2 with q | ⟨rfl, rfl, rfl⟩
  · exact h.2 a' b' c' h1 q h3 h4
  · exact absurd h3 hn
theorem bst_try {a b c z : Int} (h : bst g w n m D best) (hv : vs m a b c) (ha : agS g m a b c) (hz : (z = sOf m a b c ∧ (best = -4 ∨ sOf m a b c < best) ∧ READ g (hasb (sOf m a b c)) w n) ∨ (z = best ∧ ((best ≠ -4 ∧ best ≤ sOf m a b c) ∨ ¬ READ g (hasb (sOf m a b c)) w n))) (hD : ∀ a' b' c', vs m a' b' c' → D' a' b' c' → D a' b' c' ∨ (a' = a ∧ b' = b ∧ c' = c)) : bst g w n m D' z := by
  rcases hz with ⟨rfl, z1, z2⟩ | ⟨rfl, z1⟩
  · refine ⟨Or.inr ⟨a, b, c, hv, ha, rfl, z2⟩, fun a' b' c' h1 h2 h3 h4 => ?_⟩
    have hp := sOf_pos (m := m) (a := a) (b := b) (c := c)
    refine ⟨by omega, ?_⟩
    rcases hD a' b' c' h1 h2 with q | ⟨rfl, rfl, rfl⟩
    · have := h.2 a' b' c' h1 q h3 h4
      rcases z1 with z1 | z1
      · exact absurd z1 this.1
      · omega
    · exact Int.le_refl _
  · refine ⟨h.1, fun a' b' c' h1 h2 h3 h4 => ?_⟩
    rcases hD a' b' c' h1 h2 with q | ⟨rfl, rfl, rfl⟩
    · exact h.2 a' b' c' h1 q h3 h4
    · rcases z1 with z1 | z1
      · exact z1
      · exact absurd h4 z1
theorem bst_end (h : bst g w n m D best) (hD : ∀ a b c, vs m a b c → D a b c) : (best = -4 ∧ ∀ S, ¬ fr g w n m S) ∨ (best ≠ -4 ∧ fr g w n m best ∧ ∀ S, fr g w n m S → best ≤ S) := by
  by_cases hb : best = -4
  · refine Or.inl ⟨hb, ?_⟩
    rintro S ⟨a, b, c, h1, h2, rfl, h4⟩
    exact (h.2 a b c h1 (hD a b c h1) h2 h4).1 hb
  · refine Or.inr ⟨hb, h.1.resolve_left hb, ?_⟩
    rintro S ⟨a, b, c, h1, h2, rfl, h4⟩
    exact (h.2 a b c h1 (hD a b c h1) h2 h4).2
end BARS
