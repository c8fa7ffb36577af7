/-! LEAST: tables that no change can lower, and the greatest of them -/
section COST
/-- what a WORD own may become for which price, as bounds of x -/
def lfB (g : Gm) (p : Int → Int) (q : Prop) (own w x : Int) : Prop :=
  (own = w → x ≤ 0) ∧ (own ≠ w → ¬ q → (g 2 own = g 2 w → x ≤ p 0) ∧ (g 3 own = g 3 w → x ≤ p 1) ∧ (g 0 own = g 0 w → x ≤ p 2))
/-- going out -/
def cB (p : Int → Int) (qs : Int → Prop) (U : Int → Int → Int → Int) (a b k : Int) : Prop :=
  (¬ qs a → U a b k ≤ U (a + 1) b k + p 3) ∧ (¬ qs (b - 1) → U a b k ≤ U a (b - 1) k + p 3)
/-- joining by a RULE -/
def cC (g : Gm) (U : Int → Int → Int → Int) (a b m r y z : Int) : Prop :=
  (g 7 r = 0 ∨ y = z) → U a b (4 * g 4 r + (if g 8 r = 0 then y else z)) ≤ U a m (4 * g 5 r + y) + U m b (4 * g 6 r + z)
/-- a cell that nothing lowers -/
def cell (g : Gm) (p : Int → Int) (qs : Int → Prop) (w : Int → Int) (D : Int) (U : Int → Int → Int → Int) (a b : Int) : Prop :=
  (∀ k, 0 ≤ k → k < 40 → U a b k ≤ D) ∧
  (a = b → ∀ v, 0 ≤ v → v < g 10 0 → U a b (4 * g 0 v + g 1 v) ≤ p 4) ∧
  (b = a + 1 → ∀ v, 0 ≤ v → v < g 10 0 → lfB g p (qs a) (w a) v (U a b (4 * g 0 v + g 1 v))) ∧
  (a < b → ∀ k, 0 ≤ k → k < 40 → cB p qs U a b k) ∧
  (∀ m, a ≤ m → m ≤ b → ∀ r, 0 ≤ r → r < g 10 1 → ∀ y z, 0 ≤ y → y < 4 → 0 ≤ z → z < 4 → cC g U a b m r y z)
def clsd (g : Gm) (p : Int → Int) (qs : Int → Prop) (w : Int → Int) (len D : Int) (U : Int → Int → Int → Int) : Prop := ∀ a b, 0 ≤ a → a ≤ b → b ≤ len → cell g p qs w D U a b
/-- U is not above V, in all cells -/
def below (len : Int) (U V : Int → Int → Int → Int) : Prop := ∀ a b k, 0 ≤ a → a ≤ b → b ≤ len → 0 ≤ k → k < 40 → U a b k ≤ V a b k
/-- the greatest closed table -/
def best (g : Gm) (p : Int → Int) (qs : Int → Prop) (w : Int → Int) (len D : Int) (V : Int → Int → Int → Int) : Prop := clsd g p qs w len D V ∧ ∀ U, clsd g p qs w len D U → below len U V
theorem clsd_mono {g : Gm} {p : Int → Int} {qs : Int → Prop} {w : Int → Int} {len D D' : Int} {U : Int → Int → Int → Int} (h : clsd g p qs w len D U) (hD : D ≤ D') : clsd g p qs w len D' U := fun a b h1 h2 h3 =>
  ⟨fun k k1 k2 => Int.le_trans ((h a b h1 h2 h3).1 k k1 k2) hD, (h a b h1 h2 h3).2⟩
/-- two greatest ones with two tops: the lower top cuts -/
theorem best_two {g : Gm} {p : Int → Int} {qs : Int → Prop} {w : Int → Int} {len D D' : Int} {V V' : Int → Int → Int → Int} (hp : ∀ c, 0 ≤ c → c < 5 → 0 ≤ p c) (hG : okG g) (hD : 0 ≤ D ∧ D ≤ D') (h : best g p qs w len D V) (h' : best g p qs w len D' V') (hn : ∀ a b k, 0 ≤ a → a ≤ b → b ≤ len → 0 ≤ k → k < 40 → 0 ≤ V' a b k) :
    ∀ a b k, 0 ≤ a → a ≤ b → b ≤ len → 0 ≤ k → k < 40 → V a b k = min D (V' a b k) := by
  intro a b k h1 h2 h3 h4 h5
  have e1 := h'.2 V (clsd_mono h.1 hD.2) a b k h1 h2 h3 h4 h5
  have e2 := (h.1 a b h1 h2 h3).1 k h4 h5
  have hU : clsd g p qs w len D (fun a b k => min D (V' a b k)) := by
    intro a b h1 h2 h3
    obtain ⟨c1, c2, c3, c4, c5⟩ := h'.1 a b h1 h2 h3
    have p0 := hp 0 (by omega) (by omega); have p1 := hp 1 (by omega) (by omega); have p2 := hp 2 (by omega) (by omega); have p3 := hp 3 (by omega) (by omega)
    refine ⟨fun k _ _ => Int.min_le_left _ _, fun e v v1 v2 => ?_, fun e v v1 v2 => ?_, fun e k k1 k2 => ?_, fun m m1 m2 r r1 r2 y z y1 y2 z1 z2 => ?_⟩
    · have := c2 e v v1 v2
      show min D _ ≤ _
      omega
    · have := c3 e v v1 v2
      obtain ⟨l1, l2⟩ := this
      refine ⟨fun q => ?_, fun q q2 => ?_⟩
      · have := l1 q; show min D _ ≤ _; omega
      · obtain ⟨m1, m2, m3⟩ := l2 q q2
        refine ⟨fun q3 => ?_, fun q3 => ?_, fun q3 => ?_⟩
        · have := m1 q3; show min D _ ≤ _; omega
        · have := m2 q3; show min D _ ≤ _; omega
        · have := m3 q3; show min D _ ≤ _; omega
    · have := c4 e k k1 k2
      refine ⟨fun q => ?_, fun q => ?_⟩
      · have := this.1 q; show min D _ ≤ min D _ + _; omega
      · have := this.2 q; show min D _ ≤ min D _ + _; omega
    · intro hc
      have := c5 m m1 m2 r r1 r2 y z y1 y2 z1 z2 hc
      have ok := hG.2.2.2.1 r r1 r2
      have n1 := hn a m (4 * g 5 r + y) h1 m1 (by omega) (by omega) (by omega)
      have n2 := hn m b (4 * g 6 r + z) (by omega) m2 h3 (by omega) (by omega)
      show min D _ ≤ min D _ + min D _
      omega
  have e3 := h.2 _ hU a b k h1 h2 h3 h4 h5
  have e4 : min D (V' a b k) ≤ V a b k := e3
  omega
/-- the table in the reference's array -/
def tR (f : Int → Int) (a b k : Int) : Int := f (40 * (10 * a + b) + k)
theorem ior01 {a b : Int} (ha : a = 0 ∨ a = 1) (hb : b = 0 ∨ b = 1) : (ior a b = 0 ∧ a = 0 ∧ b = 0) ∨ (ior a b = 1 ∧ (a = 1 ∨ b = 1)) := by
  rcases ha with rfl | rfl <;> rcases hb with rfl | rfl
  · exact Or.inl ⟨by decide, rfl, rfl⟩
  · exact Or.inr ⟨by decide, Or.inr rfl⟩
  · exact Or.inr ⟨by decide, Or.inl rfl⟩
  · exact Or.inr ⟨by decide, Or.inl rfl⟩
end COST
