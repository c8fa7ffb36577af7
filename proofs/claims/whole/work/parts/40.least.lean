/-! LEAST: more on tables -/
section LEAST
theorem sumN_lt {f g : Int → Int} : ∀ {n : Nat}, (∀ i : Int, 0 ≤ i → i < n → f i ≤ g i) → sumN f n ≤ sumN g n ∧ ((∃ i : Int, 0 ≤ i ∧ i < n ∧ f i < g i) → sumN f n < sumN g n)
  | 0, _ => ⟨Int.le_refl _, fun ⟨i, h1, h2, _⟩ => by omega⟩
  | n + 1, h => by
    obtain ⟨h1, h2⟩ := sumN_lt (n := n) (fun i h0 h1 => h i h0 (by omega))
    have h3 := h n (by omega) (by omega)
    simp only [sumN]
    refine ⟨by omega, fun ⟨i, i1, i2, i3⟩ => ?_⟩
    by_cases hi : i = n
    · subst hi; clear h2; omega
    · have := h2 ⟨i, i1, by omega, i3⟩
      omega
theorem cell_congr {g : Gm} {p : Int → Int} {qs : Int → Prop} {w : Int → Int} {D a b : Int} {U V : Int → Int → Int → Int} (hG : okG g) (h : ∀ x y k, a ≤ x → x ≤ y → y ≤ b → 0 ≤ k → k < 40 → V x y k = U x y k) (hab : a ≤ b) (hc : cell g p qs w D U a b) : cell g p qs w D V a b := by
  obtain ⟨c1, c2, c3, c4, c5⟩ := hc
  have hw : ∀ v, 0 ≤ v → v < g 10 0 → 0 ≤ 4 * g 0 v + g 1 v ∧ 4 * g 0 v + g 1 v < 40 := fun v v1 v2 => by
    have := hG.2.2.1 v v1 v2
    omega
  refine ⟨fun k k1 k2 => ?_, fun e v v1 v2 => ?_, fun e v v1 v2 => ?_, fun e k k1 k2 => ?_, fun m m1 m2 r r1 r2 y z y1 y2 z1 z2 hcc => ?_⟩
  · rw [h a b k (by omega) hab (by omega) k1 k2]; exact c1 k k1 k2
  · have := hw v v1 v2
    rw [h a b _ (by omega) hab (by omega) this.1 this.2]; exact c2 e v v1 v2
  · have := hw v v1 v2
    rw [h a b _ (by omega) hab (by omega) this.1 this.2]; exact c3 e v v1 v2
  · have := c4 e k k1 k2
    refine ⟨fun q => ?_, fun q => ?_⟩
    · rw [h a b k (by omega) hab (by omega) k1 k2, h (a + 1) b k (by omega) (by omega) (by omega) k1 k2]; exact this.1 q
    · rw [h a b k (by omega) hab (by omega) k1 k2, h a (b - 1) k (by omega) (by omega) (by omega) k1 k2]; exact this.2 q
  · have ok := hG.2.2.2.1 r r1 r2
    have hi : 0 ≤ 4 * g 4 r + (if g 8 r = 0 then y else z) ∧ 4 * g 4 r + (if g 8 r = 0 then y else z) < 40 := by split <;> omega
    rw [h a b _ (by omega) hab (by omega) hi.1 hi.2, h a m _ (by omega) m1 m2 (by omega) (by omega), h m b _ m1 m2 (by omega) (by omega) (by omega)]
    exact c5 m m1 m2 r r1 r2 y z y1 y2 z1 z2 hcc
theorem leafC_mono {g : Gm} {p : Int → Int} {q : Prop} {own a b : Int} {u v : Int → Int} (hG : okG g) (h : ∀ k, 0 ≤ k → k < 40 → v k ≤ u k) (hu : leafC g p q own a b u) : leafC g p q own a b v := by
  have hw : ∀ x, 0 ≤ x → x < g 10 0 → 0 ≤ 4 * g 0 x + g 1 x ∧ 4 * g 0 x + g 1 x < 40 := fun v v1 v2 => by
    have := hG.2.2.1 v v1 v2
    omega
  refine ⟨fun k k1 k2 => Int.le_trans (h k k1 k2) (hu.1 k k1 k2), fun e x x1 x2 => ?_, fun e x x1 x2 => ?_⟩
  · exact Int.le_trans (h _ (hw x x1 x2).1 (hw x x1 x2).2) (hu.2.1 e x x1 x2)
  · have e1 := h _ (hw x x1 x2).1 (hw x x1 x2).2
    obtain ⟨l1, l2⟩ := hu.2.2 e x x1 x2
    refine ⟨fun e2 => Int.le_trans e1 (l1 e2), fun e2 e3 => ?_⟩
    obtain ⟨m1, m2, m3⟩ := l2 e2 e3
    exact ⟨fun e4 => Int.le_trans e1 (m1 e4), fun e4 => Int.le_trans e1 (m2 e4), fun e4 => Int.le_trans e1 (m3 e4)⟩
/-- LEAST of a table: the least of the four MARKS of KIND 0 over all, or none by 99 -/
def lstOf (V : Int → Int → Int → Int) (len z : Int) : Prop := (∃ m, 0 ≤ m ∧ m < 4 ∧ z = V 0 len m ∧ z ≤ 99 ∧ ∀ q, 0 ≤ q → q < 4 → z ≤ V 0 len q) ∨ (z = -4 ∧ ∀ q, 0 ≤ q → q < 4 → 99 < V 0 len q)
theorem fitP_rng {n : Int} {p e : Int → Int} {c f : Int} (hn : 0 ≤ n ∧ n ≤ 60) (hp : 0 ≤ p c ∧ p c ≤ 99) : 0 ≤ fitP n p e c f ∧ fitP n p e c f ≤ 99 := by
  unfold fitP
  split
  · have h1 := cntE_le e c n.toNat
    have h2 := idiv9 (x := cntE e c n.toNat) (n := n) (by omega) (by omega)
    omega
  · exact hp
end LEAST
