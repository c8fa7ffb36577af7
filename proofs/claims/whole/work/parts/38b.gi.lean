/-! what a goOver keeps, with the cells that are laid already -/
section GJ
def belowP (Pc : Int → Int → Prop) (len : Int) (U V : Int → Int → Int → Int) : Prop := ∀ a b k, 0 ≤ a → a ≤ b → b ≤ len → Pc a b → 0 ≤ k → k < 40 → U a b k ≤ V a b k
def gJ (Pc : Int → Int → Prop) (g : Gm) (p : Int → Int) (qs : Int → Prop) (w : Int → Int) (len at0 : Int) (F f : Int → Int) (any : Int) : Prop :=
  (any = 0 ∨ any = 1) ∧ (∀ i, f i ≤ F i) ∧ (∀ i, (i < at0 ∨ at0 + 40 ≤ i) → f i = F i) ∧ (∀ i, 0 ≤ i → i < 4050 → 0 ≤ f i) ∧ (any = 0 → ∀ i, f i = F i) ∧ (any = 1 → ∃ i, at0 ≤ i ∧ i < at0 + 40 ∧ f i < F i) ∧
  ∀ U, clsd g p qs w len 100000 U → belowP Pc len U (tR F) → belowP Pc len U (tR f)
theorem gJ_0 {Pc : Int → Int → Prop} {g : Gm} {p : Int → Int} {qs : Int → Prop} {w : Int → Int} {len at0 : Int} {F : Int → Int} (h : ∀ i, 0 ≤ i → i < 4050 → 0 ≤ F i) : gJ Pc g p qs w len at0 F F 0 :=
  ⟨Or.inl rfl, fun _ => Int.le_refl _, fun _ _ => rfl, h, fun _ _ => rfl, fun q => by omega, fun _ _ q => q⟩
theorem gJ_s {Pc : Int → Int → Prop} {g : Gm} {p : Int → Int} {qs : Int → Prop} {w : Int → Int} {len a b i0 v z any : Int} {F f f' : Int → Int} (hI : gJ Pc g p qs w len (40 * (10 * a + b)) F f any) (hl : len ≤ 8) (ha : 0 ≤ a ∧ a ≤ b ∧ b ≤ len) (hi : 40 * (10 * a + b) ≤ i0 ∧ i0 < 40 * (10 * a + b) + 40) (hv : 0 ≤ v)
    (hn : ∀ i, i ≠ i0 → f' i = f i) (hz : (z = 0 ∧ f i0 ≤ v ∧ f' i0 = f i0) ∨ (z = 1 ∧ v < f i0 ∧ f' i0 = v))
    (hU : ∀ U, clsd g p qs w len 100000 U → belowP Pc len U (tR f) → U a b (i0 - 40 * (10 * a + b)) ≤ v) : gJ Pc g p qs w len (40 * (10 * a + b)) F f' (ior any z) := by
  obtain ⟨c1, c2, c3, c4, c5, c6, c7⟩ := hI
  have hz01 : z = 0 ∨ z = 1 := hz.elim (fun q => Or.inl q.1) (fun q => Or.inr q.1)
  have e := ior01 c1 hz01
  refine ⟨by omega, fun i => ?_, fun i hi2 => ?_, fun i h1 h2 => ?_, fun q i => ?_, fun q => ?_, fun U hc hb => ?_⟩
  · have := c2 i
    by_cases hq : i = i0
    · subst hq; omega
    · rw [hn i hq]; exact this
  · rw [hn i (by omega)]; exact c3 i hi2
  · by_cases hq : i = i0
    · subst hq; have := c4 i h1 h2; omega
    · rw [hn i hq]; exact c4 i h1 h2
  · have e2 := c5 (by omega) i
    by_cases hq : i = i0
    · subst hq; omega
    · rw [hn i hq]; exact e2
  · rcases e with e | e
    · omega
    · rcases e.2 with e1 | e1
      · obtain ⟨i, i1, i2, i3⟩ := c6 e1
        refine ⟨i, i1, i2, ?_⟩
        by_cases hq : i = i0
        · subst hq; omega
        · rw [hn i hq]; exact i3
      · have := c2 i0
        exact ⟨i0, hi.1, hi.2, by clear c6; omega⟩
  · have hb1 := c7 U hc hb
    intro a' b' k a1 a2 a3 hp a4 a5
    have := hb1 a' b' k a1 a2 a3 hp a4 a5
    have hu := hU U hc hb1
    unfold tR at this ⊢
    by_cases hq : 40 * (10 * a' + b') + k = i0
    · have ea : a' = a := by omega
      have eb : b' = b := by omega
      subst ea; subst eb
      rw [hq] at this ⊢
      rw [show i0 - 40 * (10 * a' + b') = k by omega] at hu
      omega
    · rw [hn _ hq]; exact this
end GJ
