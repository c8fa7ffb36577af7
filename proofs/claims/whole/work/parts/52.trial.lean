/-! the reference's trial grammar -/
section TRIAL
def trC (f3 f4 f5 f6 f7 : Int → Int) (g : Gm) : Prop := f3 1 = g 10 0 ∧ f5 1 = g 10 1 ∧ (∀ w, 0 ≤ w → w < g 10 0 → f4 (64 + 4 * w) = g 0 w ∧ f4 (64 + 4 * w + 1) = g 1 w ∧ f4 (64 + 4 * w + 2) = g 2 w ∧ f4 (64 + 4 * w + 3) = g 3 w) ∧
  (∀ r, 0 ≤ r → r < g 10 1 → f6 (120 + 5 * r) = g 4 r ∧ f6 (120 + 5 * r + 1) = g 5 r ∧ f6 (120 + 5 * r + 2) = g 6 r ∧ f6 (120 + 5 * r + 3) = g 7 r ∧ f6 (120 + 5 * r + 4) = g 8 r) ∧ (∀ c, 0 ≤ c → c < 5 → f7 (5 + c) = g 9 c)
theorem okG_00 : okG g00 := by
  refine ⟨by decide, by decide, fun w w1 w2 => ?_, fun r r1 r2 => ?_, fun c c1 c2 => ?_⟩
  · have : w < 0 := w2; omega
  · have : r < 0 := r2; omega
  · rcases (show c = 0 ∨ c = 1 ∨ c = 2 ∨ c = 3 ∨ c = 4 by omega) with rfl | rfl | rfl | rfl | rfl <;> decide
theorem okG_W {t : Int → Int} {L p : Int} {g : Gm} (h : okG g) (hw : isW t L p g) : okG (gW t L p g) := by
  obtain ⟨-, hs, l0, l1, l2, l3, hn⟩ := hw
  have r0 := (nv_rng (hs 0 (by omega))).1; have r1 := (nv_rng (hs 1 (by omega))).1; have r2 := (nv_rng (hs 2 (by omega))).1; have r3 := (nv_rng (hs 3 (by omega))).1
  obtain ⟨h1, h2, h3, h4, h5⟩ := h
  refine ⟨?_, h2, fun w w1 w2 => ?_, h4, h5⟩
  · show 0 ≤ up (g 10) 0 (g 10 0 + 1) 0 ∧ up (g 10) 0 (g 10 0 + 1) 0 ≤ 16
    rw [up_eq]; omega
  · have w3 : w < up (g 10) 0 (g 10 0 + 1) 0 := w2
    rw [up_eq] at w3
    show (0 ≤ up (g 0) (g 10 0) _ w ∧ up (g 0) (g 10 0) _ w ≤ 9) ∧ (0 ≤ up (g 1) (g 10 0) _ w ∧ up (g 1) (g 10 0) _ w ≤ 3) ∧ (0 ≤ up (g 2) (g 10 0) _ w ∧ up (g 2) (g 10 0) _ w ≤ 15) ∧ (0 ≤ up (g 3) (g 10 0) _ w ∧ up (g 3) (g 10 0) _ w ≤ 15)
    by_cases hq : w = g 10 0
    · subst hq; simp only [up_eq]; omega
    · simp only [up_ne _ _ hq]; exact h3 w w1 (by omega)
theorem okG_R {t : Int → Int} {L p : Int} {g : Gm} (h : okG g) (hw : isR t L p g) : okG (gRu t L p g) := by
  obtain ⟨-, hs, l0, l1, l2, l3, l4, hn⟩ := hw
  have r0 := (nv_rng (hs 0 (by omega))).1; have r1 := (nv_rng (hs 1 (by omega))).1; have r2 := (nv_rng (hs 2 (by omega))).1; have r3 := (nv_rng (hs 3 (by omega))).1; have r4 := (nv_rng (hs 4 (by omega))).1
  obtain ⟨h1, h2, h3, h4, h5⟩ := h
  refine ⟨h1, ?_, h3, fun w w1 w2 => ?_, h5⟩
  · show 0 ≤ up (g 10) 1 (g 10 1 + 1) 1 ∧ up (g 10) 1 (g 10 1 + 1) 1 ≤ 24
    rw [up_eq]; omega
  · have w3 : w < up (g 10) 1 (g 10 1 + 1) 1 := w2
    rw [up_eq] at w3
    show (0 ≤ up (g 4) (g 10 1) _ w ∧ up (g 4) (g 10 1) _ w ≤ 9) ∧ (0 ≤ up (g 5) (g 10 1) _ w ∧ up (g 5) (g 10 1) _ w ≤ 9) ∧ (0 ≤ up (g 6) (g 10 1) _ w ∧ up (g 6) (g 10 1) _ w ≤ 9) ∧ (0 ≤ up (g 7) (g 10 1) _ w ∧ up (g 7) (g 10 1) _ w ≤ 1) ∧ (0 ≤ up (g 8) (g 10 1) _ w ∧ up (g 8) (g 10 1) _ w ≤ 1)
    by_cases hq : w = g 10 1
    · subst hq; simp only [up_eq]; omega
    · simp only [up_ne _ _ hq]; exact h4 w w1 (by omega)
theorem okG_P {t : Int → Int} {L p : Int} {g : Gm} (h : okG g) (hw : isP t L p) : okG (gP t L p g) := by
  obtain ⟨-, hs, l0⟩ := hw
  have r1 := nv_rng (hs 1 (by omega))
  obtain ⟨h1, h2, h3, h4, h5⟩ := h
  refine ⟨h1, h2, h3, h4, fun w w1 w2 => ?_⟩
  show 0 ≤ up (g 9) _ _ w ∧ up (g 9) _ _ w ≤ 99
  by_cases hq : w = nv t L (np t L (p + 1) 0)
  · rw [hq, up_eq]; exact r1
  · rw [up_ne _ _ hq]; exact h5 w w1 w2
theorem trC_W {t : Int → Int} {L p : Int} {g : Gm} {f3 f4 f5 f6 f7 f3' f4' : Int → Int} (h : trC f3 f4 f5 f6 f7 g) (hG : okG g) (h3 : f3' 1 = f3 1 + 1)
    (h4 : ∀ k : Nat, k < 4 → f4' (64 + 4 * f3 1 + k) = nv t L (np t L (p + 1) k)) (h4' : ∀ i, i < 64 + 4 * f3 1 → f4' i = f4 i) : trC f3' f4' f5 f6 f7 (gW t L p g) := by
  obtain ⟨c1, c2, c3, c4, c5⟩ := h
  have n1 := hG.1
  refine ⟨?_, c2, fun w w1 w2 => ?_, c4, c5⟩
  · show f3' 1 = up (g 10) 0 (g 10 0 + 1) 0
    rw [up_eq]; omega
  · have w3 : w < up (g 10) 0 (g 10 0 + 1) 0 := w2
    rw [up_eq] at w3
    show f4' (64 + 4 * w) = up (g 0) (g 10 0) _ w ∧ f4' (64 + 4 * w + 1) = up (g 1) (g 10 0) _ w ∧ f4' (64 + 4 * w + 2) = up (g 2) (g 10 0) _ w ∧ f4' (64 + 4 * w + 3) = up (g 3) (g 10 0) _ w
    by_cases hq : w = g 10 0
    · subst hq
      simp only [up_eq]
      rw [c1] at h4
      have a0 := h4 0 (by omega); have a1 := h4 1 (by omega); have a2 := h4 2 (by omega); have a3 := h4 3 (by omega)
      refine ⟨?_, a1, a2, a3⟩
      rw [← a0]; simp
    · simp only [up_ne _ _ hq]
      rw [h4' _ (by omega), h4' _ (by omega), h4' _ (by omega), h4' _ (by omega)]
      exact c3 w w1 (by omega)
theorem trC_R {t : Int → Int} {L p : Int} {g : Gm} {f3 f4 f5 f6 f7 f5' f6' : Int → Int} (h : trC f3 f4 f5 f6 f7 g) (hG : okG g) (h3 : f5' 1 = f5 1 + 1)
    (h4 : ∀ k : Nat, k < 5 → f6' (120 + 5 * f5 1 + k) = nv t L (np t L (p + 1) k)) (h4' : ∀ i, i < 120 + 5 * f5 1 → f6' i = f6 i) : trC f3 f4 f5' f6' f7 (gRu t L p g) := by
  obtain ⟨c1, c2, c3, c4, c5⟩ := h
  have n1 := hG.2.1
  refine ⟨c1, ?_, c3, fun w w1 w2 => ?_, c5⟩
  · show f5' 1 = up (g 10) 1 (g 10 1 + 1) 1
    rw [up_eq]; omega
  · have w3 : w < up (g 10) 1 (g 10 1 + 1) 1 := w2
    rw [up_eq] at w3
    show f6' (120 + 5 * w) = up (g 4) (g 10 1) _ w ∧ f6' (120 + 5 * w + 1) = up (g 5) (g 10 1) _ w ∧ f6' (120 + 5 * w + 2) = up (g 6) (g 10 1) _ w ∧ f6' (120 + 5 * w + 3) = up (g 7) (g 10 1) _ w ∧ f6' (120 + 5 * w + 4) = up (g 8) (g 10 1) _ w
    by_cases hq : w = g 10 1
    · subst hq
      simp only [up_eq]
      rw [c2] at h4
      have a0 := h4 0 (by omega); have a1 := h4 1 (by omega); have a2 := h4 2 (by omega); have a3 := h4 3 (by omega); have a4 := h4 4 (by omega)
      refine ⟨?_, a1, a2, a3, a4⟩
      rw [← a0]; simp
    · simp only [up_ne _ _ hq]
      rw [h4' _ (by omega), h4' _ (by omega), h4' _ (by omega), h4' _ (by omega), h4' _ (by omega)]
      exact c4 w w1 (by omega)
theorem trC_P {t : Int → Int} {L p : Int} {g : Gm} {f3 f4 f5 f6 f7 f7' : Int → Int} (h : trC f3 f4 f5 f6 f7 g)
    (h4 : ∀ c, 0 ≤ c → c < 5 → f7' (5 + c) = if c = nv t L (np t L (p + 1) 0) then nv t L (np t L (p + 1) 1) else f7 (5 + c)) : trC f3 f4 f5 f6 f7' (gP t L p g) := by
  obtain ⟨c1, c2, c3, c4, c5⟩ := h
  refine ⟨c1, c2, c3, c4, fun c d1 d2 => ?_⟩
  rw [h4 c d1 d2, c5 c d1 d2]
  rfl
theorem trC_00 {f3 f4 f5 f6 f7 : Int → Int} (h3 : f3 1 = 0) (h5 : f5 1 = 0) (h7 : ∀ c, 0 ≤ c → c < 5 → f7 (5 + c) = tb 600 c) : trC f3 f4 f5 f6 f7 g00 := ⟨h3, h5, fun w w1 w2 => by have : w < 0 := w2; omega, fun w w1 w2 => by have : w < 0 := w2; omega, h7⟩
end TRIAL
