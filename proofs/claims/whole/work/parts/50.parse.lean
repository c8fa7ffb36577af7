/-! TEXTS: what an ITEM is, what a TEXT tells -/
section PARSE
/-- the place behind the number at p, and its value -/
def nq (t : Int → Int) (L p : Int) : Int := if p + 1 < L ∧ 48 ≤ t (p + 1) ∧ t (p + 1) ≤ 57 then p + 2 else p + 1
def nv (t : Int → Int) (L p : Int) : Int := if p + 1 < L ∧ 48 ≤ t (p + 1) ∧ t (p + 1) ≤ 57 then 10 * (t p - 48) + (t (p + 1) - 48) else t p - 48
/-- there is a number at p, and this sign behind it -/
def okN (t : Int → Int) (L p s : Int) : Prop := (p < L ∧ 48 ≤ t p ∧ t p ≤ 57) ∧ nq t L p < L ∧ t (nq t L p) = s
/-- where the k-th number behind p begins -/
def np (t : Int → Int) (L p : Int) : Nat → Int
  | 0 => p
  | k + 1 => nq t L (np t L p k) + 1
def okS (t : Int → Int) (L p : Int) (m : Nat) : Prop := ∀ k : Nat, k < m → okN t L (np t L p k) (if k + 1 < m then 44 else 59)
def Wok (t : Int → Int) (L q n : Int) : Prop := okS t L q 4 ∧ nv t L (np t L q 0) ≤ 9 ∧ nv t L (np t L q 1) ≤ 3 ∧ nv t L (np t L q 2) ≤ 15 ∧ nv t L (np t L q 3) ≤ 15 ∧ n < 16
def Rok (t : Int → Int) (L q n : Int) : Prop := okS t L q 5 ∧ nv t L (np t L q 0) ≤ 9 ∧ nv t L (np t L q 1) ≤ 9 ∧ nv t L (np t L q 2) ≤ 9 ∧ nv t L (np t L q 3) ≤ 1 ∧ nv t L (np t L q 4) ≤ 1 ∧ n < 24
def Pok (t : Int → Int) (L q : Int) : Prop := okS t L q 2 ∧ nv t L (np t L q 0) ≤ 4
def gAddW (g : Gm) (a b c d : Int) : Gm := fun i => match i with
  | 0 => up (g 0) (g 10 0) a
  | 1 => up (g 1) (g 10 0) b
  | 2 => up (g 2) (g 10 0) c
  | 3 => up (g 3) (g 10 0) d
  | 10 => up (g 10) 0 (g 10 0 + 1)
  | k => g k
def gAddR (g : Gm) (a b c d e : Int) : Gm := fun i => match i with
  | 4 => up (g 4) (g 10 1) a
  | 5 => up (g 5) (g 10 1) b
  | 6 => up (g 6) (g 10 1) c
  | 7 => up (g 7) (g 10 1) d
  | 8 => up (g 8) (g 10 1) e
  | 10 => up (g 10) 1 (g 10 1 + 1)
  | k => g k
def gPr (g : Gm) (a b : Int) : Gm := fun i => match i with
  | 9 => up (g 9) a b
  | k => g k
def g00 : Gm := fun i => match i with
  | 9 => tb 600
  | _ => fun _ => 0

/-- an ITEM at p, for a grammar so far: 1 WORD, 2 RULE, 3 PRICE, else none -/
def isW (t : Int → Int) (L p : Int) (g : Gm) : Prop := t p = 119 ∧ Wok t L (p + 1) (g 10 0)
def isR (t : Int → Int) (L p : Int) (g : Gm) : Prop := t p = 114 ∧ Rok t L (p + 1) (g 10 1)
def isP (t : Int → Int) (L p : Int) : Prop := t p = 112 ∧ Pok t L (p + 1)
def gW (t : Int → Int) (L p : Int) (g : Gm) : Gm := gAddW g (nv t L (np t L (p + 1) 0)) (nv t L (np t L (p + 1) 1)) (nv t L (np t L (p + 1) 2)) (nv t L (np t L (p + 1) 3))
def gRu (t : Int → Int) (L p : Int) (g : Gm) : Gm := gAddR g (nv t L (np t L (p + 1) 0)) (nv t L (np t L (p + 1) 1)) (nv t L (np t L (p + 1) 2)) (nv t L (np t L (p + 1) 3)) (nv t L (np t L (p + 1) 4))
def gP (t : Int → Int) (L p : Int) (g : Gm) : Gm := gPr g (nv t L (np t L (p + 1) 0)) (nv t L (np t L (p + 1) 1))
/-- reading from p with the grammar g comes to z with the grammar g' -/
def prs (t : Int → Int) (L : Int) : Nat → Int → Gm → Int → Gm → Prop
  | 0, _, _, _, _ => False
  | N + 1, p, g, z, g' => (L ≤ p ∧ z = -4 ∧ g' = g) ∨ (p < L ∧ isW t L p g ∧ prs t L N (np t L (p + 1) 4) (gW t L p g) z g') ∨ (p < L ∧ isR t L p g ∧ prs t L N (np t L (p + 1) 5) (gRu t L p g) z g') ∨
      (p < L ∧ isP t L p ∧ prs t L N (np t L (p + 1) 2) (gP t L p g) z g') ∨ (p < L ∧ ¬ isW t L p g ∧ ¬ isR t L p g ∧ ¬ isP t L p ∧ z = p ∧ g' = g)
/-- it comes to one end -/
theorem prs_one {t : Int → Int} {L : Int} : ∀ (N N' : Nat) (p : Int) (g : Gm) (z z' : Int) (g1 g2 : Gm), prs t L N p g z g1 → prs t L N' p g z' g2 → z = z' ∧ g1 = g2
  | 0, _, _, _, _, _, _, _, h, _ => absurd h id
  | N + 1, 0, _, _, _, _, _, _, _, h => absurd h id
  | N + 1, N' + 1, p, g, z, z', g1, g2, h, h' => by
    have dW : t p = 119 → ¬ t p = 114 ∧ ¬ t p = 112 := fun e => by omega
    rcases h with ⟨a1, a2, a3⟩ | ⟨a1, a2, a3⟩ | ⟨a1, a2, a3⟩ | ⟨a1, a2, a3⟩ | ⟨a1, a2, a3, a4, a5, a6⟩ <;> rcases h' with ⟨b1, b2, b3⟩ | ⟨b1, b2, b3⟩ | ⟨b1, b2, b3⟩ | ⟨b1, b2, b3⟩ | ⟨b1, b2, b3, b4, b5, b6⟩ <;>
      first
      | (exfalso; omega)
      | exact ⟨a2.trans b2.symm, a3.trans b3.symm⟩
      | exact prs_one N N' _ _ _ _ _ _ a3 b3
      | exact absurd a2 b2
      | exact absurd b2 a2
      | exact absurd a2 b3
      | exact absurd b2 a3
      | exact absurd a2 b4
      | exact absurd b2 a4
      | exact ⟨a5.trans b5.symm, a6.trans b6.symm⟩
      | (exfalso; have := a2.1; have := b2.1; omega)
theorem np_lt (t : Int → Int) (L p : Int) : ∀ k : Nat, p + 2 * k ≤ np t L p k
  | 0 => by simp [np]
  | k + 1 => by
    have := np_lt t L p k
    simp only [np, nq]
    split <;> omega
theorem nv_rng {t : Int → Int} {L p s : Int} (h : okN t L p s) : 0 ≤ nv t L p ∧ nv t L p ≤ 99 := by
  unfold nv
  obtain ⟨h1, -⟩ := h
  split <;> omega
theorem num_iff {t : Int → Int} {L P0 n s : Int} (hn : 0 ≤ n ∧ n ≤ 3) (hd : ∀ j, 0 ≤ j → j < n → P0 + j < L ∧ 48 ≤ t (P0 + j) ∧ t (P0 + j) ≤ 57) (hst : n = 3 ∨ ¬ (P0 + n < L ∧ 48 ≤ t (P0 + n) ∧ t (P0 + n) ≤ 57)) (hs : s = 44 ∨ s = 59) : okN t L P0 s ↔ (1 ≤ n ∧ n ≤ 2) ∧ P0 + n < L ∧ t (P0 + n) = s := by
  unfold okN nq
  have d0 := hd 0 (by omega); have d1 := hd 1 (by omega); have d2 := hd 2 (by omega)
  rw [Int.add_zero] at d0
  rcases (show n = 0 ∨ n = 1 ∨ n = 2 ∨ n = 3 by omega) with rfl | rfl | rfl | rfl
  · rw [Int.add_zero] at hst ⊢
    constructor
    · rintro ⟨h1, -⟩; omega
    · rintro ⟨h1, -⟩; omega
  · have e0 := d0 (by omega)
    rw [if_neg (by omega)]
    constructor
    · rintro ⟨-, h2⟩; exact ⟨by omega, h2⟩
    · rintro ⟨-, h2⟩; exact ⟨e0, h2⟩
  · have e0 := d0 (by omega)
    have e1 := d1 (by omega)
    rw [if_pos e1]
    constructor
    · rintro ⟨-, h2⟩; exact ⟨by omega, h2⟩
    · rintro ⟨-, h2⟩; exact ⟨e0, h2⟩
  · have e0 := d0 (by omega)
    have e1 := d1 (by omega)
    have e2 := d2 (by omega)
    rw [if_pos e1]
    constructor
    · rintro ⟨-, -, h2⟩; omega
    · rintro ⟨h1, -⟩; omega
theorem num_val {t : Int → Int} {L P0 n v : Int} (hn : 1 ≤ n ∧ n ≤ 2) (hd : ∀ j, 0 ≤ j → j < n → P0 + j < L ∧ 48 ≤ t (P0 + j) ∧ t (P0 + j) ≤ 57) (hst : n = 3 ∨ ¬ (P0 + n < L ∧ 48 ≤ t (P0 + n) ∧ t (P0 + n) ≤ 57)) (hv : (n = 1 → v = t P0 - 48) ∧ (n = 2 → v = 10 * (t P0 - 48) + (t (P0 + 1) - 48))) : nq t L P0 = P0 + n ∧ nv t L P0 = v := by
  unfold nq nv
  rcases (show n = 1 ∨ n = 2 by omega) with rfl | rfl
  · rw [if_neg (by omega), if_neg (by omega)]; exact ⟨rfl, (hv.1 rfl).symm⟩
  · have e1 := hd 1 (by omega) (by omega)
    rw [if_pos e1, if_pos e1]; exact ⟨rfl, (hv.2 rfl).symm⟩
end PARSE
