/-! TREES COUNTED -/
section CNT
def nsum (F : Nat → Nat) : Nat → Nat
  | 0 => 0
  | n + 1 => nsum F n + F n
theorem nsum_congr {F F' : Nat → Nat} : ∀ {n : Nat}, (∀ i, i < n → F i = F' i) → nsum F n = nsum F' n
  | 0, _ => rfl
  | n + 1, h => by rw [nsum, nsum, nsum_congr (fun i hi => h i (by omega)), h n (by omega)]
/-- what a RULE r makes of the counts of two parts -/
def tm (g : Gm) (r k m : Int) (A B : Int → Nat) : Nat :=
  if g 4 r = k then (if g 7 r = 0 then (if g 8 r = 0 then A m * (B 0 + B 1 + B 2 + B 3) else (A 0 + A 1 + A 2 + A 3) * B m) else A m * B m) else 0
def cT (g : Gm) (w : Int → Int) : Nat → Int → Int → Int → Int → Nat
  | 0, _, _, _, _ => 0
  | N + 1, n, f, k, m => if n ≤ N then cT g w N n f k m else if N = 0 then (if g 0 (w f) = k ∧ g 1 (w f) = m then 1 else 0) else
      nsum (fun a => nsum (fun r => tm g r k m (cT g w N (a + 1) f (g 5 r)) (cT g w N (n - (a + 1)) (f + (a + 1)) (g 6 r))) (g 10 1).toNat) N
/-- how many TREES of a KIND with a MARK there are over n WORDS from f on -/
def cnt (g : Gm) (w : Int → Int) (n f k m : Int) : Nat := cT g w n.toNat n f k m
variable {g : Gm} {w : Int → Int}
theorem cT_eq : ∀ (N : Nat) (n f : Int), 1 ≤ n → n ≤ N → cT g w N n f = cnt g w n f
  | 0, n, f, h1, h2 => by omega
  | N + 1, n, f, h1, h2 => by
    by_cases hn : n ≤ N
    · rw [← cT_eq N n f h1 hn]
      funext k m
      rw [cT, if_pos hn]
    · have e : n.toNat = N + 1 := by omega
      funext k m
      unfold cnt
      rw [e]
theorem cnt_1 (f k m : Int) : cnt g w 1 f k m = if g 0 (w f) = k ∧ g 1 (w f) = m then 1 else 0 := by
  unfold cnt
  rw [show (1 : Int).toNat = 0 + 1 from rfl, cT, if_neg (by decide), if_pos rfl]
/-- the splits ahead of (a, r): a - 1 whole ones, then r RULES -/
def cP (g : Gm) (w : Int → Int) (n f : Int) (a r : Nat) (k m : Int) : Nat :=
  (if n = 1 then cnt g w 1 f k m else 0) + nsum (fun b => nsum (fun q => tm g q k m (cnt g w (b + 1) f (g 5 q)) (cnt g w (n - (b + 1)) (f + (b + 1)) (g 6 q))) (g 10 1).toNat) a + nsum (fun q => tm g q k m (cnt g w (a + 1) f (g 5 q)) (cnt g w (n - (a + 1)) (f + (a + 1)) (g 6 q))) r
theorem cP_0 (n f k m : Int) : cP g w n f 0 0 k m = if n = 1 then cnt g w 1 f k m else 0 := by simp [cP, nsum]
theorem cP_row (n f : Int) (a : Nat) (k m : Int) : cP g w n f a (g 10 1).toNat k m = cP g w n f (a + 1) 0 k m := by
  unfold cP
  simp only [nsum, Nat.add_zero]
  omega
theorem cP_s (n f : Int) (a r : Nat) (k m : Int) : cP g w n f a (r + 1) k m = cP g w n f a r k m + tm g r k m (cnt g w (a + 1) f (g 5 r)) (cnt g w (n - (a + 1)) (f + (a + 1)) (g 6 r)) := by
  unfold cP
  simp only [nsum]
  omega
theorem cP_end {n : Int} (hn : 1 ≤ n) (f k m : Int) : cP g w n f (n.toNat - 1) 0 k m = cnt g w n f k m := by
  by_cases h1 : n = 1
  · subst h1; simp [cP, nsum]
  · obtain ⟨N, hN⟩ : ∃ N : Nat, n.toNat = N + 1 := ⟨n.toNat - 1, by omega⟩
    unfold cP
    rw [if_neg h1, hN]
    simp only [nsum, Nat.add_zero, Nat.zero_add, Nat.add_sub_cancel]
    unfold cnt
    rw [hN, cT, if_neg (by omega), if_neg (by omega)]
    apply nsum_congr
    intro b hb
    apply nsum_congr
    intro q _
    rw [cT_eq N (b + 1) f (by omega) (by omega), cT_eq N (n - (b + 1)) (f + (b + 1)) (by omega) (by omega)]
    rfl
/-- partial sums of sixteen products -/
def tS (a0 h0 : Int) (A B : Int → Int64) (m : Int) : Nat → Int64
  | 0 => 0
  | c + 1 => tS a0 h0 A B m c + (if (a0 = 0 ∨ c / 4 = c % 4) ∧ (if h0 = 0 then ((c / 4 : Nat) : Int) else ((c % 4 : Nat) : Int)) = m then A ((c / 4 : Nat) : Int) * B ((c % 4 : Nat) : Int) else 0)
theorem tS_16 {a0 h0 : Int} (ha : a0 = 0 ∨ a0 = 1) {A B : Int → Nat} {m : Int} (hm : 0 ≤ m ∧ m < 4) {fy fz : Int → Int64} (hA : ∀ i, 0 ≤ i → i < 4 → fy i = Int64.ofNat (A i)) (hB : ∀ i, 0 ≤ i → i < 4 → fz i = Int64.ofNat (B i)) :
    tS a0 h0 fy fz m 16 = Int64.ofNat (if a0 = 0 then (if h0 = 0 then A m * (B 0 + B 1 + B 2 + B 3) else (A 0 + A 1 + A 2 + A 3) * B m) else A m * B m) := by
  have a00 := hA 0 (by omega) (by omega); have a01 := hA 1 (by omega) (by omega); have a02 := hA 2 (by omega) (by omega); have a03 := hA 3 (by omega) (by omega)
  have b00 := hB 0 (by omega) (by omega); have b01 := hB 1 (by omega) (by omega); have b02 := hB 2 (by omega) (by omega); have b03 := hB 3 (by omega) (by omega)
  rcases (show m = 0 ∨ m = 1 ∨ m = 2 ∨ m = 3 by omega) with rfl | rfl | rfl | rfl <;> rcases ha with rfl | rfl <;> by_cases hh : h0 = 0 <;>
    simp [tS, hh, a00, a01, a02, a03, b00, b01, b02, b03, Int64.ofNat_mul, Int64.ofNat_add, Int64.mul_add, Int64.add_mul]
end CNT
