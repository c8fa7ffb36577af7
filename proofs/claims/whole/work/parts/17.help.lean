/-! SMALL FACTS FOR THE WALKS -/
section HELP
theorem i2l_int {a : Int} (ha : ir a) : (i2l a).toInt = a := by
  unfold i2l
  rw [Int32.toInt_toInt64, tI ha]
theorem lcmp3 {a b : Int} (ha : ir a) (hb : ir b) : (lcmpI (i2l a) (i2l b) = 1 ∧ b < a) ∨ (lcmpI (i2l a) (i2l b) = 0 ∧ a = b) ∨ (lcmpI (i2l a) (i2l b) = -1 ∧ a < b) := by
  unfold lcmpI
  have e1 : i2l b < i2l a ↔ b < a := by rw [Int64.lt_iff_toInt_lt, i2l_int ha, i2l_int hb]
  have e2 : i2l a = i2l b ↔ a = b := ⟨fun e => by rw [← i2l_int ha, ← i2l_int hb, e], fun e => by rw [e]⟩
  by_cases h1 : b < a
  · rw [if_pos (e1.mpr h1)]; exact Or.inl ⟨rfl, h1⟩
  · rw [if_neg (fun q => h1 (e1.mp q))]
    by_cases h2 : a = b
    · rw [if_pos (e2.mpr h2)]; exact Or.inr (Or.inl ⟨rfl, h2⟩)
    · rw [if_neg (fun q => h2 (e2.mp q))]; exact Or.inr (Or.inr ⟨rfl, by omega⟩)
theorem ir_lcmp (x y : Int64) : ir (lcmpI x y) := by
  unfold lcmpI ir
  split
  · omega
  · split <;> omega
theorem ir_iand (a b : Int) : ir (iand a b) := irT _
theorem ir_ior (a b : Int) : ir (ior a b) := irT _
theorem ir_ixor (a b : Int) : ir (ixor a b) := irT _
theorem ir_ishl (a b : Int) : ir (ishl a b) := irT _
theorem ir_ishr (a b : Int) : ir (ishr a b) := irT _
theorem ir_iushr (a b : Int) : ir (iushr a b) := irT _
theorem ir_idiv (a b : Int) : ir (idiv a b) := irT _
theorem ir_l2i (x : Int64) : ir (l2i x) := irT _
/-- bit i of a set -/
def hasb (a b : Int) : Prop := iand (ishr a b) 1 = 1
/-- how often c is among the first n -/
def cntE (f : Int → Int) (c : Int) : Nat → Int
  | 0 => 0
  | n + 1 => cntE f c n + (if f n = c then 1 else 0)
theorem cntE_le (f : Int → Int) (c : Int) : ∀ n : Nat, 0 ≤ cntE f c n ∧ cntE f c n ≤ n
  | 0 => ⟨Int.le_refl _, Int.le_refl _⟩
  | n + 1 => by
    have h := cntE_le f c n
    simp only [cntE]
    split <;> omega
theorem cntE_congr {f g : Int → Int} {c : Int} : ∀ {n : Nat}, (∀ i : Int, 0 ≤ i → i < n → f i = g i) → cntE f c n = cntE g c n
  | 0, _ => rfl
  | n + 1, h => by
    simp only [cntE]
    rw [cntE_congr (n := n) (fun i h0 h1 => h i h0 (by omega)), h n (by omega) (by omega)]
def sumN (f : Int → Int) : Nat → Int
  | 0 => 0
  | n + 1 => sumN f n + f n
theorem sumN_congr {f g : Int → Int} : ∀ {n : Nat}, (∀ i : Int, 0 ≤ i → i < n → f i = g i) → sumN f n = sumN g n
  | 0, _ => rfl
  | n + 1, h => by
    simp only [sumN]
    rw [sumN_congr (n := n) (fun i h0 h1 => h i h0 (by omega)), h n (by omega) (by omega)]
theorem sumN_le {f : Int → Int} {b : Int} : ∀ {n : Nat}, (∀ i : Int, 0 ≤ i → i < n → 0 ≤ f i ∧ f i ≤ b) → 0 ≤ sumN f n ∧ sumN f n ≤ n * b
  | 0, _ => by simp [sumN]
  | n + 1, h => by
    have h1 := sumN_le (n := n) (fun i h0 h1 => h i h0 (by omega))
    have h2 := h n (by omega) (by omega)
    simp only [sumN]
    have e : ((n + 1 : Nat) : Int) * b = n * b + b := by
      rw [Int.natCast_add, Int.add_mul]; simp
    omega
/-- whether c is among those from a on, of the first n -/
def cameE (f : Int → Int) (c a : Int) (n : Nat) : Prop := ∃ i : Int, 0 ≤ i ∧ i < n ∧ a ≤ i ∧ f i = c
end HELP
section HELP2
theorem idivN {a d : Nat} (ha : a < 2 ^ 31) (h0 : 0 < d) (hd : d < 2 ^ 31) : idiv a d = ((a / d : Nat) : Int) := by
  show (nI a / nI d).toInt = _
  rw [pk_div ha h0 hd, nI_toInt (Nat.lt_of_le_of_lt (Nat.div_le_self a d) ha)]
theorem idiv9 {x n : Int} (hx : 0 ≤ x ∧ x ≤ n) (hn : 0 < n ∧ n ≤ 60) : 0 ≤ idiv (9 * x) n ∧ idiv (9 * x) n ≤ 9 := by
  obtain ⟨a, rfl⟩ := Int.eq_ofNat_of_zero_le hx.1
  obtain ⟨d, rfl⟩ := Int.eq_ofNat_of_zero_le (Int.le_of_lt hn.1)
  have e : idiv (9 * (a : Int)) d = ((9 * a / d : Nat) : Int) := idivN (a := 9 * a) (by omega) (by omega) (by omega)
  rw [e]
  have h1 : 9 * a / d ≤ 9 := by
    apply Nat.div_le_of_le_mul
    rw [Nat.mul_comm d 9]
    omega
  exact ⟨Int.natCast_nonneg _, Int.ofNat_le.mpr h1⟩
end HELP2
