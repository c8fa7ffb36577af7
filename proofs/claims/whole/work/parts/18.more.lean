/-! MORE ROWS AND WORDS -/
section MORE
variable {cc : ByteArray} {own : String} {nL fr lo : Nat} {G : GT} {pc : Nat} {L : List (Nat × Value)} {st : List Value} {h : AH} {li li' : List (Nat × (Int → Int))} {ll ll' : List (Nat × (Int → Int64))} {lr lr' : List (Nat × (Int → Nat))}
theorem alk_ins {α : Type} (l : List (Nat × (Int → α))) (f : Nat → Int → α) (k : Nat) : (fun q => alk (aset l k (alk l k (f k))) q (f q)) = fun q => alk l q (f q) := by
  funext q
  rw [alk_aset]
  by_cases hq : q = k
  · subst hq; rw [if_pos rfl]
  · rw [if_neg hq]
theorem A_insI (k : Nat) (hl : aset li k (alk li k (h.1 k)) = li') (kk : G pc L st (hm h li' ll lr)) : G pc L st (hm h li ll lr) := by
  subst hl
  have e : hm h (aset li k (alk li k (h.1 k))) ll lr = hm h li ll lr := by unfold hm; rw [alk_ins]
  rw [← e]; exact kk
theorem A_insL (k : Nat) (hl : aset ll k (alk ll k (h.2.1 k)) = ll') (kk : G pc L st (hm h li ll' lr)) : G pc L st (hm h li ll lr) := by
  subst hl
  have e : hm h li (aset ll k (alk ll k (h.2.1 k))) lr = hm h li ll lr := by unfold hm; rw [alk_ins]
  rw [← e]; exact kk
theorem A_insR (k : Nat) (hl : aset lr k (alk lr k (h.2.2 k)) = lr') (kk : G pc L st (hm h li ll lr')) : G pc L st (hm h li ll lr) := by
  subst hl
  have e : hm h li ll (aset lr k (alk lr k (h.2.2 k))) = hm h li ll lr := by unfold hm; rw [alk_ins]
  rw [← e]; exact kk
/-- the PRICE of a change, as told or fitted to n errors -/
def fitP (n : Int) (p e : Int → Int) (c f : Int) : Int := if f ≠ 0 ∧ n ≠ 0 then 10 - idiv (9 * cntE e c n.toNat) n else p c
/-- 1, if c is among those of the first n from a on -/
def cmE (f : Int → Int) (c a : Int) : Nat → Int
  | 0 => 0
  | n + 1 => if cmE f c a n ≠ 0 ∨ (a ≤ n ∧ f n = c) then 1 else 0
theorem cmE_01 (f : Int → Int) (c a : Int) : ∀ n : Nat, cmE f c a n = 0 ∨ cmE f c a n = 1
  | 0 => Or.inl rfl
  | n + 1 => by simp only [cmE]; split <;> simp
theorem cmE_congr {f g : Int → Int} {c a : Int} : ∀ {n : Nat}, (∀ i : Int, 0 ≤ i → i < n → f i = g i) → cmE f c a n = cmE g c a n
  | 0, _ => rfl
  | n + 1, h => by
    simp only [cmE]
    rw [cmE_congr (n := n) (fun i h0 h1 => h i h0 (by omega)), h n (by omega) (by omega)]
/-- byte k of v -/
def byteV (v : Int64) (k : Int) : Int := l2i (lshr v (8 * k) &&& i2l 255)
end MORE
