/-! WHAT IS ASKED OF MENDS: of their numbers alone -/
section ANS
def prK (x : Int) : Int := x / 68719476736
def lnK (x : Int) : Int := x / 4294967296 % 16
def wdK (x p : Int) : Int := match p.toNat with
  | 0 => x / 268435456 % 16 | 1 => x / 16777216 % 16 | 2 => x / 1048576 % 16 | 3 => x / 65536 % 16 | 4 => x / 4096 % 16 | 5 => x / 256 % 16 | 6 => x / 16 % 16 | _ => x % 16
theorem kK_dec {p n : Int} {w : Int → Int} (h : okD n w) : prK (kK p n w) = p ∧ lnK (kK p n w) = n ∧ ∀ i, 0 ≤ i → i < n → wdK (kK p n w) i = w i := by
  have a := kK_rng h
  have b := h.1
  refine ⟨by unfold prK kK; omega, by unfold lnK kK; omega, fun i i0 i1 => ?_⟩
  have c := okD_clip h
  have c0 := c 0 (by omega) (by omega); have c1 := c 1 (by omega) (by omega); have c2 := c 2 (by omega) (by omega); have c3 := c 3 (by omega) (by omega)
  have c4 := c 4 (by omega) (by omega); have c5 := c 5 (by omega) (by omega); have c6 := c 6 (by omega) (by omega); have c7 := c 7 (by omega) (by omega)
  have e : w i = clip n w i := (clip_in ⟨i0, i1⟩).symm
  rw [e]
  have ed : dg (clip n w) 8 = 268435456 * clip n w 0 + 16777216 * clip n w 1 + 1048576 * clip n w 2 + 65536 * clip n w 3 + 4096 * clip n w 4 + 256 * clip n w 5 + 16 * clip n w 6 + clip n w 7 := by
    simp only [dg]
    have f0 : clip n w ((0 : Nat) : Int) = clip n w 0 := rfl
    have f1 : clip n w ((1 : Nat) : Int) = clip n w 1 := rfl
    have f2 : clip n w ((2 : Nat) : Int) = clip n w 2 := rfl
    have f3 : clip n w ((3 : Nat) : Int) = clip n w 3 := rfl
    have f4 : clip n w ((4 : Nat) : Int) = clip n w 4 := rfl
    have f5 : clip n w ((5 : Nat) : Int) = clip n w 5 := rfl
    have f6 : clip n w ((6 : Nat) : Int) = clip n w 6 := rfl
    have f7 : clip n w ((7 : Nat) : Int) = clip n w 7 := rfl
    rw [f0, f1, f2, f3, f4, f5, f6, f7]
    omega
  unfold kK
  rw [ed]
  rcases (show i = 0 ∨ i = 1 ∨ i = 2 ∨ i = 3 ∨ i = 4 ∨ i = 5 ∨ i = 6 ∨ i = 7 by omega) with rfl | rfl | rfl | rfl | rfl | rfl | rfl | rfl
  · show _ / 268435456 % 16 = _; omega
  · show _ / 16777216 % 16 = _; omega
  · show _ / 1048576 % 16 = _; omega
  · show _ / 65536 % 16 = _; omega
  · show _ / 4096 % 16 = _; omega
  · show _ / 256 % 16 = _; omega
  · show _ / 16 % 16 = _; omega
  · show _ % 16 = _; omega
/-- mend's answer -/
def mdF (many : Int) (ms : Int → Int) (i what : Int) : Int := if i < 0 then many else if many ≤ i then -4 else if what = 0 then prK (ms i) else if what = 1 then lnK (ms i) else if what - 2 < lnK (ms i) then wdK (ms i) (what - 2) else -4
def mendA (C : Int → Prop) (i what z : Int) : Prop := ∃ many ms, topk C many ms ∧ z = mdF many ms i what
theorem mendA_one {C : Int → Prop} {i what z z' : Int} (h : mendA C i what z) (h' : mendA C i what z') : z = z' := by
  obtain ⟨n, ms, a1, rfl⟩ := h
  obtain ⟨n', ms', a2, rfl⟩ := h'
  obtain ⟨rfl, e⟩ := topk_one a1 a2
  unfold mdF
  by_cases c1 : i < 0
  · rw [if_pos c1, if_pos c1]
  · rw [if_neg c1, if_neg c1]
    by_cases c2 : n ≤ i
    · rw [if_pos c2, if_pos c2]
    · rw [if_neg c2, if_neg c2, e i (by omega) (by omega)]
/-- the place of a row among mends -/
def rowK (l : Int) (w : Int → Int) (x : Int) : Prop := lnK x = l ∧ ∀ i, 0 ≤ i → i < l → wdK x i = w i
def plA (C : Int → Prop) (l : Int) (w : Int → Int) (z : Int) : Prop := ∃ many ms, topk C many ms ∧ ((0 ≤ z ∧ z < many ∧ rowK l w (ms z) ∧ ∀ j, 0 ≤ j → j < z → ¬ rowK l w (ms j)) ∨ (z = -4 ∧ ∀ j, 0 ≤ j → j < many → ¬ rowK l w (ms j)))
theorem plA_one {C : Int → Prop} {l z z' : Int} {w : Int → Int} (h : plA C l w z) (h' : plA C l w z') : z = z' := by
  obtain ⟨n, ms, a1, b1⟩ := h
  obtain ⟨n', ms', a2, b2⟩ := h'
  obtain ⟨rfl, e⟩ := topk_one a1 a2
  rcases b1 with ⟨x1, x2, x3, x4⟩ | ⟨rfl, x⟩
  · rcases b2 with ⟨y1, y2, y3, y4⟩ | ⟨rfl, y⟩
    · rcases Int.lt_trichotomy z z' with q | q | q
      · exact absurd (e z x1 x2 ▸ x3) (y4 z x1 q)
      · exact q
      · exact absurd ((e z' y1 y2).symm ▸ y3) (x4 z' y1 q)
    · exact absurd (e z x1 x2 ▸ x3) (y z x1 x2)
  · rcases b2 with ⟨y1, y2, y3, y4⟩ | ⟨rfl, y⟩
    · exact absurd ((e z' y1 y2).symm ▸ y3) (x z' y1 y2)
    · rfl
theorem plA_congr {C : Int → Prop} {l z : Int} {w w' : Int → Int} (e : ∀ i, 0 ≤ i → i < l → w i = w' i) (h : plA C l w z) : plA C l w' z := by
  have k : ∀ x, rowK l w x ↔ rowK l w' x := fun x => ⟨fun q => ⟨q.1, fun i i0 i1 => (q.2 i i0 i1).trans (e i i0 i1)⟩, fun q => ⟨q.1, fun i i0 i1 => (q.2 i i0 i1).trans (e i i0 i1).symm⟩⟩
  have : rowK l w = rowK l w' := funext fun x => propext (k x)
  unfold plA at h ⊢
  rw [← this]; exact h
/-! families -/
def famK (g : Gm) (x p : Int) : Int := if p < lnK x then g 2 (wdK x p) else -4
def sameF (g : Gm) (x y : Int) : Prop := ∀ p, 0 ≤ p → p < 8 → famK g x p = famK g y p
def frst (g : Gm) (ms : Int → Int) (k : Int) : Prop := ∀ j, 0 ≤ j → j < k → ¬ sameF g (ms j) (ms k)
/-- the heaps of the first n mends -/
def hpK (g : Gm) (n : Int) (ms : Int → Int) (hn : Int) (hf : Int → Int) : Prop := (0 ≤ hn ∧ hn ≤ n) ∧ (∀ i j, 0 ≤ i → i < j → j < hn → hf i < hf j) ∧ (∀ i, 0 ≤ i → i < hn → (0 ≤ hf i ∧ hf i < n) ∧ frst g ms (hf i)) ∧ ∀ k, 0 ≤ k → k < n → frst g ms k → ∃ i, 0 ≤ i ∧ i < hn ∧ hf i = k
theorem hpK_top {g : Gm} {n hn : Int} {ms hf : Int → Int} (h : hpK g n ms hn hf) (hn40 : n ≤ 40) : topk (fun k => 0 ≤ k ∧ k < n ∧ frst g ms k) hn hf :=
  ⟨by have := h.1; omega, h.2.1, fun i i0 i1 => ⟨(h.2.2.1 i i0 i1).1.1, (h.2.2.1 i i0 i1).1.2, (h.2.2.1 i i0 i1).2⟩, fun x hx => Or.inl (h.2.2.2 x hx.1 hx.2.1 hx.2.2)⟩
theorem frst_congr {g : Gm} {n k : Int} {ms ms' : Int → Int} (e : ∀ i, 0 ≤ i → i < n → ms i = ms' i) (hk : 0 ≤ k ∧ k < n) : frst g ms k ↔ frst g ms' k := by
  constructor
  · intro h j j0 j1; rw [← e j j0 (by omega), ← e k hk.1 hk.2]; exact h j j0 j1
  · intro h j j0 j1; rw [e j j0 (by omega), e k hk.1 hk.2]; exact h j j0 j1
theorem hpK_one {g : Gm} {n hn hn' : Int} {ms ms' hf hf' : Int → Int} (hn40 : n ≤ 40) (e : ∀ i, 0 ≤ i → i < n → ms i = ms' i) (h : hpK g n ms hn hf) (h' : hpK g n ms' hn' hf') : hn = hn' ∧ ∀ i, 0 ≤ i → i < hn → hf i = hf' i := by
  refine topk_one (hpK_top h hn40) (topk_congr (hpK_top h' hn40) (fun k => ?_))
  constructor
  · rintro ⟨a, b, c⟩; exact ⟨a, b, (frst_congr e ⟨a, b⟩).mpr c⟩
  · rintro ⟨a, b, c⟩; exact ⟨a, b, (frst_congr e ⟨a, b⟩).mp c⟩
theorem hpK_0 (g : Gm) (ms hf : Int → Int) : hpK g 0 ms 0 hf := ⟨by omega, fun i j h0 h1 h2 => by omega, fun i h0 h1 => by omega, fun k h0 h1 => by omega⟩
theorem sameF_symm {g : Gm} {x y : Int} (h : sameF g x y) : sameF g y x := fun p h0 h1 => (h p h0 h1).symm
theorem sameF_trans {g : Gm} {x y z : Int} (h : sameF g x y) (h' : sameF g y z) : sameF g x z := fun p h0 h1 => (h p h0 h1).trans (h' p h0 h1)
/-- with none of the heaps alike, it is a first one -/
theorem hpK_frst {g : Gm} {n hn : Int} {ms hf : Int → Int} (h : hpK g n ms hn hf) : frst g ms n ↔ ∀ i, 0 ≤ i → i < hn → ¬ sameF g (ms (hf i)) (ms n) := by
  constructor
  · intro q i i0 i1
    have := (h.2.2.1 i i0 i1).1
    exact q _ this.1 this.2
  · intro q
    have key : ∀ k : Nat, ∀ j : Int, 0 ≤ j → j ≤ k → j < n → ¬ sameF g (ms j) (ms n) := by
      intro k
      induction k with
      | zero =>
        intro j j0 j1 j2 hs
        have : frst g ms j := fun i i0 i1 => by omega
        obtain ⟨i, i0, i1, rfl⟩ := h.2.2.2 j j0 j2 this
        exact q i i0 i1 hs
      | succ k ih =>
        intro j j0 j1 j2 hs
        by_cases hf' : frst g ms j
        · obtain ⟨i, i0, i1, rfl⟩ := h.2.2.2 j j0 j2 hf'
          exact q i i0 i1 hs
        · unfold frst at hf'
          apply hf'
          intro i i0 i1 hs2
          exact ih i i0 (by omega) (by omega) (sameF_trans hs2 hs)
    intro j j0 j1
    exact key j.toNat j j0 (by omega) j1
theorem hpK_old {g : Gm} {n hn : Int} {ms hf : Int → Int} (h : hpK g n ms hn hf) (hq : ¬ frst g ms n) : hpK g (n + 1) ms hn hf :=
  ⟨by have := h.1; omega, h.2.1, fun i i0 i1 => ⟨by have := (h.2.2.1 i i0 i1).1; omega, (h.2.2.1 i i0 i1).2⟩, fun k k0 k1 k2 => by
    by_cases e : k = n
    · subst e; exact absurd k2 hq
    · exact h.2.2.2 k k0 (by omega) k2⟩
theorem hpK_new {g : Gm} {n hn : Int} {ms hf : Int → Int} (h : hpK g n ms hn hf) (hq : frst g ms n) (h0n : 0 ≤ n) : hpK g (n + 1) ms (hn + 1) (up hf hn n) := by
  have h1 := h.1
  refine ⟨by omega, fun i j i0 i1 i2 => ?_, fun i i0 i1 => ?_, fun k k0 k1 k2 => ?_⟩
  · rw [up_ne _ _ (by omega)]
    by_cases e : j = hn
    · rw [e, up_eq]; exact (h.2.2.1 i i0 (by omega)).1.2
    · rw [up_ne _ _ e]; exact h.2.1 i j i0 i1 (by omega)
  · by_cases e : i = hn
    · rw [e, up_eq]; exact ⟨by omega, hq⟩
    · rw [up_ne _ _ e]
      have := h.2.2.1 i i0 (by omega)
      exact ⟨by omega, this.2⟩
  · by_cases e : k = n
    · exact ⟨hn, by omega, by omega, by rw [up_eq, e]⟩
    · obtain ⟨i, i0, i1, i2⟩ := h.2.2.2 k k0 (by omega) k2
      exact ⟨i, i0, by omega, by rw [up_ne _ _ (by omega)]; exact i2⟩
/-- how many heaps have one family, at most -/
def mostP (F : Int → Int) (n : Nat) (m : Int) : Prop := (∀ k : Int, 0 ≤ k → k < n → cntE F (F k) n ≤ m) ∧ 0 ≤ m ∧ (m = 0 ∨ ∃ k : Int, 0 ≤ k ∧ k < n ∧ cntE F (F k) n = m)
theorem mostP_one {F : Int → Int} {n : Nat} {m m' : Int} (h : mostP F n m) (h' : mostP F n m') : m = m' := by
  obtain ⟨a1, a2, a3⟩ := h
  obtain ⟨b1, b2, b3⟩ := h'
  have e1 : m ≤ m' := by
    rcases a3 with q | ⟨k, k0, k1, k2⟩
    · omega
    · rw [← k2]; exact b1 k k0 k1
  have e2 : m' ≤ m := by
    rcases b3 with q | ⟨k, k0, k1, k2⟩
    · omega
    · rw [← k2]; exact a1 k k0 k1
  omega
/-- the lowest place at which the number is least -/
def askP (F : Int → Int → Int) (n : Nat) (z : Int) : Prop := (0 ≤ z ∧ z < 8) ∧ ∃ m : Int → Int, (∀ p, 0 ≤ p → p < 8 → mostP (F p) n (m p)) ∧ (∀ p, 0 ≤ p → p < z → m z < m p) ∧ ∀ p, z ≤ p → p < 8 → m z ≤ m p
theorem askP_one {F : Int → Int → Int} {n : Nat} {z z' : Int} (h : askP F n z) (h' : askP F n z') : z = z' := by
  obtain ⟨a1, m, a2, a3, a4⟩ := h
  obtain ⟨b1, m', b2, b3, b4⟩ := h'
  have e : ∀ p, 0 ≤ p → p < 8 → m p = m' p := fun p p0 p1 => mostP_one (a2 p p0 p1) (b2 p p0 p1)
  have e1 := e z a1.1 a1.2
  have e2 := e z' b1.1 b1.2
  rcases Int.lt_trichotomy z z' with q | q | q
  · have x1 := b3 z a1.1 q
    have x2 := a4 z' (by omega) b1.2
    omega
  · exact q
  · have x1 := a3 z' b1.1 q
    have x2 := b4 z (by omega) a1.2
    omega
/-- heaps' answers -/
def hpA (g : Gm) (C : Int → Prop) (d what z : Int) : Prop := ∃ many ms hn hf, topk C many ms ∧ hpK g many ms hn hf ∧ ((what = 0 ∧ z = hn) ∨ (what ≠ 0 ∧ hn = 0 ∧ z = -4) ∨ (what = 2 ∧ hn = 1 ∧ z = -4) ∨ (what = 2 ∧ 2 ≤ hn ∧ askP (fun p k => famK g (ms (hf k)) p) hn.toNat z) ∨
  (what = 1 ∧ 1 ≤ hn ∧ ((z = 1 ∧ (hn = 1 ∨ d ≤ prK (ms (hf 1)) - prK (ms (hf 0)))) ∨ (z = 0 ∧ hn ≠ 1 ∧ prK (ms (hf 1)) - prK (ms (hf 0)) < d))))
theorem cntE_congr2 {f g : Int → Int} {c : Int} {n : Nat} (h : ∀ i : Int, 0 ≤ i → i < n → f i = g i) : cntE f c n = cntE g c n := cntE_congr h
theorem mostP_congr {F F' : Int → Int} {n : Nat} {m : Int} (e : ∀ i : Int, 0 ≤ i → i < n → F i = F' i) (h : mostP F n m) : mostP F' n m := by
  obtain ⟨a1, a2, a3⟩ := h
  refine ⟨fun k k0 k1 => ?_, a2, a3.imp id ?_⟩
  · rw [← e k k0 k1, ← cntE_congr e]; exact a1 k k0 k1
  · rintro ⟨k, k0, k1, k2⟩
    exact ⟨k, k0, k1, by rw [← e k k0 k1, ← cntE_congr e]; exact k2⟩
theorem askP_congr {F F' : Int → Int → Int} {n : Nat} {z : Int} (e : ∀ p i : Int, 0 ≤ i → i < n → F p i = F' p i) (h : askP F n z) : askP F' n z := by
  obtain ⟨a1, m, a2, a3, a4⟩ := h
  exact ⟨a1, m, fun p p0 p1 => mostP_congr (e p) (a2 p p0 p1), a3, a4⟩
theorem hpA_one {g : Gm} {C : Int → Prop} {d what z z' : Int} (h : hpA g C d what z) (h' : hpA g C d what z') : z = z' := by
  obtain ⟨n, ms, hn, hf, a1, a2, a3⟩ := h
  obtain ⟨n', ms', hn', hf', b1, b2, b3⟩ := h'
  obtain ⟨rfl, e⟩ := topk_one a1 b1
  obtain ⟨rfl, e2⟩ := hpK_one a1.1.2 e a2 b2
  have e3 : ∀ i, 0 ≤ i → i < hn → ms (hf i) = ms' (hf' i) := fun i i0 i1 => by
    rw [← e2 i i0 i1]
    have := (a2.2.2.1 i i0 i1).1
    exact e _ this.1 this.2
  rcases a3 with q | q | q | q | ⟨q1, q2, q3⟩
  · rcases b3 with r | r | r | r | r <;> omega
  · rcases b3 with r | r | r | r | r <;> omega
  · rcases b3 with r | r | r | r | r <;> omega
  · rcases b3 with r | r | r | r | r
    · omega
    · omega
    · omega
    · exact askP_one (askP_congr (fun p i i0 i1 => by show famK g (ms (hf i)) p = famK g (ms' (hf' i)) p; rw [e3 i i0 (by omega)]) q.2.2) r.2.2
    · omega
  · rcases b3 with r | r | r | r | ⟨r1, r2, r3⟩
    · omega
    · omega
    · omega
    · omega
    · by_cases c : hn = 1
      · rcases q3 with q3 | q3 <;> rcases r3 with r3 | r3 <;> omega
      · rw [e3 1 (by omega) (by omega), e3 0 (by omega) (by omega)] at q3
        rcases q3 with q3 | q3 <;> rcases r3 with r3 | r3 <;> omega
/-- a count of those for which something holds -/
noncomputable def cntC (P : Int → Prop) : Nat → Int
  | 0 => 0
  | n + 1 => cntC P n + @ite Int (P n) (Classical.propDecidable _) 1 0
theorem cntC_y {P : Int → Prop} {n : Nat} (h : P n) : cntC P (n + 1) = cntC P n + 1 := by simp only [cntC]; rw [if_pos h]
theorem cntC_n {P : Int → Prop} {n : Nat} (h : ¬ P n) : cntC P (n + 1) = cntC P n := by simp only [cntC]; rw [if_neg h]; omega
theorem cntC_le (P : Int → Prop) : ∀ n : Nat, 0 ≤ cntC P n ∧ cntC P n ≤ n
  | 0 => ⟨Int.le_refl _, Int.le_refl _⟩
  | n + 1 => by
    have := cntC_le P n
    simp only [cntC]
    split <;> omega
theorem cntC_congr {P P' : Int → Prop} : ∀ {n : Nat}, (∀ i : Int, 0 ≤ i → i < n → (P i ↔ P' i)) → cntC P n = cntC P' n
  | 0, _ => rfl
  | n + 1, h => by
    have ih := cntC_congr (n := n) (fun i i0 i1 => h i i0 (by omega))
    by_cases q : P n
    · rw [cntC_y q, cntC_y ((h n (by omega) (by omega)).mp q), ih]
    · rw [cntC_n q, cntC_n (fun r => q ((h n (by omega) (by omega)).mpr r)), ih]
/-- what is asked of a kept one: a row and what was made of it -/
def kRt (ls lt : Int) (ws wt : Int → Int) : Prop := ls = lt ∧ ∀ i, 0 ≤ i → i < ls → ws i = wt i
def kPl (g : Gm) (ls lt : Int) (ws wt : Int → Int) (z : Int) : Prop := plA (cnd g ws ls (hasb 0) (fun _ _ _ => True)) lt wt z
def kpP (g : Gm) (what ls lt : Int) (ws wt : Int → Int) : Prop := ¬ READ g (hasb 0) ws ls ∧ ((what = 2 ∧ kRt ls lt ws wt) ∨ (what = 1 ∧ ¬ kRt ls lt ws wt) ∨ (what = 0 ∧ ¬ kRt ls lt ws wt ∧ kPl g ls lt ws wt 0))
end ANS
