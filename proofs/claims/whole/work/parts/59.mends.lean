/-! MENDS: rows as numbers, the first forty of a set -/
section MENDS
def dg (w : Int → Int) : Nat → Int
  | 0 => 0
  | n + 1 => 16 * dg w n + w n
theorem dg_congr {w v : Int → Int} : ∀ {n : Nat}, (∀ i : Int, 0 ≤ i → i < n → w i = v i) → dg w n = dg v n
  | 0, _ => rfl
  | n + 1, h => by
    simp only [dg]
    rw [dg_congr (n := n) (fun i h0 h1 => h i h0 (by omega)), h n (by omega) (by omega)]
theorem dg_rng {w : Int → Int} : ∀ {n : Nat}, (∀ i : Int, 0 ≤ i → i < n → 0 ≤ w i ∧ w i < 16) → 0 ≤ dg w n ∧ dg w n < 16 ^ n
  | 0, _ => by simp [dg]
  | n + 1, h => by
    have h1 := dg_rng (n := n) (fun i h0 h1 => h i h0 (by omega))
    have h2 := h n (by omega) (by omega)
    simp only [dg]
    have e : (16 : Int) ^ (n + 1) = 16 ^ n * 16 := Int.pow_succ _ _
    omega
theorem dg_lt {w v : Int → Int} {i : Int} (hi : 0 ≤ i) (ha : ∀ j, 0 ≤ j → j < i → w j = v j) (hl : w i < v i) : ∀ {n : Nat}, i < n → (∀ j : Int, 0 ≤ j → j < n → 0 ≤ w j ∧ w j < 16) → (∀ j : Int, 0 ≤ j → j < n → 0 ≤ v j ∧ v j < 16) → dg w n < dg v n
  | 0, h, _, _ => by omega
  | n + 1, h, hw, hv => by
    simp only [dg]
    have w2 := hw n (by omega) (by omega)
    have v2 := hv n (by omega) (by omega)
    by_cases hq : i = n
    · have e : dg w n = dg v n := dg_congr (fun j h0 h1 => ha j h0 (by omega))
      rw [e]
      rw [hq] at hl
      omega
    · have := dg_lt hi ha hl (n := n) (by omega) (fun j h0 h1 => hw j h0 (by omega)) (fun j h0 h1 => hv j h0 (by omega))
      omega
theorem dg_inj {w v : Int → Int} : ∀ {n : Nat}, (∀ j : Int, 0 ≤ j → j < n → 0 ≤ w j ∧ w j < 16) → (∀ j : Int, 0 ≤ j → j < n → 0 ≤ v j ∧ v j < 16) → dg w n = dg v n → ∀ i : Int, 0 ≤ i → i < n → w i = v i
  | 0, _, _, _ => fun i h0 h1 => by omega
  | n + 1, hw, hv, e => by
    simp only [dg] at e
    have w2 := hw n (by omega) (by omega)
    have v2 := hv n (by omega) (by omega)
    have ih := dg_inj (n := n) (fun j h0 h1 => hw j h0 (by omega)) (fun j h0 h1 => hv j h0 (by omega)) (by omega)
    intro i h0 h1
    by_cases hq : i = n
    · rw [hq]; omega
    · exact ih i h0 (by omega)
/-- words that fit into a digit -/
def okD (n : Int) (w : Int → Int) : Prop := (1 ≤ n ∧ n ≤ 8) ∧ ∀ i, 0 ≤ i → i < n → 0 ≤ w i ∧ w i < 16
/-- a mend as a number: price, length, words -/
def kK (p n : Int) (w : Int → Int) : Int := (p * 16 + n) * 4294967296 + dg (clip n w) 8
variable {p p' n n' i : Int} {w w' : Int → Int}
theorem okD_clip (h : okD n w) : ∀ j : Int, 0 ≤ j → j < (8 : Nat) → 0 ≤ clip n w j ∧ clip n w j < 16 := by
  intro j h0 h1
  unfold clip
  split
  · rename_i q; exact h.2 j q.1 q.2
  · omega
theorem kK_rng (h : okD n w) : 0 ≤ dg (clip n w) 8 ∧ dg (clip n w) 8 < 4294967296 := by
  have := dg_rng (n := 8) (okD_clip h)
  have e : (16 : Int) ^ 8 = 4294967296 := by decide
  omega
theorem kK_congr (h : ∀ i, 0 ≤ i → i < n → w i = w' i) : kK p n w = kK p n w' := by
  unfold kK
  rw [dg_congr (v := clip n w') (fun i h0 h1 => ?_)]
  unfold clip
  split
  · rename_i q; exact h i q.1 q.2
  · rfl
theorem kK_p (h : okD n w) (h' : okD n' w') (e : p < p') : kK p n w < kK p' n' w' := by
  have a := kK_rng h; have b := kK_rng h'; have c := h.1; have d := h'.1
  unfold kK
  omega
theorem kK_n (h : okD n w) (h' : okD n' w') (e : n < n') : kK p n w < kK p n' w' := by
  have a := kK_rng h; have b := kK_rng h'; have c := h.1; have d := h'.1
  unfold kK
  omega
theorem kK_w (h : okD n w) (h' : okD n w') (hi : 0 ≤ i ∧ i < n) (ha : ∀ j, 0 ≤ j → j < i → w j = w' j) (hl : w i < w' i) : kK p n w < kK p n w' := by
  have c := h.1
  have e : dg (clip n w) 8 < dg (clip n w') 8 := dg_lt (i := i) hi.1 (fun j h0 h1 => by rw [clip_in (by omega), clip_in (by omega)]; exact ha j h0 h1) (by rw [clip_in hi, clip_in hi]; exact hl) (by omega) (okD_clip h) (okD_clip h')
  unfold kK
  omega
theorem kK_inj (h : okD n w) (h' : okD n' w') (e : kK p n w = kK p' n' w') : p = p' ∧ n = n' ∧ ∀ i, 0 ≤ i → i < n → w i = w' i := by
  have a := kK_rng h; have b := kK_rng h'; have c := h.1; have d := h'.1
  unfold kK at e
  have e1 : p = p' := by omega
  have e2 : n = n' := by omega
  subst e1 e2
  refine ⟨rfl, rfl, fun i h0 h1 => ?_⟩
  have := dg_inj (okD_clip h) (okD_clip h') (by omega) i h0 (by omega)
  rw [clip_in ⟨h0, h1⟩, clip_in ⟨h0, h1⟩] at this
  exact this
/-- the first forty of a set, ascending -/
def topk (C : Int → Prop) (n : Int) (ms : Int → Int) : Prop := (0 ≤ n ∧ n ≤ 40) ∧ (∀ i j, 0 ≤ i → i < j → j < n → ms i < ms j) ∧ (∀ i, 0 ≤ i → i < n → C (ms i)) ∧ ∀ x, C x → (∃ i, 0 ≤ i ∧ i < n ∧ ms i = x) ∨ (n = 40 ∧ ∀ i, 0 ≤ i → i < n → ms i < x)
variable {C C' : Int → Prop} {ms ms' : Int → Int} {x : Int}
theorem topk_0 : topk (fun _ => False) 0 ms := ⟨by omega, fun i j h0 h1 h2 => by omega, fun i h0 h1 => by omega, fun x h => h.elim⟩
theorem topk_congr (h : topk C n ms) (e : ∀ x, C x ↔ C' x) : topk C' n ms := by
  have : C = C' := funext fun x => propext (e x)
  rw [← this]; exact h
theorem topk_le (h : topk C n ms) (h' : topk C n' ms') : ∀ k : Nat, (k : Int) < n → (∀ j : Int, 0 ≤ j → j < k → ms j = ms' j) → (k : Int) < n' ∧ ms' k ≤ ms k := by
  intro k hk ha
  obtain ⟨a1, a2, a3, a4⟩ := h
  obtain ⟨b1, b2, b3, b4⟩ := h'
  rcases b4 _ (a3 k (by omega) hk) with ⟨j, j1, j2, j3⟩ | ⟨q1, q2⟩
  · have hkj : (k : Int) ≤ j := by
      rcases Int.lt_or_le j k with q | q
      · have e1 := ha j j1 q
        have e2 := a2 j k j1 q hk
        omega
      · exact q
    refine ⟨by omega, ?_⟩
    by_cases hq : (k : Int) = j
    · rw [hq] at j3 ⊢; omega
    · have := b2 k j (by omega) (by omega) j2
      omega
  · have := q2 k (by omega) (by omega)
    omega
theorem topk_one (h : topk C n ms) (h' : topk C n' ms') : n = n' ∧ ∀ i, 0 ≤ i → i < n → ms i = ms' i := by
  have key : ∀ k : Nat, ∀ j : Int, 0 ≤ j → j < k → j < n → j < n' → ms j = ms' j := by
    intro k
    induction k with
    | zero => intro j h0 h1; omega
    | succ k ih =>
      intro j h0 h1 h2 h3
      by_cases hq : j < k
      · exact ih j h0 hq h2 h3
      · have e : j = (k : Int) := by omega
        subst e
        have e1 := (topk_le h h' k h2 (fun i i0 i1 => ih i i0 i1 (by omega) (by omega))).2
        have e2 := (topk_le h' h k h3 (fun i i0 i1 => (ih i i0 i1 (by omega) (by omega)).symm)).2
        omega
  have n1 := h.1
  have n2 := h'.1
  have hn : n = n' := by
    rcases Int.lt_trichotomy n n' with q | q | q
    · obtain ⟨k, hk⟩ := Int.eq_ofNat_of_zero_le n1.1
      have := (topk_le h' h k (by omega) (fun i i0 i1 => (key 40 i i0 (by omega) (by omega) (by omega)).symm)).1
      omega
    · exact q
    · obtain ⟨k, hk⟩ := Int.eq_ofNat_of_zero_le n2.1
      have := (topk_le h h' k (by omega) (fun i i0 i1 => key 40 i i0 (by omega) (by omega) (by omega))).1
      omega
  refine ⟨hn, fun i i0 i1 => key 40 i i0 (by omega) i1 (by omega)⟩
/-- put in at p -/
def mIns (ms : Int → Int) (p x k : Int) : Int := if k < p then ms k else if k = p then x else ms (k - 1)
theorem topk_full (h : topk C n ms) (hn : n = 40) (ha : ∀ i, 0 ≤ i → i < n → ms i < x) : topk (fun y => C y ∨ y = x) n ms :=
  ⟨h.1, h.2.1, fun i i0 i1 => Or.inl (h.2.2.1 i i0 i1), fun y hy => by
    rcases hy with hy | rfl
    · exact h.2.2.2 y hy
    · exact Or.inr ⟨hn, ha⟩⟩
theorem topk_has (h : topk C n ms) (hp : 0 ≤ p ∧ p < n) (he : ms p = x) : topk (fun y => C y ∨ y = x) n ms :=
  ⟨h.1, h.2.1, fun i i0 i1 => Or.inl (h.2.2.1 i i0 i1), fun y hy => by
    rcases hy with hy | rfl
    · exact h.2.2.2 y hy
    · exact Or.inl ⟨p, hp.1, hp.2, he⟩⟩
theorem topk_ins (h : topk C n ms) (hp : 0 ≤ p ∧ p ≤ n ∧ p < 40) (hb : ∀ i, 0 ≤ i → i < p → ms i < x) (ha : ∀ i, p ≤ i → i < n → x < ms i) {e : Int} (he : (n < 40 ∧ e = n) ∨ (n = 40 ∧ e = 39)) : topk (fun y => C y ∨ y = x) (e + 1) (mIns ms p x) := by
  obtain ⟨a1, a2, a3, a4⟩ := h
  refine ⟨by omega, fun i j h0 h1 h2 => ?_, fun i h0 h1 => ?_, fun y hy => ?_⟩
  · unfold mIns
    by_cases c1 : i < p
    · rw [if_pos c1]
      by_cases c2 : j < p
      · rw [if_pos c2]; exact a2 i j h0 h1 (by omega)
      · rw [if_neg c2]
        by_cases c3 : j = p
        · rw [if_pos c3]; exact hb i h0 c1
        · rw [if_neg c3]
          have e1 := hb i h0 c1
          have e2 := ha (j - 1) (by omega) (by omega)
          omega
    · rw [if_neg c1, if_neg (show ¬ j < p by omega), if_neg (show ¬ j = p by omega)]
      by_cases c3 : i = p
      · rw [if_pos c3]; exact ha (j - 1) (by omega) (by omega)
      · rw [if_neg c3]; exact a2 _ _ (by omega) (by omega) (by omega)
  · unfold mIns
    by_cases c1 : i < p
    · rw [if_pos c1]; exact Or.inl (a3 i h0 (by omega))
    · rw [if_neg c1]
      by_cases c3 : i = p
      · rw [if_pos c3]; exact Or.inr rfl
      · rw [if_neg c3]; exact Or.inl (a3 _ (by omega) (by omega))
  · rcases hy with hy | rfl
    · rcases a4 y hy with ⟨i, i1, i2, i3⟩ | ⟨q1, q2⟩
      · by_cases c1 : i < p
        · exact Or.inl ⟨i, i1, by omega, by unfold mIns; rw [if_pos c1]; exact i3⟩
        · by_cases c2 : i < e
          · exact Or.inl ⟨i + 1, by omega, by omega, by unfold mIns; rw [if_neg (by omega), if_neg (by omega), show i + 1 - 1 = i by omega]; exact i3⟩
          · refine Or.inr ⟨by omega, fun j j0 j1 => ?_⟩
            unfold mIns
            by_cases d1 : j < p
            · rw [if_pos d1, ← i3]; exact a2 j i j0 (by omega) i2
            · rw [if_neg d1]
              by_cases d2 : j = p
              · rw [if_pos d2, ← i3]; exact ha i (by omega) i2
              · rw [if_neg d2, ← i3]; exact a2 _ _ (by omega) (by omega) i2
      · refine Or.inr ⟨by omega, fun j j0 j1 => ?_⟩
        unfold mIns
        by_cases d1 : j < p
        · rw [if_pos d1]; exact q2 j j0 (by omega)
        · rw [if_neg d1]
          by_cases d2 : j = p
          · rw [if_pos d2]
            have e1 := ha (n - 1) (by omega) (by omega)
            have e2 := q2 (n - 1) (by omega) (by omega)
            omega
          · rw [if_neg d2]; exact q2 _ (by omega) (by omega)
    · exact Or.inl ⟨p, hp.1, by omega, by unfold mIns; rw [if_neg (by omega), if_pos rfl]⟩
/-! rows that one change makes -/
def swp (w : Int → Int) (p v i : Int) : Int := if i = p then v else w i
def del (w : Int → Int) (p i : Int) : Int := if i < p then w i else w (i + 1)
def insr (w : Int → Int) (p v i : Int) : Int := if i < p then w i else if i = p then v else w (i - 1)
def rowC (w : Int → Int) (c p v : Int) : Int → Int := if c = 0 then swp w p v else if c = 1 then del w p else insr w p v
def lenC (n c : Int) : Int := if c = 0 then n else if c = 1 then n - 1 else n + 1
/-- the least price of a change of a WORD; 100 if there is none -/
def swpP (g : Gm) (pr : Int → Int) (u v : Int) : Int := min (if g 2 u = g 2 v then pr 0 else 100) (min (if g 3 u = g 3 v then pr 1 else 100) (if g 0 u = g 0 v then pr 2 else 100))
def prC (g : Gm) (w : Int → Int) (c p v : Int) : Int := if c = 0 then swpP g (g 9) (w p) v else if c = 1 then g 9 3 else g 9 4
def mayC (g : Gm) (w : Int → Int) (n : Int) (q : Int → Prop) (c p v : Int) : Prop := 0 ≤ p ∧
  ((c = 0 ∧ p < n ∧ ¬ q p ∧ 0 ≤ v ∧ v < g 10 0 ∧ v ≠ w p ∧ swpP g (g 9) (w p) v < 100) ∨ (c = 1 ∧ p < n ∧ ¬ q p ∧ v = 0 ∧ 2 ≤ n) ∨ (c = 2 ∧ p ≤ n ∧ 0 ≤ v ∧ v < g 10 0 ∧ n < 8))
/-- those of the changes in D that make a mend -/
def cnd (g : Gm) (w : Int → Int) (n : Int) (q : Int → Prop) (D : Int → Int → Int → Prop) (x : Int) : Prop := ∃ c p v, D c p v ∧ mayC g w n q c p v ∧ READ g (hasb 0) (rowC w c p v) (lenC n c) ∧ x = kK (prC g w c p v) (lenC n c) (rowC w c p v)
variable {g : Gm} {q : Int → Prop} {D D' : Int → Int → Int → Prop} {c v : Int}
theorem cnd_sub (hD : ∀ c p v, mayC g w n q c p v → (D c p v ↔ D' c p v)) (y : Int) : cnd g w n q D y ↔ cnd g w n q D' y := by
  constructor
  · rintro ⟨c, p, v, h1, h2, h3⟩; exact ⟨c, p, v, (hD c p v h2).mp h1, h2, h3⟩
  · rintro ⟨c, p, v, h1, h2, h3⟩; exact ⟨c, p, v, (hD c p v h2).mpr h1, h2, h3⟩
theorem cnd_add (hm : mayC g w n q c p v) (hD : ∀ c' p' v', mayC g w n q c' p' v' → (D' c' p' v' ↔ D c' p' v' ∨ (c' = c ∧ p' = p ∧ v' = v))) (y : Int) : cnd g w n q D' y ↔ cnd g w n q D y ∨ (READ g (hasb 0) (rowC w c p v) (lenC n c) ∧ y = kK (prC g w c p v) (lenC n c) (rowC w c p v)) := by
  constructor
  · rintro ⟨c', p', v', h1, h2, h3⟩
    rcases (hD _ _ _ h2).mp h1 with h1 | ⟨rfl, rfl, rfl⟩
    · exact Or.inl ⟨c', p', v', h1, h2, h3⟩
    · exact Or.inr h3
  · rintro (⟨c', p', v', h1, h2, h3⟩ | h3)
    · exact ⟨c', p', v', (hD _ _ _ h2).mpr (Or.inl h1), h2, h3⟩
    · exact ⟨c, p, v, (hD _ _ _ hm).mpr (Or.inr ⟨rfl, rfl, rfl⟩), hm, h3⟩
theorem cnd_no (hm : ¬ mayC g w n q c p v) (hD : ∀ c' p' v', mayC g w n q c' p' v' → (D' c' p' v' ↔ D c' p' v' ∨ (c' = c ∧ p' = p ∧ v' = v))) (y : Int) : cnd g w n q D' y ↔ cnd g w n q D y :=
  cnd_sub (fun c' p' v' h => ⟨fun h1 => by
    rcases (hD _ _ _ h).mp h1 with h1 | ⟨rfl, rfl, rfl⟩
    · exact h1
    · exact absurd h hm, fun h1 => (hD _ _ _ h).mpr (Or.inl h1)⟩) y
theorem okG_pr (hG : okG g) : (0 ≤ g 9 0 ∧ g 9 0 ≤ 99) ∧ (0 ≤ g 9 1 ∧ g 9 1 ≤ 99) ∧ (0 ≤ g 9 2 ∧ g 9 2 ≤ 99) ∧ (0 ≤ g 9 3 ∧ g 9 3 ≤ 99) ∧ (0 ≤ g 9 4 ∧ g 9 4 ≤ 99) :=
  ⟨hG.2.2.2.2 0 (by omega) (by omega), hG.2.2.2.2 1 (by omega) (by omega), hG.2.2.2.2 2 (by omega) (by omega), hG.2.2.2.2 3 (by omega) (by omega), hG.2.2.2.2 4 (by omega) (by omega)⟩
theorem swpP_rng {pr : Int → Int} (h0 : 0 ≤ pr 0 ∧ pr 0 ≤ 99) (h1 : 0 ≤ pr 1 ∧ pr 1 ≤ 99) (h2 : 0 ≤ pr 2 ∧ pr 2 ≤ 99) {u v : Int} : 0 ≤ swpP g pr u v ∧ swpP g pr u v ≤ 100 := by
  unfold swpP
  split <;> split <;> split <;> omega
/-- a changed row is one of the grammar's words again -/
theorem okW_C (hw : okW g w n) (hm : mayC g w n q c p v) (hG : okG g) : okW g (rowC w c p v) (lenC n c) ∧ 1 ≤ lenC n c ∧ 0 ≤ prC g w c p v ∧ prC g w c p v ≤ 99 := by
  obtain ⟨m0, m1⟩ := hm
  obtain ⟨w1, w2⟩ := hw
  have pp := okG_pr hG
  have sp := swpP_rng (g := g) (pr := g 9) pp.1 pp.2.1 pp.2.2.1 (u := w p) (v := v)
  rcases m1 with ⟨rfl, a1, a2, a3, a4, a5, a6⟩ | ⟨rfl, a1, a2, a3, a4⟩ | ⟨rfl, a1, a2, a3, a4⟩
  · refine ⟨⟨w1, fun i i0 i1 => ?_⟩, by show 1 ≤ n; omega, ?_⟩
    · show 0 ≤ swp w p v i ∧ swp w p v i < g 10 0
      unfold swp
      split
      · exact ⟨a3, a4⟩
      · exact w2 i i0 i1
    · show 0 ≤ swpP g (g 9) (w p) v ∧ swpP g (g 9) (w p) v ≤ 99
      omega
  · refine ⟨⟨by show 0 ≤ n - 1 ∧ n - 1 ≤ 8; omega, fun i i0 i1 => ?_⟩, by show 1 ≤ n - 1; omega, ?_⟩
    · have i1 : i < n - 1 := i1
      show 0 ≤ del w p i ∧ del w p i < g 10 0
      unfold del
      split
      · exact w2 i i0 (by omega)
      · exact w2 (i + 1) (by omega) (by omega)
    · show 0 ≤ g 9 3 ∧ g 9 3 ≤ 99
      exact pp.2.2.2.1
  · refine ⟨⟨by show 0 ≤ n + 1 ∧ n + 1 ≤ 8; omega, fun i i0 i1 => ?_⟩, by show 1 ≤ n + 1; omega, ?_⟩
    · have i1 : i < n + 1 := i1
      show 0 ≤ insr w p v i ∧ insr w p v i < g 10 0
      unfold insr
      split
      · exact w2 i i0 (by omega)
      · split
        · exact ⟨a2, a3⟩
        · exact w2 (i - 1) (by omega) (by omega)
    · show 0 ≤ g 9 4 ∧ g 9 4 ≤ 99
      exact pp.2.2.2.2
theorem okD_W (hG : okG g) (h : okW g w n) (hn : 1 ≤ n) : okD n w := ⟨⟨hn, h.1.2⟩, fun i h0 h1 => by have := h.2 i h0 h1; have := hG.1; omega⟩
/-! READ looks at the row's own words alone, and at the freed among its rules -/
theorem jn_congr {fs fs' : Int → Prop} {r m : Int} {A A' B B' : Int → Prop} (hf : fs r ↔ fs' r) (hA : ∀ q, A q ↔ A' q) (hB : ∀ q, B q ↔ B' q) : jn g fs r m A B ↔ jn g fs' r m A' B' := by
  have eA : A = A' := funext fun q => propext (hA q)
  have eB : B = B' := funext fun q => propext (hB q)
  subst eA eB
  unfold jn
  rw [hf]
theorem rdT_congr {fs fs' : Int → Prop} (hf : ∀ r, 0 ≤ r → r < g 10 1 → (fs r ↔ fs' r)) : ∀ (N : Nat) (n f : Int), (∀ i, f ≤ i → i < f + n → w i = w' i) → ∀ k m, (1 ≤ n) → (rdT g fs w N n f k m ↔ rdT g fs' w' N n f k m)
  | 0, n, f, h, k, m, _ => Iff.rfl
  | N + 1, n, f, h, k, m, hn => by
    rw [rdT, rdT]
    by_cases c1 : n ≤ N
    · rw [if_pos c1, if_pos c1]; exact rdT_congr hf N n f h k m hn
    · rw [if_neg c1, if_neg c1]
      by_cases c2 : N = 0
      · rw [if_pos c2, if_pos c2, h f (by omega) (by omega)]
      · rw [if_neg c2, if_neg c2]
        constructor
        · rintro ⟨a, r, h1, h2, h3, h4, h5, h6⟩
          refine ⟨a, r, h1, h2, h3, h4, h5, (jn_congr (hf r h3 h4) (fun q => ?_) (fun q => ?_)).mp h6⟩
          · exact rdT_congr hf N a f (fun i i0 i1 => h i i0 (by omega)) _ q h1
          · exact rdT_congr hf N (n - a) (f + a) (fun i i0 i1 => h i (by omega) (by omega)) _ q (by omega)
        · rintro ⟨a, r, h1, h2, h3, h4, h5, h6⟩
          refine ⟨a, r, h1, h2, h3, h4, h5, (jn_congr (hf r h3 h4) (fun q => ?_) (fun q => ?_)).mpr h6⟩
          · exact rdT_congr hf N a f (fun i i0 i1 => h i i0 (by omega)) _ q h1
          · exact rdT_congr hf N (n - a) (f + a) (fun i i0 i1 => h i (by omega) (by omega)) _ q (by omega)
theorem READ_congr {fs fs' : Int → Prop} (hf : ∀ r, 0 ≤ r → r < g 10 1 → (fs r ↔ fs' r)) (hn : 1 ≤ n) (h : ∀ i, 0 ≤ i → i < n → w i = w' i) : READ g fs w n ↔ READ g fs' w' n := by
  unfold READ rd
  constructor
  · rintro ⟨m, h1, h2, h3⟩; exact ⟨m, h1, h2, (rdT_congr hf _ n 0 (fun i i0 i1 => h i i0 (by omega)) 0 m hn).mp h3⟩
  · rintro ⟨m, h1, h2, h3⟩; exact ⟨m, h1, h2, (rdT_congr hf _ n 0 (fun i i0 i1 => h i i0 (by omega)) 0 m hn).mpr h3⟩
/-! a table of mends -/
def mT (nw many : Int) (f3 f4 f5 ms : Int → Int) : Prop := ∀ k, 0 ≤ k → k < many → (0 ≤ f3 k ∧ f3 k ≤ 99) ∧ (1 ≤ f4 k ∧ f4 k ≤ 8) ∧ (∀ i, 0 ≤ i → i < f4 k → 0 ≤ f5 (8 * k + i) ∧ f5 (8 * k + i) < nw) ∧ (∀ i, f4 k ≤ i → i < 8 → f5 (8 * k + i) = -4) ∧ ms k = kK (f3 k) (f4 k) (fun i => f5 (8 * k + i))
theorem mT_ins {nw many e pl pr ln : Int} {f3 f4 f5 g3 g4 g5 row : Int → Int} (h : mT nw many f3 f4 f5 ms) (he : e ≤ many) (hp : 0 ≤ pr ∧ pr ≤ 99) (hl : 1 ≤ ln ∧ ln ≤ 8) (hr : ∀ i, 0 ≤ i → i < ln → 0 ≤ row i ∧ row i < nw) (hpl : 0 ≤ pl ∧ pl ≤ e)
    (a3 : ∀ k, 0 ≤ k → k ≤ e → g3 k = if k < pl then f3 k else if k = pl then pr else f3 (k - 1)) (a4 : ∀ k, 0 ≤ k → k ≤ e → g4 k = if k < pl then f4 k else if k = pl then ln else f4 (k - 1))
    (a5 : ∀ k i, 0 ≤ k → k ≤ e → 0 ≤ i → i < 8 → g5 (8 * k + i) = if k < pl then f5 (8 * k + i) else if k = pl then (if i < ln then row i else -4) else f5 (8 * (k - 1) + i)) : mT nw (e + 1) g3 g4 g5 (mIns ms pl (kK pr ln row)) := by
  intro k k0 k1
  rw [a3 k k0 (by omega), a4 k k0 (by omega)]
  unfold mIns
  by_cases c1 : k < pl
  · simp only [if_pos c1]
    obtain ⟨b1, b2, b3, b4, b5⟩ := h k k0 (by omega)
    have e5 : ∀ i, 0 ≤ i → i < 8 → g5 (8 * k + i) = f5 (8 * k + i) := fun i i0 i1 => by rw [a5 k i k0 (by omega) i0 i1, if_pos c1]
    refine ⟨b1, b2, fun i i0 i1 => by rw [e5 i i0 (by omega)]; exact b3 i i0 i1, fun i i0 i1 => by rw [e5 i (by omega) i1]; exact b4 i i0 i1, ?_⟩
    rw [b5]; exact kK_congr (fun i i0 i1 => (e5 i i0 (by omega)).symm)
  · simp only [if_neg c1]
    by_cases c2 : k = pl
    · simp only [if_pos c2]
      have e5 : ∀ i, 0 ≤ i → i < 8 → g5 (8 * k + i) = if i < ln then row i else -4 := fun i i0 i1 => by rw [a5 k i k0 (by omega) i0 i1, if_neg c1, if_pos c2]
      refine ⟨hp, hl, fun i i0 i1 => by rw [e5 i i0 (by omega), if_pos i1]; exact hr i i0 i1, fun i i0 i1 => by rw [e5 i (by omega) i1, if_neg (by omega)], ?_⟩
      exact kK_congr (fun i i0 i1 => by rw [e5 i i0 (by omega), if_pos i1])
    · simp only [if_neg c2]
      obtain ⟨b1, b2, b3, b4, b5⟩ := h (k - 1) (by omega) (by omega)
      have e5 : ∀ i, 0 ≤ i → i < 8 → g5 (8 * k + i) = f5 (8 * (k - 1) + i) := fun i i0 i1 => by rw [a5 k i k0 (by omega) i0 i1, if_neg c1, if_neg c2]
      refine ⟨b1, b2, fun i i0 i1 => by rw [e5 i i0 (by omega)]; exact b3 i i0 i1, fun i i0 i1 => by rw [e5 i (by omega) i1]; exact b4 i i0 i1, ?_⟩
      rw [b5]; exact kK_congr (fun i i0 i1 => (e5 i i0 (by omega)).symm)
end MENDS
