/-! one cell of the table of prices (printed by gen) -/
section
/-! ONE CELL OF THE TABLE OF PRICES -/
variable {g : Gm} {pr : Int → Int} {qs : Int → Prop} {w : Int → Int}
/-- a block lowered by a joining stays above what no RULE lowers -/
theorem jC_low {l r c b : Int} {F f u : Int → Int} (h : jC g l r c F f b) (hu : ∀ s, 0 ≤ s → s < 40 → u s ≤ F (c + s)) (hOk : okG g)
    (hc : ∀ q y z, vld g q y z → u (tgt g q y z) ≤ (if c ≤ l + (4 * g 5 q + y) ∧ l + (4 * g 5 q + y) < c + 40 then u (l + (4 * g 5 q + y) - c) else F (l + (4 * g 5 q + y))) + (if c ≤ r + (4 * g 6 q + z) ∧ r + (4 * g 6 q + z) < c + 40 then u (r + (4 * g 6 q + z) - c) else F (r + (4 * g 6 q + z)))) : ∀ s, 0 ≤ s → s < 40 → u s ≤ f (c + s) := by
  have key := h.2.2.2.2 (fun i => if c ≤ i ∧ i < c + 40 then u (i - c) else F i) (fun i => by
    show (if c ≤ i ∧ i < c + 40 then u (i - c) else F i) ≤ F i
    by_cases e : c ≤ i ∧ i < c + 40
    · rw [if_pos e]
      have := hu (i - c) (by omega) (by omega)
      rw [show c + (i - c) = i by omega] at this
      exact this
    · rw [if_neg e]; exact Int.le_refl _) (fun q y z hv => by
    have ht := tgt_rng hOk hv
    have := hc q y z hv
    show (if c ≤ c + tgt g q y z ∧ c + tgt g q y z < c + 40 then u (c + tgt g q y z - c) else F (c + tgt g q y z)) ≤ _
    rw [if_pos (by omega), show c + tgt g q y z - c = tgt g q y z by omega]
    exact this)
  intro s s0 s1
  have := key (c + s)
  have e : (if c ≤ c + s ∧ c + s < c + 40 then u (c + s - c) else F (c + s)) ≤ f (c + s) := this
  rw [if_pos (by omega), show c + s - c = s by omega] at e
  exact e
/-- a turn with what is put in, ahead and behind -/
theorem pi_step {l r c z1 z2 : Int} {F f f1 f2 u : Int → Int} (hOk : okG g) (dl : l + 40 ≤ c ∨ c + 40 ≤ l) (dr : r + 40 ≤ c ∨ c + 40 ≤ r) (hL : lowd c F f) (hcl : clo (ofL g (fun s => F (l + s)) (fun s => F (r + s))) u) (hu : le40 u (fun s => f (c + s))) (h1 : jC g l c c f f1 z1) (h2 : jC g c r c f1 f2 z2) :
    lowd c F f2 ∧ le40 u (fun s => f2 (c + s)) ∧ le40 (fun s => f2 (c + s)) (fun s => f (c + s)) ∧ (∀ t x, 0 ≤ t → t < 40 → ofL g (fun s => F (l + s)) (fun s => F (r + s)) (fun s => f (c + s)) t x → f2 (c + t) ≤ x) ∧ (z1 = 0 ∧ z2 = 0 → clo (ofL g (fun s => F (l + s)) (fun s => F (r + s))) (fun s => f2 (c + s))) := by
  have e1 : ∀ s, 0 ≤ s → s < 40 → f (l + s) = F (l + s) := fun s s0 s1 => hL.2.1 _ (by omega)
  have e2 : ∀ s, 0 ≤ s → s < 40 → f1 (r + s) = F (r + s) := fun s s0 s1 => (h1.2.1.2.1 _ (by omega)).trans (hL.2.1 _ (by omega))
  have u1 : le40 u (fun s => f1 (c + s)) := jC_low h1 hu hOk (fun q y z hv => by
    have ht := tgt_rng hOk hv
    rw [if_neg (by omega), if_pos (by omega), show c + (4 * g 6 q + z) - c = 4 * g 6 q + z by omega, e1 _ ht.2.1.1 ht.2.1.2]
    exact hcl _ _ ht.1.1 ht.1.2 ⟨q, y, z, hv, rfl, Or.inl rfl⟩)
  have u2 : le40 u (fun s => f2 (c + s)) := jC_low h2 u1 hOk (fun q y z hv => by
    have ht := tgt_rng hOk hv
    rw [if_pos (by omega), if_neg (by omega), show c + (4 * g 5 q + y) - c = 4 * g 5 q + y by omega, e2 _ ht.2.2.1 ht.2.2.2]
    exact hcl _ _ ht.1.1 ht.1.2 ⟨q, y, z, hv, rfl, Or.inr rfl⟩)
  have of : ∀ t x, 0 ≤ t → t < 40 → ofL g (fun s => F (l + s)) (fun s => F (r + s)) (fun s => f (c + s)) t x → f2 (c + t) ≤ x := by
    rintro t x t0 t1 ⟨q, y, z, hv, rfl, rfl | rfl⟩
    · have ht := tgt_rng hOk hv
      have a := h1.2.2.2.1 q y z hv
      have b := h2.2.1.1 (c + tgt g q y z)
      rw [e1 _ ht.2.1.1 ht.2.1.2] at a
      show _ ≤ F (l + (4 * g 5 q + y)) + f (c + (4 * g 6 q + z))
      omega
    · have ht := tgt_rng hOk hv
      have a := h2.2.2.2.1 q y z hv
      have b := h1.2.1.1 (c + (4 * g 5 q + y))
      rw [e2 _ ht.2.2.1 ht.2.2.2] at a
      show _ ≤ f (c + (4 * g 5 q + y)) + F (r + (4 * g 6 q + z))
      omega
  refine ⟨lowd_tr hL (lowd_tr h1.2.1 h2.2.1), u2, fun s s0 s1 => Int.le_trans (h2.2.1.1 _) (h1.2.1.1 _), of, fun hz => ?_⟩
  have e3 : ∀ i, f2 i = f i := fun i => (h2.2.2.1 hz.2 i).trans (h1.2.2.1 hz.1 i)
  have e4 : (fun s => f2 (c + s)) = fun s => f (c + s) := funext fun s => e3 _
  intro t x t0 t1 ho
  rw [e4] at ho
  exact of t x t0 t1 ho
/-- a turn of what is put in by itself -/
theorem pq_step {c z1 : Int} {F f f1 u : Int → Int} (hOk : okG g) (hL : lowd c F f) (hcl : clo (ofQ g) u) (hu : le40 u (fun s => f (c + s))) (h1 : jC g c c c f f1 z1) :
    lowd c F f1 ∧ le40 u (fun s => f1 (c + s)) ∧ le40 (fun s => f1 (c + s)) (fun s => f (c + s)) ∧ (∀ t x, 0 ≤ t → t < 40 → ofQ g (fun s => f (c + s)) t x → f1 (c + t) ≤ x) ∧ (z1 = 0 → clo (ofQ g) (fun s => f1 (c + s))) := by
  have of : ∀ t x, 0 ≤ t → t < 40 → ofQ g (fun s => f (c + s)) t x → f1 (c + t) ≤ x := by
    rintro t x t0 t1 ⟨q, y, z, hv, rfl, rfl⟩
    exact h1.2.2.2.1 q y z hv
  refine ⟨lowd_tr hL h1.2.1, jC_low h1 hu hOk (fun q y z hv => ?_), fun s s0 s1 => h1.2.1.1 _, of, fun hz => ?_⟩
  · have ht := tgt_rng hOk hv
    rw [if_pos (by omega), if_pos (by omega), show c + (4 * g 5 q + y) - c = 4 * g 5 q + y by omega, show c + (4 * g 6 q + z) - c = 4 * g 6 q + z by omega]
    exact hcl _ _ ht.1.1 ht.1.2 ⟨q, y, z, hv, rfl, rfl⟩
  · have e4 : (fun s => f1 (c + s)) = fun s => f (c + s) := funext fun s => h1.2.2.1 hz _
    intro t x t0 t1 ho
    rw [e4] at ho
    exact of t x t0 t1 ho
theorem lfB_swp {q : Prop} {own v x : Int} (h : lfB g pr q own v x) (hq : ¬ q) (h1 : x ≤ 100) (hp : ∀ c, 0 ≤ c → c < 5 → 0 ≤ pr c ∧ pr c ≤ 99) : x ≤ swpP g pr own v := by
  have a0 := hp 0 (by omega) (by omega); have a1 := hp 1 (by omega) (by omega); have a2 := hp 2 (by omega) (by omega)
  unfold swpP
  by_cases e : own = v
  · have := h.1 e
    split <;> split <;> split <;> omega
  · obtain ⟨b0, b1, b2⟩ := h.2 e hq
    by_cases c0 : g 2 own = g 2 v <;> by_cases c1 : g 3 own = g 3 v <;> by_cases c2 : g 0 own = g 0 v <;> simp only [c0, c1, c2, if_true, if_false] <;> first | (have := b0 c0) | skip
    all_goals (try have d0 := b0 c0)
    all_goals (try have d1 := b1 c1)
    all_goals (try have d2 := b2 c2)
    all_goals (clear b0 b1 b2; omega)
theorem swp_lfB {q : Prop} {own v x : Int} (h0 : own = v → x ≤ 0) (h : ¬ q → x ≤ swpP g pr own v) : lfB g pr q own v x := by
  refine ⟨h0, fun _ hq => ?_⟩
  have := h hq
  unfold swpP at this
  refine ⟨fun e => ?_, fun e => ?_, fun e => ?_⟩
  · rw [if_pos e] at this; omega
  · rw [if_pos e] at this; omega
  · rw [if_pos e] at this; omega
/-- leaves of a cell of one place -/
def lvs (g : Gm) (pr : Int → Int) (q : Prop) (own : Int) (u : Int → Int) : Prop := ∀ v, 0 ≤ v → v < g 10 0 → lfB g pr q own v (u (4 * g 0 v + g 1 v))
/-- what a run begins with -/
def stR (g : Gm) (pr : Int → Int) (qs : Int → Prop) (w : Int → Int) (a b : Int) (F : Int → Int) (u : Int → Int) : Prop := (∀ k, 0 ≤ k → k < 40 → u k ≤ 100) ∧ (b = a + 1 → lvs g pr (qs a) (w a) u) ∧ (¬ qs a → ∀ k, 0 ≤ k → k < 40 → u k ≤ F (40 * (9 * (a + 1) + b) + k) + pr 3) ∧ (¬ qs (b - 1) → ∀ k, 0 ≤ k → k < 40 → u k ≤ F (40 * (9 * a + (b - 1)) + k) + pr 3)
/-- a cell is done -/
theorem ls_step {N a b : Int} {f0 f1 f2 f3 : Int → Int} (hOk : okG g) (hN : N ≤ 8) (hab : 0 ≤ a ∧ a < b ∧ b ≤ N) (h1o : ∀ i, (i < 40 * (9 * a + b) ∨ 40 * (9 * a + b) + 40 ≤ i) → f1 i = f0 i)
    (h1 : stR g pr qs w a b f0 (fun k => f1 (40 * (9 * a + b) + k))) (h1s : ∀ u, stR g pr qs w a b f0 u → ∀ k, 0 ≤ k → k < 40 → u k ≤ f1 (40 * (9 * a + b) + k))
    (h2 : lowd (40 * (9 * a + b)) f1 f2) (h2o : ∀ m, a < m → m < b → jO g (40 * (9 * a + m)) (40 * (9 * m + b)) (40 * (9 * a + b)) f1 f2) (h2s : ∀ LB : Int → Int, (∀ i, LB i ≤ f1 i) → (∀ m, a < m → m < b → jL g (40 * (9 * a + m)) (40 * (9 * m + b)) (40 * (9 * a + b)) LB) → ∀ i, LB i ≤ f2 i)
    (h3 : lowd (40 * (9 * a + b)) f2 f3) (h3c : clo (ofL g (fun s => f2 (40 * (9 * a + a) + s)) (fun s => f2 (40 * (9 * b + b) + s))) (fun s => f3 (40 * (9 * a + b) + s)))
    (h3s : ∀ U, le40 U (fun s => f2 (40 * (9 * a + b) + s)) → clo (ofL g (fun s => f2 (40 * (9 * a + a) + s)) (fun s => f2 (40 * (9 * b + b) + s))) U → le40 U (fun s => f3 (40 * (9 * a + b) + s))) :
    (∀ i, (i < 40 * (9 * a + b) ∨ 40 * (9 * a + b) + 40 ≤ i) → f3 i = f0 i) ∧ cell g pr qs w 100 (tX f3) a b ∧ ∀ U, clsd g pr qs w N 100 U → (∀ x y k, a ≤ x → x ≤ y → y ≤ b → ¬ (x = a ∧ y = b) → 0 ≤ k → k < 40 → U x y k ≤ tX f0 x y k) → ∀ k, 0 ≤ k → k < 40 → U a b k ≤ tX f3 a b k := by
  have hle : ∀ k, 0 ≤ k → k < 40 → f3 (40 * (9 * a + b) + k) ≤ f1 (40 * (9 * a + b) + k) := fun k _ _ => Int.le_trans (h3.1 _) (h2.1 _)
  have hout : ∀ i, (i < 40 * (9 * a + b) ∨ 40 * (9 * a + b) + 40 ≤ i) → f3 i = f0 i := fun i hi => (h3.2.1 i hi).trans ((h2.2.1 i hi).trans (h1o i hi))
  have hout2 : ∀ i, (i < 40 * (9 * a + b) ∨ 40 * (9 * a + b) + 40 ≤ i) → f2 i = f0 i := fun i hi => (h2.2.1 i hi).trans (h1o i hi)
  refine ⟨hout, ⟨fun k k0 k1 => Int.le_trans (hle k k0 k1) (h1.1 k k0 k1), fun e => by omega, fun e v v0 v1 => ?_, fun _ k k0 k1 => ⟨fun q => ?_, fun q => ?_⟩, fun m m0 m1 r r0 r1 y z y0 y1 z0 z1 hv => ?_⟩, fun U hU hB => ?_⟩
  · have o := hOk.2.2.1 v v0 v1
    obtain ⟨l1, l2⟩ := h1.2.1 e v v0 v1
    have hx := hle (4 * g 0 v + g 1 v) (by omega) (by omega)
    refine ⟨fun e2 => Int.le_trans hx (l1 e2), fun e2 e3 => ?_⟩
    obtain ⟨m1, m2, m3⟩ := l2 e2 e3
    exact ⟨fun e4 => Int.le_trans hx (m1 e4), fun e4 => Int.le_trans hx (m2 e4), fun e4 => Int.le_trans hx (m3 e4)⟩
  · have := h1.2.2.1 q k k0 k1
    have hx := hle k k0 k1
    show f3 _ ≤ f3 (40 * (9 * (a + 1) + b) + k) + pr 3
    rw [hout (40 * (9 * (a + 1) + b) + k) (by omega)]
    exact Int.le_trans hx this
  · have := h1.2.2.2 q k k0 k1
    have hx := hle k k0 k1
    show f3 _ ≤ f3 (40 * (9 * a + (b - 1)) + k) + pr 3
    rw [hout (40 * (9 * a + (b - 1)) + k) (by omega)]
    exact Int.le_trans hx this
  · have hvl : vld g r y z := ⟨⟨r0, r1⟩, ⟨y0, y1⟩, ⟨z0, z1⟩, hv⟩
    have ht := tgt_rng hOk hvl
    show f3 (40 * (9 * a + b) + tgt g r y z) ≤ f3 (40 * (9 * a + m) + (4 * g 5 r + y)) + f3 (40 * (9 * m + b) + (4 * g 6 r + z))
    by_cases ea : m = a
    · subst ea
      have := h3c (tgt g r y z) _ ht.1.1 ht.1.2 ⟨r, y, z, hvl, rfl, Or.inl rfl⟩
      rw [hout (40 * (9 * m + m) + (4 * g 5 r + y)) (by omega), ← hout2 (40 * (9 * m + m) + (4 * g 5 r + y)) (by omega)]
      exact this
    · by_cases eb : m = b
      · subst eb
        have := h3c (tgt g r y z) _ ht.1.1 ht.1.2 ⟨r, y, z, hvl, rfl, Or.inr rfl⟩
        rw [hout (40 * (9 * m + m) + (4 * g 6 r + z)) (by omega), ← hout2 (40 * (9 * m + m) + (4 * g 6 r + z)) (by omega)]
        exact this
      · have := h2o m (by omega) (by omega) r y z hvl
        have hx := h3.1 (40 * (9 * a + b) + tgt g r y z)
        rw [hout (40 * (9 * a + m) + (4 * g 5 r + y)) (by omega), hout (40 * (9 * m + b) + (4 * g 6 r + z)) (by omega), ← h1o (40 * (9 * a + m) + (4 * g 5 r + y)) (by omega), ← h1o (40 * (9 * m + b) + (4 * g 6 r + z)) (by omega)]
        omega
  · obtain ⟨c1, c2, c3, c4, c5⟩ := hU a b hab.1 (by omega) hab.2.2
    have s1 : ∀ k, 0 ≤ k → k < 40 → U a b k ≤ f1 (40 * (9 * a + b) + k) := h1s (fun k => U a b k) ⟨c1, fun e v v0 v1 => c3 e v v0 v1, fun q k k0 k1 => by
        have := (c4 (by omega) k k0 k1).1 q
        have hx := hB (a + 1) b k (by omega) (by omega) (by omega) (by omega) k0 k1
        have hx : U (a + 1) b k ≤ f0 (40 * (9 * (a + 1) + b) + k) := hx
        show U a b k ≤ _
        omega, fun q k k0 k1 => by
        have := (c4 (by omega) k k0 k1).2 q
        have hx := hB a (b - 1) k (by omega) (by omega) (by omega) (by omega) k0 k1
        have hx : U a (b - 1) k ≤ f0 (40 * (9 * a + (b - 1)) + k) := hx
        show U a b k ≤ _
        omega⟩
    have low : ∀ x y k, a ≤ x → x ≤ y → y ≤ b → 0 ≤ k → k < 40 → U x y k ≤ f1 (40 * (9 * x + y) + k) := fun x y k x0 x1 x2 k0 k1 => by
      by_cases e : x = a ∧ y = b
      · obtain ⟨rfl, rfl⟩ := e
        exact s1 k k0 k1
      · have := hB x y k x0 x1 x2 e k0 k1
        rw [h1o _ (by omega)]
        exact this
    have s2 := h2s (fun i => min (uA U i) (f1 i)) (fun i => Int.min_le_right _ _) (fun m m0 m1 r y z hv => by
      have ht := tgt_rng hOk hv
      have l1 := low a m (4 * g 5 r + y) (by omega) (by omega) (by omega) ht.2.1.1 ht.2.1.2
      have l2 := low m b (4 * g 6 r + z) (by omega) (by omega) (by omega) ht.2.2.1 ht.2.2.2
      have l3 := low a b (tgt g r y z) (by omega) (by omega) (by omega) ht.1.1 ht.1.2
      have l4 := c5 m (by omega) (by omega) r hv.1.1 hv.1.2 y z hv.2.1.1 hv.2.1.2 hv.2.2.1.1 hv.2.2.1.2 hv.2.2.2
      have l4 : U a b (tgt g r y z) ≤ U a m (4 * g 5 r + y) + U m b (4 * g 6 r + z) := l4
      show min (uA U _) _ ≤ min (uA U _) _ + min (uA U _) _
      rw [uA_eq U hab.1 (by omega) ⟨ht.1.1, ht.1.2⟩, uA_eq U hab.1 (by omega) ⟨ht.2.1.1, ht.2.1.2⟩, uA_eq U (by omega) (by omega) ⟨ht.2.2.1, ht.2.2.2⟩]
      omega)
    have s2b : ∀ k, 0 ≤ k → k < 40 → U a b k ≤ f2 (40 * (9 * a + b) + k) := fun k k0 k1 => by
      have := s2 (40 * (9 * a + b) + k)
      have e : min (uA U (40 * (9 * a + b) + k)) (f1 (40 * (9 * a + b) + k)) ≤ f2 (40 * (9 * a + b) + k) := this
      rw [uA_eq U hab.1 (by omega) ⟨k0, k1⟩] at e
      have := s1 k k0 k1
      omega
    refine h3s (fun k => U a b k) s2b ?_
    rintro t x t0 t1 ⟨r, y, z, hv, rfl, rfl | rfl⟩
    · have ht := tgt_rng hOk hv
      have l1 := low a a (4 * g 5 r + y) (by omega) (by omega) (by omega) ht.2.1.1 ht.2.1.2
      have l4 : U a b (tgt g r y z) ≤ U a a (4 * g 5 r + y) + U a b (4 * g 6 r + z) := c5 a (by omega) (by omega) r hv.1.1 hv.1.2 y z hv.2.1.1 hv.2.1.2 hv.2.2.1.1 hv.2.2.1.2 hv.2.2.2
      have e := h2.2.1 (40 * (9 * a + a) + (4 * g 5 r + y)) (by omega)
      show U a b _ ≤ f2 (40 * (9 * a + a) + (4 * g 5 r + y)) + U a b (4 * g 6 r + z)
      omega
    · have ht := tgt_rng hOk hv
      have l1 := low b b (4 * g 6 r + z) (by omega) (by omega) (by omega) ht.2.2.1 ht.2.2.2
      have l4 : U a b (tgt g r y z) ≤ U a b (4 * g 5 r + y) + U b b (4 * g 6 r + z) := c5 b (by omega) (by omega) r hv.1.1 hv.1.2 y z hv.2.1.1 hv.2.1.2 hv.2.2.1.1 hv.2.2.1.2 hv.2.2.2
      have e := h2.2.1 (40 * (9 * b + b) + (4 * g 6 r + z)) (by omega)
      show U a b _ ≤ U a b (4 * g 5 r + y) + f2 (40 * (9 * b + b) + (4 * g 6 r + z))
      omega
end
