/-! turns that settle a cell (printed by gen) -/
section
/-! TURNS THAT SETTLE A CELL: each turn brings one more of the forty to its last value -/
def le40 (u v : Int → Int) : Prop := ∀ s, 0 ≤ s → s < 40 → u s ≤ v s
abbrev OfT : Type := (Int → Int) → Int → Int → Prop
def clo (Of : OfT) (u : Int → Int) : Prop := ∀ t c, 0 ≤ t → t < 40 → Of u t c → u t ≤ c
def ofM (Of : OfT) : Prop := ∀ u v t c, le40 u v → Of v t c → ∃ c', Of u t c' ∧ c' ≤ c
def ofS (Of : OfT) : Prop := ∀ (u U : Int → Int) t c, (∀ s, 0 ≤ s → s < 40 → U s = u s ∨ U s = u s + 1) → Of U t c → (∃ c', Of u t c' ∧ c' + 1 ≤ c) ∨ ∀ v, (∀ s, 0 ≤ s → s < 40 → U s = u s → v s = u s) → Of v t c
def ofN (Of : OfT) : Prop := ∀ u t c, (∀ s, 0 ≤ s → s < 40 → 0 ≤ u s) → Of u t c → 0 ≤ c
theorem le40_rf (u : Int → Int) : le40 u u := fun _ _ _ => Int.le_refl _
theorem le40_tr {u v w : Int → Int} (h : le40 u v) (h' : le40 v w) : le40 u w := fun s s0 s1 => Int.le_trans (h s s0 s1) (h' s s0 s1)
/-- the greatest closed one below u0 -/
def bestV (Of : OfT) (u0 u : Int → Int) : Prop := le40 u u0 ∧ clo Of u ∧ (∀ s, 0 ≤ s → s < 40 → 0 ≤ u s) ∧ ∀ U, le40 U u0 → clo Of U → le40 U u
theorem best_ex {Of : OfT} (hM : ofM Of) (hN : ofN Of) : ∀ (N : Nat) (u0 : Int → Int), (∀ s, 0 ≤ s → s < 40 → 0 ≤ u0 s) → sumN u0 40 ≤ N → ∃ u, bestV Of u0 u := by
  intro N
  induction N with
  | zero =>
    intro u0 h0 hs
    by_cases hc : clo Of u0
    · exact ⟨u0, le40_rf _, hc, h0, fun U hU _ => hU⟩
    · exfalso
      apply hc
      intro t c t0 t1 ho
      have h1 := hN u0 t c h0 ho
      have h2 : u0 t ≤ 0 := by
        rcases Int.lt_or_le 0 (u0 t) with q | q
        · exfalso
          have := (sumN_lt (f := fun _ => 0) (g := u0) (n := 40) (fun i i0 i1 => h0 i i0 i1)).2 ⟨t, t0, t1, q⟩
          have e : sumN (fun _ => (0 : Int)) 40 = 0 := by decide
          omega
        · exact q
      omega
  | succ N ih =>
    intro u0 h0 hs
    by_cases hc : clo Of u0
    · exact ⟨u0, le40_rf _, hc, h0, fun U hU _ => hU⟩
    · have hx : ∃ t c, 0 ≤ t ∧ t < 40 ∧ Of u0 t c ∧ c < u0 t := Classical.byContradiction fun hx => hc (fun t c t0 t1 ho => Classical.byContradiction fun q => hx ⟨t, c, t0, t1, ho, by omega⟩)
      obtain ⟨t, c, t0, t1, ho, hl⟩ := hx
      have hc0 := hN u0 t c h0 ho
      have hle : le40 (up u0 t c) u0 := fun s s0 s1 => by
        by_cases e : s = t
        · rw [e, up_eq]; omega
        · rw [up_ne _ _ e]; exact Int.le_refl _
      have hlt := (sumN_lt (f := up u0 t c) (g := u0) (n := 40) (fun i i0 i1 => hle i i0 i1)).2 ⟨t, t0, t1, by rw [up_eq]; exact hl⟩
      obtain ⟨u, b1, b2, b3, b4⟩ := ih (up u0 t c) (fun s s0 s1 => by
        by_cases e : s = t
        · rw [e, up_eq]; exact hc0
        · rw [up_ne _ _ e]; exact h0 s s0 s1) (by omega)
      refine ⟨u, le40_tr b1 hle, b2, b3, fun U hU hcU => b4 U (fun s s0 s1 => ?_) hcU⟩
      by_cases e : s = t
      · subst e
        rw [up_eq]
        obtain ⟨c', d1, d2⟩ := hM U u0 s c hU ho
        exact Int.le_trans (hcU s c' s0 s1 d1) d2
      · rw [up_ne _ _ e]; exact hU s s0 s1
/-- a turn settles one more -/
theorem settle {Of : OfT} (hS : ofS Of) {u0 u v v' : Int → Int} (hb : bestV Of u0 u) (h1 : le40 u v) (h2 : le40 v u0) (h3 : le40 u v') (h4 : le40 v' v) (h5 : ∀ t c, 0 ≤ t → t < 40 → Of v t c → v' t ≤ c) : (∀ s, 0 ≤ s → s < 40 → v s = u s) ∨ ∃ s, 0 ≤ s ∧ s < 40 ∧ v s ≠ u s ∧ v' s = u s := by
  refine Classical.byContradiction fun hx => ?_
  have hno : ∀ s, 0 ≤ s → s < 40 → v s ≠ u s → v' s ≠ u s := fun s s0 s1 a b => hx (Or.inr ⟨s, s0, s1, a, b⟩)
  obtain ⟨b1, b2, b3, b4⟩ := hb
  have hU := b4 (fun s => if v s = u s then u s else u s + 1) (fun s s0 s1 => by
    have a1 := h1 s s0 s1; have a2 := h2 s s0 s1
    show (if v s = u s then u s else u s + 1) ≤ u0 s
    split <;> omega) (fun t c t0 t1 ho => by
      show (if v t = u t then u t else u t + 1) ≤ c
      rcases hS u _ t c (fun s _ _ => by show (if v s = u s then u s else u s + 1) = u s ∨ (if v s = u s then u s else u s + 1) = u s + 1; split <;> simp) ho with ⟨c', d1, d2⟩ | d
      · have := b2 t c' t0 t1 d1
        split <;> omega
      · have hov := h5 t c t0 t1 (d v (fun s s0 s1 e => by
          have e : (if v s = u s then u s else u s + 1) = u s := e
          by_cases q : v s = u s
          · exact q
          · rw [if_neg q] at e; omega))
        have a3 := h3 t t0 t1
        by_cases q : v t = u t
        · rw [if_pos q]; omega
        · rw [if_neg q]
          have := hno t t0 t1 q
          omega)
  refine hx (Or.inl fun s s0 s1 => Classical.byContradiction fun q => ?_)
  have := hU s s0 s1
  have e : (if v s = u s then u s else u s + 1) ≤ u s := this
  rw [if_neg q] at e
  omega
/-- how many have come to their last value -/
def nF (u v : Int → Int) : Int := sumN (fun s => if v s = u s then 1 else 0) 40
theorem nF_top (u v : Int → Int) : nF u v ≤ 40 := by
  have := (sumN_le (f := fun s => if v s = u s then 1 else 0) (b := 1) (n := 40) (fun i _ _ => by show 0 ≤ (if v i = u i then (1 : Int) else 0) ∧ (if v i = u i then (1 : Int) else 0) ≤ 1; split <;> omega)).2
  unfold nF
  omega
theorem nF_0 (u v : Int → Int) : 0 ≤ nF u v := (sumN_le (f := fun s => if v s = u s then 1 else 0) (b := 1) (n := 40) (fun i _ _ => by show 0 ≤ (if v i = u i then (1 : Int) else 0) ∧ (if v i = u i then (1 : Int) else 0) ≤ 1; split <;> omega)).1
theorem nF_s {u v v' : Int → Int} (h1 : le40 u v') (h2 : le40 v' v) (h : ∃ s, 0 ≤ s ∧ s < 40 ∧ v s ≠ u s ∧ v' s = u s) : nF u v + 1 ≤ nF u v' := by
  obtain ⟨s, s0, s1, s2, s3⟩ := h
  have := (sumN_lt (f := fun s => if v s = u s then 1 else 0) (g := fun s => if v' s = u s then 1 else 0) (n := 40) (fun i i0 i1 => by
    have a := h1 i i0 (by omega); have b := h2 i i0 (by omega)
    show (if v i = u i then (1 : Int) else 0) ≤ (if v' i = u i then (1 : Int) else 0)
    by_cases e : v i = u i
    · rw [if_pos e, if_pos (by omega)]; omega
    · rw [if_neg e]; split <;> omega)).2 ⟨s, s0, by omega, by show (if v s = u s then (1 : Int) else 0) < (if v' s = u s then (1 : Int) else 0); rw [if_neg s2, if_pos s3]; omega⟩
  unfold nF
  omega
/-- what the turns keep: so many are settled, or all -/
def stl (u v : Int → Int) (i : Int) : Prop := (∀ s, 0 ≤ s → s < 40 → v s = u s) ∨ i ≤ nF u v
theorem stl_s {Of : OfT} (hS : ofS Of) {u0 u v v' : Int → Int} {i : Int} (hb : bestV Of u0 u) (h1 : le40 u v) (h2 : le40 v u0) (h3 : le40 u v') (h4 : le40 v' v) (h5 : ∀ t c, 0 ≤ t → t < 40 → Of v t c → v' t ≤ c) (h : stl u v i) : stl u v' (i + 1) := by
  rcases settle hS hb h1 h2 h3 h4 h5 with q | q
  · exact Or.inl fun s s0 s1 => Int.le_antisymm (Int.le_trans (h4 s s0 s1) (Int.le_of_eq (q s s0 s1))) (h3 s s0 s1)
  · rcases h with h | h
    · exact Or.inl fun s s0 s1 => Int.le_antisymm (Int.le_trans (h4 s s0 s1) (Int.le_of_eq (h s s0 s1))) (h3 s s0 s1)
    · have := nF_s h3 h4 q
      exact Or.inr (by omega)
theorem stl_end {Of : OfT} {u0 u v : Int → Int} {i mv : Int} (hb : bestV Of u0 u) (h1 : le40 u v) (h2 : le40 v u0) (h : stl u v i) (hm : mv = 0 → clo Of v) (hx : 40 < i ∨ mv = 0) : ∀ s, 0 ≤ s → s < 40 → v s = u s := by
  rcases hx with q | q
  · rcases h with h | h
    · exact h
    · have := nF_top u v; omega
  · exact fun s s0 s1 => Int.le_antisymm (hb.2.2.2 v h2 (hm q) s s0 s1) (h1 s s0 s1)
/-! the two kinds of offers -/
def vld (g : Gm) (r y z : Int) : Prop := (0 ≤ r ∧ r < g 10 1) ∧ (0 ≤ y ∧ y < 4) ∧ (0 ≤ z ∧ z < 4) ∧ (g 7 r = 0 ∨ y = z)
def tgt (g : Gm) (r y z : Int) : Int := 4 * g 4 r + (if g 8 r = 0 then y else z)
theorem tgt_rng {g : Gm} {r y z : Int} (hG : okG g) (h : vld g r y z) : (0 ≤ tgt g r y z ∧ tgt g r y z < 40) ∧ (0 ≤ 4 * g 5 r + y ∧ 4 * g 5 r + y < 40) ∧ (0 ≤ 4 * g 6 r + z ∧ 4 * g 6 r + z < 40) := by
  obtain ⟨h1, h2, h3, -⟩ := h
  have o := hG.2.2.2.1 r h1.1 h1.2
  unfold tgt
  split <;> omega
/-- both parts from the cell itself -/
def ofQ (g : Gm) : OfT := fun u t c => ∃ r y z, vld g r y z ∧ t = tgt g r y z ∧ c = u (4 * g 5 r + y) + u (4 * g 6 r + z)
/-- one part from what is put in -/
def ofL (g : Gm) (E1 E2 : Int → Int) : OfT := fun u t c => ∃ r y z, vld g r y z ∧ t = tgt g r y z ∧ (c = E1 (4 * g 5 r + y) + u (4 * g 6 r + z) ∨ c = u (4 * g 5 r + y) + E2 (4 * g 6 r + z))
variable {g : Gm} {E1 E2 : Int → Int}
theorem ofQ_M (hG : okG g) : ofM (ofQ g) := by
  rintro u v t c hl ⟨r, y, z, h1, h2, rfl⟩
  have hr := tgt_rng hG h1
  have a := hl _ hr.2.1.1 hr.2.1.2; have b := hl _ hr.2.2.1 hr.2.2.2
  exact ⟨_, ⟨r, y, z, h1, h2, rfl⟩, by omega⟩
theorem ofQ_N (hG : okG g) : ofN (ofQ g) := by
  rintro u t c hl ⟨r, y, z, h1, h2, rfl⟩
  have hr := tgt_rng hG h1
  have a := hl _ hr.2.1.1 hr.2.1.2; have b := hl _ hr.2.2.1 hr.2.2.2
  omega
theorem ofQ_S (hG : okG g) : ofS (ofQ g) := by
  rintro u U t c hl ⟨r, y, z, h1, h2, rfl⟩
  have hr := tgt_rng hG h1
  have a := hl _ hr.2.1.1 hr.2.1.2; have b := hl _ hr.2.2.1 hr.2.2.2
  by_cases q : U (4 * g 5 r + y) = u (4 * g 5 r + y) ∧ U (4 * g 6 r + z) = u (4 * g 6 r + z)
  · refine Or.inr fun v hv => ⟨r, y, z, h1, h2, ?_⟩
    rw [hv _ hr.2.1.1 hr.2.1.2 q.1, hv _ hr.2.2.1 hr.2.2.2 q.2, q.1, q.2]
  · exact Or.inl ⟨_, ⟨r, y, z, h1, h2, rfl⟩, by omega⟩
theorem ofL_M (hG : okG g) : ofM (ofL g E1 E2) := by
  rintro u v t c hl ⟨r, y, z, h1, h2, rfl | rfl⟩
  · have hr := tgt_rng hG h1
    have b := hl _ hr.2.2.1 hr.2.2.2
    exact ⟨_, ⟨r, y, z, h1, h2, Or.inl rfl⟩, by omega⟩
  · have hr := tgt_rng hG h1
    have a := hl _ hr.2.1.1 hr.2.1.2
    exact ⟨_, ⟨r, y, z, h1, h2, Or.inr rfl⟩, by omega⟩
theorem ofL_N (hG : okG g) (n1 : ∀ s, 0 ≤ s → s < 40 → 0 ≤ E1 s) (n2 : ∀ s, 0 ≤ s → s < 40 → 0 ≤ E2 s) : ofN (ofL g E1 E2) := by
  rintro u t c hl ⟨r, y, z, h1, h2, rfl | rfl⟩
  · have hr := tgt_rng hG h1
    have a := n1 _ hr.2.1.1 hr.2.1.2; have b := hl _ hr.2.2.1 hr.2.2.2
    omega
  · have hr := tgt_rng hG h1
    have a := hl _ hr.2.1.1 hr.2.1.2; have b := n2 _ hr.2.2.1 hr.2.2.2
    omega
theorem ofL_S (hG : okG g) : ofS (ofL g E1 E2) := by
  rintro u U t c hl ⟨r, y, z, h1, h2, rfl | rfl⟩
  · have hr := tgt_rng hG h1
    have b := hl _ hr.2.2.1 hr.2.2.2
    by_cases q : U (4 * g 6 r + z) = u (4 * g 6 r + z)
    · refine Or.inr fun v hv => ⟨r, y, z, h1, h2, Or.inl ?_⟩
      rw [hv _ hr.2.2.1 hr.2.2.2 q, q]
    · exact Or.inl ⟨_, ⟨r, y, z, h1, h2, Or.inl rfl⟩, by omega⟩
  · have hr := tgt_rng hG h1
    have a := hl _ hr.2.1.1 hr.2.1.2
    by_cases q : U (4 * g 5 r + y) = u (4 * g 5 r + y)
    · refine Or.inr fun v hv => ⟨r, y, z, h1, h2, Or.inr ?_⟩
      rw [hv _ hr.2.1.1 hr.2.1.2 q, q]
    · exact Or.inl ⟨_, ⟨r, y, z, h1, h2, Or.inr rfl⟩, by omega⟩
/-! a joining of two blocks into a third -/
def jO (g : Gm) (l r c : Int) (F f : Int → Int) : Prop := ∀ q y z, vld g q y z → f (c + tgt g q y z) ≤ F (l + (4 * g 5 q + y)) + F (r + (4 * g 6 q + z))
def jL (g : Gm) (l r c : Int) (LB : Int → Int) : Prop := ∀ q y z, vld g q y z → LB (c + tgt g q y z) ≤ LB (l + (4 * g 5 q + y)) + LB (r + (4 * g 6 q + z))
def blk (c : Int) (u v : Int → Int) : Prop := ∀ k, 0 ≤ k → k < 40 → u (c + k) ≤ v (c + k)
/-- what is kept while a block is lowered -/
def lowd (c : Int) (F f : Int → Int) : Prop := (∀ i, f i ≤ F i) ∧ (∀ i, (i < c ∨ c + 40 ≤ i) → f i = F i) ∧ ∀ i, 0 ≤ i → i < 3240 → 0 ≤ f i
theorem lowd_tr {c : Int} {F f f' : Int → Int} (h : lowd c F f) (h' : lowd c f f') : lowd c F f' := ⟨fun i => Int.le_trans (h'.1 i) (h.1 i), fun i hi => (h'.2.1 i hi).trans (h.2.1 i hi), h'.2.2⟩
/-- the table in the class's array -/
def tX (f : Int → Int) (a b k : Int) : Int := f (40 * (9 * a + b) + k)
/-- a table as an array -/
def uA (U : Int → Int → Int → Int) (i : Int) : Int := U (i / 360) (i / 40 % 9) (i % 40)
theorem uA_eq (U : Int → Int → Int → Int) {a b k : Int} (ha : 0 ≤ a) (hb : 0 ≤ b ∧ b ≤ 8) (hk : 0 ≤ k ∧ k < 40) : uA U (40 * (9 * a + b) + k) = U a b k := by
  unfold uA
  rw [show (40 * (9 * a + b) + k) / 360 = a by omega, show (40 * (9 * a + b) + k) / 40 % 9 = b by omega, show (40 * (9 * a + b) + k) % 40 = k by omega]
theorem alk_out {α : Type} {l : List (Nat × (Int → α))} {k : Nat} {d : Int → α} (h : ∀ q, q ∈ l → q.1 ≠ k) : alk l k d = d := by
  induction l with
  | nil => rfl
  | cons p t ih =>
    obtain ⟨k', f'⟩ := p
    have h1 := h (k', f') List.mem_cons_self
    simp only [alk]
    rw [if_neg (fun e => h1 e.symm)]
    exact ih (fun q hq => h q (List.mem_cons_of_mem _ hq))
theorem gX_li {h : AH} {gn : Nat} {li : List (Nat × (Int → Int))} {ll : List (Nat × (Int → Int64))} {lr : List (Nat × (Int → Nat))} (hg : gn = 20 ∨ gn = 40) (hl : li.all (fun q => decide (q.1 < 20) || decide (50 < q.1)) = true) : gX (hm h li ll lr) gn = gX h gn := by
  refine gX_eq (fun k k1 k2 => alk_out (fun q hq => ?_))
  have := List.all_eq_true.mp hl q hq
  simp only [Bool.or_eq_true, decide_eq_true_eq] at this
  omega
end
