/-! the class's mends: words about them (printed by gen) -/
section
/-! MENDS IN THE CLASS: rows that change places, tries that wait -/
def mPer (R : Int → Nat) : Prop := (∀ i, 0 ≤ i → i < 40 → 108 ≤ R i ∧ R i < 148) ∧ ∀ i j, 0 ≤ i → i < 40 → 0 ≤ j → j < 40 → R i = R j → i = j
def mRow (h : AH) (g : Gm) (ms : Int → Int) (k : Int) : Prop := ∃ (n : Int) (w : Int → Int), rowX h (h.2.2 61 k) n w ∧ okW g w n ∧ 1 ≤ n ∧ (0 ≤ h.1 62 k ∧ h.1 62 k ≤ 99) ∧ ms k = kK (h.1 62 k) n w
def mX (h : AH) (g : Gm) (many : Int) (ms : Int → Int) : Prop := h.1 60 2 = many ∧ mPer (h.2.2 61) ∧ ∀ k, 0 ≤ k → k < many → mRow h g ms k
def frI (h h' : AH) : Prop := (∀ k : Nat, k ≠ 60 → k ≠ 62 → ¬ (108 ≤ k ∧ k < 148) → ¬ (308 ≤ k ∧ k < 348) → h'.1 k = h.1 k) ∧ (∀ q : Int, q ≠ 2 → h'.1 60 q = h.1 60 q) ∧ (∀ k : Nat, k ≠ 15 → k ≠ 16 → h'.2.1 k = h.2.1 k) ∧ ∀ k : Nat, k ≠ 61 → h'.2.2 k = h.2.2 k
theorem frI_rf (h : AH) : frI h h := ⟨fun _ _ _ _ _ => rfl, fun _ _ => rfl, fun _ _ _ => rfl, fun _ _ => rfl⟩
theorem frI_tr {h h' h'' : AH} (a : frI h h') (b : frI h' h'') : frI h h'' := ⟨fun k k1 k2 k3 k4 => (b.1 k k1 k2 k3 k4).trans (a.1 k k1 k2 k3 k4), fun q hq => (b.2.1 q hq).trans (a.2.1 q hq), fun k k1 k2 => (b.2.2.1 k k1 k2).trans (a.2.2.1 k k1 k2), fun k k1 => (b.2.2.2 k k1).trans (a.2.2.2 k k1)⟩
def frM (h h' : AH) : Prop := (∀ k : Nat, k ≠ 60 → k ≠ 62 → k ≠ 64 → ¬ (108 ≤ k ∧ k < 212) → ¬ (308 ≤ k ∧ k < 412) → h'.1 k = h.1 k) ∧ (∀ k : Nat, k ≠ 15 → k ≠ 16 → h'.2.1 k = h.2.1 k) ∧ ∀ k : Nat, k ≠ 61 → h'.2.2 k = h.2.2 k
theorem frM_rf (h : AH) : frM h h := ⟨fun _ _ _ _ _ _ => rfl, fun _ _ _ => rfl, fun _ _ => rfl⟩
theorem frM_tr {h h' h'' : AH} (a : frM h h') (b : frM h' h'') : frM h h'' := ⟨fun k k1 k2 k3 k4 k5 => (b.1 k k1 k2 k3 k4 k5).trans (a.1 k k1 k2 k3 k4 k5), fun k k1 k2 => (b.2.1 k k1 k2).trans (a.2.1 k k1 k2), fun k k1 => (b.2.2 k k1).trans (a.2.2 k k1)⟩
theorem frI_M {h h' : AH} (a : frI h h') : frM h h' := ⟨fun k k1 k2 _ k4 k5 => a.1 k k1 k2 (by omega) (by omega), a.2.2.1, a.2.2.2⟩
theorem frM_gX {h h' : AH} {gn : Nat} {g : Gm} (hg : gn = 20 ∨ gn = 40) (a : frM h h') (e : gX h gn = g) : gX h' gn = g := (gX_eq (fun k k1 k2 => a.1 k (by omega) (by omega) (by omega) (by omega) (by omega))).trans e
theorem frM_row {h h' : AH} {r : Nat} {n : Int} {w : Int → Int} (hr : 100 ≤ r ∧ r < 108) (a : frM h h') (e : rowX h r n w) : rowX h' r n w := rowX_eq (a.1 r (by omega) (by omega) (by omega) (by omega) (by omega)) (a.1 (r + 200) (by omega) (by omega) (by omega) (by omega) (by omega)) e
theorem mX_eq {h h' : AH} {g : Gm} {many : Int} {ms : Int → Int} (hm40 : many ≤ 40) (e60 : h'.1 60 2 = h.1 60 2) (e61 : h'.2.2 61 = h.2.2 61) (e62 : h'.1 62 = h.1 62) (er : ∀ k : Nat, 108 ≤ k → k < 148 → h'.1 k = h.1 k ∧ h'.1 (k + 200) = h.1 (k + 200)) (q : mX h g many ms) : mX h' g many ms := by
  obtain ⟨q1, q2, q3⟩ := q
  refine ⟨e60.trans q1, by rw [e61]; exact q2, fun k k0 k1 => ?_⟩
  obtain ⟨n, w, r1, r2⟩ := q3 k k0 k1
  have hR := q2.1 k k0 (by omega)
  have ee := er _ hR.1 hR.2
  exact ⟨n, w, by rw [e61]; exact rowX_eq ee.1 ee.2 r1, by rw [e62]; exact r2⟩
theorem ins_fin {h h' : AH} {g : Gm} {many sz p c n : Int} {ms w : Int → Int} {C : Int → Prop} {sp : Nat} (hX : mX h g many ms) (hC : topk C many ms) (hsz : (many < 40 ∧ sz = many + 1) ∨ (many = 40 ∧ sz = 40)) (hp : 0 ≤ p ∧ p ≤ many ∧ p < 40) (hsp : h.2.2 61 (sz - 1) = sp)
    (hb : ∀ j, 0 ≤ j → j < p → ms j < kK c n w) (ha : p < many → kK c n w < ms p) (hW : okW g w n) (hn : 1 ≤ n) (hc : 0 ≤ c ∧ c ≤ 99)
    (e60 : h'.1 60 2 = sz) (e61 : ∀ j, h'.2.2 61 j = if j = p then sp else if p < j ∧ j ≤ sz - 1 then h.2.2 61 (j - 1) else h.2.2 61 j) (e62 : ∀ j, h'.1 62 j = if j = p then c else if p < j ∧ j ≤ sz - 1 then h.1 62 (j - 1) else h.1 62 j)
    (er : rowX h' sp n w) (eo : ∀ k : Nat, 108 ≤ k → k < 148 → k ≠ sp → h'.1 k = h.1 k ∧ h'.1 (k + 200) = h.1 (k + 200)) : ∃ (many' : Int) (ms' : Int → Int), topk (fun y => C y ∨ y = kK c n w) many' ms' ∧ mX h' g many' ms' := by
  obtain ⟨q1, ⟨q2, q2i⟩, q3⟩ := hX
  have hm := hC.1
  have e1 : ∀ j, h'.2.2 61 j = h.2.2 61 (if j = p then sz - 1 else if p < j ∧ j ≤ sz - 1 then j - 1 else j) := fun j => by
    rw [e61 j]
    by_cases c1 : j = p
    · rw [if_pos c1, if_pos c1]; exact hsp.symm
    · rw [if_neg c1, if_neg c1]
      by_cases c2 : p < j ∧ j ≤ sz - 1
      · rw [if_pos c2, if_pos c2]
      · rw [if_neg c2, if_neg c2]
  have hsr := q2 (sz - 1) (by omega) (by omega)
  rw [hsp] at hsr
  refine ⟨sz, mIns ms p (kK c n w), ?_, e60, ⟨fun i i0 i1 => ?_, fun i j i0 i1 j0 j1 e => ?_⟩, fun k k0 k1 => ?_⟩
  · have := topk_ins (x := kK c n w) hC hp hb (fun i i0 i1 => by
      by_cases e : i = p
      · rw [e]; exact ha (by omega)
      · have := hC.2.1 p i hp.1 (by omega) i1
        have := ha (by omega)
        omega) (e := sz - 1) (by omega)
    rw [show sz - 1 + 1 = sz by omega] at this
    exact this
  · rw [e1 i]
    refine q2 _ ?_ ?_ <;> (split <;> first | omega | (split <;> omega))
  · rw [e1 i, e1 j] at e
    have := q2i _ _ (by split <;> first | omega | (split <;> omega)) (by split <;> first | omega | (split <;> omega)) (by split <;> first | omega | (split <;> omega)) (by split <;> first | omega | (split <;> omega)) e
    by_cases c1 : i = p <;> by_cases c2 : j = p <;> by_cases c3 : p < i ∧ i ≤ sz - 1 <;> by_cases c4 : p < j ∧ j ≤ sz - 1 <;> simp only [c1, c2, c3, c4, if_true, if_false, and_self] at this <;> omega
  · unfold mRow mIns
    by_cases c1 : k < p
    · rw [if_pos c1, e62 k, e61 k, if_neg (by omega), if_neg (by omega), if_neg (by omega), if_neg (by omega)]
      obtain ⟨n1, w1, r1, r2⟩ := q3 k k0 (by omega)
      have hk := q2 k k0 (by omega)
      have ee := eo _ hk.1 hk.2 (fun e => by have := q2i k (sz - 1) k0 (by omega) (by omega) (by omega) (e.trans hsp.symm); omega)
      exact ⟨n1, w1, rowX_eq ee.1 ee.2 r1, r2⟩
    · rw [if_neg c1]
      by_cases c2 : k = p
      · rw [if_pos c2, e62 k, e61 k, if_pos c2, if_pos c2]
        exact ⟨n, w, er, hW, hn, hc, rfl⟩
      · rw [if_neg c2, e62 k, e61 k, if_neg c2, if_neg c2, if_pos (by omega), if_pos (by omega)]
        obtain ⟨n1, w1, r1, r2⟩ := q3 (k - 1) (by omega) (by omega)
        have hk := q2 (k - 1) (by omega) (by omega)
        have ee := eo _ hk.1 hk.2 (fun e => by have := q2i (k - 1) (sz - 1) (by omega) (by omega) (by omega) (by omega) (e.trans hsp.symm); omega)
        exact ⟨n1, w1, rowX_eq ee.1 ee.2 r1, r2⟩
/-! tries -/
def tRf (h : AH) : Prop := ∀ l : Int, 0 ≤ l → l < 64 → h.2.2 63 l = 148 + l.toNat
def tOne (h : AH) (g : Gm) (nT : Int) (W : Int → Int → Int) (Cs : Int → Int) (l : Int) : Prop := rowX h (148 + l.toNat) nT (W l) ∧ okW g (W l) nT ∧ 1 ≤ nT ∧ h.1 64 l = Cs l ∧ 0 ≤ Cs l ∧ Cs l ≤ 99
def TR (h : AH) (g : Gm) (cnt nT : Int) (W : Int → Int → Int) (Cs : Int → Int) : Prop := h.1 60 5 = cnt ∧ (0 ≤ cnt ∧ cnt ≤ 64) ∧ tRf h ∧ ∀ l, 0 ≤ l → l < cnt → tOne h g nT W Cs l
def tSet (g : Gm) (nT : Int) (W : Int → Int → Int) (Cs : Int → Int) (cnt y : Int) : Prop := ∃ l, 0 ≤ l ∧ l < cnt ∧ READ g (hasb 0) (W l) nT ∧ y = kK (Cs l) nT (W l)
def mInv (h : AH) (g : Gm) (nT cnt : Int) (S : Int → Prop) : Prop := ∃ (C : Int → Prop) (many : Int) (ms Cs : Int → Int) (W : Int → Int → Int), topk C many ms ∧ mX h g many ms ∧ TR h g cnt nT W Cs ∧ ∀ y, S y ↔ C y ∨ tSet g nT W Cs cnt y
theorem mInv_congr {h : AH} {g : Gm} {nT cnt : Int} {S S' : Int → Prop} (e : ∀ y, S y ↔ S' y) (q : mInv h g nT cnt S) : mInv h g nT cnt S' := by
  obtain ⟨C, many, ms, Cs, W, a, b, c, d⟩ := q
  exact ⟨C, many, ms, Cs, W, a, b, c, fun y => (e y).symm.trans (d y)⟩
theorem mInv_0 {h : AH} {g : Gm} {nT nT' : Int} {S : Int → Prop} (q : mInv h g nT 0 S) : mInv h g nT' 0 S := by
  obtain ⟨C, many, ms, Cs, W, a, b, c, d⟩ := q
  refine ⟨C, many, ms, Cs, W, a, b, ⟨c.1, c.2.1, c.2.2.1, fun l l0 l1 => by omega⟩, fun y => (d y).trans ?_⟩
  have n1 : ¬ tSet g nT W Cs 0 y := fun ⟨l, l0, l1, _⟩ => by omega
  have n2 : ¬ tSet g nT' W Cs 0 y := fun ⟨l, l0, l1, _⟩ => by omega
  exact or_congr Iff.rfl ⟨fun q => absurd q n1, fun q => absurd q n2⟩
theorem mInv_top {h : AH} {g : Gm} {nT : Int} {S : Int → Prop} (q : mInv h g nT 0 S) : ∃ many ms, topk S many ms ∧ mX h g many ms := by
  obtain ⟨C, many, ms, Cs, W, a, b, c, d⟩ := q
  refine ⟨many, ms, topk_congr a (fun y => ?_), b⟩
  rw [d y]
  exact ⟨Or.inl, fun q => q.elim id (fun ⟨l, l0, l1, _⟩ => by omega)⟩
theorem mInv_cnt {h : AH} {g : Gm} {nT cnt : Int} {S : Int → Prop} (q : mInv h g nT cnt S) : h.1 60 5 = cnt ∧ (0 ≤ cnt ∧ cnt ≤ 64) ∧ tRf h := by
  obtain ⟨C, many, ms, Cs, W, a, b, c, d⟩ := q
  exact ⟨c.1, c.2.1, c.2.2.1⟩
/-- one more waits -/
theorem mInv_try {h : AH} {g : Gm} {nT cnt c : Int} {S : Int → Prop} {w' e f : Int → Int} {ρ : Nat} (q : mInv h g nT cnt S) (hc : 0 ≤ c ∧ c ≤ 99) (h64 : cnt < 64) (hρ : ρ = 148 + cnt.toNat) (he : e 1 = nT) (hf : ∀ j, 0 ≤ j → j < nT → f j = w' j) (hW : okW g w' nT) (hn : 1 ≤ nT) :
    mInv (hm h [(60, up (h.1 60) 5 (cnt + 1)), (64, up (h.1 64) cnt c), (ρ + 200, f), (ρ, e)] [] []) g nT (cnt + 1) (fun y => S y ∨ (READ g (hasb 0) w' nT ∧ y = kK c nT w')) := by
  obtain ⟨C, many, ms, Cs, W, a, b, ⟨t1, t2, t3, t4⟩, d⟩ := q
  have ek : ∀ k : Nat, k ≠ 64 → k ≠ 60 → k ≠ ρ + 200 → k ≠ ρ → (hm h [(60, up (h.1 60) 5 (cnt + 1)), (64, up (h.1 64) cnt c), (ρ + 200, f), (ρ, e)] [] []).1 k = h.1 k := fun k k1 k2 k3 k4 => by simp only [hm, alk, if_neg k1, if_neg k2, if_neg k3, if_neg k4]
  have e60 : (hm h [(60, up (h.1 60) 5 (cnt + 1)), (64, up (h.1 64) cnt c), (ρ + 200, f), (ρ, e)] [] []).1 60 = up (h.1 60) 5 (cnt + 1) := rfl
  have e64 : (hm h [(60, up (h.1 60) 5 (cnt + 1)), (64, up (h.1 64) cnt c), (ρ + 200, f), (ρ, e)] [] []).1 64 = up (h.1 64) cnt c := rfl
  have eρ : (hm h [(60, up (h.1 60) 5 (cnt + 1)), (64, up (h.1 64) cnt c), (ρ + 200, f), (ρ, e)] [] []).1 ρ = e := by simp (disch := omega) only [hm, alk, if_neg, ite_true]
  have eρ2 : (hm h [(60, up (h.1 60) 5 (cnt + 1)), (64, up (h.1 64) cnt c), (ρ + 200, f), (ρ, e)] [] []).1 (ρ + 200) = f := by simp (disch := omega) only [hm, alk, if_neg, ite_true]
  have hm4 := a.1
  generalize hh : hm h [(60, up (h.1 60) 5 (cnt + 1)), (64, up (h.1 64) cnt c), (ρ + 200, f), (ρ, e)] [] [] = h' at ek e60 e64 eρ eρ2 ⊢
  have er2 : h'.2.2 = h.2.2 := by rw [← hh]; rfl
  refine ⟨C, many, ms, up Cs cnt c, up W cnt w', a, mX_eq hm4.2 (by rw [e60, up_ne _ _ (by omega)]) (by rw [er2]) (ek 62 (by omega) (by omega) (by omega) (by omega)) (fun k k1 k2 => ⟨ek k (by omega) (by omega) (by omega) (by omega), ek (k + 200) (by omega) (by omega) (by omega) (by omega)⟩) b, ⟨by rw [e60, up_eq], by omega, fun l l0 l1 => by rw [er2]; exact t3 l l0 l1, fun l l0 l1 => ?_⟩, fun y => ?_⟩
  · by_cases q : l = cnt
    · subst q
      unfold tOne
      rw [e64]
      simp only [up_eq]
      rw [← hρ]
      exact ⟨⟨by rw [eρ]; exact he, fun i i0 i1 => by rw [eρ2]; exact hf i i0 i1⟩, hW, hn, trivial, hc.1, hc.2⟩
    · have o := t4 l l0 (by omega)
      unfold tOne at o ⊢
      rw [e64]
      simp only [up_ne _ _ q]
      exact ⟨rowX_eq (ek _ (by omega) (by omega) (by omega) (by omega)) (ek _ (by omega) (by omega) (by omega) (by omega)) o.1, o.2⟩
  · show (S y ∨ (READ g (hasb 0) w' nT ∧ y = kK c nT w')) ↔ _
    rw [d y]
    constructor
    · rintro ((q | ⟨l, l0, l1, l2, l3⟩) | ⟨q1, q2⟩)
      · exact Or.inl q
      · exact Or.inr ⟨l, l0, by omega, by rw [up_ne _ _ (by omega)]; exact l2, by simp only [up_ne _ _ (show l ≠ cnt by omega)]; exact l3⟩
      · exact Or.inr ⟨cnt, by omega, by omega, by rw [up_eq]; exact q1, by simp only [up_eq]; exact q2⟩
    · rintro (q | ⟨l, l0, l1, l2, l3⟩)
      · exact Or.inl (Or.inl q)
      · by_cases q : l = cnt
        · subst q
          simp only [up_eq] at l2 l3
          exact Or.inr ⟨l2, l3⟩
        · simp only [up_ne _ _ q] at l2 l3
          exact Or.inl (Or.inr ⟨l, l0, by omega, l2, l3⟩)
theorem frM_try {h : AH} {cnt : Int} {a b e f : Int → Int} {ρ : Nat} (hρ : ρ = 148 + cnt.toNat) (hc : 0 ≤ cnt ∧ cnt < 64) : frM h (hm h [(60, b), (64, a), (ρ + 200, f), (ρ, e)] [] []) :=
  ⟨fun k k1 k2 k3 k4 k5 => by simp (disch := omega) only [hm, alk, if_neg], fun _ _ _ => rfl, fun _ _ => rfl⟩
/-- the bit of a lane -/
theorem lane_bit (x : Int64) {l : Int} (hl : 0 ≤ l ∧ l < 64) : lcmpI (lushr x l &&& i2l 1) (i2l 1) = 0 ↔ bitL x l := by
  rw [lcmp_0]
  have h1 : (i2l 1).toBitVec = 1#64 := by decide
  have e0 : (lushr x l &&& i2l 1).toBitVec = (x.toBitVec >>> l.toNat) &&& 1#64 := by rw [Int64.toBitVec_and, lushr_bv x hl, h1]
  have e3 : (x.toBitVec >>> l.toNat).getLsbD 0 = x.toBitVec.getLsbD l.toNat := by rw [BitVec.getLsbD_ushiftRight, Nat.add_zero]
  unfold bitL
  rw [← e3]
  constructor
  · intro q
    have q2 := congrArg Int64.toBitVec q
    rw [e0, h1] at q2
    have := congrArg (fun v => BitVec.getLsbD v 0) q2
    simpa using this
  · intro q
    apply Int64.toBitVec_inj.mp
    rw [e0, h1]
    apply BitVec.eq_of_getLsbD_eq
    intro i hi
    rw [BitVec.getLsbD_and, BitVec.getLsbD_one]
    by_cases h0 : i = 0
    · subst h0; rw [q]; decide
    · simp [h0]
/-- the tries that wait are read: they are among the mends -/
theorem mInv_read {h' : AH} {g : Gm} {nT cnt many : Int} {ms Cs : Int → Int} {W : Int → Int → Int} {C S : Int → Prop} (hS : ∀ y, S y ↔ C y ∨ tSet g nT W Cs cnt y) (hC : topk (fun y => C y ∨ tSet g nT W Cs cnt y) many ms) (hX : mX h' g many ms) (h5 : h'.1 60 5 = 0) (ht : tRf h') : mInv h' g nT 0 S :=
  ⟨_, many, ms, Cs, W, hC, hX, ⟨h5, by omega, ht, fun l l0 l1 => by omega⟩, fun y => (hS y).trans ⟨Or.inl, fun q => q.elim id (fun ⟨l, l0, l1, _⟩ => by omega)⟩⟩
theorem tSet_s {g : Gm} {nT l : Int} {Cs : Int → Int} {W : Int → Int → Int} (hl : 0 ≤ l) (y : Int) : tSet g nT W Cs (l + 1) y ↔ tSet g nT W Cs l y ∨ (READ g (hasb 0) (W l) nT ∧ y = kK (Cs l) nT (W l)) := by
  constructor
  · rintro ⟨i, i0, i1, i2, i3⟩
    by_cases e : i = l
    · subst e; exact Or.inr ⟨i2, i3⟩
    · exact Or.inl ⟨i, i0, by omega, i2, i3⟩
  · rintro (⟨i, i0, i1, i2, i3⟩ | ⟨q1, q2⟩)
    · exact ⟨i, i0, by omega, i2, i3⟩
    · exact ⟨l, hl, by omega, q1, q2⟩
end
