/-! the class's bars: sets one after the other (printed by gen) -/
section
/-! SETS ONE AFTER THE OTHER -/
def low (x : Int) : Int := iand x (-x)
def nxS (x : Int) : Int := ior (x + low x) (iushr (ixor x (x + low x)) (2 + j_bitIV (low x - 1)))
theorem ns1 : ∀ a : Fin 24, low (((2 ^ a.val : Nat) : Int)) = ((2 ^ a.val : Nat) : Int) ∧ ior (((2 ^ a.val : Nat) : Int) + ((2 ^ a.val : Nat) : Int)) (iushr (ixor ((2 ^ a.val : Nat) : Int) (((2 ^ a.val : Nat) : Int) + ((2 ^ a.val : Nat) : Int))) (2 + ((a.val : Nat) : Int))) = ((2 ^ (a.val + 1) : Nat) : Int) := by decide +kernel
theorem ns2 : ∀ a b : Fin 24, a < b → low (((2 ^ a.val : Nat) : Int) + ((2 ^ b.val : Nat) : Int)) = ((2 ^ a.val : Nat) : Int) ∧ ior (((2 ^ a.val : Nat) : Int) + ((2 ^ b.val : Nat) : Int) + ((2 ^ a.val : Nat) : Int)) (iushr (ixor (((2 ^ a.val : Nat) : Int) + ((2 ^ b.val : Nat) : Int)) (((2 ^ a.val : Nat) : Int) + ((2 ^ b.val : Nat) : Int) + ((2 ^ a.val : Nat) : Int))) (2 + ((a.val : Nat) : Int))) = (if a.val + 1 < b.val then ((2 ^ (a.val + 1) : Nat) : Int) + ((2 ^ b.val : Nat) : Int) else 1 + ((2 ^ (b.val + 1) : Nat) : Int)) := by decide +kernel
theorem ns3 : ∀ a b c : Fin 24, a < b → b < c → low (((2 ^ a.val : Nat) : Int) + ((2 ^ b.val : Nat) : Int) + ((2 ^ c.val : Nat) : Int)) = ((2 ^ a.val : Nat) : Int) ∧ ior (((2 ^ a.val : Nat) : Int) + ((2 ^ b.val : Nat) : Int) + ((2 ^ c.val : Nat) : Int) + ((2 ^ a.val : Nat) : Int)) (iushr (ixor (((2 ^ a.val : Nat) : Int) + ((2 ^ b.val : Nat) : Int) + ((2 ^ c.val : Nat) : Int)) (((2 ^ a.val : Nat) : Int) + ((2 ^ b.val : Nat) : Int) + ((2 ^ c.val : Nat) : Int) + ((2 ^ a.val : Nat) : Int))) (2 + ((a.val : Nat) : Int))) = (if a.val + 1 < b.val then ((2 ^ (a.val + 1) : Nat) : Int) + ((2 ^ b.val : Nat) : Int) + ((2 ^ c.val : Nat) : Int) else if b.val + 1 < c.val then 1 + ((2 ^ (b.val + 1) : Nat) : Int) + ((2 ^ c.val : Nat) : Int) else 3 + ((2 ^ (c.val + 1) : Nat) : Int)) := by decide +kernel
theorem p2_n (a : Nat) : p2 (a : Int) = ((2 ^ a : Nat) : Int) := rfl
theorem p2_n1 (a : Nat) : p2 ((a : Int) + 1) = ((2 ^ (a + 1) : Nat) : Int) := rfl
theorem nx_1 {a : Int} (h : 0 ≤ a ∧ a < 24) : nxS (p2 a) = p2 (a + 1) := by
  obtain ⟨x, rfl⟩ := Int.eq_ofNat_of_zero_le h.1
  obtain ⟨e1, e2⟩ := ns1 ⟨x, by omega⟩
  have e3 := bitI_p2 ⟨x, by omega⟩
  unfold nxS
  rw [p2_n, p2_n1]
  simp only at e1 e2 e3
  rw [e1, e3, e2]
theorem nx_2 {a b : Int} (h : 0 ≤ a ∧ a < b ∧ b < 24) : nxS (p2 a + p2 b) = if a + 1 < b then p2 (a + 1) + p2 b else 1 + p2 (b + 1) := by
  obtain ⟨x, rfl⟩ := Int.eq_ofNat_of_zero_le h.1
  obtain ⟨y, rfl⟩ := Int.eq_ofNat_of_zero_le (show 0 ≤ b by omega)
  obtain ⟨e1, e2⟩ := ns2 ⟨x, by omega⟩ ⟨y, by omega⟩ (by show x < y; omega)
  have e3 := bitI_p2 ⟨x, by omega⟩
  unfold nxS
  rw [p2_n, p2_n, p2_n1, p2_n1]
  simp only at e1 e2 e3
  rw [e1, e3, e2]
  by_cases q : x + 1 < y
  · rw [if_pos q, if_pos (by omega)]
  · rw [if_neg q, if_neg (by omega)]
theorem nx_3 {a b c : Int} (h : 0 ≤ a ∧ a < b ∧ b < c ∧ c < 24) : nxS (p2 a + p2 b + p2 c) = if a + 1 < b then p2 (a + 1) + p2 b + p2 c else if b + 1 < c then 1 + p2 (b + 1) + p2 c else 3 + p2 (c + 1) := by
  obtain ⟨x, rfl⟩ := Int.eq_ofNat_of_zero_le h.1
  obtain ⟨y, rfl⟩ := Int.eq_ofNat_of_zero_le (show 0 ≤ b by omega)
  obtain ⟨z, rfl⟩ := Int.eq_ofNat_of_zero_le (show 0 ≤ c by omega)
  obtain ⟨e1, e2⟩ := ns3 ⟨x, by omega⟩ ⟨y, by omega⟩ ⟨z, by omega⟩ (by show x < y; omega) (by show y < z; omega)
  have e3 := bitI_p2 ⟨x, by omega⟩
  unfold nxS
  rw [p2_n, p2_n, p2_n, p2_n1, p2_n1, p2_n1]
  simp only at e1 e2 e3
  rw [e1, e3, e2]
  by_cases q : x + 1 < y
  · rw [if_pos q, if_pos (show (x : Int) + 1 < (y : Int) by omega)]
  · rw [if_neg q, if_neg (show ¬ ((x : Int) + 1 < (y : Int)) by omega)]
    by_cases q2 : y + 1 < z
    · rw [if_pos q2, if_pos (show (y : Int) + 1 < (z : Int) by omega)]
    · rw [if_neg q2, if_neg (show ¬ ((y : Int) + 1 < (z : Int)) by omega)]
/-! how many sets are ahead -/
def t2 (b : Int) : Int := ((b.toNat * (b.toNat - 1) / 2 : Nat) : Int)
def t3 (c : Int) : Int := ((c.toNat * (c.toNat - 1) * (c.toNat - 2) / 6 : Nat) : Int)
def rk (m a b c : Int) : Int := a + (if 1 < m then t2 b else 0) + (if 2 < m then t3 c else 0)
theorem t2_f : ∀ b : Fin 25, t2 (((b.val + 1 : Nat)) : Int) = t2 ((b.val : Nat) : Int) + ((b.val : Nat) : Int) := by decide +kernel
theorem t3_f : ∀ c : Fin 25, t3 (((c.val + 1 : Nat)) : Int) = t3 ((c.val : Nat) : Int) + t2 ((c.val : Nat) : Int) := by decide +kernel
theorem t23_f : ∀ b : Fin 25, (0 ≤ t2 ((b.val : Nat) : Int) ∧ t2 ((b.val : Nat) : Int) ≤ 276) ∧ (0 ≤ t3 ((b.val : Nat) : Int) ∧ (b.val < 24 → t3 ((b.val : Nat) : Int) + t2 ((b.val : Nat) : Int) ≤ 2024)) := by decide +kernel
theorem t2_s {b : Int} (h : 0 ≤ b ∧ b < 24) : t2 (b + 1) = t2 b + b := by
  obtain ⟨x, rfl⟩ := Int.eq_ofNat_of_zero_le h.1
  exact t2_f ⟨x, by omega⟩
theorem t3_s {b : Int} (h : 0 ≤ b ∧ b < 24) : t3 (b + 1) = t3 b + t2 b := by
  obtain ⟨x, rfl⟩ := Int.eq_ofNat_of_zero_le h.1
  exact t3_f ⟨x, by omega⟩
theorem t23 {b : Int} (h : 0 ≤ b ∧ b < 24) : (0 ≤ t2 b ∧ t2 b ≤ 276) ∧ 0 ≤ t3 b ∧ t3 b + t2 b ≤ 2024 := by
  obtain ⟨x, rfl⟩ := Int.eq_ofNat_of_zero_le h.1
  have := t23_f ⟨x, by omega⟩
  exact ⟨this.1, this.2.1, this.2.2 (by show x < 24; omega)⟩
theorem t2_mono {b c : Int} (hb : 0 ≤ b) (hc : c ≤ 24) : ∀ k : Nat, c = b + k → t2 b ≤ t2 c := by
  intro k
  induction k generalizing c with
  | zero => intro e; rw [show c = b by omega]; exact Int.le_refl _
  | succ k ih =>
    intro e
    have e1 : c - 1 + 1 = c := by omega
    have h1 := ih (c := c - 1) (by omega) (by omega)
    have h2 := t2_s (b := c - 1) (by omega)
    rw [e1] at h2
    omega
theorem rk_lt {m a b c : Int} (h : vs m a b c) : 0 ≤ rk m a b c ∧ rk m a b c < 2024 := by
  obtain ⟨h1, h2, h3, h4, h5⟩ := h
  unfold rk
  by_cases q1 : 1 < m
  · have b1 := h2 q1
    have tb := t23 (b := b) (by omega)
    have e1 := t2_s (b := b) (by omega)
    rw [if_pos q1]
    by_cases q2 : 2 < m
    · have c1 := h4 q2
      have tc := t23 (b := c) (by omega)
      have e2 := t2_mono (b := b + 1) (c := c) (by omega) (by omega) (c - (b + 1)).toNat (by omega)
      rw [if_pos q2]
      omega
    · rw [if_neg q2]; omega
  · rw [if_neg q1, if_neg (by omega)]; omega
/-- the next set is the least of the greater ones -/
theorem nx_all {m a b c : Int} (hm : 1 ≤ m ∧ m ≤ 3) (h : vs m a b c) : sOf m a b c < nxS (sOf m a b c) ∧ nxS (sOf m a b c) ≤ 67108864 ∧ (∀ a' b' c', vs m a' b' c' → sOf m a b c < sOf m a' b' c' → nxS (sOf m a b c) ≤ sOf m a' b' c') ∧
    ((∃ a' b' c', vs m a' b' c' ∧ nxS (sOf m a b c) = sOf m a' b' c' ∧ rk m a' b' c' = rk m a b c + 1) ∨ 16777216 ≤ nxS (sOf m a b c)) := by
  obtain ⟨h1, h2, h3, h4, h5⟩ := h
  have e24 : p2 24 = 16777216 := by decide
  have e0 : p2 0 = 1 := rfl
  have e1 : p2 1 = 2 := rfl
  have hs : ∀ x, 0 ≤ x → p2 (x + 1) = 2 * p2 x := fun x hx => p2_s hx
  have hp : ∀ x, 0 < p2 x := p2_pos
  rcases (show m = 1 ∨ m = 2 ∨ m = 3 by omega) with rfl | rfl | rfl
  · have es : ∀ a b c, sOf 1 a b c = p2 a := fun a b c => by unfold sOf; rw [if_neg (by omega), if_neg (by omega)]; omega
    have er : ∀ a b c, rk 1 a b c = a := fun a b c => by unfold rk; rw [if_neg (by omega), if_neg (by omega)]; omega
    rw [es, nx_1 (by omega)]
    have s1 := hs a (by omega)
    have s2 := p2_le (a := a) (b := 24) (by omega) (by omega)
    refine ⟨by have := hp a; omega, by omega, fun a' b' c' hv hl => ?_, ?_⟩
    · rw [es] at hl ⊢
      have g1 := hv.1
      have : a < a' := by
        rcases Int.lt_or_le a a' with q | q
        · exact q
        · have := p2_le (a := a') (b := a) (by omega) q; omega
      exact p2_le (by omega) (by omega)
    · by_cases q : a + 1 < 24
      · exact Or.inl ⟨a + 1, 23, 23, ⟨by omega, fun _ => by omega, fun _ => rfl, fun _ => by omega, fun _ => rfl⟩, by rw [es], by rw [er, er]⟩
      · right; rw [show a + 1 = 24 by omega, e24]; omega
  · have es : ∀ a b c, sOf 2 a b c = p2 a + p2 b := fun a b c => by unfold sOf; rw [if_pos (by omega), if_neg (by omega)]; omega
    have er : ∀ a b c, rk 2 a b c = a + t2 b := fun a b c => by unfold rk; rw [if_pos (by omega), if_neg (by omega)]; omega
    have b1 := h2 (by omega)
    rw [es, nx_2 (by omega)]
    have s1 := hs a (by omega); have s2 := hs b (by omega); have pa := hp a; have pb := hp b
    have u1 := p2_lt (a := a) (b := b) (by omega) (by omega)
    have u2 := p2_le (a := b) (b := 24) (by omega) (by omega)
    have key : ∀ a' b' c', vs 2 a' b' c' → p2 a + p2 b < p2 a' + p2 b' → b < b' ∨ (b = b' ∧ a < a') := fun a' b' c' hv hl => by
      have g1 := hv.1; have g2 := hv.2.1 (by omega)
      have w1 := p2_lt (a := a') (b := b') (by omega) (by omega)
      rcases Int.lt_trichotomy b b' with q | q | q
      · exact Or.inl q
      · refine Or.inr ⟨q, ?_⟩
        subst q
        rcases Int.lt_or_le a a' with q | q
        · exact q
        · have := p2_le (a := a') (b := a) (by omega) q; omega
      · have := p2_lt (a := b') (b := b) (by omega) q; have := hp b'; omega
    by_cases q : a + 1 < b
    · rw [if_pos q]
      have v1 := p2_lt (a := a + 1) (b := b) (by omega) (by omega)
      refine ⟨by omega, by omega, fun a' b' c' hv hl => ?_, Or.inl ⟨a + 1, b, 23, ⟨by omega, fun _ => by omega, fun _ => by omega, fun _ => by omega, fun _ => rfl⟩, by rw [es], by rw [er, er]; omega⟩⟩
      rw [es] at hl ⊢
      have g1 := hv.1; have g2 := hv.2.1 (by omega)
      have pa' := hp a'
      rcases key a' b' c' hv hl with k | ⟨rfl, k⟩
      · have := p2_lt (a := b) (b := b') (by omega) k; omega
      · have := p2_le (a := a + 1) (b := a') (by omega) (by omega); omega
    · rw [if_neg q]
      refine ⟨by omega, by omega, fun a' b' c' hv hl => ?_, ?_⟩
      · rw [es] at hl ⊢
        have g1 := hv.1; have g2 := hv.2.1 (by omega)
        have pa' := hp a'
        rcases key a' b' c' hv hl with k | ⟨rfl, k⟩
        · have := p2_le (a := b + 1) (b := b') (by omega) (by omega); omega
        · omega
      · by_cases q2 : b + 1 < 24
        · have := t2_s (b := b) (by omega)
          exact Or.inl ⟨0, b + 1, 23, ⟨by omega, fun _ => by omega, fun _ => by omega, fun _ => by omega, fun _ => rfl⟩, by rw [es, e0], by rw [er, er]; omega⟩
        · right; rw [show b + 1 = 24 by omega, e24]; omega
  · have es : ∀ a b c, sOf 3 a b c = p2 a + p2 b + p2 c := fun a b c => by unfold sOf; rw [if_pos (by omega), if_pos (by omega)]
    have er : ∀ a b c, rk 3 a b c = a + t2 b + t3 c := fun a b c => by unfold rk; rw [if_pos (by omega), if_pos (by omega)]
    have b1 := h2 (by omega); have c1 := h4 (by omega)
    rw [es, nx_3 (by omega)]
    have s1 := hs a (by omega); have s2 := hs b (by omega); have s3 := hs c (by omega); have pa := hp a; have pb := hp b; have pc := hp c
    have u1 := p2_lt (a := a) (b := b) (by omega) (by omega)
    have u2 := p2_lt (a := b) (b := c) (by omega) (by omega)
    have u3 := p2_le (a := c) (b := 24) (by omega) (by omega)
    have key : ∀ a' b' c', vs 3 a' b' c' → p2 a + p2 b + p2 c < p2 a' + p2 b' + p2 c' → c < c' ∨ (c = c' ∧ (b < b' ∨ (b = b' ∧ a < a'))) := fun a' b' c' hv hl => by
      have g1 := hv.1; have g2 := hv.2.1 (by omega); have g3 := hv.2.2.2.1 (by omega)
      have w1 := p2_lt (a := a') (b := b') (by omega) (by omega)
      have w2 := p2_lt (a := b') (b := c') (by omega) (by omega)
      have pa' := hp a'; have pb' := hp b'; have pc' := hp c'
      rcases Int.lt_trichotomy c c' with q | q | q
      · exact Or.inl q
      · refine Or.inr ⟨q, ?_⟩
        subst q
        rcases Int.lt_trichotomy b b' with q | q | q
        · exact Or.inl q
        · refine Or.inr ⟨q, ?_⟩
          subst q
          rcases Int.lt_or_le a a' with q | q
          · exact q
          · have := p2_le (a := a') (b := a) (by omega) q; omega
        · have := p2_lt (a := b') (b := b) (by omega) q; omega
      · have := p2_lt (a := c') (b := c) (by omega) q; omega
    by_cases q : a + 1 < b
    · rw [if_pos q]
      have v1 := p2_lt (a := a + 1) (b := b) (by omega) (by omega)
      refine ⟨by omega, by omega, fun a' b' c' hv hl => ?_, Or.inl ⟨a + 1, b, c, ⟨by omega, fun _ => by omega, fun _ => by omega, fun _ => by omega, fun _ => by omega⟩, by rw [es], by rw [er, er]; omega⟩⟩
      rw [es] at hl ⊢
      have g1 := hv.1; have g2 := hv.2.1 (by omega); have g3 := hv.2.2.2.1 (by omega)
      have pa' := hp a'; have pb' := hp b'
      rcases key a' b' c' hv hl with k | ⟨rfl, k | ⟨rfl, k⟩⟩
      · have := p2_lt (a := c) (b := c') (by omega) k; omega
      · have := p2_lt (a := b) (b := b') (by omega) k; omega
      · have := p2_le (a := a + 1) (b := a') (by omega) (by omega); omega
    · rw [if_neg q]
      by_cases q2 : b + 1 < c
      · rw [if_pos q2]
        have v1 := p2_lt (a := b + 1) (b := c) (by omega) (by omega)
        refine ⟨by omega, by omega, fun a' b' c' hv hl => ?_, ?_⟩
        · rw [es] at hl ⊢
          have g1 := hv.1; have g2 := hv.2.1 (by omega); have g3 := hv.2.2.2.1 (by omega)
          have pa' := hp a'; have pb' := hp b'
          rcases key a' b' c' hv hl with k | ⟨rfl, k | ⟨rfl, k⟩⟩
          · have := p2_lt (a := c) (b := c') (by omega) k; omega
          · have := p2_le (a := b + 1) (b := b') (by omega) (by omega); omega
          · omega
        · have := t2_s (b := b) (by omega)
          exact Or.inl ⟨0, b + 1, c, ⟨by omega, fun _ => by omega, fun _ => by omega, fun _ => by omega, fun _ => by omega⟩, by rw [es, e0], by rw [er, er]; omega⟩
      · rw [if_neg q2]
        refine ⟨by omega, by omega, fun a' b' c' hv hl => ?_, ?_⟩
        · rw [es] at hl ⊢
          have g1 := hv.1; have g2 := hv.2.1 (by omega); have g3 := hv.2.2.2.1 (by omega)
          have pa' := hp a'
          have pb' := p2_le (a := 1) (b := b') (by omega) (by omega)
          rcases key a' b' c' hv hl with k | ⟨rfl, k | ⟨rfl, k⟩⟩
          · have := p2_le (a := c + 1) (b := c') (by omega) (by omega); omega
          · omega
          · omega
        · by_cases q3 : c + 1 < 24
          · have x1 := t2_s (b := b) (by omega)
            have x2 := t3_s (b := c) (by omega)
            rw [show b + 1 = c by omega] at x1
            have x3 : t2 1 = 0 := by decide
            exact Or.inl ⟨0, 1, c + 1, ⟨by omega, fun _ => by omega, fun _ => by omega, fun _ => by omega, fun _ => by omega⟩, by rw [es, e0, e1]; omega, by rw [er, er]; omega⟩
          · right; rw [show c + 1 = 24 by omega, e24]; omega
/-! bits of words -/
theorem hasb_bv {x i : Int} (hi : 0 ≤ i ∧ i < 32) : hasb x i ↔ (Int32.ofInt x).toBitVec.getLsbD i.toNat = true := by
  obtain ⟨b, rfl⟩ := Int.eq_ofNat_of_zero_le hi.1
  have hb : b < 32 := by omega
  have e := amt32 ⟨b, hb⟩
  have e1 : (Int32.ofInt (ishr x (b : Int)) &&& Int32.ofInt 1).toBitVec = (Int32.ofInt x).toBitVec.sshiftRight b &&& 1#32 := by
    unfold ishr
    rw [Int32.ofInt_toInt, Int32.toBitVec_and, Int32.toBitVec_shiftRight, e, BitVec.sshiftRight_eq', BitVec.toNat_ofNat, Nat.mod_eq_of_lt (by omega)]
    rfl
  have e2 : hasb x (b : Int) ↔ (Int32.ofInt x).toBitVec.sshiftRight b &&& 1#32 = 1#32 := by
    unfold hasb iand
    constructor
    · intro q
      rw [← e1]
      apply BitVec.eq_of_toInt_eq
      exact q
    · intro q
      show ((Int32.ofInt (ishr x (b : Int)) &&& Int32.ofInt 1).toBitVec).toInt = 1
      rw [e1, q]; decide
  rw [e2]
  have e3 : ((Int32.ofInt x).toBitVec.sshiftRight b).getLsbD 0 = (Int32.ofInt x).toBitVec.getLsbD b := by
    rw [BitVec.getLsbD_sshiftRight]
    have : b + 0 < 32 := by omega
    simp [hb]
  show _ ↔ (Int32.ofInt x).toBitVec.getLsbD b = true
  rw [← e3]
  constructor
  · intro q
    have := congrArg (fun v => BitVec.getLsbD v 0) q
    simpa using this
  · intro q
    apply BitVec.eq_of_getLsbD_eq
    intro i hi
    rw [BitVec.getLsbD_and, BitVec.getLsbD_one]
    by_cases h0 : i = 0
    · subst h0; rw [q]; decide
    · simp [h0]
theorem hasb_or {x y i : Int} (hi : 0 ≤ i ∧ i < 32) : hasb (ior x y) i ↔ hasb x i ∨ hasb y i := by
  rw [hasb_bv hi, hasb_bv hi, hasb_bv hi]
  unfold ior
  rw [Int32.ofInt_toInt, Int32.toBitVec_or, BitVec.getLsbD_or, Bool.or_eq_true]
theorem hasb_and {x y i : Int} (hi : 0 ≤ i ∧ i < 32) : hasb (iand x y) i ↔ hasb x i ∧ hasb y i := by
  rw [hasb_bv hi, hasb_bv hi, hasb_bv hi]
  unfold iand
  rw [Int32.ofInt_toInt, Int32.toBitVec_and, BitVec.getLsbD_and, Bool.and_eq_true]
theorem hasb_one {a i : Int} (ha : 0 ≤ a ∧ a < 32) (hi : 0 ≤ i ∧ i < 32) : hasb (ishl 1 a) i ↔ i = a := by
  rw [hasb_bv hi]
  obtain ⟨b, rfl⟩ := Int.eq_ofNat_of_zero_le ha.1
  have e := amt32 ⟨b, by omega⟩
  unfold ishl
  rw [Int32.ofInt_toInt, Int32.toBitVec_shiftLeft, e, BitVec.shiftLeft_eq', BitVec.toNat_ofNat, Nat.mod_eq_of_lt (by omega), BitVec.getLsbD_shiftLeft, show (Int32.ofInt 1).toBitVec = 1#32 by decide, BitVec.getLsbD_one]
  simp only [Bool.and_eq_true, decide_eq_true_eq, Bool.not_eq_true', decide_eq_false_iff_not]
  omega
theorem hasb_0' {i : Int} (hi : 0 ≤ i ∧ i < 32) : ¬ hasb 0 i := by
  rw [hasb_bv hi, show (Int32.ofInt 0).toBitVec = 0#32 by decide, BitVec.getLsbD_zero]; simp
theorem hasb_ext {x y : Int} (hx : ir x) (hy : ir y) (h : ∀ i, 0 ≤ i → i < 32 → (hasb x i ↔ hasb y i)) : x = y := by
  have e : Int32.ofInt x = Int32.ofInt y := by
    apply Int32.toBitVec_inj.mp
    apply BitVec.eq_of_getLsbD_eq
    intro i hi
    have := h i (by omega) (by omega)
    rw [hasb_bv (by omega), hasb_bv (by omega)] at this
    have e : (i : Int).toNat = i := by omega
    rw [e] at this
    exact Bool.eq_iff_iff.mpr this
  rw [← tI hx, ← tI hy, e]
/-- a set of the ones that count is not above them -/
theorem sub_le {x y : Int} (hx : 0 ≤ x ∧ x < 2147483648) (hy : 0 ≤ y ∧ y < 2147483648) (h : iand x y = x) : x ≤ y := by
  obtain ⟨a, rfl⟩ := Int.eq_ofNat_of_zero_le hx.1
  obtain ⟨b, rfl⟩ := Int.eq_ofNat_of_zero_le hy.1
  have ea : (Int32.ofInt (a : Int)).toBitVec = BitVec.ofNat 32 a := by rw [Int32.toBitVec_ofInt, BitVec.ofInt_natCast]
  have eb : (Int32.ofInt (b : Int)).toBitVec = BitVec.ofNat 32 b := by rw [Int32.toBitVec_ofInt, BitVec.ofInt_natCast]
  have e : Int32.ofInt (a : Int) &&& Int32.ofInt (b : Int) = Int32.ofInt (a : Int) := by
    rw [← Int32.ofInt_toInt (Int32.ofInt (a : Int) &&& Int32.ofInt (b : Int))]
    exact congrArg Int32.ofInt h
  have e2 := congrArg (fun v => (Int32.toBitVec v).toNat) e
  simp only [Int32.toBitVec_and, ea, eb, BitVec.toNat_and, BitVec.toNat_ofNat] at e2
  rw [Nat.mod_eq_of_lt (by omega), Nat.mod_eq_of_lt (by omega)] at e2
  have : a &&& b ≤ b := Nat.and_le_right
  omega
theorem sOf_hasb {m a b c i : Int} (hm : 1 ≤ m ∧ m ≤ 3) (h : vs m a b c) (hi : 0 ≤ i ∧ i < 32) : hasb (sOf m a b c) i ↔ i = a ∨ (1 < m ∧ i = b) ∨ (2 < m ∧ i = c) := by
  have h1 := h.1
  rcases (show m = 1 ∨ m = 2 ∨ m = 3 by omega) with rfl | rfl | rfl
  · rw [← set_1 h (by omega), hasb_or hi, hasb_or hi, hasb_one (by omega) hi]
    have n0 := hasb_0' hi
    constructor
    · rintro ((q | q) | q)
      · exact Or.inl q
      · exact absurd q n0
      · exact absurd q n0
    · intro q
      exact Or.inl (Or.inl (by omega))
  · have b1 := h.2.1 (by omega)
    rw [← set_2 h (by omega) (by omega), hasb_or hi, hasb_or hi, hasb_one (by omega) hi, hasb_one (by omega) hi]
    have n0 := hasb_0' hi
    constructor
    · rintro ((q | q) | q)
      · exact Or.inl q
      · exact Or.inr (Or.inl ⟨by omega, q⟩)
      · exact absurd q n0
    · intro q
      exact Or.inl (by omega)
  · have b1 := h.2.1 (by omega); have c1 := h.2.2.2.1 (by omega)
    rw [← set_3 h (by omega), hasb_or hi, hasb_or hi, hasb_one (by omega) hi, hasb_one (by omega) hi, hasb_one (by omega) hi]
    omega
/-- the RULES with a 1, as bits -/
def agB (g : Gm) (ag : Int) : Prop := (0 ≤ ag ∧ ag < 16777216) ∧ ∀ i, 0 ≤ i → i < 32 → (hasb ag i ↔ agG g i)
theorem sOf_t {m a b c : Int} (h : vs m a b c) : 0 < sOf m a b c ∧ sOf m a b c < 33554432 := ⟨sOf_pos, by have := sOf_top h; omega⟩
theorem agB_iff {g : Gm} {ag m a b c : Int} (hm : 1 ≤ m ∧ m ≤ 3) (hB : agB g ag) (h : vs m a b c) : iand (sOf m a b c) ag = sOf m a b c ↔ agS g m a b c := by
  have st := sOf_t h
  have h1 := h.1
  constructor
  · intro e
    have key : ∀ i, 0 ≤ i → i < 32 → hasb (sOf m a b c) i → agG g i := fun i i0 i1 q => by
      rw [← e, hasb_and ⟨i0, i1⟩] at q
      exact (hB.2 i i0 i1).mp q.2
    refine ⟨key a (by omega) (by omega) ((sOf_hasb hm h (by omega)).mpr (Or.inl rfl)), fun q => ?_, fun q => ?_⟩
    · have b1 := h.2.1 q
      exact key b (by omega) (by omega) ((sOf_hasb hm h (by omega)).mpr (Or.inr (Or.inl ⟨q, rfl⟩)))
    · have b1 := h.2.1 (by omega); have c1 := h.2.2.2.1 q
      exact key c (by omega) (by omega) ((sOf_hasb hm h (by omega)).mpr (Or.inr (Or.inr ⟨q, rfl⟩)))
  · rintro ⟨q1, q2, q3⟩
    refine hasb_ext (irT _) (by constructor <;> omega) (fun i i0 i1 => ?_)
    rw [hasb_and ⟨i0, i1⟩]
    refine ⟨fun q => q.1, fun q => ⟨q, (hB.2 i i0 i1).mpr ?_⟩⟩
    rcases (sOf_hasb hm h ⟨i0, i1⟩).mp q with e | ⟨e1, e⟩ | ⟨e1, e⟩
    · rw [e]; exact q1
    · rw [e]; exact q2 e1
    · rw [e]; exact q3 e1
theorem agB_le {g : Gm} {ag m a b c : Int} (hm : 1 ≤ m ∧ m ≤ 3) (hB : agB g ag) (h : vs m a b c) (hs : agS g m a b c) : sOf m a b c ≤ ag := by
  have st := sOf_t h
  have := hB.1
  exact sub_le (by omega) (by omega) ((agB_iff hm hB h).mpr hs)
theorem agB_end {g : Gm} {x : Int} (hx : ir x) (hG : g 10 1 ≤ 24) (h : ∀ i, 0 ≤ i → i < 32 → (hasb x i ↔ i < g 10 1 ∧ g 7 i = 1)) : agB g x := by
  refine ⟨?_, h⟩
  have e : ∀ i : Nat, 24 ≤ i → (Int32.ofInt x).toBitVec.toNat.testBit i = false := fun i hi => by
    by_cases q : i < 32
    · cases hc : (Int32.ofInt x).toBitVec.toNat.testBit i
      · rfl
      · have := (h i (by omega) (by omega)).mp ((hasb_bv (by omega)).mpr (by show (Int32.ofInt x).toBitVec.toNat.testBit _ = true; rw [show (i : Int).toNat = i by omega]; exact hc))
        omega
    · apply Nat.testBit_lt_two_pow
      exact Nat.lt_of_lt_of_le (Int32.ofInt x).toBitVec.isLt (Nat.pow_le_pow_right (by omega) (by omega))
  have l := Nat.lt_pow_two_of_testBit (n := 24) (Int32.ofInt x).toBitVec.toNat e
  have t := tI hx
  have t2 : (Int32.ofInt x).toBitVec.toInt = x := t
  rw [BitVec.toInt_eq_toNat_of_lt (by omega)] at t2
  omega
/-- what is kept while sets are tried: those below x are among the waiting ones or don't let it be READ -/
def vA (g : Gm) (m S : Int) : Prop := ∃ a b c, vs m a b c ∧ agS g m a b c ∧ S = sOf m a b c
def bI (g : Gm) (w : Int → Int) (n m x cnt : Int) (st : Int → Int) : Prop := (∀ i, 0 ≤ i → i < cnt → vA g m (st i) ∧ st i < x) ∧ (∀ i j, 0 ≤ i → i < j → j < cnt → st i < st j) ∧ ∀ S, vA g m S → S < x → (∃ i, 0 ≤ i ∧ i < cnt ∧ st i = S) ∨ ¬ READ g (hasb S) w n
theorem fr_vA {g : Gm} {w : Int → Int} {n m S : Int} : fr g w n m S ↔ vA g m S ∧ READ g (hasb S) w n := by
  constructor
  · rintro ⟨a, b, c, h1, h2, h3, h4⟩; exact ⟨⟨a, b, c, h1, h2, h3⟩, h4⟩
  · rintro ⟨⟨a, b, c, h1, h2, h3⟩, h4⟩; exact ⟨a, b, c, h1, h2, h3, h4⟩
variable {g : Gm} {w : Int → Int} {n m x x' cnt : Int} {st : Int → Int}
theorem bI_0 (hx : x ≤ 2 ^ m.toNat - 1) (hm : 1 ≤ m ∧ m ≤ 3) : bI g w n m x 0 st := by
  refine ⟨fun i i0 i1 => by omega, fun i j i0 i1 i2 => by omega, ?_⟩
  rintro S ⟨a, b, c, h1, h2, rfl⟩ hl
  exfalso
  obtain ⟨v1, v2, v3, v4, v5⟩ := h1
  have pa := p2_le (a := 0) (b := a) (by omega) (by omega)
  have e0 : p2 0 = 1 := rfl
  have e1 : p2 1 = 2 := rfl
  have e2 : p2 2 = 4 := rfl
  unfold sOf at hl
  rcases (show m = 1 ∨ m = 2 ∨ m = 3 by omega) with rfl | rfl | rfl
  · rw [if_neg (by omega), if_neg (by omega)] at hl
    have : (2 : Int) ^ (1 : Int).toNat = 2 := by decide
    omega
  · have b1 := v2 (by omega)
    have pb := p2_le (a := 1) (b := b) (by omega) (by omega)
    rw [if_pos (by omega), if_neg (by omega)] at hl
    have : (2 : Int) ^ (2 : Int).toNat = 4 := by decide
    omega
  · have b1 := v2 (by omega); have c1 := v4 (by omega)
    have pb := p2_le (a := 1) (b := b) (by omega) (by omega)
    have pc := p2_le (a := 2) (b := c) (by omega) (by omega)
    rw [if_pos (by omega), if_pos (by omega)] at hl
    have : (2 : Int) ^ (3 : Int).toNat = 8 := by decide
    omega
/-- one more waits -/
theorem bI_add {a b c : Int} (h : bI g w n m x cnt st) (h0 : 0 ≤ cnt) (hv : vs m a b c) (hs : agS g m a b c) (hx : x = sOf m a b c) (hl : x < x') (hn : ∀ a' b' c', vs m a' b' c' → x < sOf m a' b' c' → x' ≤ sOf m a' b' c') : bI g w n m x' (cnt + 1) (up st cnt x) := by
  refine ⟨fun i i0 i1 => ?_, fun i j i0 i1 i2 => ?_, fun S hS hlt => ?_⟩
  · by_cases e : i = cnt
    · rw [e, up_eq]; exact ⟨⟨a, b, c, hv, hs, hx⟩, hl⟩
    · rw [up_ne _ _ e]; have := h.1 i i0 (by omega); exact ⟨this.1, by omega⟩
  · rw [up_ne _ _ (by omega)]
    by_cases e : j = cnt
    · rw [e, up_eq]; exact (h.1 i i0 (by omega)).2
    · rw [up_ne _ _ e]; exact h.2.1 i j i0 i1 (by omega)
  · by_cases e : S = x
    · exact Or.inl ⟨cnt, h0, by omega, by rw [up_eq, e]⟩
    · have : S < x := by
        obtain ⟨a', b', c', v1, v2, v3⟩ := hS
        rcases Int.lt_or_le S x with q | q
        · exact q
        · have := hn a' b' c' v1 (by omega); omega
      rcases h.2.2 S hS this with ⟨i, i0, i1, i2⟩ | q
      · exact Or.inl ⟨i, i0, by omega, by rw [up_ne _ _ (by omega)]; exact i2⟩
      · exact Or.inr q
theorem bI_skip {a b c : Int} (h : bI g w n m x cnt st) (hv : vs m a b c) (hs : ¬ agS g m a b c) (hm : 1 ≤ m ∧ m ≤ 3) (hx : x = sOf m a b c) (hl : x < x') (hn : ∀ a' b' c', vs m a' b' c' → x < sOf m a' b' c' → x' ≤ sOf m a' b' c') : bI g w n m x' cnt st := by
  refine ⟨fun i i0 i1 => ?_, h.2.1, fun S hS hlt => ?_⟩
  · have := h.1 i i0 i1; exact ⟨this.1, by omega⟩
  · have hS' := hS
    obtain ⟨a', b', c', v1, v2, v3⟩ := hS'
    have e : S ≠ x := fun e => hs (by
      have k1 : ∀ i, 0 ≤ i → i < 32 → (hasb (sOf m a b c) i ↔ hasb (sOf m a' b' c') i) := fun i _ _ => by rw [← hx, ← e, v3]
      have h1 := hv.1
      have f : ∀ i, 0 ≤ i → i < 24 → hasb (sOf m a b c) i → agG g i := fun i i0 i1 q => by
        rcases (sOf_hasb hm v1 (by omega)).mp ((k1 i i0 (by omega)).mp q) with e | ⟨e1, e⟩ | ⟨e1, e⟩
        · rw [e]; exact v2.1
        · rw [e]; exact v2.2.1 e1
        · rw [e]; exact v2.2.2 e1
      refine ⟨f a (by omega) (by omega) ((sOf_hasb hm hv (by omega)).mpr (Or.inl rfl)), fun q => ?_, fun q => ?_⟩
      · have b1 := hv.2.1 q
        exact f b (by omega) (by omega) ((sOf_hasb hm hv (by omega)).mpr (Or.inr (Or.inl ⟨q, rfl⟩)))
      · have b1 := hv.2.1 (by omega); have c1 := hv.2.2.2.1 q
        exact f c (by omega) (by omega) ((sOf_hasb hm hv (by omega)).mpr (Or.inr (Or.inr ⟨q, rfl⟩))))
    have : S < x := by
      rcases Int.lt_or_le S x with q | q
      · exact q
      · have := hn a' b' c' v1 (by omega); omega
    exact h.2.2 S hS this
theorem bI_none (h : bI g w n m x cnt st) (hr : ∀ i, 0 ≤ i → i < cnt → ¬ READ g (hasb (st i)) w n) {st' : Int → Int} : bI g w n m x 0 st' :=
  ⟨fun i i0 i1 => by omega, fun i j i0 i1 i2 => by omega, fun S hS hl => by
    rcases h.2.2 S hS hl with ⟨i, i0, i1, rfl⟩ | q
    · exact Or.inr (hr i i0 i1)
    · exact Or.inr q⟩
theorem bI_found {l : Int} (h : bI g w n m x cnt st) (hl : 0 ≤ l ∧ l < cnt) (hr : READ g (hasb (st l)) w n) (hn : ∀ i, 0 ≤ i → i < l → ¬ READ g (hasb (st i)) w n) : fr g w n m (st l) ∧ ∀ S, fr g w n m S → st l ≤ S := by
  refine ⟨fr_vA.mpr ⟨(h.1 l hl.1 hl.2).1, hr⟩, fun S hS => ?_⟩
  obtain ⟨s1, s2⟩ := fr_vA.mp hS
  rcases Int.lt_or_le S (st l) with q | q
  · exfalso
    have lx := (h.1 l hl.1 hl.2).2
    rcases h.2.2 S s1 (by omega) with ⟨i, i0, i1, rfl⟩ | e
    · rcases Int.lt_or_le i l with d | d
      · exact hn i i0 d s2
      · by_cases e : i = l
        · subst e; omega
        · have := h.2.1 l i hl.1 (by omega) i1; omega
    · exact e s2
  · exact q
theorem bI_end {ag : Int} (h : bI g w n m x 0 st) (hm : 1 ≤ m ∧ m ≤ 3) (hB : agB g ag) (hx : ag < x) : ∀ S, ¬ fr g w n m S := fun S hS => by
  obtain ⟨s1, s2⟩ := fr_vA.mp hS
  have s3 := s1
  obtain ⟨a, b, c, v1, v2, v3⟩ := s3
  have := agB_le hm hB v1 v2
  rcases h.2.2 S s1 (by omega) with ⟨i, i0, i1, _⟩ | q
  · omega
  · exact q s2
end
