/-! trees counted: bounds, READ (printed by gen) -/
section
theorem nsum_le {F G : Nat → Nat} : ∀ {n : Nat}, (∀ i, i < n → F i ≤ G i) → nsum F n ≤ nsum G n
  | 0, _ => Nat.le_refl _
  | n + 1, h => by
    have a := nsum_le (n := n) (fun i hi => h i (by omega))
    have b := h n (by omega)
    simp only [nsum]; omega
theorem nsum_pos {F : Nat → Nat} : ∀ {n : Nat}, 0 < nsum F n ↔ ∃ i, i < n ∧ 0 < F i
  | 0 => by
    simp only [nsum]
    exact ⟨fun h => absurd h (by decide), fun ⟨i, h, _⟩ => absurd h (by omega)⟩
  | n + 1 => by
    simp only [nsum]
    constructor
    · intro h
      by_cases q : 0 < nsum F n
      · obtain ⟨i, i1, i2⟩ := nsum_pos.mp q
        exact ⟨i, by omega, i2⟩
      · exact ⟨n, by omega, by omega⟩
    · rintro ⟨i, i1, i2⟩
      by_cases q : i = n
      · subst q; omega
      · have := nsum_pos.mpr ⟨i, (by omega : i < n), i2⟩
        omega
theorem nsum_const {c : Nat} : ∀ {n : Nat}, nsum (fun _ => c) n = n * c
  | 0 => by simp [nsum]
  | n + 1 => by simp only [nsum]; rw [nsum_const, Nat.succ_mul]
def s4 (A : Int → Nat) : Nat := A 0 + A 1 + A 2 + A 3
theorem s4_nsum {F : Nat → Int → Nat} : ∀ {n : Nat}, s4 (fun m => nsum (fun i => F i m) n) = nsum (fun i => s4 (F i)) n
  | 0 => rfl
  | n + 1 => by
    have ih := s4_nsum (F := F) (n := n)
    simp only [s4] at ih ⊢
    simp only [nsum]
    omega
theorem s4_tm {g : Gm} {r k : Int} {A B : Int → Nat} : s4 (fun m => tm g r k m A B) ≤ s4 A * s4 B := by
  unfold s4 tm
  by_cases c1 : g 4 r = k
  · simp only [if_pos c1]
    by_cases c2 : g 7 r = 0
    · simp only [if_pos c2]
      by_cases c3 : g 8 r = 0
      · simp only [if_pos c3, Nat.add_mul]; exact Nat.le_refl _
      · simp only [if_neg c3, Nat.mul_add]; exact Nat.le_refl _
    · simp only [if_neg c2, Nat.add_mul, Nat.mul_add]
      omega
  · simp only [if_neg c1]
    exact Nat.zero_le _
theorem cnt_s {g : Gm} {w : Int → Int} {n : Int} (hn : 2 ≤ n) (f k m : Int) : cnt g w n f k m = nsum (fun b => nsum (fun q => tm g q k m (cnt g w (b + 1) f (g 5 q)) (cnt g w (n - (b + 1)) (f + (b + 1)) (g 6 q))) (g 10 1).toNat) (n.toNat - 1) := by
  rw [← cP_end (by omega) f k m]
  unfold cP
  rw [if_neg (by omega)]
  simp only [nsum, Nat.add_zero, Nat.zero_add]
def bT (n : Nat) : Nat := match n with
  | 1 => 1 | 2 => 24 | 3 => 1152 | 4 => 69120 | 5 => 4644864 | 6 => 334430208 | 7 => 25225592832 | 8 => 1967596240896 | _ => 0
theorem bT_s : ∀ n : Fin 9, 2 ≤ n.val → nsum (fun b => 24 * (bT (b + 1) * bT (n.val - (b + 1)))) (n.val - 1) ≤ bT n.val := by decide +kernel
theorem bT_top : ∀ n : Fin 9, bT n.val ≤ 1967596240896 := by decide +kernel
theorem cnt_b {g : Gm} {w : Int → Int} (hG : okG g) : ∀ (N : Nat), N ≤ 8 → ∀ (n : Nat), 1 ≤ n → n ≤ N → ∀ f k : Int, s4 (cnt g w n f k) ≤ bT n
  | 0, _, n, h1, h2 => by omega
  | N + 1, hN, n, h1, h2 => by
    intro f k
    by_cases hn : n ≤ N
    · exact cnt_b hG N (by omega) n h1 hn f k
    · by_cases h11 : n = 1
      · subst h11
        have e : ∀ m, cnt g w ((1 : Nat) : Int) f k m = if g 0 (w f) = k ∧ g 1 (w f) = m then 1 else 0 := fun m => cnt_1 f k m
        unfold s4
        rw [e, e, e, e]
        show _ ≤ 1
        by_cases c : g 0 (w f) = k
        · by_cases c0 : g 1 (w f) = 0
          · simp [c, c0]
          · by_cases c1 : g 1 (w f) = 1
            · simp [c, c1]
            · by_cases c2 : g 1 (w f) = 2
              · simp [c, c2]
              · by_cases c3 : g 1 (w f) = 3
                · simp [c, c3]
                · simp [c, c0, c1, c2, c3]
        · simp [c]
      · have e : cnt g w (n : Int) f k = fun m => nsum (fun b => nsum (fun q => tm g q k m (cnt g w (b + 1) f (g 5 q)) (cnt g w ((n : Int) - (b + 1)) (f + (b + 1)) (g 6 q))) (g 10 1).toNat) (n - 1) := by
          funext m
          rw [cnt_s (by omega)]
          rfl
        rw [e, s4_nsum (F := fun b m => nsum (fun q => tm g q k m (cnt g w (b + 1) f (g 5 q)) (cnt g w ((n : Int) - (b + 1)) (f + (b + 1)) (g 6 q))) (g 10 1).toNat)]
        refine Nat.le_trans (nsum_le (G := fun b => 24 * (bT (b + 1) * bT (n - (b + 1)))) (fun b hb => ?_)) (bT_s ⟨n, by omega⟩ (by show 2 ≤ n; omega))
        show s4 (fun m => nsum (fun q => tm g q k m (cnt g w (b + 1) f (g 5 q)) (cnt g w ((n : Int) - (b + 1)) (f + (b + 1)) (g 6 q))) (g 10 1).toNat) ≤ _
        rw [s4_nsum (F := fun q m => tm g q k m (cnt g w (b + 1) f (g 5 q)) (cnt g w ((n : Int) - (b + 1)) (f + (b + 1)) (g 6 q)))]
        refine Nat.le_trans (nsum_le (G := fun _ => bT (b + 1) * bT (n - (b + 1))) (fun q hq => ?_)) ?_
        · refine Nat.le_trans s4_tm ?_
          have a1 := cnt_b (w := w) hG N (by omega) (b + 1) (by omega) (by omega) f (g 5 q)
          have a2 := cnt_b (w := w) hG N (by omega) (n - (b + 1)) (by omega) (by omega) (f + (b + 1)) (g 6 q)
          rw [show ((b + 1 : Nat) : Int) = (b : Int) + 1 by omega] at a1
          rw [show ((n - (b + 1) : Nat) : Int) = (n : Int) - ((b : Int) + 1) by omega] at a2
          exact Nat.mul_le_mul a1 a2
        · rw [nsum_const]
          have := hG.2.1
          exact Nat.mul_le_mul_right _ (by omega)
theorem cnt_top {g : Gm} {w : Int → Int} (hG : okG g) {n : Int} (hn : 1 ≤ n ∧ n ≤ 8) (f k : Int) : s4 (cnt g w n f k) ≤ 1967596240896 := by
  obtain ⟨N, rfl⟩ := Int.eq_ofNat_of_zero_le (show 0 ≤ n by omega)
  exact Nat.le_trans (cnt_b hG N (by omega) N (by omega) (Nat.le_refl _) f k) (bT_top ⟨N, by omega⟩)
/-! bits of whole numbers -/
theorem hasb_iff {x i : Int} (hx : 0 ≤ x ∧ x < 2147483648) (hi : 0 ≤ i ∧ i < 31) : hasb x i ↔ x.toNat.testBit i.toNat = true := by
  obtain ⟨a, rfl⟩ := Int.eq_ofNat_of_zero_le hx.1
  obtain ⟨b, rfl⟩ := Int.eq_ofNat_of_zero_le hi.1
  have hb : b < 32 := by omega
  have e := amt32 ⟨b, hb⟩
  have e1 : (Int32.ofInt (ishr (a : Int) (b : Int)) &&& Int32.ofInt 1).toBitVec = (BitVec.ofNat 32 a).sshiftRight b &&& 1#32 := by
    unfold ishr
    rw [Int32.ofInt_toInt, Int32.toBitVec_and, Int32.toBitVec_shiftRight, e, BitVec.sshiftRight_eq', BitVec.toNat_ofNat, Nat.mod_eq_of_lt (by omega), Int32.toBitVec_ofInt, BitVec.ofInt_natCast]
    rfl
  have e2 : hasb (a : Int) (b : Int) ↔ (BitVec.ofNat 32 a).sshiftRight b &&& 1#32 = 1#32 := by
    unfold hasb iand
    constructor
    · intro q
      rw [← e1]
      apply BitVec.eq_of_toInt_eq
      exact q
    · intro q
      show ((Int32.ofInt (ishr (a : Int) (b : Int)) &&& Int32.ofInt 1).toBitVec).toInt = 1
      rw [e1, q]; decide
  rw [e2]
  have e3 : ((BitVec.ofNat 32 a).sshiftRight b).getLsbD 0 = a.testBit b := by
    rw [BitVec.getLsbD_sshiftRight, BitVec.getLsbD_ofNat]
    have : b + 0 < 32 := by omega
    simp [this, hb]
  show _ ↔ a.testBit b = true
  rw [← e3]
  constructor
  · intro q
    have := congrArg (fun v => BitVec.getLsbD v 0) q
    simpa using this
  · intro q
    apply BitVec.eq_of_getLsbD_eq
    intro i hi
    rw [BitVec.getLsbD_and, BitVec.getLsbD_one]
    by_cases h0 : i = 0
    · subst h0; rw [q]; decide
    · simp [h0]
theorem hasb_0 {i : Int} (hi : 0 ≤ i ∧ i < 31) : ¬ hasb 0 i := by
  rw [hasb_iff (by omega) hi]; simp
theorem mul_pos2 {a b : Nat} : 0 < a * b ↔ 0 < a ∧ 0 < b := by
  constructor
  · intro h
    refine ⟨Nat.pos_of_ne_zero (fun e => by subst e; simp at h), Nat.pos_of_ne_zero (fun e => by subst e; simp at h)⟩
  · rintro ⟨h1, h2⟩; exact Nat.mul_pos h1 h2
theorem tm_pos {g : Gm} {r k m : Int} {A B : Int → Nat} (hr : 0 ≤ r ∧ r < 31) (h7 : g 7 r = 0 ∨ g 7 r = 1) (hm : 0 ≤ m ∧ m < 4) : 0 < tm g r k m A B ↔ g 4 r = k ∧ jn g (hasb 0) r m (fun q => 0 < A q) (fun q => 0 < B q) := by
  have hz := hasb_0 hr
  have ex : ∀ C : Int → Nat, 0 < C 0 + C 1 + C 2 + C 3 ↔ ∃ q, 0 ≤ q ∧ q < 4 ∧ 0 < C q := fun C => by
    constructor
    · intro h
      rcases (show 0 < C 0 ∨ 0 < C 1 ∨ 0 < C 2 ∨ 0 < C 3 by omega) with q | q | q | q
      · exact ⟨0, by omega, by omega, q⟩
      · exact ⟨1, by omega, by omega, q⟩
      · exact ⟨2, by omega, by omega, q⟩
      · exact ⟨3, by omega, by omega, q⟩
    · rintro ⟨q, q0, q1, q2⟩
      rcases (show q = 0 ∨ q = 1 ∨ q = 2 ∨ q = 3 by omega) with rfl | rfl | rfl | rfl <;> omega
  unfold tm jn
  by_cases c1 : g 4 r = k
  · rw [if_pos c1]
    rcases h7 with c2 | c2
    · rw [if_pos c2]
      have n7 : ¬ (g 7 r = 1 ∧ ¬ hasb 0 r) := fun q => by omega
      by_cases c3 : g 8 r = 0
      · rw [if_pos c3, mul_pos2 (a := A m)]
        rw [ex B]
        constructor
        · rintro ⟨a, b⟩
          exact ⟨c1, ⟨m, hm.1, hm.2, a⟩, b, fun q => absurd q n7, fun _ => ⟨fun _ => a, fun q => absurd c3 q⟩⟩
        · rintro ⟨-, -, b, -, d⟩
          exact ⟨(d n7).1 c3, b⟩
      · rw [if_neg c3, mul_pos2 (b := B m)]
        rw [ex A]
        constructor
        · rintro ⟨a, b⟩
          exact ⟨c1, a, ⟨m, hm.1, hm.2, b⟩, fun q => absurd q n7, fun _ => ⟨fun q => absurd q c3, fun _ => b⟩⟩
        · rintro ⟨-, b, -, -, d⟩
          exact ⟨b, (d n7).2 c3⟩
    · rw [if_neg (by omega), mul_pos2]
      constructor
      · rintro ⟨a, b⟩
        exact ⟨c1, ⟨m, hm.1, hm.2, a⟩, ⟨m, hm.1, hm.2, b⟩, fun _ => ⟨a, b⟩, fun q => absurd ⟨c2, hz⟩ q⟩
      · rintro ⟨-, -, -, d, -⟩
        exact d ⟨c2, hz⟩
  · rw [if_neg c1]
    exact ⟨fun q => absurd q (by omega), fun q => absurd q.1 c1⟩
theorem cnt_rd {g : Gm} {w : Int → Int} (hG : okG g) : ∀ (N : Nat) (n : Int), 1 ≤ n → n ≤ N → ∀ f k m : Int, 0 ≤ m → m < 4 → (0 < cnt g w n f k m ↔ rd g (hasb 0) w n f k m)
  | 0, n, h1, h2 => by omega
  | N + 1, n, h1, h2 => by
    intro f k m m0 m1
    by_cases h11 : n = 1
    · subst h11
      rw [cnt_1, rd_1]
      by_cases c : g 0 (w f) = k ∧ g 1 (w f) = m
      · rw [if_pos c]; exact ⟨fun _ => c, fun _ => by omega⟩
      · rw [if_neg c]; exact ⟨fun q => absurd q (by omega), fun q => absurd q c⟩
    · rw [cnt_s (by omega), rd_s (by omega), nsum_pos]
      have hR := hG.2.1
      have sub : ∀ (b q : Nat), b < n.toNat - 1 → q < (g 10 1).toNat → (0 < tm g q k m (cnt g w (b + 1) f (g 5 q)) (cnt g w (n - (b + 1)) (f + (b + 1)) (g 6 q)) ↔ g 4 q = k ∧ jn g (hasb 0) q m (rd g (hasb 0) w (b + 1) f (g 5 q)) (rd g (hasb 0) w (n - (b + 1)) (f + (b + 1)) (g 6 q))) := fun b q hb hq => by
        have o := hG.2.2.2.1 q (by omega) (by omega)
        rw [tm_pos (by omega) (by omega) ⟨m0, m1⟩]
        refine and_congr_right (fun _ => ?_)
        simp only [jn]
        have e1 : ∀ x, 0 ≤ x → x < 4 → (0 < cnt g w ((b : Int) + 1) f (g 5 q) x ↔ rd g (hasb 0) w ((b : Int) + 1) f (g 5 q) x) := fun x x0 x1 => cnt_rd hG N _ (by omega) (by omega) f (g 5 q) x x0 x1
        have e2 : ∀ x, 0 ≤ x → x < 4 → (0 < cnt g w (n - ((b : Int) + 1)) (f + ((b : Int) + 1)) (g 6 q) x ↔ rd g (hasb 0) w (n - ((b : Int) + 1)) (f + ((b : Int) + 1)) (g 6 q) x) := fun x x0 x1 => cnt_rd hG N _ (by omega) (by omega) _ (g 6 q) x x0 x1
        rw [e1 m m0 m1, e2 m m0 m1]
        have f1 : (∃ x, 0 ≤ x ∧ x < 4 ∧ 0 < cnt g w ((b : Int) + 1) f (g 5 q) x) ↔ ∃ x, 0 ≤ x ∧ x < 4 ∧ rd g (hasb 0) w ((b : Int) + 1) f (g 5 q) x := ⟨fun ⟨x, x0, x1, x2⟩ => ⟨x, x0, x1, (e1 x x0 x1).mp x2⟩, fun ⟨x, x0, x1, x2⟩ => ⟨x, x0, x1, (e1 x x0 x1).mpr x2⟩⟩
        have f2 : (∃ x, 0 ≤ x ∧ x < 4 ∧ 0 < cnt g w (n - ((b : Int) + 1)) (f + ((b : Int) + 1)) (g 6 q) x) ↔ ∃ x, 0 ≤ x ∧ x < 4 ∧ rd g (hasb 0) w (n - ((b : Int) + 1)) (f + ((b : Int) + 1)) (g 6 q) x := ⟨fun ⟨x, x0, x1, x2⟩ => ⟨x, x0, x1, (e2 x x0 x1).mp x2⟩, fun ⟨x, x0, x1, x2⟩ => ⟨x, x0, x1, (e2 x x0 x1).mpr x2⟩⟩
        rw [f1, f2]
      constructor
      · rintro ⟨b, b1, b2⟩
        obtain ⟨q, q1, q2⟩ := nsum_pos.mp b2
        obtain ⟨u1, u2⟩ := (sub b q b1 q1).mp q2
        exact ⟨(b : Int) + 1, q, by omega, by omega, by omega, by omega, u1, u2⟩
      · rintro ⟨a, r, a1, a2, r1, r2, u1, u2⟩
        obtain ⟨b, hb⟩ := Int.eq_ofNat_of_zero_le (show 0 ≤ a - 1 by omega)
        obtain ⟨q, rfl⟩ := Int.eq_ofNat_of_zero_le r1
        have ea : a = (b : Int) + 1 := by omega
        subst ea
        exact ⟨b, by omega, nsum_pos.mpr ⟨q, by omega, (sub b q (by omega) (by omega)).mpr ⟨u1, u2⟩⟩⟩
theorem READ_cnt {g : Gm} {w : Int → Int} (hG : okG g) {n : Int} (hn : 1 ≤ n ∧ n ≤ 8) : READ g (hasb 0) w n ↔ 0 < s4 (cnt g w n 0 0) := by
  have e : ∀ m, 0 ≤ m → m < 4 → (0 < cnt g w n 0 0 m ↔ rd g (hasb 0) w n 0 0 m) := fun m m0 m1 => cnt_rd hG n.toNat n hn.1 (by omega) 0 0 m m0 m1
  unfold READ s4
  constructor
  · rintro ⟨m, m0, m1, m2⟩
    have := (e m m0 m1).mpr m2
    rcases (show m = 0 ∨ m = 1 ∨ m = 2 ∨ m = 3 by omega) with rfl | rfl | rfl | rfl <;> omega
  · intro h
    rcases (show 0 < cnt g w n 0 0 0 ∨ 0 < cnt g w n 0 0 1 ∨ 0 < cnt g w n 0 0 2 ∨ 0 < cnt g w n 0 0 3 by omega) with q | q | q | q
    · exact ⟨0, by omega, by omega, (e 0 (by omega) (by omega)).mp q⟩
    · exact ⟨1, by omega, by omega, (e 1 (by omega) (by omega)).mp q⟩
    · exact ⟨2, by omega, by omega, (e 2 (by omega) (by omega)).mp q⟩
    · exact ⟨3, by omega, by omega, (e 3 (by omega) (by omega)).mp q⟩
theorem ofN_toInt {n : Nat} (h : n < 2 ^ 63) : (Int64.ofNat n).toInt = n := Int64.toInt_ofNat_of_lt h
theorem ofN_0 {n : Nat} (h : n < 2 ^ 63) : Int64.ofNat n = i2l 0 ↔ n = 0 := by
  constructor
  · intro q
    have e := congrArg Int64.toInt q
    rw [ofN_toInt h, i2l_int (by constructor <;> omega)] at e
    omega
  · rintro rfl; decide
theorem lcmp_0 {x y : Int64} : lcmpI x y = 0 ↔ x = y := by
  unfold lcmpI
  by_cases h1 : y < x
  · rw [if_pos h1]
    exact ⟨fun q => absurd q (by decide), fun q => by subst q; exact absurd h1 (by rw [Int64.lt_iff_toInt_lt]; omega)⟩
  · rw [if_neg h1]
    by_cases h2 : x = y
    · rw [if_pos h2]; simp [h2]
    · rw [if_neg h2]; simp [h2]
theorem cP_k {g : Gm} {w : Int → Int} {n f k : Int} (hk : 1 ≤ k) (kd m : Int) : cP g w n f (k + 1 - 1).toNat 0 kd m = cP g w n f (k - 1).toNat 0 kd m + nsum (fun q => tm g q kd m (cnt g w k f (g 5 q)) (cnt g w (n - k) (f + k) (g 6 q))) (g 10 1).toNat := by
  obtain ⟨a, ha⟩ := Int.eq_ofNat_of_zero_le (show 0 ≤ k - 1 by omega)
  have e : k = (a : Int) + 1 := by omega
  subst e
  rw [show ((a : Int) + 1 + 1 - 1).toNat = a + 1 by omega, show ((a : Int) + 1 - 1).toNat = a by omega, ← cP_row]
  unfold cP
  simp only [nsum]
  omega
end
