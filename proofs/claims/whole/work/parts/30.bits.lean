/-! BITS -/
section BITS
def bitL (x : Int64) (i : Int) : Prop := x.toBitVec.getLsbD i.toNat = true
def tbit (y m : Int) : Prop := y.toNat.testBit m.toNat = true
theorem amt64 : ∀ b : Fin 64, (((Int32.ofInt ((b.val : Nat) : Int)).toInt64 &&& 63).toBitVec.smod 64) = BitVec.ofNat 64 b.val := by decide +kernel
theorem amt32 : ∀ b : Fin 32, ((Int32.ofInt ((b.val : Nat) : Int) &&& 31).toBitVec.smod 32) = BitVec.ofNat 32 b.val := by decide +kernel
theorem amtU64 : ∀ b : Fin 64, ((Int32.ofInt ((b.val : Nat) : Int)).toInt64.toUInt64 &&& Int64.toUInt64 63).toNat % 64 = b.val := by decide +kernel
theorem lshl_bv (x : Int64) {b : Int} (hb : 0 ≤ b ∧ b < 64) : (lshl x b).toBitVec = x.toBitVec <<< b.toNat := by
  obtain ⟨n, rfl⟩ := Int.eq_ofNat_of_zero_le hb.1
  have hn : n < 64 := by omega
  have e := amt64 ⟨n, hn⟩
  unfold lshl
  rw [Int64.toBitVec_shiftLeft, e, BitVec.shiftLeft_eq', BitVec.toNat_ofNat, Nat.mod_eq_of_lt (by omega)]
  rfl
theorem lshr_bv (x : Int64) {b : Int} (hb : 0 ≤ b ∧ b < 64) : (lshr x b).toBitVec = x.toBitVec.sshiftRight b.toNat := by
  obtain ⟨n, rfl⟩ := Int.eq_ofNat_of_zero_le hb.1
  have hn : n < 64 := by omega
  have e := amt64 ⟨n, hn⟩
  unfold lshr
  rw [Int64.toBitVec_shiftRight, e, BitVec.sshiftRight_eq', BitVec.toNat_ofNat, Nat.mod_eq_of_lt (by omega)]
  rfl
theorem lushr_bv (x : Int64) {b : Int} (hb : 0 ≤ b ∧ b < 64) : (lushr x b).toBitVec = x.toBitVec >>> b.toNat := by
  obtain ⟨n, rfl⟩ := Int.eq_ofNat_of_zero_le hb.1
  have hn : n < 64 := by omega
  have e := amtU64 ⟨n, hn⟩
  unfold lushr
  rw [UInt64.toBitVec_toInt64, UInt64.toBitVec_shiftRight]
  apply BitVec.eq_of_toNat_eq
  rw [BitVec.toNat_ushiftRight]
  simp only [BitVec.ushiftRight_eq', BitVec.toNat_ushiftRight, BitVec.toNat_umod]
  have e2 : ((Int32.ofInt ((n : Nat) : Int)).toInt64.toUInt64 &&& Int64.toUInt64 63).toBitVec.toNat % (64 : BitVec 64).toNat = n := e
  rw [e2]
  rfl
theorem bitL_or (x y : Int64) (i : Int) : bitL (x ||| y) i ↔ bitL x i ∨ bitL y i := by
  unfold bitL
  rw [Int64.toBitVec_or, BitVec.getLsbD_or, Bool.or_eq_true]
theorem bitL_and (x y : Int64) (i : Int) : bitL (x &&& y) i ↔ bitL x i ∧ bitL y i := by
  unfold bitL
  rw [Int64.toBitVec_and, BitVec.getLsbD_and, Bool.and_eq_true]
theorem bitL_0 (i : Int) : ¬ bitL (i2l 0) i := by
  unfold bitL
  rw [show (i2l 0).toBitVec = 0#64 by decide, BitVec.getLsbD_zero]
  simp
theorem bitL_one {b i : Int} (hb : 0 ≤ b ∧ b < 64) (hi : 0 ≤ i ∧ i < 64) : bitL (lshl (i2l 1) b) i ↔ i = b := by
  unfold bitL
  rw [lshl_bv _ hb, BitVec.getLsbD_shiftLeft, show (i2l 1).toBitVec = 1#64 by decide]
  rw [BitVec.getLsbD_one]
  simp only [Bool.and_eq_true, decide_eq_true_eq, Bool.not_eq_true', decide_eq_false_iff_not]
  omega
theorem i2l_nat {n : Nat} (hn : n < 2 ^ 31) : (i2l n).toBitVec = BitVec.ofNat 64 n := by
  apply BitVec.eq_of_toInt_eq
  show (i2l n).toInt = _
  rw [i2l_int ⟨by omega, by omega⟩, BitVec.toInt_eq_toNat_of_lt] <;> rw [BitVec.toNat_ofNat, Nat.mod_eq_of_lt (by omega)]
  omega
/-- the four marks of a kind -/
def nib (x : Int64) (k : Int) : Int := l2i (lshr x (4 * k) &&& i2l 15)
theorem l2i16 : ∀ n : Fin 16, l2i (Int64.ofNat n.val) = n.val := by decide +kernel
theorem nib_ex (x : Int64) {k : Int} (hk : 0 ≤ k ∧ k ≤ 9) : ∃ n : Nat, n < 16 ∧ nib x k = n ∧ ∀ m : Nat, m < 4 → n.testBit m = x.toBitVec.getLsbD (4 * k.toNat + m) := by
  have h15 : (i2l 15).toBitVec = 15#64 := by decide
  have hy : (lshr x (4 * k) &&& i2l 15).toBitVec = x.toBitVec.sshiftRight (4 * k).toNat &&& 15#64 := by rw [Int64.toBitVec_and, lshr_bv x (by omega), h15]
  have hlt : (lshr x (4 * k) &&& i2l 15).toBitVec.toNat < 16 := by
    rw [hy, BitVec.toNat_and]
    exact Nat.lt_of_le_of_lt Nat.and_le_right (by decide)
  refine ⟨_, hlt, ?_, ?_⟩
  · have e : (lshr x (4 * k) &&& i2l 15) = Int64.ofNat (lshr x (4 * k) &&& i2l 15).toBitVec.toNat := by
      apply Int64.toBitVec_inj.mp
      show _ = BitVec.ofNat 64 _
      rw [BitVec.ofNat_toNat]
      simp
    have e2 := l2i16 ⟨_, hlt⟩
    unfold nib
    rw [← e] at e2
    exact e2
  · intro m hm
    show BitVec.getLsbD _ m = _
    rw [hy, BitVec.getLsbD_and, BitVec.getLsbD_sshiftRight]
    have e4 : (4 * k).toNat = 4 * k.toNat := by omega
    have e5 : (15#64).getLsbD m = true := by
      rcases (show m = 0 ∨ m = 1 ∨ m = 2 ∨ m = 3 by omega) with rfl | rfl | rfl | rfl <;> rfl
    have e6 : ¬ 64 ≤ m := by omega
    have e7 : 4 * k.toNat + m < 64 := by omega
    rw [e4, e5, if_pos e7]
    simp [e6]
theorem nib_rng (x : Int64) {k : Int} (hk : 0 ≤ k ∧ k ≤ 9) : 0 ≤ nib x k ∧ nib x k ≤ 15 := by
  obtain ⟨n, h1, h2, -⟩ := nib_ex x hk
  omega
theorem nib_bit (x : Int64) {k m : Int} (hk : 0 ≤ k ∧ k ≤ 9) (hm : 0 ≤ m ∧ m < 4) : tbit (nib x k) m ↔ bitL x (4 * k + m) := by
  obtain ⟨n, h1, h2, h3⟩ := nib_ex x hk
  unfold tbit bitL
  rw [h2, show (4 * k + m).toNat = 4 * k.toNat + m.toNat by omega, ← h3 m.toNat (by omega)]
  rfl
theorem and16 : ∀ y z : Fin 16, iand ((y.val : Nat) : Int) ((z.val : Nat) : Int) = ((y.val &&& z.val : Nat) : Int) := by decide +kernel
theorem iand_nib {y z : Int} (hy : 0 ≤ y ∧ y ≤ 15) (hz : 0 ≤ z ∧ z ≤ 15) : (0 ≤ iand y z ∧ iand y z ≤ 15) ∧ ∀ m : Int, tbit (iand y z) m ↔ tbit y m ∧ tbit z m := by
  obtain ⟨a, rfl⟩ := Int.eq_ofNat_of_zero_le hy.1
  obtain ⟨b, rfl⟩ := Int.eq_ofNat_of_zero_le hz.1
  have e := and16 ⟨a, by omega⟩ ⟨b, by omega⟩
  have e1 : iand (a : Int) (b : Int) = ((a &&& b : Nat) : Int) := e
  have hle : a &&& b ≤ a := Nat.and_le_left
  refine ⟨by rw [e1]; omega, fun m => ?_⟩
  unfold tbit
  rw [e1]
  show (a &&& b).testBit m.toNat = true ↔ a.testBit m.toNat = true ∧ b.testBit m.toNat = true
  rw [Nat.testBit_and, Bool.and_eq_true]
theorem nz16 : ∀ y : Fin 16, y.val = 0 ∨ y.val.testBit 0 = true ∨ y.val.testBit 1 = true ∨ y.val.testBit 2 = true ∨ y.val.testBit 3 = true := by decide +kernel
theorem nib_nz {y : Int} (hy : 0 ≤ y ∧ y ≤ 15) : y ≠ 0 ↔ ∃ m : Int, 0 ≤ m ∧ m < 4 ∧ tbit y m := by
  obtain ⟨a, rfl⟩ := Int.eq_ofNat_of_zero_le hy.1
  constructor
  · intro h0
    rcases nz16 ⟨a, by omega⟩ with h | h | h | h | h
    · exact absurd (by simpa using h) h0
    · exact ⟨0, by omega, by omega, h⟩
    · exact ⟨1, by omega, by omega, h⟩
    · exact ⟨2, by omega, by omega, h⟩
    · exact ⟨3, by omega, by omega, h⟩
  · rintro ⟨m, -, -, hm⟩ h0
    have : a = 0 := by omega
    subst this
    unfold tbit at hm
    simp at hm
theorem tb_hi {a m : Nat} (ha : a < 16) (hm : 4 ≤ m) : a.testBit m = false := by
  apply Nat.testBit_lt_two_pow
  exact Nat.lt_of_lt_of_le ha (by calc 16 = 2 ^ 4 := rfl
    _ ≤ 2 ^ m := Nat.pow_le_pow_right (by omega) hm)
theorem bitL_shl {y k k' m' : Int} (hy : 0 ≤ y ∧ y ≤ 15) (hk : 0 ≤ k ∧ k ≤ 9) (hk' : 0 ≤ k' ∧ k' ≤ 9) (hm : 0 ≤ m' ∧ m' < 4) : bitL (lshl (i2l y) (4 * k)) (4 * k' + m') ↔ k' = k ∧ tbit y m' := by
  obtain ⟨a, rfl⟩ := Int.eq_ofNat_of_zero_le hy.1
  unfold bitL tbit
  rw [lshl_bv _ (by omega), BitVec.getLsbD_shiftLeft, i2l_nat (by omega), BitVec.getLsbD_ofNat]
  simp only [Bool.and_eq_true, decide_eq_true_eq, Bool.not_eq_true', decide_eq_false_iff_not]
  constructor
  · rintro ⟨⟨h1, h2⟩, h3, h4⟩
    by_cases hlt : (4 * k' + m').toNat - (4 * k).toNat < 4
    · have e : k' = k := by omega
      subst e
      refine ⟨rfl, ?_⟩
      rw [show (4 * k' + m').toNat - (4 * k').toNat = m'.toNat by omega] at h4
      exact h4
    · rw [tb_hi (by omega) (by omega)] at h4
      exact absurd h4 (by decide)
  · rintro ⟨rfl, h⟩
    refine ⟨⟨by omega, by omega⟩, by omega, ?_⟩
    rw [show (4 * k' + m').toNat - (4 * k').toNat = m'.toNat by omega]
    exact h
end BITS
