/-! ROWS OF A WALK OVER THE PICTURE, an instruction each (printed by gen/rules.py) -/
section RULES
variable {cc : ByteArray} {own : String} {nL fr lo : Nat} {G : GT} {pc : Nat} {L L' : List (Nat × Value)} {st : List Value} {h : AH}
theorem tI {z : Int} (h : ir z) : (Int32.ofInt z).toInt = z := by
  obtain ⟨h1, h2⟩ := h
  exact Int32.toInt_ofInt_of_le h1 (by omega)
theorem oI (x : Int32) : Int32.ofInt x.toInt = x := Int32.ofInt_toInt x
theorem irT (x : Int32) : ir x.toInt := ⟨Int32.le_toInt x, by have := Int32.toInt_lt x; omega⟩
theorem clI {z : Int} (h0 : 0 ≤ z) (h : z ≤ 2147483647) : (Int32.ofInt z).toNatClampNeg = z.toNat := by
  show (Int32.ofInt z).toInt.toNat = z.toNat
  rw [tI ⟨by omega, h⟩]
theorem inI {z : Int} {N : Nat} (h : 0 ≤ z ∧ z < N) (hN : N ≤ 2147483647) : ¬ (Int32.ofInt z < 0 ∨ N ≤ (Int32.ofInt z).toNatClampNeg) := by
  rw [clI h.1 (by omega)]
  intro q
  rcases q with q | q
  · have := Int32.lt_iff_toInt_lt.mp q
    rw [tI ⟨by omega, by omega⟩] at this
    simp at this
    omega
  · omega
theorem ltI {a b : Int} (ha : ir a) (hb : ir b) : Int32.ofInt a < Int32.ofInt b ↔ a < b := by rw [Int32.lt_iff_toInt_lt, tI ha, tI hb]
theorem leI {a b : Int} (ha : ir a) (hb : ir b) : Int32.ofInt a ≤ Int32.ofInt b ↔ a ≤ b := by rw [Int32.le_iff_toInt_le, tI ha, tI hb]
theorem eqI {a b : Int} (ha : ir a) (hb : ir b) : Int32.ofInt a = Int32.ofInt b ↔ a = b := ⟨fun e => by rw [← tI ha, ← tI hb, e], fun e => by rw [e]⟩
theorem zI : (0 : Int32) = Int32.ofInt 0 := rfl
theorem lvq {ad : Nat → Nat} {ls : Array Slot} (hl : lv_has ls nL (L.map (fun q => (q.1, cv ad q.2)))) {q i : Nat} {v : Value} (hq : L[q]? = some (i, v)) : ls[i]? = some (.val (cv ad v)) := lv_at hl q (by rw [List.getElem?_map, hq]; rfl)
theorem flt {ad : Nat → Nat} (i : Nat) (L : List (Nat × Value)) : (L.map (fun q => (q.1, cv ad q.2))).filter (fun q => !(q.1 == i) && !(q.1 + 1 == i && q.2.category == 2)) = (L.filter (fun q => !(q.1 == i) && !(q.1 + 1 == i && q.2.category == 2))).map (fun q => (q.1, cv ad q.2)) := by
  rw [List.filter_map]
  congr 2
  funext q
  simp only [Function.comp, cv_cat]
theorem flt2 {ad : Nat → Nat} (i : Nat) (L : List (Nat × Value)) : (L.map (fun q => (q.1, cv ad q.2))).filter (fun q => !(q.1 == i) && (!(q.1 == i + 1) && !(q.1 + 1 == i && q.2.category == 2))) = (L.filter (fun q => !(q.1 == i) && (!(q.1 == i + 1) && !(q.1 + 1 == i && q.2.category == 2)))).map (fun q => (q.1, cv ad q.2)) := by
  rw [List.filter_map]
  congr 2
  funext q
  simp only [Function.comp, cv_cat]

theorem A_rng (hG : Cx cc own nL fr lo G) (k : (∀ (q : Nat) (j : Int), ir (h.1 q j)) → G (pc) L (st) h) : G (pc) L (st) h := by
  obtain ⟨p, l, e, R, s, m, args, below, meth, c, D, cA, ad, A, cells, slots, Q, F, rfl⟩ := hG
  intro H locs ls hR hS hl
  exact k hR.1 H locs ls hR hS hl

theorem A_sub (hG : Cx cc own nL fr lo G) (ks : List Nat) (hk : lv_pick L ks = L') (k : G (pc) L' (st) h) : G (pc) L (st) h := by
  obtain ⟨p, l, e, R, s, m, args, below, meth, c, D, cA, ad, A, cells, slots, Q, F, rfl⟩ := hG
  intro H locs ls hR hS hl
  refine k H locs ls hR hS (lv_sub hl ks ?_)
  clear k
  subst hk
  simp only [lv_pick, List.getElem?_map]
  induction ks with
  | nil => rfl
  | cons x xs ih =>
    simp only [List.filterMap_cons]
    cases L[x]? with
    | none => simpa using ih
    | some q => simpa using ih

theorem A_iconst (hG : Cx cc own nL fr lo G) {n : Int} (d : decode cc pc = .ok (.iconst n, 1)) (k : G (pc + 1) L (vI n :: st) h) : G (pc) L (st) h := by
  obtain ⟨p, l, e, R, s, m, args, below, meth, c, D, cA, ad, A, cells, slots, Q, F, rfl⟩ := hG
  intro H locs ls hR hS hl
  exact lv_iconst F.1 F.2.1 d rfl (k H locs ls hR hS hl)

theorem A_bipush (hG : Cx cc own nL fr lo G) {n : Int} (d : decode cc pc = .ok (.bipush n, 2)) (hv : (Int8.ofInt n).toInt32 = Int32.ofInt n) (k : G (pc + 2) L (vI n :: st) h) : G (pc) L (st) h := by
  obtain ⟨p, l, e, R, s, m, args, below, meth, c, D, cA, ad, A, cells, slots, Q, F, rfl⟩ := hG
  intro H locs ls hR hS hl
  exact lv_bipush F.1 F.2.1 d hv (k H locs ls hR hS hl)

theorem A_sipush (hG : Cx cc own nL fr lo G) {n : Int} (d : decode cc pc = .ok (.sipush n, 3)) (hv : (Int16.ofInt n).toInt32 = Int32.ofInt n) (k : G (pc + 3) L (vI n :: st) h) : G (pc) L (st) h := by
  obtain ⟨p, l, e, R, s, m, args, below, meth, c, D, cA, ad, A, cells, slots, Q, F, rfl⟩ := hG
  intro H locs ls hR hS hl
  exact lv_sipush F.1 F.2.1 d hv (k H locs ls hR hS hl)

theorem A_lconst (hG : Cx cc own nL fr lo G) {n : Fin 2} {v : Int64} (d : decode cc pc = .ok (.lconst n, 1)) (hv : Int64.ofNat (n : Nat) = v) (k : G (pc + 1) L (.long v :: st) h) : G (pc) L (st) h := by
  obtain ⟨p, l, e, R, s, m, args, below, meth, c, D, cA, ad, A, cells, slots, Q, F, rfl⟩ := hG
  intro H locs ls hR hS hl
  exact lv_lconst F.1 F.2.1 d hv (k H locs ls hR hS hl)

theorem A_ldc (hG : Cx cc own nL fr lo G) {i : Nat} {n : Int} (d : decode cc pc = .ok (.ldc i, 2)) (hc : Cond.constant own i (Int32.ofInt n) ∈ wsAll) (k : G (pc + 2) L (vI n :: st) h) : G (pc) L (st) h := by
  obtain ⟨p, l, e, R, s, m, args, below, meth, c, D, cA, ad, A, cells, slots, Q, F, rfl⟩ := hG
  intro H locs ls hR hS hl
  exact lv_ldc F.1 F.2.1 F.2.2.2.1 (F.2.2.2.2.1 _ hc) d (k H locs ls hR hS hl)

theorem A_ldcw (hG : Cx cc own nL fr lo G) {i : Nat} {n : Int} (d : decode cc pc = .ok (.ldc_w i, 3)) (hc : Cond.constant own i (Int32.ofInt n) ∈ wsAll) (k : G (pc + 3) L (vI n :: st) h) : G (pc) L (st) h := by
  obtain ⟨p, l, e, R, s, m, args, below, meth, c, D, cA, ad, A, cells, slots, Q, F, rfl⟩ := hG
  intro H locs ls hR hS hl
  exact lv_ldcw F.1 F.2.1 F.2.2.2.1 (F.2.2.2.2.1 _ hc) d (k H locs ls hR hS hl)

theorem A_ldc2 (hG : Cx cc own nL fr lo G) {i : Nat} {v : Int64} (d : decode cc pc = .ok (.ldc2_w i, 3)) (hc : Cond.constantLong own i v ∈ wsAll) (k : G (pc + 3) L (.long v :: st) h) : G (pc) L (st) h := by
  obtain ⟨p, l, e, R, s, m, args, below, meth, c, D, cA, ad, A, cells, slots, Q, F, rfl⟩ := hG
  intro H locs ls hR hS hl
  exact lv_ldc2 F.1 F.2.1 F.2.2.2.1 (F.2.2.2.2.1 _ hc) d (k H locs ls hR hS hl)

theorem A_iload_n (hG : Cx cc own nL fr lo G) {kf : Fin 4} {i : Nat} (q : Nat) {z : Int} (d : decode cc pc = .ok (.iload_n kf, 1)) (hi : (kf : Nat) = i) (hq : L[q]? = some (i, vI z)) (k : G (pc + 1) L (vI z :: st) h) : G (pc) L (st) h := by
  obtain ⟨p, l, e, R, s, m, args, below, meth, c, D, cA, ad, A, cells, slots, Q, F, rfl⟩ := hG
  intro H locs ls hR hS hl
  exact lv_iload_n F.1 F.2.1 d hi (lvq hl hq) (k H locs ls hR hS hl)

theorem A_iload (hG : Cx cc own nL fr lo G) {i : Nat} (q : Nat) {z : Int} (d : decode cc pc = .ok (.iload i, 2)) (hq : L[q]? = some (i, vI z)) (k : G (pc + 2) L (vI z :: st) h) : G (pc) L (st) h := by
  obtain ⟨p, l, e, R, s, m, args, below, meth, c, D, cA, ad, A, cells, slots, Q, F, rfl⟩ := hG
  intro H locs ls hR hS hl
  exact lv_iload F.1 F.2.1 d (lvq hl hq) (k H locs ls hR hS hl)

theorem A_istore_n (hG : Cx cc own nL fr lo G) {kf : Fin 4} {i : Nat} {z : Int} (d : decode cc pc = .ok (.istore_n kf, 1)) (hi : (kf : Nat) = i) (hn : i < nL) (hL : (i, vI z) :: L.filter (fun q => !(q.1 == i) && !(q.1 + 1 == i && q.2.category == 2)) = L') (k : G (pc + 1) L' (st) h) : G (pc) L (vI z :: st) h := by
  obtain ⟨p, l, e, R, s, m, args, below, meth, c, D, cA, ad, A, cells, slots, Q, F, rfl⟩ := hG
  intro H locs ls hR hS hl
  subst hL
  exact lv_istore_n F.1 F.2.1 d hi hl hn rfl (fun ls' hl' => k H locs ls' hR hS (by rw [flt] at hl'; exact hl'))

theorem A_istore (hG : Cx cc own nL fr lo G) {i : Nat} {z : Int} (d : decode cc pc = .ok (.istore i, 2)) (hn : i < nL) (hL : (i, vI z) :: L.filter (fun q => !(q.1 == i) && !(q.1 + 1 == i && q.2.category == 2)) = L') (k : G (pc + 2) L' (st) h) : G (pc) L (vI z :: st) h := by
  obtain ⟨p, l, e, R, s, m, args, below, meth, c, D, cA, ad, A, cells, slots, Q, F, rfl⟩ := hG
  intro H locs ls hR hS hl
  subst hL
  exact lv_istore F.1 F.2.1 d hl hn rfl (fun ls' hl' => k H locs ls' hR hS (by rw [flt] at hl'; exact hl'))

theorem A_aload_n (hG : Cx cc own nL fr lo G) {kf : Fin 4} {i : Nat} (q : Nat) {z : Nat} (d : decode cc pc = .ok (.aload_n kf, 1)) (hi : (kf : Nat) = i) (hq : L[q]? = some (i, .ref z)) (k : G (pc + 1) L (.ref z :: st) h) : G (pc) L (st) h := by
  obtain ⟨p, l, e, R, s, m, args, below, meth, c, D, cA, ad, A, cells, slots, Q, F, rfl⟩ := hG
  intro H locs ls hR hS hl
  exact lv_aload_n F.1 F.2.1 d hi (lvq hl hq) (k H locs ls hR hS hl)

theorem A_aload (hG : Cx cc own nL fr lo G) {i : Nat} (q : Nat) {z : Nat} (d : decode cc pc = .ok (.aload i, 2)) (hq : L[q]? = some (i, .ref z)) (k : G (pc + 2) L (.ref z :: st) h) : G (pc) L (st) h := by
  obtain ⟨p, l, e, R, s, m, args, below, meth, c, D, cA, ad, A, cells, slots, Q, F, rfl⟩ := hG
  intro H locs ls hR hS hl
  exact lv_aload F.1 F.2.1 d (lvq hl hq) (k H locs ls hR hS hl)

theorem A_astore_n (hG : Cx cc own nL fr lo G) {kf : Fin 4} {i : Nat} {z : Nat} (d : decode cc pc = .ok (.astore_n kf, 1)) (hi : (kf : Nat) = i) (hn : i < nL) (hL : (i, .ref z) :: L.filter (fun q => !(q.1 == i) && !(q.1 + 1 == i && q.2.category == 2)) = L') (k : G (pc + 1) L' (st) h) : G (pc) L (.ref z :: st) h := by
  obtain ⟨p, l, e, R, s, m, args, below, meth, c, D, cA, ad, A, cells, slots, Q, F, rfl⟩ := hG
  intro H locs ls hR hS hl
  subst hL
  exact lv_astore_n F.1 F.2.1 d hi hl hn rfl (fun ls' hl' => k H locs ls' hR hS (by rw [flt] at hl'; exact hl'))

theorem A_astore (hG : Cx cc own nL fr lo G) {i : Nat} {z : Nat} (d : decode cc pc = .ok (.astore i, 2)) (hn : i < nL) (hL : (i, .ref z) :: L.filter (fun q => !(q.1 == i) && !(q.1 + 1 == i && q.2.category == 2)) = L') (k : G (pc + 2) L' (st) h) : G (pc) L (.ref z :: st) h := by
  obtain ⟨p, l, e, R, s, m, args, below, meth, c, D, cA, ad, A, cells, slots, Q, F, rfl⟩ := hG
  intro H locs ls hR hS hl
  subst hL
  exact lv_astore F.1 F.2.1 d hl hn rfl (fun ls' hl' => k H locs ls' hR hS (by rw [flt] at hl'; exact hl'))

theorem A_lload_n (hG : Cx cc own nL fr lo G) {kf : Fin 4} {i : Nat} (q : Nat) {z : Int64} (d : decode cc pc = .ok (.lload_n kf, 1)) (hi : (kf : Nat) = i) (hq : L[q]? = some (i, .long z)) (k : G (pc + 1) L (.long z :: st) h) : G (pc) L (st) h := by
  obtain ⟨p, l, e, R, s, m, args, below, meth, c, D, cA, ad, A, cells, slots, Q, F, rfl⟩ := hG
  intro H locs ls hR hS hl
  exact lv_lload_n F.1 F.2.1 d hi (lvq hl hq) (k H locs ls hR hS hl)

theorem A_lload (hG : Cx cc own nL fr lo G) {i : Nat} (q : Nat) {z : Int64} (d : decode cc pc = .ok (.lload i, 2)) (hq : L[q]? = some (i, .long z)) (k : G (pc + 2) L (.long z :: st) h) : G (pc) L (st) h := by
  obtain ⟨p, l, e, R, s, m, args, below, meth, c, D, cA, ad, A, cells, slots, Q, F, rfl⟩ := hG
  intro H locs ls hR hS hl
  exact lv_lload F.1 F.2.1 d (lvq hl hq) (k H locs ls hR hS hl)

theorem A_lstore_n (hG : Cx cc own nL fr lo G) {kf : Fin 4} {i : Nat} {z : Int64} (d : decode cc pc = .ok (.lstore_n kf, 1)) (hi : (kf : Nat) = i) (hn : i + 1 < nL) (hL : (i, .long z) :: L.filter (fun q => !(q.1 == i) && (!(q.1 == i + 1) && !(q.1 + 1 == i && q.2.category == 2))) = L') (k : G (pc + 1) L' (st) h) : G (pc) L (.long z :: st) h := by
  obtain ⟨p, l, e, R, s, m, args, below, meth, c, D, cA, ad, A, cells, slots, Q, F, rfl⟩ := hG
  intro H locs ls hR hS hl
  subst hL
  exact lv_lstore_n F.1 F.2.1 d hi hl hn rfl (fun ls' hl' => k H locs ls' hR hS (by rw [flt2] at hl'; exact hl'))

theorem A_lstore (hG : Cx cc own nL fr lo G) {i : Nat} {z : Int64} (d : decode cc pc = .ok (.lstore i, 2)) (hn : i + 1 < nL) (hL : (i, .long z) :: L.filter (fun q => !(q.1 == i) && (!(q.1 == i + 1) && !(q.1 + 1 == i && q.2.category == 2))) = L') (k : G (pc + 2) L' (st) h) : G (pc) L (.long z :: st) h := by
  obtain ⟨p, l, e, R, s, m, args, below, meth, c, D, cA, ad, A, cells, slots, Q, F, rfl⟩ := hG
  intro H locs ls hR hS hl
  subst hL
  exact lv_lstore F.1 F.2.1 d hl hn rfl (fun ls' hl' => k H locs ls' hR hS (by rw [flt2] at hl'; exact hl'))

theorem A_iinc (hG : Cx cc own nL fr lo G) {i : Nat} {n z : Int} (q : Nat) (d : decode cc pc = .ok (.iinc i n, 3)) (hq : L[q]? = some (i, vI z)) (hn : i < nL) (hL : (i, vI (z + n)) :: L.filter (fun q => !(q.1 == i) && !(q.1 + 1 == i && q.2.category == 2)) = L') (k : G (pc + 3) L' (st) h) : G (pc) L (st) h := by
  obtain ⟨p, l, e, R, s, m, args, below, meth, c, D, cA, ad, A, cells, slots, Q, F, rfl⟩ := hG
  intro H locs ls hR hS hl
  subst hL
  exact lv_iinc (v := Int32.ofInt (z + n)) F.1 F.2.1 d hl (k := q) (by rw [List.getElem?_map, hq]; rfl) (Int32.ofInt_add _ _).symm hn rfl (fun ls' hl' => k H locs ls' hR hS (by rw [flt] at hl'; exact hl'))

theorem A_iadd (hG : Cx cc own nL fr lo G) {a b : Int} (d : decode cc pc = .ok (.iadd, 1)) (k : G (pc + 1) L (vI (a + b) :: st) h) : G (pc) L (vI b :: vI a :: st) h := by
  obtain ⟨p, l, e, R, s, m, args, below, meth, c, D, cA, ad, A, cells, slots, Q, F, rfl⟩ := hG
  intro H locs ls hR hS hl
  refine lv_iadd F.1 F.2.1 d ?_
  rw [← Int32.ofInt_add]
  exact k H locs ls hR hS hl

theorem A_isub (hG : Cx cc own nL fr lo G) {a b : Int} (d : decode cc pc = .ok (.isub, 1)) (k : G (pc + 1) L (vI (a - b) :: st) h) : G (pc) L (vI b :: vI a :: st) h := by
  obtain ⟨p, l, e, R, s, m, args, below, meth, c, D, cA, ad, A, cells, slots, Q, F, rfl⟩ := hG
  intro H locs ls hR hS hl
  refine lv_isub F.1 F.2.1 d ?_
  rw [← Int32.ofInt_sub]
  exact k H locs ls hR hS hl

theorem A_imul (hG : Cx cc own nL fr lo G) {a b : Int} (d : decode cc pc = .ok (.imul, 1)) (k : G (pc + 1) L (vI (a * b) :: st) h) : G (pc) L (vI b :: vI a :: st) h := by
  obtain ⟨p, l, e, R, s, m, args, below, meth, c, D, cA, ad, A, cells, slots, Q, F, rfl⟩ := hG
  intro H locs ls hR hS hl
  refine lv_imul F.1 F.2.1 d ?_
  rw [← Int32.ofInt_mul]
  exact k H locs ls hR hS hl

theorem A_ineg (hG : Cx cc own nL fr lo G) {a : Int} (d : decode cc pc = .ok (.ineg, 1)) (k : G (pc + 1) L (vI (-a) :: st) h) : G (pc) L (vI a :: st) h := by
  obtain ⟨p, l, e, R, s, m, args, below, meth, c, D, cA, ad, A, cells, slots, Q, F, rfl⟩ := hG
  intro H locs ls hR hS hl
  refine lv_ineg F.1 F.2.1 d ?_
  rw [← Int32.ofInt_neg]
  exact k H locs ls hR hS hl

def iand (a b : Int) : Int := (Int32.ofInt a &&& Int32.ofInt b).toInt
def ior (a b : Int) : Int := (Int32.ofInt a ||| Int32.ofInt b).toInt
def ixor (a b : Int) : Int := (Int32.ofInt a ^^^ Int32.ofInt b).toInt
def ishl (a b : Int) : Int := (Int32.ofInt a <<< (Int32.ofInt b &&& 31)).toInt
def ishr (a b : Int) : Int := (Int32.ofInt a >>> (Int32.ofInt b &&& 31)).toInt
def iushr (a b : Int) : Int := ((Int32.ofInt a).toUInt32 >>> ((Int32.ofInt b).toUInt32 &&& Int32.toUInt32 31)).toInt32.toInt
def idiv (a b : Int) : Int := (Int32.ofInt a / Int32.ofInt b).toInt
def i2l (a : Int) : Int64 := (Int32.ofInt a).toInt64
def l2i (x : Int64) : Int := x.toInt32.toInt
def lcmpI (x y : Int64) : Int := if y < x then 1 else if x = y then 0 else -1

theorem A_iand (hG : Cx cc own nL fr lo G) {a b : Int} (d : decode cc pc = .ok (.iand, 1)) (k : G (pc + 1) L (vI (iand a b) :: st) h) : G (pc) L (vI b :: vI a :: st) h := by
  obtain ⟨p, l, e, R, s, m, args, below, meth, c, D, cA, ad, A, cells, slots, Q, F, rfl⟩ := hG
  intro H locs ls hR hS hl
  refine lv_iand F.1 F.2.1 d ?_
  have k1 := k H locs ls hR hS hl
  simp only [List.map_cons, vI, iand, oI] at k1
  exact k1

theorem A_ior (hG : Cx cc own nL fr lo G) {a b : Int} (d : decode cc pc = .ok (.ior, 1)) (k : G (pc + 1) L (vI (ior a b) :: st) h) : G (pc) L (vI b :: vI a :: st) h := by
  obtain ⟨p, l, e, R, s, m, args, below, meth, c, D, cA, ad, A, cells, slots, Q, F, rfl⟩ := hG
  intro H locs ls hR hS hl
  refine lv_ior F.1 F.2.1 d ?_
  have k1 := k H locs ls hR hS hl
  simp only [List.map_cons, vI, ior, oI] at k1
  exact k1

theorem A_ixor (hG : Cx cc own nL fr lo G) {a b : Int} (d : decode cc pc = .ok (.ixor, 1)) (k : G (pc + 1) L (vI (ixor a b) :: st) h) : G (pc) L (vI b :: vI a :: st) h := by
  obtain ⟨p, l, e, R, s, m, args, below, meth, c, D, cA, ad, A, cells, slots, Q, F, rfl⟩ := hG
  intro H locs ls hR hS hl
  refine lv_ixor F.1 F.2.1 d ?_
  have k1 := k H locs ls hR hS hl
  simp only [List.map_cons, vI, ixor, oI] at k1
  exact k1

theorem A_ishl (hG : Cx cc own nL fr lo G) {a b : Int} (d : decode cc pc = .ok (.ishl, 1)) (k : G (pc + 1) L (vI (ishl a b) :: st) h) : G (pc) L (vI b :: vI a :: st) h := by
  obtain ⟨p, l, e, R, s, m, args, below, meth, c, D, cA, ad, A, cells, slots, Q, F, rfl⟩ := hG
  intro H locs ls hR hS hl
  refine lv_ishl F.1 F.2.1 d ?_
  have k1 := k H locs ls hR hS hl
  simp only [List.map_cons, vI, ishl, oI] at k1
  exact k1

theorem A_ishr (hG : Cx cc own nL fr lo G) {a b : Int} (d : decode cc pc = .ok (.ishr, 1)) (k : G (pc + 1) L (vI (ishr a b) :: st) h) : G (pc) L (vI b :: vI a :: st) h := by
  obtain ⟨p, l, e, R, s, m, args, below, meth, c, D, cA, ad, A, cells, slots, Q, F, rfl⟩ := hG
  intro H locs ls hR hS hl
  refine lv_ishr F.1 F.2.1 d ?_
  have k1 := k H locs ls hR hS hl
  simp only [List.map_cons, vI, ishr, oI] at k1
  exact k1

theorem A_iushr (hG : Cx cc own nL fr lo G) {a b : Int} (d : decode cc pc = .ok (.iushr, 1)) (k : G (pc + 1) L (vI (iushr a b) :: st) h) : G (pc) L (vI b :: vI a :: st) h := by
  obtain ⟨p, l, e, R, s, m, args, below, meth, c, D, cA, ad, A, cells, slots, Q, F, rfl⟩ := hG
  intro H locs ls hR hS hl
  refine lv_iushr F.1 F.2.1 d rfl ?_
  have k1 := k H locs ls hR hS hl
  simp only [List.map_cons, vI, iushr, oI] at k1
  exact k1

theorem A_idiv (hG : Cx cc own nL fr lo G) {a b : Int} (d : decode cc pc = .ok (.idiv, 1)) (hb : ir b) (h0 : b ≠ 0) (k : G (pc + 1) L (vI (idiv a b) :: st) h) : G (pc) L (vI b :: vI a :: st) h := by
  obtain ⟨p, l, e, R, s, m, args, below, meth, c, D, cA, ad, A, cells, slots, Q, F, rfl⟩ := hG
  intro H locs ls hR hS hl
  refine lv_idiv F.1 F.2.1 d (fun e => h0 (by rw [zI] at e; exact (eqI hb (by constructor <;> decide)).mp e)) ?_
  have k1 := k H locs ls hR hS hl
  simp only [List.map_cons, vI, idiv, oI] at k1
  exact k1

theorem A_ladd (hG : Cx cc own nL fr lo G) {a b : Int64} (d : decode cc pc = .ok (.ladd, 1)) (k : G (pc + 1) L (.long (a + b) :: st) h) : G (pc) L (.long b :: .long a :: st) h := by
  obtain ⟨p, l, e, R, s, m, args, below, meth, c, D, cA, ad, A, cells, slots, Q, F, rfl⟩ := hG
  intro H locs ls hR hS hl
  exact lv_ladd F.1 F.2.1 d (k H locs ls hR hS hl)

theorem A_lsub (hG : Cx cc own nL fr lo G) {a b : Int64} (d : decode cc pc = .ok (.lsub, 1)) (k : G (pc + 1) L (.long (a - b) :: st) h) : G (pc) L (.long b :: .long a :: st) h := by
  obtain ⟨p, l, e, R, s, m, args, below, meth, c, D, cA, ad, A, cells, slots, Q, F, rfl⟩ := hG
  intro H locs ls hR hS hl
  exact lv_lsub F.1 F.2.1 d (k H locs ls hR hS hl)

theorem A_lmul (hG : Cx cc own nL fr lo G) {a b : Int64} (d : decode cc pc = .ok (.lmul, 1)) (k : G (pc + 1) L (.long (a * b) :: st) h) : G (pc) L (.long b :: .long a :: st) h := by
  obtain ⟨p, l, e, R, s, m, args, below, meth, c, D, cA, ad, A, cells, slots, Q, F, rfl⟩ := hG
  intro H locs ls hR hS hl
  exact lv_lmul F.1 F.2.1 d (k H locs ls hR hS hl)

theorem A_land (hG : Cx cc own nL fr lo G) {a b : Int64} (d : decode cc pc = .ok (.land, 1)) (k : G (pc + 1) L (.long (a &&& b) :: st) h) : G (pc) L (.long b :: .long a :: st) h := by
  obtain ⟨p, l, e, R, s, m, args, below, meth, c, D, cA, ad, A, cells, slots, Q, F, rfl⟩ := hG
  intro H locs ls hR hS hl
  exact lv_land F.1 F.2.1 d (k H locs ls hR hS hl)

theorem A_lor (hG : Cx cc own nL fr lo G) {a b : Int64} (d : decode cc pc = .ok (.lor, 1)) (k : G (pc + 1) L (.long (a ||| b) :: st) h) : G (pc) L (.long b :: .long a :: st) h := by
  obtain ⟨p, l, e, R, s, m, args, below, meth, c, D, cA, ad, A, cells, slots, Q, F, rfl⟩ := hG
  intro H locs ls hR hS hl
  exact lv_lor F.1 F.2.1 d (k H locs ls hR hS hl)

theorem A_lxor (hG : Cx cc own nL fr lo G) {a b : Int64} (d : decode cc pc = .ok (.lxor, 1)) (k : G (pc + 1) L (.long (a ^^^ b) :: st) h) : G (pc) L (.long b :: .long a :: st) h := by
  obtain ⟨p, l, e, R, s, m, args, below, meth, c, D, cA, ad, A, cells, slots, Q, F, rfl⟩ := hG
  intro H locs ls hR hS hl
  exact lv_lxor F.1 F.2.1 d (k H locs ls hR hS hl)

theorem A_lneg (hG : Cx cc own nL fr lo G) {a : Int64} (d : decode cc pc = .ok (.lneg, 1)) (k : G (pc + 1) L (.long (-a) :: st) h) : G (pc) L (.long a :: st) h := by
  obtain ⟨p, l, e, R, s, m, args, below, meth, c, D, cA, ad, A, cells, slots, Q, F, rfl⟩ := hG
  intro H locs ls hR hS hl
  exact lv_lneg F.1 F.2.1 d (k H locs ls hR hS hl)

def lshl (x : Int64) (b : Int) : Int64 := x <<< ((Int32.ofInt b).toInt64 &&& 63)
def lshr (x : Int64) (b : Int) : Int64 := x >>> ((Int32.ofInt b).toInt64 &&& 63)
def lushr (x : Int64) (b : Int) : Int64 := (x.toUInt64 >>> ((Int32.ofInt b).toInt64.toUInt64 &&& Int64.toUInt64 63)).toInt64

theorem A_lshl (hG : Cx cc own nL fr lo G) {a : Int64} {b : Int} (d : decode cc pc = .ok (.lshl, 1)) (k : G (pc + 1) L (.long (lshl a b) :: st) h) : G (pc) L (vI b :: .long a :: st) h := by
  obtain ⟨p, l, e, R, s, m, args, below, meth, c, D, cA, ad, A, cells, slots, Q, F, rfl⟩ := hG
  intro H locs ls hR hS hl
  exact lv_lshl F.1 F.2.1 d rfl (k H locs ls hR hS hl)

theorem A_lshr (hG : Cx cc own nL fr lo G) {a : Int64} {b : Int} (d : decode cc pc = .ok (.lshr, 1)) (k : G (pc + 1) L (.long (lshr a b) :: st) h) : G (pc) L (vI b :: .long a :: st) h := by
  obtain ⟨p, l, e, R, s, m, args, below, meth, c, D, cA, ad, A, cells, slots, Q, F, rfl⟩ := hG
  intro H locs ls hR hS hl
  exact lv_lshr F.1 F.2.1 d rfl (k H locs ls hR hS hl)

theorem A_lushr (hG : Cx cc own nL fr lo G) {a : Int64} {b : Int} (d : decode cc pc = .ok (.lushr, 1)) (k : G (pc + 1) L (.long (lushr a b) :: st) h) : G (pc) L (vI b :: .long a :: st) h := by
  obtain ⟨p, l, e, R, s, m, args, below, meth, c, D, cA, ad, A, cells, slots, Q, F, rfl⟩ := hG
  intro H locs ls hR hS hl
  exact lv_lushr F.1 F.2.1 d rfl (k H locs ls hR hS hl)

theorem A_lcmp (hG : Cx cc own nL fr lo G) {a b : Int64} (d : decode cc pc = .ok (.lcmp, 1)) (k : G (pc + 1) L (vI (lcmpI a b) :: st) h) : G (pc) L (.long b :: .long a :: st) h := by
  obtain ⟨p, l, e, R, s, m, args, below, meth, c, D, cA, ad, A, cells, slots, Q, F, rfl⟩ := hG
  intro H locs ls hR hS hl
  refine W.lcmp F.1 F.2.1 d ?_
  have e1 : lg_cmp a b = Int32.ofInt (lcmpI a b) := by
    unfold lg_cmp lcmpI
    by_cases h1 : a > b
    · rw [if_pos h1, if_pos h1]; rfl
    · rw [if_neg h1, if_neg h1]
      by_cases h2 : a = b
      · rw [if_pos h2, if_pos h2]; rfl
      · rw [if_neg h2, if_neg h2]; rfl
  rw [e1]
  exact k H locs ls hR hS hl

theorem A_i2l (hG : Cx cc own nL fr lo G) {a : Int} (d : decode cc pc = .ok (.i2l, 1)) (k : G (pc + 1) L (.long (i2l a) :: st) h) : G (pc) L (vI a :: st) h := by
  obtain ⟨p, l, e, R, s, m, args, below, meth, c, D, cA, ad, A, cells, slots, Q, F, rfl⟩ := hG
  intro H locs ls hR hS hl
  exact lv_i2l F.1 F.2.1 d rfl (k H locs ls hR hS hl)

theorem A_l2i (hG : Cx cc own nL fr lo G) {x : Int64} (d : decode cc pc = .ok (.l2i, 1)) (k : G (pc + 1) L (vI (l2i x) :: st) h) : G (pc) L (.long x :: st) h := by
  obtain ⟨p, l, e, R, s, m, args, below, meth, c, D, cA, ad, A, cells, slots, Q, F, rfl⟩ := hG
  intro H locs ls hR hS hl
  refine lv_l2i F.1 F.2.1 d rfl ?_
  have k1 := k H locs ls hR hS hl
  simp only [List.map_cons, vI, l2i, oI] at k1
  exact k1

theorem A_dup (hG : Cx cc own nL fr lo G) {v : Value} (d : decode cc pc = .ok (.dup, 1)) (hv : v.category = 1) (k : G (pc + 1) L (v :: v :: st) h) : G (pc) L (v :: st) h := by
  obtain ⟨p, l, e, R, s, m, args, below, meth, c, D, cA, ad, A, cells, slots, Q, F, rfl⟩ := hG
  intro H locs ls hR hS hl
  exact lv_dup F.1 F.2.1 d ((cv_cat ad v).trans hv) (k H locs ls hR hS hl)

theorem A_pop (hG : Cx cc own nL fr lo G) {v : Value} (d : decode cc pc = .ok (.pop, 1)) (hv : v.category = 1) (k : G (pc + 1) L (st) h) : G (pc) L (v :: st) h := by
  obtain ⟨p, l, e, R, s, m, args, below, meth, c, D, cA, ad, A, cells, slots, Q, F, rfl⟩ := hG
  intro H locs ls hR hS hl
  exact lv_pop F.1 F.2.1 d ((cv_cat ad v).trans hv) (k H locs ls hR hS hl)

theorem A_dup2 (hG : Cx cc own nL fr lo G) {v w : Value} (d : decode cc pc = .ok (.dup2, 1)) (hv : v.category = 1) (hw : w.category = 1) (k : G (pc + 1) L (v :: w :: v :: w :: st) h) : G (pc) L (v :: w :: st) h := by
  obtain ⟨p, l, e, R, s, m, args, below, meth, c, D, cA, ad, A, cells, slots, Q, F, rfl⟩ := hG
  intro H locs ls hR hS hl
  exact lv_dup2_11 F.1 F.2.1 d ((cv_cat ad v).trans hv) ((cv_cat ad w).trans hw) (k H locs ls hR hS hl)

theorem A_dup2L (hG : Cx cc own nL fr lo G) {v : Value} (d : decode cc pc = .ok (.dup2, 1)) (hv : v.category = 2) (k : G (pc + 1) L (v :: v :: st) h) : G (pc) L (v :: st) h := by
  obtain ⟨p, l, e, R, s, m, args, below, meth, c, D, cA, ad, A, cells, slots, Q, F, rfl⟩ := hG
  intro H locs ls hR hS hl
  exact lv_dup2_2 F.1 F.2.1 d ((cv_cat ad v).trans hv) (k H locs ls hR hS hl)

theorem A_goto (hG : Cx cc own nL fr lo G) {off : Int} (tgt : Nat) (d : decode cc pc = .ok (.goto off, 3)) (ht : (pc : Int) + off = (tgt : Int)) (k : G (tgt) L (st) h) : G (pc) L (st) h := by
  obtain ⟨p, l, e, R, s, m, args, below, meth, c, D, cA, ad, A, cells, slots, Q, F, rfl⟩ := hG
  intro H locs ls hR hS hl
  exact lv_goto F.1 F.2.1 d ht (k H locs ls hR hS hl)

theorem A_icmp_eq (hG : Cx cc own nL fr lo G) {a b off : Int} (tgt : Nat) (d : decode cc pc = .ok (.if_icmp .eq off, 3)) (ht : (pc : Int) + off = (tgt : Int)) (ha : ir a) (hb : ir b) (kt : a = b → G (tgt) L (st) h) (kf : ¬ a = b → G (pc + 3) L (st) h) : G (pc) L (vI b :: vI a :: st) h := by
  obtain ⟨p, l, e, R, s, m, args, below, meth, c, D, cA, ad, A, cells, slots, Q, F, rfl⟩ := hG
  intro H locs ls hR hS hl
  have ee : Int32.ofInt a = Int32.ofInt b ↔ a = b := eqI ha hb
  have el : Int32.ofInt a < Int32.ofInt b ↔ a < b := ltI ha hb
  have eg : Int32.ofInt b < Int32.ofInt a ↔ b < a := ltI hb ha
  have fl : Int32.ofInt a ≤ Int32.ofInt b ↔ a ≤ b := leI ha hb
  have fg : Int32.ofInt b ≤ Int32.ofInt a ↔ b ≤ a := leI hb ha
  refine lv_icmp_eq F.1 F.2.1 d ht (fun q => kt ?_ H locs ls hR hS hl) (fun q => kf ?_ H locs ls hR hS hl) <;> simp only [ge_iff_le, gt_iff_lt, ne_eq, ee, el, eg, fl, fg] at q <;> omega

theorem A_if_eq (hG : Cx cc own nL fr lo G) {a off : Int} (tgt : Nat) (d : decode cc pc = .ok (.ifCond .eq off, 3)) (ht : (pc : Int) + off = (tgt : Int)) (ha : ir a) (kt : a = 0 → G (tgt) L (st) h) (kf : ¬ a = 0 → G (pc + 3) L (st) h) : G (pc) L (vI a :: st) h := by
  obtain ⟨p, l, e, R, s, m, args, below, meth, c, D, cA, ad, A, cells, slots, Q, F, rfl⟩ := hG
  intro H locs ls hR hS hl
  have hb : ir 0 := by constructor <;> decide
  have ee : Int32.ofInt a = 0 ↔ a = 0 := eqI ha hb
  have el : Int32.ofInt a < 0 ↔ a < 0 := ltI ha hb
  have eg : 0 < Int32.ofInt a ↔ 0 < a := ltI hb ha
  have fl : Int32.ofInt a ≤ 0 ↔ a ≤ 0 := leI ha hb
  have fg : 0 ≤ Int32.ofInt a ↔ 0 ≤ a := leI hb ha
  refine lv_if_eq F.1 F.2.1 d ht (fun q => kt ?_ H locs ls hR hS hl) (fun q => kf ?_ H locs ls hR hS hl) <;> simp only [ge_iff_le, gt_iff_lt, ne_eq, ee, el, eg, fl, fg] at q <;> omega

theorem A_icmp_ne (hG : Cx cc own nL fr lo G) {a b off : Int} (tgt : Nat) (d : decode cc pc = .ok (.if_icmp .ne off, 3)) (ht : (pc : Int) + off = (tgt : Int)) (ha : ir a) (hb : ir b) (kt : ¬ a = b → G (tgt) L (st) h) (kf : a = b → G (pc + 3) L (st) h) : G (pc) L (vI b :: vI a :: st) h := by
  obtain ⟨p, l, e, R, s, m, args, below, meth, c, D, cA, ad, A, cells, slots, Q, F, rfl⟩ := hG
  intro H locs ls hR hS hl
  have ee : Int32.ofInt a = Int32.ofInt b ↔ a = b := eqI ha hb
  have el : Int32.ofInt a < Int32.ofInt b ↔ a < b := ltI ha hb
  have eg : Int32.ofInt b < Int32.ofInt a ↔ b < a := ltI hb ha
  have fl : Int32.ofInt a ≤ Int32.ofInt b ↔ a ≤ b := leI ha hb
  have fg : Int32.ofInt b ≤ Int32.ofInt a ↔ b ≤ a := leI hb ha
  refine lv_icmp_ne F.1 F.2.1 d ht (fun q => kt ?_ H locs ls hR hS hl) (fun q => kf ?_ H locs ls hR hS hl) <;> simp only [ge_iff_le, gt_iff_lt, ne_eq, ee, el, eg, fl, fg] at q <;> omega

theorem A_if_ne (hG : Cx cc own nL fr lo G) {a off : Int} (tgt : Nat) (d : decode cc pc = .ok (.ifCond .ne off, 3)) (ht : (pc : Int) + off = (tgt : Int)) (ha : ir a) (kt : ¬ a = 0 → G (tgt) L (st) h) (kf : a = 0 → G (pc + 3) L (st) h) : G (pc) L (vI a :: st) h := by
  obtain ⟨p, l, e, R, s, m, args, below, meth, c, D, cA, ad, A, cells, slots, Q, F, rfl⟩ := hG
  intro H locs ls hR hS hl
  have hb : ir 0 := by constructor <;> decide
  have ee : Int32.ofInt a = 0 ↔ a = 0 := eqI ha hb
  have el : Int32.ofInt a < 0 ↔ a < 0 := ltI ha hb
  have eg : 0 < Int32.ofInt a ↔ 0 < a := ltI hb ha
  have fl : Int32.ofInt a ≤ 0 ↔ a ≤ 0 := leI ha hb
  have fg : 0 ≤ Int32.ofInt a ↔ 0 ≤ a := leI hb ha
  refine lv_if_ne F.1 F.2.1 d ht (fun q => kt ?_ H locs ls hR hS hl) (fun q => kf ?_ H locs ls hR hS hl) <;> simp only [ge_iff_le, gt_iff_lt, ne_eq, ee, el, eg, fl, fg] at q <;> omega

theorem A_icmp_lt (hG : Cx cc own nL fr lo G) {a b off : Int} (tgt : Nat) (d : decode cc pc = .ok (.if_icmp .lt off, 3)) (ht : (pc : Int) + off = (tgt : Int)) (ha : ir a) (hb : ir b) (kt : a < b → G (tgt) L (st) h) (kf : b ≤ a → G (pc + 3) L (st) h) : G (pc) L (vI b :: vI a :: st) h := by
  obtain ⟨p, l, e, R, s, m, args, below, meth, c, D, cA, ad, A, cells, slots, Q, F, rfl⟩ := hG
  intro H locs ls hR hS hl
  have ee : Int32.ofInt a = Int32.ofInt b ↔ a = b := eqI ha hb
  have el : Int32.ofInt a < Int32.ofInt b ↔ a < b := ltI ha hb
  have eg : Int32.ofInt b < Int32.ofInt a ↔ b < a := ltI hb ha
  have fl : Int32.ofInt a ≤ Int32.ofInt b ↔ a ≤ b := leI ha hb
  have fg : Int32.ofInt b ≤ Int32.ofInt a ↔ b ≤ a := leI hb ha
  refine lv_icmp_lt F.1 F.2.1 d ht (fun q => kt ?_ H locs ls hR hS hl) (fun q => kf ?_ H locs ls hR hS hl) <;> simp only [ge_iff_le, gt_iff_lt, ne_eq, ee, el, eg, fl, fg] at q <;> omega

theorem A_if_lt (hG : Cx cc own nL fr lo G) {a off : Int} (tgt : Nat) (d : decode cc pc = .ok (.ifCond .lt off, 3)) (ht : (pc : Int) + off = (tgt : Int)) (ha : ir a) (kt : a < 0 → G (tgt) L (st) h) (kf : 0 ≤ a → G (pc + 3) L (st) h) : G (pc) L (vI a :: st) h := by
  obtain ⟨p, l, e, R, s, m, args, below, meth, c, D, cA, ad, A, cells, slots, Q, F, rfl⟩ := hG
  intro H locs ls hR hS hl
  have hb : ir 0 := by constructor <;> decide
  have ee : Int32.ofInt a = 0 ↔ a = 0 := eqI ha hb
  have el : Int32.ofInt a < 0 ↔ a < 0 := ltI ha hb
  have eg : 0 < Int32.ofInt a ↔ 0 < a := ltI hb ha
  have fl : Int32.ofInt a ≤ 0 ↔ a ≤ 0 := leI ha hb
  have fg : 0 ≤ Int32.ofInt a ↔ 0 ≤ a := leI hb ha
  refine lv_if_lt F.1 F.2.1 d ht (fun q => kt ?_ H locs ls hR hS hl) (fun q => kf ?_ H locs ls hR hS hl) <;> simp only [ge_iff_le, gt_iff_lt, ne_eq, ee, el, eg, fl, fg] at q <;> omega

theorem A_icmp_ge (hG : Cx cc own nL fr lo G) {a b off : Int} (tgt : Nat) (d : decode cc pc = .ok (.if_icmp .ge off, 3)) (ht : (pc : Int) + off = (tgt : Int)) (ha : ir a) (hb : ir b) (kt : b ≤ a → G (tgt) L (st) h) (kf : a < b → G (pc + 3) L (st) h) : G (pc) L (vI b :: vI a :: st) h := by
  obtain ⟨p, l, e, R, s, m, args, below, meth, c, D, cA, ad, A, cells, slots, Q, F, rfl⟩ := hG
  intro H locs ls hR hS hl
  have ee : Int32.ofInt a = Int32.ofInt b ↔ a = b := eqI ha hb
  have el : Int32.ofInt a < Int32.ofInt b ↔ a < b := ltI ha hb
  have eg : Int32.ofInt b < Int32.ofInt a ↔ b < a := ltI hb ha
  have fl : Int32.ofInt a ≤ Int32.ofInt b ↔ a ≤ b := leI ha hb
  have fg : Int32.ofInt b ≤ Int32.ofInt a ↔ b ≤ a := leI hb ha
  refine lv_icmp_ge F.1 F.2.1 d ht (fun q => kt ?_ H locs ls hR hS hl) (fun q => kf ?_ H locs ls hR hS hl) <;> simp only [ge_iff_le, gt_iff_lt, ne_eq, ee, el, eg, fl, fg] at q <;> omega

theorem A_if_ge (hG : Cx cc own nL fr lo G) {a off : Int} (tgt : Nat) (d : decode cc pc = .ok (.ifCond .ge off, 3)) (ht : (pc : Int) + off = (tgt : Int)) (ha : ir a) (kt : 0 ≤ a → G (tgt) L (st) h) (kf : a < 0 → G (pc + 3) L (st) h) : G (pc) L (vI a :: st) h := by
  obtain ⟨p, l, e, R, s, m, args, below, meth, c, D, cA, ad, A, cells, slots, Q, F, rfl⟩ := hG
  intro H locs ls hR hS hl
  have hb : ir 0 := by constructor <;> decide
  have ee : Int32.ofInt a = 0 ↔ a = 0 := eqI ha hb
  have el : Int32.ofInt a < 0 ↔ a < 0 := ltI ha hb
  have eg : 0 < Int32.ofInt a ↔ 0 < a := ltI hb ha
  have fl : Int32.ofInt a ≤ 0 ↔ a ≤ 0 := leI ha hb
  have fg : 0 ≤ Int32.ofInt a ↔ 0 ≤ a := leI hb ha
  refine lv_if_ge F.1 F.2.1 d ht (fun q => kt ?_ H locs ls hR hS hl) (fun q => kf ?_ H locs ls hR hS hl) <;> simp only [ge_iff_le, gt_iff_lt, ne_eq, ee, el, eg, fl, fg] at q <;> omega

theorem A_icmp_gt (hG : Cx cc own nL fr lo G) {a b off : Int} (tgt : Nat) (d : decode cc pc = .ok (.if_icmp .gt off, 3)) (ht : (pc : Int) + off = (tgt : Int)) (ha : ir a) (hb : ir b) (kt : b < a → G (tgt) L (st) h) (kf : a ≤ b → G (pc + 3) L (st) h) : G (pc) L (vI b :: vI a :: st) h := by
  obtain ⟨p, l, e, R, s, m, args, below, meth, c, D, cA, ad, A, cells, slots, Q, F, rfl⟩ := hG
  intro H locs ls hR hS hl
  have ee : Int32.ofInt a = Int32.ofInt b ↔ a = b := eqI ha hb
  have el : Int32.ofInt a < Int32.ofInt b ↔ a < b := ltI ha hb
  have eg : Int32.ofInt b < Int32.ofInt a ↔ b < a := ltI hb ha
  have fl : Int32.ofInt a ≤ Int32.ofInt b ↔ a ≤ b := leI ha hb
  have fg : Int32.ofInt b ≤ Int32.ofInt a ↔ b ≤ a := leI hb ha
  refine lv_icmp_gt F.1 F.2.1 d ht (fun q => kt ?_ H locs ls hR hS hl) (fun q => kf ?_ H locs ls hR hS hl) <;> simp only [ge_iff_le, gt_iff_lt, ne_eq, ee, el, eg, fl, fg] at q <;> omega

theorem A_if_gt (hG : Cx cc own nL fr lo G) {a off : Int} (tgt : Nat) (d : decode cc pc = .ok (.ifCond .gt off, 3)) (ht : (pc : Int) + off = (tgt : Int)) (ha : ir a) (kt : 0 < a → G (tgt) L (st) h) (kf : a ≤ 0 → G (pc + 3) L (st) h) : G (pc) L (vI a :: st) h := by
  obtain ⟨p, l, e, R, s, m, args, below, meth, c, D, cA, ad, A, cells, slots, Q, F, rfl⟩ := hG
  intro H locs ls hR hS hl
  have hb : ir 0 := by constructor <;> decide
  have ee : Int32.ofInt a = 0 ↔ a = 0 := eqI ha hb
  have el : Int32.ofInt a < 0 ↔ a < 0 := ltI ha hb
  have eg : 0 < Int32.ofInt a ↔ 0 < a := ltI hb ha
  have fl : Int32.ofInt a ≤ 0 ↔ a ≤ 0 := leI ha hb
  have fg : 0 ≤ Int32.ofInt a ↔ 0 ≤ a := leI hb ha
  refine lv_if_gt F.1 F.2.1 d ht (fun q => kt ?_ H locs ls hR hS hl) (fun q => kf ?_ H locs ls hR hS hl) <;> simp only [ge_iff_le, gt_iff_lt, ne_eq, ee, el, eg, fl, fg] at q <;> omega

theorem A_icmp_le (hG : Cx cc own nL fr lo G) {a b off : Int} (tgt : Nat) (d : decode cc pc = .ok (.if_icmp .le off, 3)) (ht : (pc : Int) + off = (tgt : Int)) (ha : ir a) (hb : ir b) (kt : a ≤ b → G (tgt) L (st) h) (kf : b < a → G (pc + 3) L (st) h) : G (pc) L (vI b :: vI a :: st) h := by
  obtain ⟨p, l, e, R, s, m, args, below, meth, c, D, cA, ad, A, cells, slots, Q, F, rfl⟩ := hG
  intro H locs ls hR hS hl
  have ee : Int32.ofInt a = Int32.ofInt b ↔ a = b := eqI ha hb
  have el : Int32.ofInt a < Int32.ofInt b ↔ a < b := ltI ha hb
  have eg : Int32.ofInt b < Int32.ofInt a ↔ b < a := ltI hb ha
  have fl : Int32.ofInt a ≤ Int32.ofInt b ↔ a ≤ b := leI ha hb
  have fg : Int32.ofInt b ≤ Int32.ofInt a ↔ b ≤ a := leI hb ha
  refine lv_icmp_le F.1 F.2.1 d ht (fun q => kt ?_ H locs ls hR hS hl) (fun q => kf ?_ H locs ls hR hS hl) <;> simp only [ge_iff_le, gt_iff_lt, ne_eq, ee, el, eg, fl, fg] at q <;> omega

theorem A_if_le (hG : Cx cc own nL fr lo G) {a off : Int} (tgt : Nat) (d : decode cc pc = .ok (.ifCond .le off, 3)) (ht : (pc : Int) + off = (tgt : Int)) (ha : ir a) (kt : a ≤ 0 → G (tgt) L (st) h) (kf : 0 < a → G (pc + 3) L (st) h) : G (pc) L (vI a :: st) h := by
  obtain ⟨p, l, e, R, s, m, args, below, meth, c, D, cA, ad, A, cells, slots, Q, F, rfl⟩ := hG
  intro H locs ls hR hS hl
  have hb : ir 0 := by constructor <;> decide
  have ee : Int32.ofInt a = 0 ↔ a = 0 := eqI ha hb
  have el : Int32.ofInt a < 0 ↔ a < 0 := ltI ha hb
  have eg : 0 < Int32.ofInt a ↔ 0 < a := ltI hb ha
  have fl : Int32.ofInt a ≤ 0 ↔ a ≤ 0 := leI ha hb
  have fg : 0 ≤ Int32.ofInt a ↔ 0 ≤ a := leI hb ha
  refine lv_if_le F.1 F.2.1 d ht (fun q => kt ?_ H locs ls hR hS hl) (fun q => kf ?_ H locs ls hR hS hl) <;> simp only [ge_iff_le, gt_iff_lt, ne_eq, ee, el, eg, fl, fg] at q <;> omega

theorem A_tabIn (hG : Cx cc own nL fr lo G) {a dflt lo0 hi0 off : Int} {offs : Array Int} {len : Nat} (tgt : Nat) (d : decode cc pc = .ok (.tableswitch dflt lo0 hi0 offs, len)) (ha : ir a) (h1 : lo0 ≤ a ∧ a ≤ hi0) (ho : offs[(a - lo0).toNat]? = some off) (ht : (pc : Int) + off = (tgt : Int)) (k : G (tgt) L (st) h) : G (pc) L (vI a :: st) h := by
  obtain ⟨p, l, e, R, s, m, args, below, meth, c, D, cA, ad, A, cells, slots, Q, F, rfl⟩ := hG
  intro H locs ls hR hS hl
  exact lv_tableIn F.1 F.2.1 d (by rw [tI ha]; omega) (by rw [tI ha]; omega) (by rw [tI ha]; exact ho) ht (k H locs ls hR hS hl)

theorem A_tabOut (hG : Cx cc own nL fr lo G) {a dflt lo0 hi0 : Int} {offs : Array Int} {len : Nat} (tgt : Nat) (d : decode cc pc = .ok (.tableswitch dflt lo0 hi0 offs, len)) (ha : ir a) (h1 : a < lo0 ∨ hi0 < a) (ht : (pc : Int) + dflt = (tgt : Int)) (k : G (tgt) L (st) h) : G (pc) L (vI a :: st) h := by
  obtain ⟨p, l, e, R, s, m, args, below, meth, c, D, cA, ad, A, cells, slots, Q, F, rfl⟩ := hG
  intro H locs ls hR hS hl
  exact lv_tableOut F.1 F.2.1 d (by rw [tI ha]; omega) ht (k H locs ls hR hS hl)

theorem A_lookup (hG : Cx cc own nL fr lo G) {a dflt off : Int} {ps : Array (Int × Int)} {len : Nat} (tgt : Nat) (d : decode cc pc = .ok (.lookupswitch dflt ps, len)) (hp : (ps.toList.zip (ps.toList.drop 1)).all (fun (a, next) => a.1 < next.1) = true) (ha : ir a) (ho : Op.lookupswitch.offset ps.toList dflt a = off) (ht : (pc : Int) + off = (tgt : Int)) (k : G (tgt) L (st) h) : G (pc) L (vI a :: st) h := by
  obtain ⟨p, l, e, R, s, m, args, below, meth, c, D, cA, ad, A, cells, slots, Q, F, rfl⟩ := hG
  intro H locs ls hR hS hl
  exact lv_lookup F.1 F.2.1 d hp (by rw [tI ha]; exact ho) ht (k H locs ls hR hS hl)

end RULES
