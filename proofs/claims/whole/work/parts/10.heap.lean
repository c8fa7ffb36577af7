/-! THE PICTURE OF ALL OBJECTS: numbers instead of addresses, whole numbers instead of words of 32 bits -/
section HEAP
abbrev AH : Type := (Nat → Int → Int) × (Nat → Int → Int64) × (Nat → Int → Nat)
def vI (z : Int) : Value := .int (Int32.ofInt z)
/-- a value of the picture, its reference's number turned into an address -/
def cv (ad : Nat → Nat) (v : Value) : Value := match v with
  | .ref k => .ref (ad k)
  | w => w
def sw {α : Type} (f : Nat → Int → α) (k : Nat) (z : Int) (v : α) : Nat → Int → α := fun q => if q = k then (fun j => if j = z then v else f k j) else f q
def hwi (h : AH) (k : Nat) (z : Int) (v : Int) : AH := (sw h.1 k z v, h.2)
def hwl (h : AH) (k : Nat) (z : Int) (v : Int64) : AH := (h.1, sw h.2.1 k z v, h.2.2)
def hwr (h : AH) (k : Nat) (z : Int) (v : Nat) : AH := (h.1, h.2.1, sw h.2.2 k z v)
def ir (z : Int) : Prop := -2147483648 ≤ z ∧ z ≤ 2147483647
/-- kinds: a class's number plus one; 20 ints, 21 booleans, 22 longs, 23 Rows, 24 KeptOnes, 25 a static table of ints -/
def obT : List (Nat × Nat) := [(0, 0), (11, 0), (9, 0), (20, 400), (20, 5), (23, 8), (24, 12), (3, 0), (20, 60), (20, 5), (10, 0), (22, 2560), (7, 0), (20, 3240), (5, 0), (22, 2560), (22, 24), (1, 0), (20, 64), (0, 0),
  (2, 0), (20, 16), (20, 16), (20, 16), (20, 16), (20, 24), (20, 24), (20, 24), (21, 24), (21, 24), (20, 5), (0, 0), (0, 0), (0, 0), (0, 0), (0, 0), (0, 0), (0, 0), (0, 0), (0, 0),
  (2, 0), (20, 16), (20, 16), (20, 16), (20, 16), (20, 24), (20, 24), (20, 24), (21, 24), (21, 24), (20, 5), (0, 0), (0, 0), (0, 0), (0, 0), (0, 0), (0, 0), (0, 0), (0, 0), (0, 0),
  (6, 0), (23, 40), (20, 40), (23, 64), (20, 64), (20, 40), (20, 17)]
def obM : List (Nat × Nat) := [(12, 0), (0, 0), (20, 400), (20, 2), (20, 128), (20, 2), (20, 240), (20, 10), (20, 10), (20, 100), (20, 10), (0, 0), (20, 24), (20, 192), (0, 0), (20, 60), (0, 0), (20, 5), (22, 72), (22, 2880), (20, 4050), (20, 5), (0, 0), (20, 40), (20, 40), (20, 320), (0, 0), (20, 40)]
def obS : List (Nat × Nat) := [(25, 5), (25, 4), (25, 5), (25, 2)]
def ob (k : Nat) : Nat × Nat :=
  if k < 67 then obT.getD k (0, 0) else if 80 ≤ k ∧ k < 92 then (4, 0) else if 100 ≤ k ∧ k < 212 then (8, 0) else if 300 ≤ k ∧ k < 412 then (20, 8) else if 500 ≤ k ∧ k < 528 then obM.getD (k - 500) (0, 0) else if 600 ≤ k ∧ k < 604 then obS.getD (k - 600) (0, 0) else (0, 0)
def obk (k : Nat) : Nat := (ob k).1
def obn (k : Nat) : Nat := (ob k).2
theorem obk_row {r : Nat} (h : 100 ≤ r ∧ r < 212) : obk r = 8 := by
  unfold obk ob; rw [if_neg (by omega), if_neg (by omega), if_pos h]
theorem obk_rw {r : Nat} (h : 100 ≤ r ∧ r < 212) : obk (r + 200) = 20 := by
  unfold obk ob; rw [if_neg (by omega), if_neg (by omega), if_neg (by omega), if_pos (by omega)]
theorem obn_rw {r : Nat} (h : 100 ≤ r ∧ r < 212) : obn (r + 200) = 8 := by
  unfold obn ob; rw [if_neg (by omega), if_neg (by omega), if_neg (by omega), if_pos (by omega)]
theorem obk_kept {r : Nat} (h : 80 ≤ r ∧ r < 92) : obk r = 4 := by
  unfold obk ob; rw [if_neg (by omega), if_pos h]
/-- what a field holds: (0, _) a whole number, (1, n) always the object n, (2, n) always the n-th behind its own, (3, _) an object that may change -/
def fcT : List (List (Nat × Nat)) := [[(1, 18), (0, 0)],
  [(2, 1), (2, 2), (2, 3), (2, 4), (0, 0), (2, 5), (2, 6), (2, 7), (2, 8), (2, 9), (0, 0), (2, 10)],
  [(1, 8), (0, 0)], [(0, 0), (0, 0), (0, 0), (0, 0)], [(1, 15), (1, 16)],
  [(1, 61), (1, 62), (0, 0), (1, 63), (1, 64), (0, 0), (1, 65), (0, 0), (1, 66)],
  [(1, 13)], [(2, 200), (0, 0), (0, 0)], [(1, 3), (0, 0), (1, 4), (0, 0)], [(1, 11)],
  [(1, 2), (3, 0), (3, 0), (1, 5), (1, 6), (0, 0), (1, 7), (1, 9), (1, 10), (1, 12), (1, 14), (1, 17), (1, 60), (0, 0)],
  [(0, 0), (1, 502), (1, 503), (1, 504), (1, 505), (1, 506), (1, 507), (1, 508), (1, 509), (1, 510), (0, 0), (1, 512), (1, 513), (0, 0), (1, 515), (0, 0), (1, 517), (1, 518), (1, 519), (1, 520), (1, 521), (0, 0), (1, 523), (1, 524), (1, 525), (0, 0), (1, 527)]]
def fcode (c j : Nat) : Nat × Nat := (fcT.getD c []).getD j (0, 0)
def frn (r : Int → Nat) (k c j : Nat) : Nat := if (fcode c j).1 = 1 then (fcode c j).2 else if (fcode c j).1 = 2 then k + (fcode c j).2 else r j
def fvv (ad : Nat → Nat) (f : Int → Int) (r : Int → Nat) (k c j : Nat) : Value := if (fcode c j).1 = 0 then vI (f j) else .ref (ad (frn r k c j))
abbrev cls : List vw_C := [(RX0, TX0, 2), (RX1, TX1, 12), (RX2, TX2, 2), (RX3, TX3, 4), (RX4, TX4, 2), (RX5, TX5, 9), (RX6, TX6, 1), (RX7, TX7, 3), (RX9, TX9, 4), (RX10, TX10, 1), (RX11, TX11, 14), (RX12, TX12, 27)]
def ctys (cA : Nat → ClassId) : List (ClassId × FieldType) := [(cA 0, .int), (cA 1, .boolean), (cA 2, .long), (cA 3, .object "OneWordWrong$Row"), (cA 4, .object "OneWordWrong$KeptOne")]
/-- one object of the picture and its cell -/
def relk (D : va_G) (cA : Nat → ClassId) (ad : Nat → Nat) (k : Nat) (f : Int → Int) (g : Int → Int64) (r : Int → Nat) (co : Option Cell) : Prop :=
  (obk k = 20 → co = some (arrV (cA 0) (obn k) (fun j => vI (f j)))) ∧
  (obk k = 21 → co = some (arrV (cA 1) (obn k) (fun j => vI (f j)))) ∧
  (obk k = 22 → co = some (arrV (cA 2) (obn k) (fun j => .long (g j)))) ∧
  (obk k = 23 → co = some (arrV (cA 3) (obn k) (fun j => .ref (ad (r j))))) ∧
  (obk k = 24 → co = some (arrV (cA 4) (obn k) (fun j => .ref (ad (r j))))) ∧
  (∀ c : Nat, c < 12 → obk k = c + 1 → ∃ (q : vw_C) (cell : Cell), cls[c]? = some q ∧ co = some cell ∧ cell.cls = D.1 c ∧ cell.vm = .none ∧ ∀ j, j < q.2.2 → cell.slots[D.2 c j]? = some (fvv ad f r k c j))
def Rel (D : va_G) (cA : Nat → ClassId) (ad : Nat → Nat) (h : AH) (H : Heap) : Prop :=
  (∀ (k : Nat) (j : Int), ir (h.1 k j)) ∧ ∀ k : Nat, relk D cA ad k (h.1 k) (h.2.1 k) (h.2.2 k) (H[ad k]?)
/-- the numbers' addresses are apart, and of the kind that may be written -/
def Apart (ad : Nat → Nat) (A : Nat → Prop) : Prop := (∀ k q : Nat, obk k ≠ 0 → obk q ≠ 0 → obk k ≠ 25 → obk q ≠ 25 → ad k = ad q → k = q) ∧ ∀ k : Nat, obk k ≠ 0 → obk k ≠ 25 → A (ad k)
def tbS : List (List Int) := [[3, 4, 6, 5, 5], [9, 3, 15, 15], [9, 9, 9, 1, 1], [4, 99]]
def tb (k : Nat) (j : Int) : Int := (tbS.getD (k - 600) []).getD j.toNat 0
def nmS : List String := ["FIRST_PRICES", "WORD_TOPS", "RULE_TOPS", "PRICE_TOPS"]
def Stat (ad : Nat → Nat) (A : Nat → Prop) (U : State) (H : Heap) : Prop := ∀ k : Nat, obk k = 25 → va_Z RX11 (nmS.getD (k - 600) "") "[I" (.ref (ad k)) A U H ∧ va_T .int (ad k) (obn k) (fun j => vI (tb k j)) A U H
def isNest : Cond → Bool
  | .fieldLinkNest _ _ _ _ _ _ => true
  | .methodLinkNest _ _ _ _ => true
  | .declares _ => true
  | _ => false
def wsAll : List Cond := lw_tbl.filter goodWord
def nestAll : List Cond := lw_tbl.filter isNest
def Nest (U : State) : Prop := ∀ w ∈ nestAll, va_Nw w U
def Wst (D : va_G) (cA : Nat → ClassId) (ad : Nat → Nat) (A : Nat → Prop) (U : State) (H : Heap) : Prop := va_K D cls (ctys cA) U ∧ Apart ad A ∧ Stat ad A U H ∧ Nest U
def World (D : va_G) (cA : Nat → ClassId) (ad : Nat → Nat) (A : Nat → Prop) (h : AH) (U : State) : Prop := Rel D cA ad h U.heap ∧ Wst D cA ad A U U.heap
theorem memw {w : Cond} (i : Nat) (h : lw_tbl[i]? = some w) (g : goodWord w = true) : w ∈ wsAll := List.mem_filter.mpr ⟨List.mem_of_getElem? h, g⟩
theorem memn {w : Cond} (i : Nat) (h : lw_tbl[i]? = some w) (g : isNest w = true) : w ∈ nestAll := List.mem_filter.mpr ⟨List.mem_of_getElem? h, g⟩
theorem wsAll_good : ∀ w ∈ wsAll, goodWord w = true := fun _ h => (List.mem_filter.mp h).2
theorem Nest.moved {u U : State} (hvm : u.vm = U.vm) (h : Nest u) : Nest U := fun w hw => va_Nw.same (by
  have := (List.mem_filter.mp hw).2
  cases w <;> first | rfl | (simp [isNest] at this)) hvm (h w hw)
theorem Nest.warm {s U : State} (hW : s.WarmedH U.vm) (h : Nest s) : Nest U := fun w hw => by
  have hn := (List.mem_filter.mp hw).2
  have h0 := h w hw
  cases w <;> first | (simp [isNest] at hn; done) | exact va_Nw.warmF hW h0 | exact va_Nw.warmM hW h0 | exact va_tabs rfl (rfl : (s.setVm U.vm).vm = U.vm) ((Cond.declares_setVm (args := #[]) hW.alike _).trans h0)
end HEAP
