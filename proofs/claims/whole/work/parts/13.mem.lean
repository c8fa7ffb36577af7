/-! ROWS OF A WALK OVER THE PICTURE: arrays, fields, ends -/
section MEM
variable {cc : ByteArray} {own : String} {nL fr lo : Nat} {G : GT} {pc : Nat} {L L' : List (Nat × Value)} {st : List Value} {h : AH}
theorem ob_le (k : Nat) : obn k ≤ 5000 := by
  have key : ∀ (l : List (Nat × Nat)) (i : Nat), (∀ q ∈ l, q.2 ≤ 5000) → (l.getD i (0, 0)).2 ≤ 5000 := by
    intro l i hl
    rw [List.getD_eq_getElem?_getD]
    cases hi : l[i]? with
    | none => decide
    | some q => exact hl q (List.mem_of_getElem? hi)
  unfold obn ob
  split
  · exact key _ _ (by decide)
  · split
    · decide
    · split
      · decide
      · split
        · decide
        · split
          · exact key _ _ (by decide)
          · split
            · exact key _ _ (by decide)
            · decide
theorem sw_eq {α : Type} (f : Nat → Int → α) (k : Nat) (z : Int) (v : α) : sw f k z v k = fun j => if j = z then v else f k j := by simp [sw]
theorem sw_ne {α : Type} (f : Nat → Int → α) {k q : Nat} (z : Int) (v : α) (hq : q ≠ k) : sw f k z v q = f q := by simp [sw, hq]
theorem toNat_eq {z : Int} {j : Nat} (h : 0 ≤ z) : ((j : Int) = z) ↔ j = z.toNat := by omega
/-- a picture with one object changed, and its heap -/
theorem Rel.set {D : va_G} {cA : Nat → ClassId} {ad : Nat → Nat} {A : Nat → Prop} {h h' : AH} {H H1 : Heap} {k : Nat} (hR : Rel D cA ad h H) (hA : Apart ad A) (hk : obk k ≠ 0 ∧ obk k ≠ 25) (hr : ∀ (q : Nat) (j : Int), ir (h'.1 q j))
    (h1 : ∀ q, q ≠ k → h'.1 q = h.1 q) (h2 : ∀ q, q ≠ k → h'.2.1 q = h.2.1 q) (h3 : ∀ q, q ≠ k → h'.2.2 q = h.2.2 q) (oq : ∀ q : Nat, q ≠ ad k → H1[q]? = H[q]?) (hn : relk D cA ad k (h'.1 k) (h'.2.1 k) (h'.2.2 k) (H1[ad k]?)) : Rel D cA ad h' H1 := by
  refine ⟨hr, fun q => ?_⟩
  by_cases hq : q = k
  · subst hq; exact hn
  · rw [h1 q hq, h2 q hq, h3 q hq]
    by_cases h0 : obk q ≠ 0 ∧ obk q ≠ 25
    · rw [oq (ad q) (fun e => hq (hA.1 q k h0.1 hk.1 h0.2 hk.2 e))]
      exact hR.2 q
    · refine ⟨fun e => ?_, fun e => ?_, fun e => ?_, fun e => ?_, fun e => ?_, fun c hc e => ?_⟩ <;> exact absurd ⟨by omega, by omega⟩ h0
theorem ir_sw {f : Nat → Int → Int} (hf : ∀ q j, ir (f q j)) (k : Nat) (z v : Int) (hv : ir v) : ∀ q j, ir (sw f k z v q j) := by
  intro q j
  by_cases hq : q = k
  · subst hq
    rw [sw_eq]
    show ir (if j = z then v else f q j)
    by_cases hj : j = z
    · rw [if_pos hj]; exact hv
    · rw [if_neg hj]; exact hf q j
  · rw [sw_ne _ _ _ hq]; exact hf q j
theorem arrV_sw {α : Type} (mk : α → Value) (c : ClassId) (N : Nat) (f : Int → α) {z : Int} (v : α) (hz : 0 ≤ z) : (arrV c N (fun j => mk (f j))).setSlot z.toNat (mk v) = arrV c N (fun j => mk (if (j : Int) = z then v else f j)) := by
  rw [arrV_store]
  congr 1
  funext j
  by_cases hj : j = z.toNat
  · rw [if_pos ((toNat_eq hz).mpr hj)]; simp [updV, hj]
  · rw [if_neg (fun e => hj ((toNat_eq hz).mp e))]; simp [updV, hj]
theorem A_iald (hG : Cx cc own nL fr lo G) (d : decode cc pc = .ok (.iaload, 1)) {k : Nat} {z : Int} {N : Nat} (hk : obk k = 20) (hn : obn k = N) (hin : 0 ≤ z ∧ z < N) (kk : G (pc + 1) L (vI (h.1 k z) :: st) h) : G pc L (vI z :: .ref k :: st) h := by
  obtain ⟨p, l, e, R, s, m, args, below, meth, c, D, cA, ad, A, cells, slots, Q, F, rfl⟩ := hG
  intro H locs ls hR hS hl
  have hb := ob_le k
  have hc := (hR.2 k).1 hk
  rw [hn] at hc hb
  refine W.iald (v := vI (h.1 k z)) F.1 F.2.1 hc ((F.2.2.2.2.2.1.1.2 0 _ rfl).1 _ _) (fun q => by cases q) ?_ ?_ rfl rfl d (kk H locs ls hR hS hl)
  · rw [arrV_size]; exact inI hin (by omega)
  · rw [clI hin.1 (by omega), arrV_read _ _ (by omega)]
    rw [Int.toNat_of_nonneg hin.1]
theorem A_zald (hG : Cx cc own nL fr lo G) (d : decode cc pc = .ok (.baload, 1)) {k : Nat} {z : Int} {N : Nat} (hk : obk k = 21) (hn : obn k = N) (hin : 0 ≤ z ∧ z < N) (kk : G (pc + 1) L (vI (h.1 k z) :: st) h) : G pc L (vI z :: .ref k :: st) h := by
  obtain ⟨p, l, e, R, s, m, args, below, meth, c, D, cA, ad, A, cells, slots, Q, F, rfl⟩ := hG
  intro H locs ls hR hS hl
  have hb := ob_le k
  have hc := (hR.2 k).2.1 hk
  rw [hn] at hc hb
  refine W.zald (v := vI (h.1 k z)) F.1 F.2.1 hc ((F.2.2.2.2.2.1.1.2 1 _ rfl).1 _ _) (fun q => by cases q) ?_ ?_ rfl rfl d (kk H locs ls hR hS hl)
  · rw [arrV_size]; exact inI hin (by omega)
  · rw [clI hin.1 (by omega), arrV_read _ _ (by omega)]
    rw [Int.toNat_of_nonneg hin.1]
theorem A_lald (hG : Cx cc own nL fr lo G) (d : decode cc pc = .ok (.laload, 1)) {k : Nat} {z : Int} {N : Nat} (hk : obk k = 22) (hn : obn k = N) (hin : 0 ≤ z ∧ z < N) (kk : G (pc + 1) L (.long (h.2.1 k z) :: st) h) : G pc L (vI z :: .ref k :: st) h := by
  obtain ⟨p, l, e, R, s, m, args, below, meth, c, D, cA, ad, A, cells, slots, Q, F, rfl⟩ := hG
  intro H locs ls hR hS hl
  have hb := ob_le k
  have hc := (hR.2 k).2.2.1 hk
  rw [hn] at hc hb
  refine W.lald (v := .long (h.2.1 k z)) F.1 F.2.1 hc ((F.2.2.2.2.2.1.1.2 2 _ rfl).1 _ _) (fun q => by cases q) ?_ ?_ rfl rfl d (kk H locs ls hR hS hl)
  · rw [arrV_size]; exact inI hin (by omega)
  · rw [clI hin.1 (by omega), arrV_read _ _ (by omega)]
    rw [Int.toNat_of_nonneg hin.1]
theorem A_aald (hG : Cx cc own nL fr lo G) (d : decode cc pc = .ok (.aaload, 1)) {k : Nat} {z : Int} {N : Nat} (hk : obk k = 23 ∨ obk k = 24) (hn : obn k = N) (hin : 0 ≤ z ∧ z < N) (kk : G (pc + 1) L (.ref (h.2.2 k z) :: st) h) : G pc L (vI z :: .ref k :: st) h := by
  obtain ⟨p, l, e, R, s, m, args, below, meth, c, D, cA, ad, A, cells, slots, Q, F, rfl⟩ := hG
  intro H locs ls hR hS hl
  have hb := ob_le k
  rw [hn] at hb
  rcases hk with hk | hk
  · have hc := (hR.2 k).2.2.2.1 hk
    rw [hn] at hc
    refine W.aald (v := .ref (ad (h.2.2 k z))) (ty := .object "OneWordWrong$Row") F.1 F.2.1 hc ((F.2.2.2.2.2.1.1.2 3 _ rfl).1 _ _) rfl (fun q => by cases q) ?_ ?_ rfl rfl d (kk H locs ls hR hS hl)
    · rw [arrV_size]; exact inI hin (by omega)
    · rw [clI hin.1 (by omega), arrV_read _ _ (by omega)]
      rw [Int.toNat_of_nonneg hin.1]
  · have hc := (hR.2 k).2.2.2.2.1 hk
    rw [hn] at hc
    refine W.aald (v := .ref (ad (h.2.2 k z))) (ty := .object "OneWordWrong$KeptOne") F.1 F.2.1 hc ((F.2.2.2.2.2.1.1.2 4 _ rfl).1 _ _) rfl (fun q => by cases q) ?_ ?_ rfl rfl d (kk H locs ls hR hS hl)
    · rw [arrV_size]; exact inI hin (by omega)
    · rw [clI hin.1 (by omega), arrV_read _ _ (by omega)]
      rw [Int.toNat_of_nonneg hin.1]
/-- a static table -/
theorem A_tald (hG : Cx cc own nL fr lo G) (d : decode cc pc = .ok (.iaload, 1)) {k : Nat} {z : Int} {N : Nat} (hk : obk k = 25) (hn : obn k = N) (hin : 0 ≤ z ∧ z < N) (kk : G (pc + 1) L (vI (tb k z) :: st) h) : G pc L (vI z :: .ref k :: st) h := by
  obtain ⟨p, l, e, R, s, m, args, below, meth, c, D, cA, ad, A, cells, slots, Q, F, rfl⟩ := hG
  intro H locs ls hR hS hl
  have hb := ob_le k
  have hT := (F.2.2.2.2.2.1.2.2.1 k hk).2
  rw [hn] at hT hb
  refine va_ti F.1 F.2.1 hT hS (v := vI (tb k z)) (inI hin (by omega)) ?_ d (kk H locs ls hR hS hl)
  rw [clI hin.1 (by omega)]
  show vI (tb k z.toNat) = _
  rw [Int.toNat_of_nonneg hin.1]
theorem A_tlen (hG : Cx cc own nL fr lo G) (d : decode cc pc = .ok (.arraylength, 1)) {k : Nat} {N : Nat} (hk : obk k = 25) (hn : obn k = N) (kk : G (pc + 1) L (vI N :: st) h) : G pc L (.ref k :: st) h := by
  obtain ⟨p, l, e, R, s, m, args, below, meth, c, D, cA, ad, A, cells, slots, Q, F, rfl⟩ := hG
  intro H locs ls hR hS hl
  have hT := (F.2.2.2.2.2.1.2.2.1 k hk).2
  rw [hn] at hT
  exact va_tlen F.1 F.2.1 hT hS (v := Int32.ofInt N) rfl d (kk H locs ls hR hS hl)
theorem A_alen (hG : Cx cc own nL fr lo G) (d : decode cc pc = .ok (.arraylength, 1)) {k : Nat} {N : Nat} (hk : obk k = 20 ∨ obk k = 22) (hn : obn k = N) (kk : G (pc + 1) L (vI N :: st) h) : G pc L (.ref k :: st) h := by
  obtain ⟨p, l, e, R, s, m, args, below, meth, c, D, cA, ad, A, cells, slots, Q, F, rfl⟩ := hG
  intro H locs ls hR hS hl
  rcases hk with hk | hk
  · have hc := (hR.2 k).1 hk
    rw [hn] at hc
    exact W.alen (n := Int32.ofInt N) F.1 F.2.1 hc ((F.2.2.2.2.2.1.1.2 0 _ rfl).1 _ _) (by rw [arrV_size]; rfl) rfl rfl d (kk H locs ls hR hS hl)
  · have hc := (hR.2 k).2.2.1 hk
    rw [hn] at hc
    exact W.alen (n := Int32.ofInt N) F.1 F.2.1 hc ((F.2.2.2.2.2.1.1.2 2 _ rfl).1 _ _) (by rw [arrV_size]; rfl) rfl rfl d (kk H locs ls hR hS hl)
theorem A_iast (hG : Cx cc own nL fr lo G) (d : decode cc pc = .ok (.iastore, 1)) {k : Nat} {z v : Int} {N : Nat} (hk : obk k = 20) (hn : obn k = N) (hin : 0 ≤ z ∧ z < N) (hv : ir v) (kk : G (pc + 1) L st (hwi h k z v)) : G pc L (vI v :: vI z :: .ref k :: st) h := by
  obtain ⟨p, l, e, R, s, m, args, below, meth, c, D, cA, ad, A, cells, slots, Q, F, rfl⟩ := hG
  intro H locs ls hR hS hl
  have hb := ob_le k
  have hc := (hR.2 k).1 hk
  rw [hn] at hb
  have hA := F.2.2.2.2.2.1.2.1
  refine W.iast F.1 F.2.1 hc ((F.2.2.2.2.2.1.1.2 0 _ rfl).1 _ _) (fun q => by cases q) (by rw [arrV_size, hn]; exact inI hin (by omega)) rfl rfl d fun H1 e1 z1 oq => ?_
  refine kk H1 _ ls ?_ (hS.put z1 oq (hA.2 k (by omega) (by omega))) hl
  rw [clI hin.1 (by omega)] at e1
  refine Rel.set (k := k) hR hA ⟨by omega, by omega⟩ (ir_sw hR.1 k z v hv) (fun q hq => sw_ne _ _ _ hq) (fun q _ => rfl) (fun q _ => rfl) oq ?_
  refine ⟨fun _ => ?_, fun q => by omega, fun q => by omega, fun q => by omega, fun q => by omega, fun c' h1 h2 => by omega⟩
  rw [e1]
  show some ((arrV (cA 0) (obn k) (fun j => vI (h.1 k j))).setSlot z.toNat (vI v)) = some (arrV (cA 0) (obn k) (fun j => vI (sw h.1 k z v k j)))
  rw [sw_eq, arrV_sw vI _ _ _ _ hin.1]
theorem A_zast (hG : Cx cc own nL fr lo G) (d : decode cc pc = .ok (.bastore, 1)) {k : Nat} {z v : Int} {N : Nat} (hk : obk k = 21) (hn : obn k = N) (hin : 0 ≤ z ∧ z < N) (hv : v = 0 ∨ v = 1) (kk : G (pc + 1) L st (hwi h k z v)) : G pc L (vI v :: vI z :: .ref k :: st) h := by
  obtain ⟨p, l, e, R, s, m, args, below, meth, c, D, cA, ad, A, cells, slots, Q, F, rfl⟩ := hG
  intro H locs ls hR hS hl
  have hb := ob_le k
  have hc := (hR.2 k).2.1 hk
  rw [hn] at hb
  have hA := F.2.2.2.2.2.1.2.1
  refine W.zast F.1 F.2.1 hc ((F.2.2.2.2.2.1.1.2 1 _ rfl).1 _ _) (fun q => by cases q) (by rw [arrV_size, hn]; exact inI hin (by omega)) rfl rfl d fun H1 e1 z1 oq => ?_
  refine kk H1 _ ls ?_ (hS.put z1 oq (hA.2 k (by omega) (by omega))) hl
  rw [clI hin.1 (by omega)] at e1
  refine Rel.set (k := k) hR hA ⟨by omega, by omega⟩ (ir_sw hR.1 k z v (by rcases hv with rfl | rfl <;> constructor <;> decide)) (fun q hq => sw_ne _ _ _ hq) (fun q _ => rfl) (fun q _ => rfl) oq ?_
  refine ⟨fun q => by omega, fun _ => ?_, fun q => by omega, fun q => by omega, fun q => by omega, fun c' h1 h2 => by omega⟩
  rw [e1]
  have e2 : narrow .boolean (.int (Int32.ofInt v)) = vI v := by rcases hv with rfl | rfl <;> rfl
  show some ((arrV (cA 1) (obn k) (fun j => vI (h.1 k j))).setSlot z.toNat (narrow .boolean (.int (Int32.ofInt v)))) = some (arrV (cA 1) (obn k) (fun j => vI (sw h.1 k z v k j)))
  rw [e2, sw_eq, arrV_sw vI _ _ _ _ hin.1]
theorem A_last (hG : Cx cc own nL fr lo G) (d : decode cc pc = .ok (.lastore, 1)) {k : Nat} {z : Int} {v : Int64} {N : Nat} (hk : obk k = 22) (hn : obn k = N) (hin : 0 ≤ z ∧ z < N) (kk : G (pc + 1) L st (hwl h k z v)) : G pc L (.long v :: vI z :: .ref k :: st) h := by
  obtain ⟨p, l, e, R, s, m, args, below, meth, c, D, cA, ad, A, cells, slots, Q, F, rfl⟩ := hG
  intro H locs ls hR hS hl
  have hb := ob_le k
  have hc := (hR.2 k).2.2.1 hk
  rw [hn] at hb
  have hA := F.2.2.2.2.2.1.2.1
  refine W.last F.1 F.2.1 hc ((F.2.2.2.2.2.1.1.2 2 _ rfl).1 _ _) (fun q => by cases q) (by rw [arrV_size, hn]; exact inI hin (by omega)) rfl rfl d fun H1 e1 z1 oq => ?_
  refine kk H1 _ ls ?_ (hS.put z1 oq (hA.2 k (by omega) (by omega))) hl
  rw [clI hin.1 (by omega)] at e1
  refine Rel.set (k := k) hR hA ⟨by omega, by omega⟩ hR.1 (fun q _ => rfl) (fun q hq => sw_ne _ _ _ hq) (fun q _ => rfl) oq ?_
  refine ⟨fun q => by omega, fun q => by omega, fun _ => ?_, fun q => by omega, fun q => by omega, fun c' h1 h2 => by omega⟩
  rw [e1]
  show some ((arrV (cA 2) (obn k) (fun j => .long (h.2.1 k j))).setSlot z.toNat (.long v)) = some (arrV (cA 2) (obn k) (fun j => .long (sw h.2.1 k z v k j)))
  rw [sw_eq, arrV_sw .long _ _ _ _ hin.1]
/-- a Row into an array of Rows -/
theorem A_aast (hG : Cx cc own nL fr lo G) (d : decode cc pc = .ok (.aastore, 1)) {k r : Nat} {z : Int} {N : Nat} (hk : obk k = 23) (hn : obn k = N) (hr : obk r = 8) (hin : 0 ≤ z ∧ z < N) (kk : G (pc + 1) L st (hwr h k z r)) : G pc L (.ref r :: vI z :: .ref k :: st) h := by
  obtain ⟨p, l, e, R, s, m, args, below, meth, c, D, cA, ad, A, cells, slots, Q, F, rfl⟩ := hG
  intro H locs ls hR hS hl
  have hb := ob_le k
  have hc := (hR.2 k).2.2.2.1 hk
  rw [hn] at hb
  have hA := F.2.2.2.2.2.1.2.1
  have hK := F.2.2.2.2.2.1.1
  obtain ⟨q8, cellV, g0, g1, g2, g3, -⟩ := (hR.2 r).2.2.2.2.2 7 (by decide) hr
  have hcls := (hK.1 7 _ rfl).2
  obtain ⟨kA, comp, k1, k2, k3, -⟩ := (hK.2 3 _ rfl).2
  have hcomp : comp = D.1 7 := Option.some.inj (k3.symm.trans hcls.1)
  subst hcomp
  obtain ⟨kC, hkC, -⟩ := hcls.2
  refine W.aast F.1 F.2.1 hc (fun q h => by cases h) (fun h => by cases h) k1 k2 rfl hkC ⟨fun q => (inI hin (by omega)) (Or.inl q), by show _ < (arrV _ _ _).slots.size; rw [arrV_size, clI hin.1 (by omega), hn]; omega⟩ g1 (fun q h => by rw [g3] at h; cases h) (by rw [g2]; exact hkC) (by rw [g2]; exact va_assign hcls) rfl rfl d fun H1 e1 z1 oq => ?_
  refine kk H1 _ ls ?_ (hS.put z1 oq (hA.2 k (by omega) (by omega))) hl
  rw [clI hin.1 (by omega)] at e1
  refine Rel.set (k := k) hR hA ⟨by omega, by omega⟩ hR.1 (fun q _ => rfl) (fun q _ => rfl) (fun q hq => sw_ne _ _ _ hq) oq ?_
  refine ⟨fun q => by omega, fun q => by omega, fun q => by omega, fun _ => ?_, fun q => by omega, fun c' h1 h2 => by omega⟩
  rw [e1]
  show some ((arrV (cA 3) (obn k) (fun j => .ref (ad (h.2.2 k j)))).setSlot z.toNat (.ref (ad r))) = some (arrV (cA 3) (obn k) (fun j => .ref (ad (sw h.2.2 k z r k j))))
  rw [sw_eq, arrV_sw (fun x => Value.ref (ad x)) _ _ _ _ hin.1]
end MEM
