/-! System.arraycopy OVER THE PICTURE -/
section COPY
/-- what a stretch of f, from sp on, n long, makes of g, from dp on -/
def cpI (f g : Int → Int) (sp dp n : Int) : Int → Int := fun j => if dp ≤ j ∧ j < dp + n then f (sp + (j - dp)) else g j
theorem copied_arr {cs : Cell} {c1 : ClassId} {n1 : Nat} {f g : Int → Int} {sp dp n : Int} (h0 : 0 ≤ sp ∧ 0 ≤ dp ∧ 0 ≤ n) (hs : ∀ i : Nat, i < n.toNat → cs.slots.getD (sp.toNat + i) .null = vI (f (sp + i))) :
    (arrV c1 n1 (fun j => vI (g j))).storeRun dp.toNat (cs.stretch sp.toNat n.toNat) = arrV c1 n1 (fun j => vI (cpI f g sp dp n j)) := by
  have e : cs.stretch sp.toNat n.toNat = (List.range n.toNat).map (fun i : Nat => vI (f (sp + (i : Int)))) := by
    unfold Cell.stretch
    apply List.map_congr_left
    intro i hi
    exact hs i (List.mem_range.mp hi)
  rw [e, Cell.storeRun, va_pairs]
  congr 1
  funext k
  simp only [cpI, List.length_map, List.length_range, Nat.add_zero]
  by_cases h : dp.toNat ≤ k ∧ k < dp.toNat + n.toNat
  · rw [if_pos h, if_pos (by omega), List.getD_eq_getElem?_getD, List.getElem?_map, List.getElem?_range (by omega)]
    show vI (f (sp + ((k - dp.toNat : Nat) : Int))) = _
    rw [show ((k - dp.toNat : Nat) : Int) = (k : Int) - dp by omega]
  · rw [if_neg h, if_neg (by omega)]
variable {cc : ByteArray} {own : String} {nL fr lo : Nat} {G : GT} {pc : Nat} {L : List (Nat × Value)} {st : List Value} {h : AH}
def hso (h : AH) (k : Nat) (f : Int → Int) : AH := (fun q => if q = k then f else h.1 q, h.2)
theorem A_copy (hG : Cx cc own nL fr lo G) {idx k0 k1 n0 n1 : Nat} {sp dp n : Int} {f : Int → Int} (d : decode cc pc = .ok (.invokestatic idx, 3)) (hl0 : Cond.methodLink own idx arraycopyName ∈ wsAll) (hna : Cond.native arraycopyName ∈ wsAll) (hst : Cond.static arraycopyName ∈ wsAll) (hin : Cond.initialized "java/lang/System" ∈ wsAll)
    (hk0 : obk k0 = 20 ∧ f = h.1 k0 ∨ obk k0 = 25 ∧ f = tb k0) (hk1 : obk k1 = 20) (hn0 : obn k0 = n0) (hn1 : obn k1 = n1) (h0 : 0 ≤ sp ∧ 0 ≤ dp ∧ 0 ≤ n) (h4 : sp + n ≤ n0) (h5 : dp + n ≤ n1) (hir : ∀ i, ir (f i)) (hfr : 1 ≤ fr) (hlo : 26 ≤ lo) (hw : (st.map fun v => v.category).sum ≤ 8)
    (kk : G (pc + 3) L st (hso h k1 (cpI f (h.1 k1) sp dp n))) : G pc L (vI n :: vI dp :: .ref k1 :: vI sp :: .ref k0 :: st) h := by
  obtain ⟨p, l, e, R, s, m, args, below, meth, c, D, cA, ad, A, cells, slots, Q, F, rfl⟩ := hG
  intro H locs ls hR hS hl
  obtain ⟨hx, hb, hml, hown, hts, hW0, f1, f2, f3, f4⟩ := F
  have b0 := ob_le k0
  have b1 := ob_le k1
  rw [hn0] at b0
  rw [hn1] at b1
  have hA := hW0.2.1
  have hc1 : H[ad k1]? = some (arrV (cA 0) n1 (fun j => vI (h.1 k1 j))) := by have := (hR.2 k1).1 hk1; rw [hn1] at this; exact this
  have hK := hW0.1
  obtain ⟨-, kc1, hkc1, cm1, hkk1⟩ := (hK.2 0 _ rfl).1 n1 (fun j => vI (h.1 k1 j))
  obtain ⟨cs, hcs, hcs1, hcs2, hsz, hval, kc0, hkc0, cm0, hkk0⟩ : ∃ cs : Cell, H[ad k0]? = some cs ∧ (∀ q, cs.vm ≠ .statics q) ∧ cs.vm ≠ .unknown ∧ n0 ≤ cs.slots.size ∧ (∀ j : Nat, j < n0 → cs.slots[j]? = some (vI (f j))) ∧ ∃ kc0 : Class, s.vm.classes[cs.cls]? = some kc0 ∧ ∃ cm0, kc0.kind = .array cm0 .int := by
    rcases hk0 with ⟨q, rfl⟩ | ⟨q, rfl⟩
    · have hc0 : H[ad k0]? = some (arrV (cA 0) n0 (fun j => vI (h.1 k0 j))) := by have := (hR.2 k0).1 q; rw [hn0] at this; exact this
      obtain ⟨-, kc, hkc, cm, hkk⟩ := (hK.2 0 _ rfl).1 n0 (fun j => vI (h.1 k0 j))
      exact ⟨_, hc0, (fun _ h => by cases h), (fun h => by cases h), (by rw [arrV_size]; exact Nat.le_refl _), fun j hj => arrV_read _ _ hj, kc, hkc, cm, hkk⟩
    · obtain ⟨cell, t1, t2, t3, t4, t5, t6, t7⟩ := (hW0.2.2.1 k0 q).2
      rw [hn0] at t4 t6
      obtain ⟨g1, kc, hkc, cm, hkk⟩ := t2
      exact ⟨cell, by rw [hS.2.1 _ (Array.getElem?_eq_some_iff.mp t1).1 t7]; exact t1, g1, t3, t4, t6, kc, hkc, cm, hkk⟩
  intro T hT X
  have nn : ∀ z : Int, 0 ≤ z → z ≤ 5000 → ¬ Int32.ofInt z < 0 ∧ (Int32.ofInt z).toInt = z := fun z z1 z2 => by
    refine ⟨fun q => ?_, tI ⟨by omega, by omega⟩⟩
    have := Int32.lt_iff_toInt_lt.mp q
    rw [tI ⟨by omega, by omega⟩] at this
    simp at this
    omega
  obtain ⟨vm', X', step⟩ := X.arraycopy hx hown (hts _ hl0) (hts _ hna) (hts _ hst) (hts _ hin) (src := ad k0) (dst := ad k1) (cs := cs) (cd := arrV (cA 0) n1 (fun j => vI (h.1 k1 j))) (srcPos := Int32.ofInt sp) (destPos := Int32.ofInt dp) (n := Int32.ofInt n) (by rw [hT]; exact hcs) (by rw [hT]; exact hc1)
    hcs1 (fun _ h => by cases h) hcs2 (fun h => by cases h) hkc0 hkc1 hkk0 hkk1 (by simp [refKind]) (nn sp h0.1 (by omega)).1 (nn dp h0.2.1 (by omega)).1 (nn n h0.2.2 (by omega)).1
    (by rw [(nn sp h0.1 (by omega)).2, (nn n h0.2.2 (by omega)).2]; omega)
    (by rw [(nn dp h0.2.1 (by omega)).2, (nn n h0.2.2 (by omega)).2, arrV_size]; omega)
    (fun vm₁ _ i hi => by
      rw [clI h0.2.2 (by omega)] at hi
      have e : cs.slots.getD ((Int32.ofInt sp).toNatClampNeg + i) .null = vI (f (sp + i)) := by
        rw [clI h0.1 (by omega), Array.getD_eq_getD_getElem?, hval _ (by omega)]
        show vI (f ((sp.toNat + i : Nat) : Int)) = _
        rw [show ((sp.toNat + i : Nat) : Int) = sp + i by omega]
      refine ⟨?_, ?_⟩
      · rw [e]; rfl
      · rw [e]; exact trivial)
    (g := F0 m pc ls ((vI n :: vI dp :: .ref k1 :: vI sp :: .ref k0 :: st).map (cv ad))) rfl (by rw [hml]; exact hl.1) (rest := st.map (cv ad)) rfl (by rw [hb]; exact d) (by omega) (by
      have : ((st.map (cv ad)).map fun v => v.category).sum ≤ 8 := by rw [cat_cv]; exact hw
      show 2 * 0 + _ + _ ≤ _
      have e7 : nativeFrameWords "java/lang/System" "arraycopy" 5 = 7 := by decide
      omega)
  have e1 : copied cs (arrV (cA 0) n1 (fun j => vI (h.1 k1 j))) (Int32.ofInt sp) (Int32.ofInt dp) (Int32.ofInt n) = arrV (cA 0) n1 (fun j => vI (cpI f (h.1 k1) sp dp n j)) := by
    show (arrV (cA 0) n1 (fun j => vI (h.1 k1 j))).storeRun (Int32.ofInt dp).toNatClampNeg (cs.stretch (Int32.ofInt sp).toNatClampNeg (Int32.ofInt n).toNatClampNeg) = _
    rw [clI h0.1 (by omega), clI h0.2.1 (by omega), clI h0.2.2 (by omega)]
    exact copied_arr (g := h.1 k1) h0 (fun i hi => by
      rw [Array.getD_eq_getD_getElem?, hval _ (by omega)]
      show vI (f ((sp.toNat + i : Nat) : Int)) = _
      rw [show ((sp.toNat + i : Nat) : Int) = sp + i by omega])
  rw [e1] at X' step
  have hlt : ad k1 < H.size := (Array.getElem?_eq_some_iff.mp hc1).1
  have hheap : ((T.setVm vm').setCell (ad k1) (arrV (cA 0) n1 (fun j => vI (cpI f (h.1 k1) sp dp n j)))).heap = H.setIfInBounds (ad k1) (arrV (cA 0) n1 (fun j => vI (cpI f (h.1 k1) sp dp n j))) := by rw [← hT]; rfl
  have oq : ∀ q : Nat, q ≠ ad k1 → (H.setIfInBounds (ad k1) (arrV (cA 0) n1 (fun j => vI (cpI f (h.1 k1) sp dp n j))))[q]? = H[q]? := fun q hq => by simp [Array.getElem?_setIfInBounds, Ne.symm hq]
  have hR1 : Rel D cA ad (hso h k1 (cpI f (h.1 k1) sp dp n)) (H.setIfInBounds (ad k1) (arrV (cA 0) n1 (fun j => vI (cpI f (h.1 k1) sp dp n j)))) := by
    refine Rel.set (k := k1) hR hA ⟨by omega, by omega⟩ (fun q j => ?_) (fun q hq => by simp [hso, hq]) (fun q _ => rfl) (fun q _ => rfl) oq ?_
    · show ir ((if q = k1 then cpI f (h.1 k1) sp dp n else h.1 q) j)
      by_cases hq : q = k1
      · rw [if_pos hq]
        unfold cpI
        split
        · exact hir _
        · exact hR.1 _ _
      · rw [if_neg hq]; exact hR.1 _ _
    · refine ⟨fun _ => ?_, fun q => by omega, fun q => by omega, fun q => by omega, fun q => by omega, fun c' h1 h2 => by omega⟩
      rw [hn1]
      show (H.setIfInBounds (ad k1) _)[ad k1]? = some (arrV (cA 0) n1 (fun j => vI ((if k1 = k1 then cpI f (h.1 k1) sp dp n else h.1 k1) j)))
      rw [if_pos rfl]
      simp [Array.getElem?_setIfInBounds, hlt]
  obtain ⟨t, a1, b1'⟩ := kk _ _ ls hR1 ⟨by simp; exact hS.1, fun q g1 g2 => by
      rw [oq q (fun e => g2 (by rw [e]; exact hA.2 k1 (by omega) (by omega)))]
      exact hS.2.1 q g1 g2, fun q hq => by
      rcases List.mem_append.mp hq with h | h
      · exact hS.2.2 q h
      · obtain ⟨z, -, hz⟩ := List.mem_map.mp h
        rw [← hz]
        exact hA.2 k1 (by omega) (by omega)⟩ hl _ hheap X'
  exact ⟨t, step t a1, b1'⟩
end COPY
