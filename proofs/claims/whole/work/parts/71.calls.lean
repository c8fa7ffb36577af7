/-! calls of inherited methods, arraycopy (printed by gen) -/
section
theorem lw_X0_78 : Cond.methodLink RX0 78 ⟨"OneWordWrong$Lanes", "joinAll", "(LOneWordWrong$Grammar;I)V"⟩ ∈ wsAll := memw 785 (by decide +kernel) rfl
theorem lw_X1_58 : Cond.methodLink RX1 58 ⟨"java/lang/System", "arraycopy", "(Ljava/lang/Object;ILjava/lang/Object;II)V"⟩ ∈ wsAll := memw 420 (by decide +kernel) rfl
theorem lw_X1_87 : Cond.methodLink RX1 87 ⟨"java/lang/Math", "min", "(II)I"⟩ ∈ wsAll := memw 609 (by decide +kernel) rfl
theorem lw_X10_27 : Cond.methodLink RX10 27 ⟨"OneWordWrong$TreeTable", "span", "(II)I"⟩ ∈ wsAll := memw 509 (by decide +kernel) rfl
theorem lw_X10_41 : Cond.methodLink RX10 41 ⟨"OneWordWrong$TreeTable", "joinAll", "(LOneWordWrong$Grammar;I)V"⟩ ∈ wsAll := memw 517 (by decide +kernel) rfl
theorem lw_X2_19 : Cond.methodLink RX2 19 ⟨"java/lang/Math", "max", "(II)I"⟩ ∈ wsAll := memw 843 (by decide +kernel) rfl
theorem lw_X4_30 : Cond.methodLink RX4 30 ⟨"OneWordWrong$Lanes", "span", "(II)I"⟩ ∈ wsAll := memw 675 (by decide +kernel) rfl
theorem lw_X5_90 : Cond.methodLink RX5 90 ⟨"java/lang/Math", "min", "(II)I"⟩ ∈ wsAll := memw 652 (by decide +kernel) rfl
theorem lw_X5_105 : Cond.methodLink RX5 105 ⟨"OneWordWrong$Lanes", "joinAll", "(LOneWordWrong$Grammar;I)V"⟩ ∈ wsAll := memw 678 (by decide +kernel) rfl
theorem lw_X5_144 : Cond.methodLink RX5 144 ⟨"java/lang/Math", "max", "(II)I"⟩ ∈ wsAll := memw 743 (by decide +kernel) rfl
theorem lw_X6_59 : Cond.methodLink RX6 59 ⟨"java/lang/System", "arraycopy", "(Ljava/lang/Object;ILjava/lang/Object;II)V"⟩ ∈ wsAll := memw 593 (by decide +kernel) rfl
theorem lw_X6_112 : Cond.methodLink RX6 112 ⟨"java/lang/Math", "min", "(II)I"⟩ ∈ wsAll := memw 586 (by decide +kernel) rfl
theorem lw_X7_22 : Cond.methodLink RX7 22 ⟨"java/lang/System", "arraycopy", "(Ljava/lang/Object;ILjava/lang/Object;II)V"⟩ ∈ wsAll := memw 661 (by decide +kernel) rfl
theorem lw_X8_19 : Cond.methodLink RX8 19 ⟨"OneWordWrong$SpanTable", "joinSpans", "(LOneWordWrong$Grammar;III)V"⟩ ∈ wsAll := memw 524 (by decide +kernel) rfl
theorem sm_X10_X8_span : Cond.sameMethod RX10 RX8 "span" "(II)I" ∈ wsAll := memw 510 (by decide +kernel) rfl
theorem sm_X10_X8_joinAll : Cond.sameMethod RX10 RX8 "joinAll" "(LOneWordWrong$Grammar;I)V" ∈ wsAll := memw 518 (by decide +kernel) rfl
theorem de_X8_joinAll : Cond.declares ⟨RX8, "joinAll", "(LOneWordWrong$Grammar;I)V"⟩ ∈ nestAll := memn 519 (by decide +kernel) rfl
theorem su_X10_X8_joinAll : Cond.selects RX10 ⟨"OneWordWrong$TreeTable", "joinAll", "(LOneWordWrong$Grammar;I)V"⟩ yX8_joinAll ∈ wsAll := memw 520 (by decide +kernel) rfl
theorem de_X8_joinSpans : Cond.declares ⟨RX8, "joinSpans", "(LOneWordWrong$Grammar;III)V"⟩ ∈ nestAll := memn 525 (by decide +kernel) rfl
theorem sm_X8_X8_joinSpans : Cond.sameMethod RX8 RX8 "joinSpans" "(LOneWordWrong$Grammar;III)V" ∈ wsAll := memw 526 (by decide +kernel) rfl
theorem su_X4_X4_joinSpans : Cond.selects RX4 ⟨"OneWordWrong$SpanTable", "joinSpans", "(LOneWordWrong$Grammar;III)V"⟩ yX4_joinSpans ∈ wsAll := memw 527 (by decide +kernel) rfl
theorem su_X10_X10_joinSpans : Cond.selects RX10 ⟨"OneWordWrong$SpanTable", "joinSpans", "(LOneWordWrong$Grammar;III)V"⟩ yX10_joinSpans ∈ wsAll := memw 535 (by decide +kernel) rfl
theorem sm_X4_X8_span : Cond.sameMethod RX4 RX8 "span" "(II)I" ∈ wsAll := memw 676 (by decide +kernel) rfl
theorem sm_X4_X8_joinAll : Cond.sameMethod RX4 RX8 "joinAll" "(LOneWordWrong$Grammar;I)V" ∈ wsAll := memw 679 (by decide +kernel) rfl
theorem su_X4_X8_joinAll : Cond.selects RX4 ⟨"OneWordWrong$Lanes", "joinAll", "(LOneWordWrong$Grammar;I)V"⟩ yX8_joinAll ∈ wsAll := memw 680 (by decide +kernel) rfl
variable {cc : ByteArray} {own : String} {nL fr lo : Nat} {G : GT} {pc : Nat} {L : List (Nat × Value)} {st : List Value} {h : AH} {li li' : List (Nat × (Int → Int))} {ll : List (Nat × (Int → Int64))} {lr : List (Nat × (Int → Nat))}
theorem C_SUi (hG : Cx cc own nL fr lo G) {idx n nLy fr' lo' : Nat} {x y : MethodName} {owner : String} {b : ByteArray} {ret : Option FieldType} {as st0 : List Value} {P : Int → AH → Prop} (d : decode cc pc = .ok (.invokestatic idx, 3)) (hl0 : Cond.methodLink own idx x ∈ wsAll) (hsm : Cond.sameMethod x.cls owner x.name x.desc ∈ wsAll) (hxy : y = ⟨owner, x.name, x.desc⟩) (ho : owner ≠ "java/lang/invoke/MethodHandle" ∧ owner ≠ "java/lang/invoke/VarHandle") (hm : MFc y b nLy ret n) (hi : Cond.static y ∈ wsAll)
    (hM : AMet y b nLy ret fr' lo' as h (Qi P)) (hfr : fr' + 1 ≤ fr) (hlo : 8 + (nLy + 11) + lo' ≤ lo) (hst : st0 = as.reverse ++ st) (hn : as.length = n) (hw : (st.map fun v => v.category).sum ≤ 8)
    (kk : ∀ (z : Int) (h' : AH), ir z → P z h' → G (pc + 3) L (vI z :: st) h') : G pc L st0 h := A_callSU hG d hl0 hsm hxy ho hm hi hM hfr hlo hst hn hw (fun v h' e => by obtain ⟨z, rfl, hz, hp⟩ := e; exact kk z h' hz hp)
theorem hso_hm (k : Nat) (f : Int → Int) : hso (hm h li ll lr) k f = hm h (aset li k f) ll lr := by
  unfold hso hm
  refine Prod.ext (funext fun q => ?_) rfl
  show (if q = k then f else alk li q (h.1 q)) = alk (aset li k f) q (h.1 q)
  rw [alk_aset]
theorem tb_rng (k : Nat) (j : Int) : 0 ≤ tb k j ∧ tb k j ≤ 99 := by
  unfold tb tbS
  generalize k - 600 = a
  generalize j.toNat = b
  rcases a with _ | _ | _ | _ | a <;> rcases b with _ | _ | _ | _ | _ | b <;> simp [List.getD]
theorem ir_tb600 (i : Int) : ir (tb 600 i) := by
  have := tb_rng 600 i
  constructor <;> omega
theorem M_copy (hG : Cx cc own nL fr lo G) {idx k0 k1 n0 n1 : Nat} {sp dp n : Int} {f : Int → Int} (d : decode cc pc = .ok (.invokestatic idx, 3)) (hl0 : Cond.methodLink own idx arraycopyName ∈ wsAll)
    (hk0 : obk k0 = 20 ∧ alk li k0 (h.1 k0) = f ∨ obk k0 = 25 ∧ f = tb k0) (hk1 : obk k1 = 20) (hn0 : obn k0 = n0) (hn1 : obn k1 = n1) (h0 : 0 ≤ sp ∧ 0 ≤ dp ∧ 0 ≤ n) (h4 : sp + n ≤ n0) (h5 : dp + n ≤ n1) (hir : obk k0 = 25 → ∀ i, ir (f i)) (hfr : 1 ≤ fr) (hlo : 26 ≤ lo) (hw : (st.map fun v => v.category).sum ≤ 8) (hl : aset li k1 (cpI f (alk li k1 (h.1 k1)) sp dp n) = li')
    (kk : G (pc + 3) L st (hm h li' ll lr)) : G pc L (vI n :: vI dp :: .ref k1 :: vI sp :: .ref k0 :: st) (hm h li ll lr) := by
  subst hl
  refine A_rng hG (fun rg => ?_)
  refine A_copy hG (f := f) d hl0 (memw 422 (by decide +kernel) rfl) (memw 421 (by decide +kernel) rfl) (memw 76 (by decide +kernel) rfl) (hk0.imp (fun q => ⟨q.1, q.2.symm⟩) id) hk1 hn0 hn1 h0 h4 h5 ?_ hfr hlo hw ?_
  · rcases hk0 with ⟨q1, q2⟩ | ⟨q1, q2⟩
    · intro i; rw [← q2]; exact rg k0 i
    · exact hir q1
  · rw [hso_hm]; exact kk
theorem A_mmin (hG : Cx cc own nL fr lo G) {idx : Nat} {x y : Int} (d : decode cc pc = .ok (.invokestatic idx, 3)) (hl0 : Cond.methodLink own idx Lib.Math.min.name ∈ wsAll) (hx : ir x) (hy : ir y) (hfr : 1 ≤ fr) (hlo : 21 ≤ lo) (hw : (st.map fun v => v.category).sum ≤ 8)
    (kk : ∀ z : Int, (x ≤ y ∧ z = x) ∨ (y ≤ x ∧ z = y) → G (pc + 3) L (vI z :: st) h) : G pc L (vI y :: vI x :: st) h := by
  obtain ⟨p, l, e, R, s, m, args, below, meth, c, D, cA, ad, A, cells, slots, Q, F, rfl⟩ := hG
  intro H locs ls hR hS hl
  obtain ⟨hx0, hb, hml, hown, hts, hW0, f1, f2, f3, f4⟩ := F
  have hcat : ((st.map (cv ad)).map fun v => v.category).sum ≤ 8 := by rw [cat_cv]; exact hw
  have hlt : (Int32.ofInt y < Int32.ofInt x) ↔ y < x := by rw [Int32.lt_iff_toInt_lt, tI hx, tI hy]
  refine va_mmin hx0 hb (hml.trans hl.1.symm) hown (hts _ hl0) (hts _ (memw 587 (by decide +kernel) rfl)) (hts _ (memw 78 (by decide +kernel) rfl)) (hts _ (memw 588 (by decide +kernel) rfl)) (by omega) (by omega) f3 f4 d ?_
  by_cases q : y < x
  · rw [if_pos (hlt.mpr q)]
    exact kk y (Or.inr ⟨by omega, rfl⟩) H locs ls hR hS hl
  · rw [if_neg (fun r => q (hlt.mp r))]
    exact kk x (Or.inl ⟨by omega, rfl⟩) H locs ls hR hS hl
theorem A_mmax (hG : Cx cc own nL fr lo G) {idx : Nat} {x y : Int} (d : decode cc pc = .ok (.invokestatic idx, 3)) (hl0 : Cond.methodLink own idx Lib.Math.max.name ∈ wsAll) (hx : ir x) (hy : ir y) (hfr : 1 ≤ fr) (hlo : 21 ≤ lo) (hw : (st.map fun v => v.category).sum ≤ 8)
    (kk : ∀ z : Int, (y ≤ x ∧ z = x) ∨ (x ≤ y ∧ z = y) → G (pc + 3) L (vI z :: st) h) : G pc L (vI y :: vI x :: st) h := by
  obtain ⟨p, l, e, R, s, m, args, below, meth, c, D, cA, ad, A, cells, slots, Q, F, rfl⟩ := hG
  intro H locs ls hR hS hl
  obtain ⟨hx0, hb, hml, hown, hts, hW0, f1, f2, f3, f4⟩ := F
  have hcat : ((st.map (cv ad)).map fun v => v.category).sum ≤ 8 := by rw [cat_cv]; exact hw
  have hlt : (Int32.ofInt x < Int32.ofInt y) ↔ x < y := by rw [Int32.lt_iff_toInt_lt, tI hx, tI hy]
  refine va_mmax hx0 hb (hml.trans hl.1.symm) hown (hts _ hl0) (hts _ (memw 744 (by decide +kernel) rfl)) (hts _ (memw 78 (by decide +kernel) rfl)) (hts _ (memw 745 (by decide +kernel) rfl)) (by omega) (by omega) f3 f4 d ?_
  by_cases q : x < y
  · rw [if_pos (hlt.mpr q)]
    exact kk y (Or.inr ⟨by omega, rfl⟩) H locs ls hR hS hl
  · rw [if_neg (fun r => q (hlt.mp r))]
    exact kk x (Or.inl ⟨by omega, rfl⟩) H locs ls hR hS hl
end
