/-! ROWS OF A WALK OVER THE PICTURE: fields, calls, ends -/
section CALL
variable {cc : ByteArray} {own : String} {nL fr lo : Nat} {G : GT} {pc : Nat} {L L' : List (Nat × Value)} {st : List Value} {h : AH}
theorem ckX0 : (u_ws RX0 TX0 2).all (fun w => decide (w ∈ wsAll)) = true := by decide +kernel
theorem ckX1 : (u_ws RX1 TX1 12).all (fun w => decide (w ∈ wsAll)) = true := by decide +kernel
theorem ckX2 : (u_ws RX2 TX2 2).all (fun w => decide (w ∈ wsAll)) = true := by decide +kernel
theorem ckX3 : (u_ws RX3 TX3 4).all (fun w => decide (w ∈ wsAll)) = true := by decide +kernel
theorem ckX4 : (u_ws RX4 TX4 2).all (fun w => decide (w ∈ wsAll)) = true := by decide +kernel
theorem ckX5 : (u_ws RX5 TX5 9).all (fun w => decide (w ∈ wsAll)) = true := by decide +kernel
theorem ckX6 : (u_ws RX6 TX6 1).all (fun w => decide (w ∈ wsAll)) = true := by decide +kernel
theorem ckX7 : (u_ws RX7 TX7 3).all (fun w => decide (w ∈ wsAll)) = true := by decide +kernel
theorem ckX9 : (u_ws RX9 TX9 4).all (fun w => decide (w ∈ wsAll)) = true := by decide +kernel
theorem ckX10 : (u_ws RX10 TX10 1).all (fun w => decide (w ∈ wsAll)) = true := by decide +kernel
theorem ckX11 : (u_ws RX11 TX11 14).all (fun w => decide (w ∈ wsAll)) = true := by decide +kernel
theorem ckX12 : (u_ws RX12 TX12 27).all (fun w => decide (w ∈ wsAll)) = true := by decide +kernel
theorem ck_of {ws : List Cond} (h : ws.all (fun w => decide (w ∈ wsAll)) = true) : ∀ w ∈ ws, w ∈ wsAll := fun w hw => of_decide_eq_true (List.all_eq_true.mp h w hw)
/-- of every class: its words are among the tables', its fields' types and names -/
theorem clsok (c : Nat) (q : vw_C) (hq : cls[c]? = some q) : (∀ w ∈ u_ws q.1 q.2.1 q.2.2, w ∈ wsAll) ∧ (∃ ty0 : Nat → FieldType, ∀ k, k < q.2.2 → parseFieldDescriptor (q.2.1 k).2.2.1 = some (ty0 k)) ∧ (∀ a, a < q.2.2 → ∀ b, b < q.2.2 → a ≠ b → (q.2.1 a).2.1 ≠ (q.2.1 b).2.1) := by
  match c, hq with
  | 0, hq => cases hq; exact ⟨ck_of ckX0, ⟨tyX0, tyX0_ok⟩, nmX0⟩
  | 1, hq => cases hq; exact ⟨ck_of ckX1, ⟨tyX1, tyX1_ok⟩, nmX1⟩
  | 2, hq => cases hq; exact ⟨ck_of ckX2, ⟨tyX2, tyX2_ok⟩, nmX2⟩
  | 3, hq => cases hq; exact ⟨ck_of ckX3, ⟨tyX3, tyX3_ok⟩, nmX3⟩
  | 4, hq => cases hq; exact ⟨ck_of ckX4, ⟨tyX4, tyX4_ok⟩, nmX4⟩
  | 5, hq => cases hq; exact ⟨ck_of ckX5, ⟨tyX5, tyX5_ok⟩, nmX5⟩
  | 6, hq => cases hq; exact ⟨ck_of ckX6, ⟨tyX6, tyX6_ok⟩, nmX6⟩
  | 7, hq => cases hq; exact ⟨ck_of ckX7, ⟨tyX7, tyX7_ok⟩, nmX7⟩
  | 8, hq => cases hq; exact ⟨ck_of ckX9, ⟨tyX9, tyX9_ok⟩, nmX9⟩
  | 9, hq => cases hq; exact ⟨ck_of ckX10, ⟨tyX10, tyX10_ok⟩, nmX10⟩
  | 10, hq => cases hq; exact ⟨ck_of ckX11, ⟨tyX11, tyX11_ok⟩, nmX11⟩
  | 11, hq => cases hq; exact ⟨ck_of ckX12, ⟨tyX12, tyX12_ok⟩, nmX12⟩
  | c + 12, hq => simp [cls] at hq
/-- the field that a getfield or putfield of the class 'own' with this index names: the j-th of class c -/
def FLk (own : String) (idx c j : Nat) : Prop := ∃ (ref : String) (q : vw_C), cls[c]? = some q ∧ j < q.2.2 ∧ (Cond.fieldLink own idx ref (q.2.1 j).2.1 (q.2.1 j).2.2.1 ∈ wsAll ∨ ∃ host, Cond.fieldLinkNest own idx ref (q.2.1 j).2.1 (q.2.1 j).2.2.1 host ∈ nestAll) ∧ (ref = (q.2.1 j).1 ∨ Cond.sameField ref (q.2.1 j).1 (q.2.1 j).2.1 (q.2.1 j).2.2.1 ∈ wsAll)
theorem A_get (hG : Cx cc own nL fr lo G) {idx k c j : Nat} {v : Value} (d : decode cc pc = .ok (.getfield idx, 3)) (hf : FLk own idx c j) (hc : c < 12) (hk : obk k = c + 1) (hv : ∀ ad : Nat → Nat, fvv ad (h.1 k) (h.2.2 k) k c j = cv ad v) (kk : G (pc + 3) L (v :: st) h) : G pc L (.ref k :: st) h := by
  obtain ⟨p, l, e, R, s, m, args, below, meth, c0, D, cA, ad, A, cells, slots, Q, F, rfl⟩ := hG
  intro H locs ls hR hS hl
  obtain ⟨ref, q, hq, hj, hlink, hsame⟩ := hf
  obtain ⟨q', cell, hq', hcell, hcl, hvm, hsl⟩ := (hR.2 k).2.2.2.2.2 c hc hk
  cases hq.symm.trans hq'
  have hK := F.2.2.2.2.2.1.1
  have hts := F.2.2.2.2.1
  obtain ⟨hS0, hfc, kC, hkC, hkind⟩ := hK.1 c _ hq
  obtain ⟨cf, kf, fi, f, hi, hfs⟩ := hS0 j hj
  have hst := (u_facts hfc hkC (u_lays hts (clsok c q hq).1 hj) hi).1
  have hi2 : s.fieldFound? ref (q.2.1 j).2.1 (q.2.1 j).2.2.1 = some (cf, kf, fi, f) := by
    rcases hsame with e1 | e1
    · rw [e1]; exact hi
    · exact u_same (hts _ e1) _ hi
  have hslot : cell.slots[f.slot]? = some (cv ad v) := by rw [hfs, hsl j hj, hv]
  rcases hlink with e1 | ⟨host, e1⟩
  · exact W.getf F.1 F.2.1 F.2.2.2.1 (hts _ e1) hi2 hst hcell (by rw [hvm]; exact fun h => by cases h) hslot rfl rfl d (kk H locs ls hR hS hl)
  · exact va_Wgetf F.1 F.2.1 F.2.2.2.1 (va_Nw.use rfl (F.2.2.2.2.2.1.2.2.2 _ e1)) hi2 hst hcell (by rw [hvm]; exact fun h => by cases h) hslot rfl rfl d (kk H locs ls hR hS hl)
theorem A_getI (hG : Cx cc own nL fr lo G) {idx k c j : Nat} {z : Int} (d : decode cc pc = .ok (.getfield idx, 3)) (hf : FLk own idx c j) (hc : c < 12) (hk : obk k = c + 1) (ht : (fcode c j).1 = 0) (hz : (j : Int) = z) (kk : G (pc + 3) L (vI (h.1 k z) :: st) h) : G pc L (.ref k :: st) h := by
  subst hz
  exact A_get hG d hf hc hk (fun ad => by rw [fvv, if_pos ht]; rfl) kk
theorem A_getR (hG : Cx cc own nL fr lo G) {idx k c j r : Nat} (d : decode cc pc = .ok (.getfield idx, 3)) (hf : FLk own idx c j) (hc : c < 12) (hk : obk k = c + 1) (ht : ¬ (fcode c j).1 = 0) (hr : frn (h.2.2 k) k c j = r) (kk : G (pc + 3) L (.ref r :: st) h) : G pc L (.ref k :: st) h := by
  subst hr
  exact A_get hG d hf hc hk (fun ad => by rw [fvv, if_neg ht]; rfl) kk
theorem A_put (hG : Cx cc own nL fr lo G) {idx k c j : Nat} {v : Value} {ty : FieldType} {h' : AH} (d : decode cc pc = .ok (.putfield idx, 3)) (hf : FLk own idx c j) (hc : c < 12) (hk : obk k = c + 1)
    (hnf : ∀ q, cls[c]? = some q → (q.2.1 j).2.2.2 = false ∧ parseFieldDescriptor (q.2.1 j).2.2.1 = some ty) (hnr : ∀ ad : Nat → Nat, narrow ty (cv ad v) = cv ad v ∧ fits ty (cv ad v) = true) (hi' : ∀ q z, ir (h.1 q z) → ir (h'.1 q z))
    (h1 : ∀ q, q ≠ k → h'.1 q = h.1 q) (h2 : ∀ q, q ≠ k → h'.2.1 q = h.2.1 q) (h3 : ∀ q, q ≠ k → h'.2.2 q = h.2.2 q) (hn : ∀ (ad : Nat → Nat) (i : Nat), fvv ad (h'.1 k) (h'.2.2 k) k c i = if i = j then cv ad v else fvv ad (h.1 k) (h.2.2 k) k c i)
    (kk : G (pc + 3) L st h') : G pc L (v :: .ref k :: st) h := by
  obtain ⟨p, l, e, R, s, m, args, below, meth, c0, D, cA, ad, A, cells, slots, Q, F, rfl⟩ := hG
  intro H locs ls hR hS hl
  obtain ⟨ref, q, hq, hj, hlink, hsame⟩ := hf
  obtain ⟨q', cell, hq', hcell, hcl, hvm, hsl⟩ := (hR.2 k).2.2.2.2.2 c hc hk
  cases hq.symm.trans hq'
  have hK := F.2.2.2.2.2.1.1
  have hA := F.2.2.2.2.2.1.2.1
  have hts := F.2.2.2.2.1
  obtain ⟨hnf1, hnf2⟩ := hnf q hq
  obtain ⟨cw1, ⟨ty0, cw2⟩, cw3⟩ := clsok c q hq
  have hap := va_apart (own := own) (tys := ctys cA) hts cw1 ty0 cw2 cw3 hK hq
  obtain ⟨hS0, hfc, kC, hkC, hkind⟩ := hK.1 c _ hq
  obtain ⟨cf, kf, fi, f, hi, hfs⟩ := hS0 j hj
  have hlay := hts _ (cw1 _ (u_in_lay hj))
  unfold u_lay at hlay
  rw [if_neg (by rw [hnf1]; decide)] at hlay
  have hst := (u_facts hfc hkC (u_lays hts cw1 hj) hi).1
  have hi2 : s.fieldFound? ref (q.2.1 j).2.1 (q.2.1 j).2.2.1 = some (cf, kf, fi, f) := by
    rcases hsame with e1 | e1
    · rw [e1]; exact hi
    · exact u_same (hts _ e1) _ hi
  have h6 := u_store hfc hkC hkind hlay hi hnf2 (hnr ad).1 (hnr ad).2
  have hlt : f.slot < cell.slots.size := by rw [hfs]; exact k2_hasslot (hsl j hj)
  have fin : ∀ H1 : Heap, H1[ad k]? = some (cell.setSlot f.slot (cv ad v)) → H1.size = H.size → (∀ q, q ≠ ad k → H1[q]? = H[q]?) → W p l e R s m args below meth c0 H1 (locs ++ [⟨ad k, f.slot⟩]) cells slots Q (F0 m (pc + 3) ls (st.map (cv ad))) := by
    intro H1 e1 e2 e3
    refine kk H1 _ ls ?_ (hS.put e2 e3 (hA.2 k (by omega) (by omega))) hl
    refine Rel.set (k := k) hR hA ⟨by omega, by omega⟩ (fun q z => hi' q z (hR.1 q z)) h1 h2 h3 e3 ?_
    refine ⟨fun q => by omega, fun q => by omega, fun q => by omega, fun q => by omega, fun q => by omega, fun c' g1 g2 => ?_⟩
    have hcc : c' = c := by omega
    subst hcc
    refine ⟨q, _, hq, e1, hcl, hvm, fun i hi3 => ?_⟩
    rw [hfs, t_set hsl hap hj (cv ad v) i hi3, hn]
    simp only [updV]
  rcases hlink with e1 | ⟨host, e1⟩
  · exact W.putK F.1 F.2.1 (f := f) ⟨F.2.2.2.1, hts _ e1, ⟨_, _, _, hi2⟩, hst⟩ (by rw [hcl]; exact h6) hcell hvm hlt rfl rfl d fin
  · exact va_WputK F.1 F.2.1 F.2.2.2.1 (va_Nw.use rfl (F.2.2.2.2.2.1.2.2.2 _ e1)) hi2 hst (by rw [hcl]; exact h6) hcell hvm hlt rfl rfl d fin
theorem A_putI (hG : Cx cc own nL fr lo G) {idx k c j : Nat} {z v : Int} {ty : FieldType} (d : decode cc pc = .ok (.putfield idx, 3)) (hf : FLk own idx c j) (hc : c < 12) (hk : obk k = c + 1) (hnf : ∀ q, cls[c]? = some q → (q.2.1 j).2.2.2 = false ∧ parseFieldDescriptor (q.2.1 j).2.2.1 = some ty) (ht : (fcode c j).1 = 0) (hz : (j : Int) = z) (hv : ir v) (hty : ty = .int ∨ ty = .boolean ∧ (v = 0 ∨ v = 1))
    (kk : G (pc + 3) L st (hwi h k z v)) : G pc L (vI v :: .ref k :: st) h := by
  subst hz
  refine A_put (h' := hwi h k j v) hG d hf hc hk hnf (fun ad => ?_) (fun q z hq => ?_) (fun q hq => sw_ne _ _ _ hq) (fun q _ => rfl) (fun q _ => rfl) (fun ad i => ?_) kk
  · rcases hty with rfl | ⟨rfl, rfl | rfl⟩ <;> exact ⟨rfl, rfl⟩
  · by_cases hqk : q = k
    · subst hqk
      show ir (sw h.1 q j v q z)
      rw [sw_eq]
      show ir (if z = j then v else h.1 q z)
      by_cases hj : z = (j : Int)
      · rw [if_pos hj]; exact hv
      · rw [if_neg hj]; exact hq
    · show ir (sw h.1 k j v q z)
      rw [sw_ne _ _ _ hqk]; exact hq
  · show fvv ad (sw h.1 k j v k) (h.2.2 k) k c i = _
    rw [sw_eq]
    by_cases hi : i = j
    · subst hi
      rw [if_pos rfl, fvv, if_pos ht, if_pos rfl]; rfl
    · rw [if_neg hi, fvv, fvv, if_neg (show ¬ (i : Int) = (j : Int) by omega)]
theorem A_putR (hG : Cx cc own nL fr lo G) {idx k c j r : Nat} {z : Int} {ty : FieldType} (d : decode cc pc = .ok (.putfield idx, 3)) (hf : FLk own idx c j) (hc : c < 12) (hk : obk k = c + 1) (hnf : ∀ q, cls[c]? = some q → (q.2.1 j).2.2.2 = false ∧ parseFieldDescriptor (q.2.1 j).2.2.1 = some ty) (ht : (fcode c j).1 = 3) (hz : (j : Int) = z) (hty : ∃ n, ty = .object n)
    (kk : G (pc + 3) L st (hwr h k z r)) : G pc L (.ref r :: .ref k :: st) h := by
  subst hz
  refine A_put (h' := hwr h k j r) hG d hf hc hk hnf (fun ad => ?_) (fun q z hq => hq) (fun q _ => rfl) (fun q _ => rfl) (fun q hq => sw_ne _ _ _ hq) (fun ad i => ?_) kk
  · obtain ⟨n, rfl⟩ := hty; exact ⟨rfl, rfl⟩
  · show fvv ad (h.1 k) (sw h.2.2 k j r k) k c i = _
    rw [sw_eq]
    by_cases hi : i = j
    · subst hi
      rw [if_pos rfl, fvv, if_neg (by omega), frn, if_neg (by omega), if_neg (by omega), if_pos rfl]; rfl
    · rw [if_neg hi, fvv, fvv, frn, frn, if_neg (show ¬ (i : Int) = (j : Int) by omega)]
theorem A_gets (hG : Cx cc own nL fr lo G) {idx k : Nat} (d : decode cc pc = .ok (.getstatic idx, 3)) (hk : obk k = 25) (hl0 : Cond.fieldLink own idx RX11 (nmS.getD (k - 600) "") "[I" ∈ wsAll ∨ ∃ host, Cond.fieldLinkNest own idx RX11 (nmS.getD (k - 600) "") "[I" host ∈ nestAll) (kk : G (pc + 3) L (.ref k :: st) h) : G pc L st h := by
  obtain ⟨p, l, e, R, s, m, args, below, meth, c, D, cA, ad, A, cells, slots, Q, F, rfl⟩ := hG
  intro H locs ls hR hS hl
  have hZ := (F.2.2.2.2.2.1.2.2.1 k hk).1
  rcases hl0 with e1 | ⟨host, e1⟩
  · exact va_gets F.1 F.2.1 hZ hS F.2.2.2.1 (F.2.2.2.2.1 _ e1) (fun _ x => x) d (kk H locs ls hR hS hl)
  · exact va_getsN F.1 F.2.1 hZ hS F.2.2.2.1 (va_Nw.use rfl (F.2.2.2.2.2.1.2.2.2 _ e1)) (fun _ x => x) d (kk H locs ls hR hS hl)
/-- behind a call -/
theorem AW_run {p : Program} {l : Launch} {e : Env} {R : Room} {s : State} {m : MethodId} {args : Array Value} {below : List Frame} {meth : Method} {c : Code} {D : va_G} {cA : Nat → ClassId} {ad : Nat → Nat} {A : Nat → Prop} {cells slots : Nat} {Q : State → Prop} {H : Heap} {locs : List Loc} {ls : Array Slot} {st0 rest : List Value} {a : Array Value} {QR : Option Value → AH → Prop}
    (hr : va_Run p l e R s m args below meth c H locs cells slots 0 0 (F0 m pc ls st0) (rest.map (cv ad)) (Qm D cA ad A QR a) A) (hS : va_S A s.heap H locs) (hl : lv_has ls nL (L.map (fun q => (q.1, cv ad q.2))))
    (kk : ∀ (v : Option Value) (h' : AH), QR v h' → AW p l e R s m args below meth c nL D cA ad A cells slots Q (pc + 3) L (v.toList ++ rest) h') : W p l e R s m args below meth c H locs cells slots Q (F0 m pc ls st0) := by
  intro T hT X
  obtain ⟨v, st₀, t, T', Lc, h0, X', hL, e1, e2, ⟨⟨v', h', hv, hq, hWd⟩, hz, hkp⟩, stp⟩ := hr T hT X
  cases hv
  rw [h0] at hz hkp
  have hS1 : va_S A s.heap T'.heap (locs ++ Lc) := ⟨Nat.le_trans hS.1 (by rw [e1]; exact hz), fun q h1 h2 => by rw [e1, hkp q (Nat.lt_of_lt_of_le h1 hS.1) h2]; exact hS.2.1 q h1 h2, fun q hq => by
    rcases List.mem_append.mp hq with h | h
    · exact hS.2.2 q h
    · exact hL q h⟩
  have k1 := kk v' h' hq T'.heap (locs ++ Lc) ls (by rw [e1]; exact hWd.1) hS1 hl
  have e3 : (v'.toList ++ rest).map (cv ad) = (v'.map (cv ad)).toList ++ rest.map (cv ad) := by cases v' <;> simp
  rw [e3] at k1
  obtain ⟨t2, a1, b1⟩ := k1 T' rfl X'
  exact ⟨t2, stp t2 a1, b1⟩
/-- what the tables say of a method that is called -/
def MFc (y : MethodName) (b : ByteArray) (nLy : Nat) (ret : Option FieldType) (n : Nat) : Prop := Cond.code y b nLy ret ∈ wsAll ∧ Cond.initialized y.cls ∈ wsAll ∧ (y.cls ≠ "java/lang/invoke/MethodHandle" ∧ y.cls ≠ "java/lang/invoke/VarHandle") ∧ (parseMethodDescriptor y.desc).map (fun d => d.parameters.length) = some n
def MLk (own : String) (idx : Nat) (y : MethodName) : Prop := Cond.methodLink own idx y ∈ wsAll ∨ ∃ host, Cond.methodLinkNest own idx y host ∈ nestAll
theorem MF_len {y : MethodName} {b : ByteArray} {nLy n : Nat} {ret : Option FieldType} (hm : MFc y b nLy ret n) : ∀ sig, parseMethodDescriptor y.desc = some sig → n = sig.parameters.length := fun sig hs => by
  have h2 := hm.2.2.2
  rw [hs] at h2
  exact (Option.some.inj h2).symm
theorem ws_pay {args : Array Value} {s : State} {y : MethodName} {b : ByteArray} {nLy : Nat} {ret : Option FieldType} (hts : ∀ w ∈ wsAll, w.before args s = true) (hc : Cond.code y b nLy ret ∈ wsAll) : ∀ w ∈ (Cond.code y b nLy ret :: wsAll), ∀ (a' : Array Value) (U : State), s.WarmedH U.vm → w.before a' U = true :=
  pay_in hts (fun w hw => by
    have hm : w ∈ wsAll := by
      rcases List.mem_cons.mp hw with e | e
      · rw [e]; exact hc
      · exact e
    exact ⟨hm, good_of_word (wsAll_good w hm)⟩)
theorem cat_cv (ad : Nat → Nat) (l : List Value) : ((l.map (cv ad)).map fun v => v.category).sum = (l.map fun v => v.category).sum := by
  rw [List.map_map]
  congr 2
  funext v
  exact cv_cat ad v
theorem Wld {D : va_G} {cA : Nat → ClassId} {ad : Nat → Nat} {A : Nat → Prop} {s U : State} {H : Heap} {locs : List Loc} (hW0 : Wst D cA ad A s s.heap) (hR : Rel D cA ad h H) (hS : va_S A s.heap H locs) (hU : U.heap = H) (hW : s.WarmedH U.vm) : World D cA ad A h U := by
  subst hU
  exact ⟨hR, (hW0.kept hS.2.1).warm hW⟩
theorem A_callV (hG : Cx cc own nL fr lo G) {idx k c n nLy fr' lo' : Nat} {y : MethodName} {b : ByteArray} {ret : Option FieldType} {q : vw_C} {as st0 : List Value} {QR : Option Value → AH → Prop} (d : decode cc pc = .ok (.invokevirtual idx, 3)) (hl0 : MLk own idx y) (hm : MFc y b nLy ret n) (hi : Cond.instanceMethod y ∈ wsAll) (hs : Cond.selects q.1 y y ∈ wsAll)
    (hq : cls[c]? = some q) (hc : c < 12) (hk : obk k = c + 1) (hM : AMet y b nLy ret fr' lo' (.ref k :: as) h QR) (hfr : fr' + 1 ≤ fr) (hlo : 8 + (nLy + 11) + lo' ≤ lo) (hst : st0 = as.reverse ++ .ref k :: st) (hn : as.length = n) (hw : (st.map fun v => v.category).sum ≤ 8)
    (kk : ∀ (v : Option Value) (h' : AH), QR v h' → G (pc + 3) L (v.toList ++ st) h') : G pc L st0 h := by
  obtain ⟨p, l, e, R, s, m, args, below, meth, c0, D, cA, ad, A, cells, slots, Q, F, rfl⟩ := hG
  intro H locs ls hR hS hl
  obtain ⟨hx, hb, hml, hown, hts, hW0, f1, f2, f3, f4⟩ := F
  obtain ⟨q', cell, hq', hcell, hcl, hvm, -⟩ := (hR.2 k).2.2.2.2.2 c hc hk
  have hrecv : ∃ cellB : Cell, H[ad k]? = some cellB ∧ cellB.vm.isStatics = false ∧ s.vm.findClass q.1 = some cellB.cls := ⟨cell, hcell, by rw [hvm]; rfl, by rw [hcl]; exact (hW0.1.1 c q hq).2.1⟩
  have hp : PreV s H q.1 (ad k) (va_Pc ((.ref k :: as).map (cv ad)) (World D cA ad A h)) (as.map (cv ad)) := ⟨World.blind, hrecv, fun U hU hW => ⟨rfl, Wld hW0 hR hS hU hW⟩⟩
  have hst' : st0.map (cv ad) = (as.map (cv ad)).reverse ++ .ref (ad k) :: st.map (cv ad) := by rw [hst, List.map_append, List.map_reverse]; rfl
  have hW8 : 2 * (F0 m pc ls (st0.map (cv ad))).monitorRoom + ((st.map (cv ad)).map fun v => v.category).sum ≤ 8 := lv_room (by rw [cat_cv]; exact hw)
  have hM1 := hM l D cA ad A
  rcases hl0 with e1 | ⟨host, e1⟩
  · refine AW_run (QR := QR) (va_runV (C := q.1) (As := as.map (cv ad)) (Ts := wsAll) (bytes := b) (maxL := nLy) (ret := ret) (n := n) ⟨hx, hb, hml, hown, hts⟩ hM1 ⟨⟨rfl, rfl, by show fr' + 1 ≤ R.frames; omega, by show 8 + (nLy + 11) + lo' ≤ R.locals; omega, ws_pay hts hm.1, List.mem_cons_self, hts _ hm.1, hts _ hm.2.1, hm.2.2.1, MF_len hm, hts _ e1⟩, hts _ hi, hts _ hs⟩ hp rfl (by rw [List.length_map]; exact hn) hl.1 hst' hW8 d ⟨f3, f4⟩) hS hl kk
  · refine AW_run (QR := QR) (va_runVN (C := q.1) (As := as.map (cv ad)) (Ts := wsAll) (bytes := b) (maxL := nLy) (ret := ret) (n := n) (host := host) ⟨hx, hb, hml, hown, hts⟩ hM1 ⟨⟨⟨rfl, rfl, by show fr' + 1 ≤ R.frames; omega, by show 8 + (nLy + 11) + lo' ≤ R.locals; omega, ws_pay hts hm.1, List.mem_cons_self⟩, hts _ hm.1, hts _ hm.2.1, hm.2.2.1, MF_len hm, va_Nw.use rfl (hW0.2.2.2 _ e1)⟩, hts _ hi, hts _ hs⟩ hp rfl (by rw [List.length_map]; exact hn) hl.1 hst' hW8 d ⟨f3, f4⟩) hS hl kk
theorem A_callS (hG : Cx cc own nL fr lo G) {idx n nLy fr' lo' : Nat} {y : MethodName} {b : ByteArray} {ret : Option FieldType} {as st0 : List Value} {QR : Option Value → AH → Prop} (d : decode cc pc = .ok (.invokestatic idx, 3)) (hl0 : MLk own idx y) (hm : MFc y b nLy ret n) (hi : Cond.static y ∈ wsAll)
    (hM : AMet y b nLy ret fr' lo' as h QR) (hfr : fr' + 1 ≤ fr) (hlo : 8 + (nLy + 11) + lo' ≤ lo) (hst : st0 = as.reverse ++ st) (hn : as.length = n) (hw : (st.map fun v => v.category).sum ≤ 8)
    (kk : ∀ (v : Option Value) (h' : AH), QR v h' → G (pc + 3) L (v.toList ++ st) h') : G pc L st0 h := by
  obtain ⟨p, l, e, R, s, m, args, below, meth, c0, D, cA, ad, A, cells, slots, Q, F, rfl⟩ := hG
  intro H locs ls hR hS hl
  obtain ⟨hx, hb, hml, hown, hts, hW0, f1, f2, f3, f4⟩ := F
  have hp : PreS s H (va_Pc (as.map (cv ad)) (World D cA ad A h)) (as.map (cv ad)) := ⟨World.blind, fun U hU hW => ⟨rfl, Wld hW0 hR hS hU hW⟩⟩
  have hst' : st0.map (cv ad) = (as.map (cv ad)).reverse ++ st.map (cv ad) := by rw [hst, List.map_append, List.map_reverse]
  have hW8 : 2 * (F0 m pc ls (st0.map (cv ad))).monitorRoom + ((st.map (cv ad)).map fun v => v.category).sum ≤ 8 := lv_room (by rw [cat_cv]; exact hw)
  have hM1 := hM l D cA ad A
  rcases hl0 with e1 | ⟨host, e1⟩
  · refine AW_run (QR := QR) (va_runS (As := as.map (cv ad)) (Ts := wsAll) (bytes := b) (maxL := nLy) (ret := ret) (n := n) ⟨hx, hb, hml, hown, hts⟩ hM1 ⟨⟨rfl, rfl, by show fr' + 1 ≤ R.frames; omega, by show 8 + (nLy + 11) + lo' ≤ R.locals; omega, ws_pay hts hm.1, List.mem_cons_self, hts _ hm.1, hts _ hm.2.1, hm.2.2.1, MF_len hm, hts _ e1⟩, hts _ hi⟩ hp rfl (by rw [List.length_map]; exact hn) hl.1 hst' hW8 d ⟨f3, f4⟩) hS hl kk
  · refine AW_run (QR := QR) (va_runSN (As := as.map (cv ad)) (Ts := wsAll) (bytes := b) (maxL := nLy) (ret := ret) (n := n) (host := host) ⟨hx, hb, hml, hown, hts⟩ hM1 ⟨⟨⟨rfl, rfl, by show fr' + 1 ≤ R.frames; omega, by show 8 + (nLy + 11) + lo' ≤ R.locals; omega, ws_pay hts hm.1, List.mem_cons_self⟩, hts _ hm.1, hts _ hm.2.1, hm.2.2.1, MF_len hm, va_Nw.use rfl (hW0.2.2.2 _ e1)⟩, hts _ hi, trivial⟩ hp rfl (by rw [List.length_map]; exact hn) hl.1 hst' hW8 d ⟨f3, f4⟩) hS hl kk
/-- a call of a method that the receiver's class has from another, or has overridden -/
theorem A_callU (hG : Cx cc own nL fr lo G) {idx k c n nLy fr' lo' : Nat} {x y : MethodName} {owner : String} {b : ByteArray} {ret : Option FieldType} {q : vw_C} {as st0 : List Value} {QR : Option Value → AH → Prop} (d : decode cc pc = .ok (.invokevirtual idx, 3)) (hl0 : Cond.methodLink own idx x ∈ wsAll) (hsm : Cond.sameMethod x.cls owner x.name x.desc ∈ wsAll) (hde : Cond.declares ⟨owner, x.name, x.desc⟩ ∈ nestAll) (ho : owner ≠ "java/lang/invoke/MethodHandle" ∧ owner ≠ "java/lang/invoke/VarHandle") (hd0 : x.desc = y.desc) (hm : MFc y b nLy ret n) (hi : Cond.instanceMethod y ∈ wsAll) (hs : Cond.selects q.1 x y ∈ wsAll)
    (hq : cls[c]? = some q) (hc : c < 12) (hk : obk k = c + 1) (hM : AMet y b nLy ret fr' lo' (.ref k :: as) h QR) (hfr : fr' + 1 ≤ fr) (hlo : 8 + (nLy + 11) + lo' ≤ lo) (hst : st0 = as.reverse ++ .ref k :: st) (hn : as.length = n) (hw : (st.map fun v => v.category).sum ≤ 8)
    (kk : ∀ (v : Option Value) (h' : AH), QR v h' → G (pc + 3) L (v.toList ++ st) h') : G pc L st0 h := by
  obtain ⟨p, l, e, R, s, m, args, below, meth, c0, D, cA, ad, A, cells, slots, Q, F, rfl⟩ := hG
  intro H locs ls hR hS hl
  obtain ⟨hx, hb, hml, hown, hts, hW0, f1, f2, f3, f4⟩ := F
  obtain ⟨q', cell, hq', hcell, hcl, hvm, -⟩ := (hR.2 k).2.2.2.2.2 c hc hk
  have hrecv : ∃ cellB : Cell, H[ad k]? = some cellB ∧ cellB.vm.isStatics = false ∧ s.vm.findClass q.1 = some cellB.cls := ⟨cell, hcell, by rw [hvm]; rfl, by rw [hcl]; exact (hW0.1.1 c q hq).2.1⟩
  have hp : PreV s H q.1 (ad k) (va_Pc ((.ref k :: as).map (cv ad)) (World D cA ad A h)) (as.map (cv ad)) := ⟨World.blind, hrecv, fun U hU hW => ⟨rfl, Wld hW0 hR hS hU hW⟩⟩
  have hst' : st0.map (cv ad) = (as.map (cv ad)).reverse ++ .ref (ad k) :: st.map (cv ad) := by rw [hst, List.map_append, List.map_reverse]; rfl
  have hW8 : 2 * (F0 m pc ls (st0.map (cv ad))).monitorRoom + ((st.map (cv ad)).map fun v => v.category).sum ≤ 8 := lv_room (by rw [cat_cv]; exact hw)
  have hM1 := hM l D cA ad A
  refine AW_run (QR := QR) (va_runU (C := q.1) (owner := owner) (x := x) (As := as.map (cv ad)) (Ts := wsAll) (bytes := b) (maxL := nLy) (ret := ret) (n := n) ⟨hx, hb, hml, hown, hts⟩ hM1 ⟨⟨rfl, rfl, by show fr' + 1 ≤ R.frames; omega, by show 8 + (nLy + 11) + lo' ≤ R.locals; omega, ws_pay hts hm.1, List.mem_cons_self⟩, hts _ hm.1, hts _ hm.2.1, ho, by rw [hd0]; exact MF_len hm, hts _ hl0, hts _ hsm, va_Decl.abs (hW0.2.2.2 _ hde), hts _ hs, hts _ hi⟩ hp rfl (by rw [List.length_map]; exact hn) hl.1 hst' hW8 d ⟨f3, f4⟩) hS hl kk
variable {QR : Option Value → AH → Prop}
theorem A_iret (hM : CxM cc own nL fr lo (some .int) QR G) (d : decode cc pc = .ok (.ireturn, 1)) {z : Int} (hq : QR (some (vI z)) h) : G pc L [vI z] h := by
  obtain ⟨p, l, e, R, s, m, args, below, meth, c, D, cA, ad, A, F, hr, hlk, rfl⟩ := hM
  intro H locs ls hR hS hl
  exact W.iret (v := Int32.ofInt z) F.1 F.2.1 hr (fun t ht hW => ⟨⟨some (vI z), h, rfl, hq, Wld F.2.2.2.2.2.1 hR hS ht hW⟩, hS.F ht⟩) hS.2.2 d hlk
theorem A_zret (hM : CxM cc own nL fr lo (some .boolean) QR G) (d : decode cc pc = .ok (.ireturn, 1)) {z : Int} (hz : z = 0 ∨ z = 1) (hq : QR (some (vI z)) h) : G pc L [vI z] h := by
  obtain ⟨p, l, e, R, s, m, args, below, meth, c, D, cA, ad, A, F, hr, hlk, rfl⟩ := hM
  intro H locs ls hR hS hl
  exact W.zret (v := Int32.ofInt z) F.1 F.2.1 hr (by rcases hz with rfl | rfl <;> rfl) (fun t ht hW => ⟨⟨some (vI z), h, rfl, hq, Wld F.2.2.2.2.2.1 hR hS ht hW⟩, hS.F ht⟩) hS.2.2 d hlk
theorem A_lret (hM : CxM cc own nL fr lo (some .long) QR G) (d : decode cc pc = .ok (.lreturn, 1)) {x : Int64} (hq : QR (some (.long x)) h) : G pc L [.long x] h := by
  obtain ⟨p, l, e, R, s, m, args, below, meth, c, D, cA, ad, A, F, hr, hlk, rfl⟩ := hM
  intro H locs ls hR hS hl
  exact W.lret (v := x) F.1 F.2.1 hr (fun t ht hW => ⟨⟨some (.long x), h, rfl, hq, Wld F.2.2.2.2.2.1 hR hS ht hW⟩, hS.F ht⟩) hS.2.2 d hlk
theorem A_aret {n0 : String} (hM : CxM cc own nL fr lo (some (.object n0)) QR G) (d : decode cc pc = .ok (.areturn, 1)) {k : Nat} (hq : QR (some (.ref k)) h) : G pc L [.ref k] h := by
  obtain ⟨p, l, e, R, s, m, args, below, meth, c, D, cA, ad, A, F, hr, hlk, rfl⟩ := hM
  intro H locs ls hR hS hl
  exact W.aret (v := .ref (ad k)) F.1 F.2.1 hr (Or.inl ⟨_, rfl⟩) (Or.inr ⟨_, rfl⟩) (fun t ht hW => ⟨⟨some (.ref k), h, rfl, hq, Wld F.2.2.2.2.2.1 hR hS ht hW⟩, hS.F ht⟩) hS.2.2 d hlk
theorem A_vret (hM : CxM cc own nL fr lo none QR G) (d : decode cc pc = .ok (.return_, 1)) (hq : QR none h) : G pc L [] h := by
  obtain ⟨p, l, e, R, s, m, args, below, meth, c, D, cA, ad, A, F, hr, hlk, rfl⟩ := hM
  intro H locs ls hR hS hl
  exact W.vret F.1 F.2.1 hr (fun t ht hW => ⟨⟨none, h, rfl, hq, Wld F.2.2.2.2.2.1 hR hS ht hW⟩, hS.F ht⟩) hS.2.2 d hlk
end CALL
