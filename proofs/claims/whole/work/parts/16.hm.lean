/-! PICTURES AS A BASE AND CHANGED OBJECTS (printed by gen/hm.py) -/
section HM
def up {α : Type} (f : Int → α) (z : Int) (v : α) : Int → α := fun j => if j = z then v else f j
theorem up_eq {α : Type} (f : Int → α) (z : Int) (v : α) : up f z v z = v := if_pos rfl
theorem up_ne {α : Type} (f : Int → α) {z j : Int} (v : α) (h : j ≠ z) : up f z v j = f j := if_neg h
def alk {α : Type} (l : List (Nat × (Int → α))) (q : Nat) (d : Int → α) : Int → α := match l with
  | [] => d
  | (k, f) :: t => if q = k then f else alk t q d
def aset {α : Type} (l : List (Nat × (Int → α))) (k : Nat) (f : Int → α) : List (Nat × (Int → α)) := match l with
  | [] => [(k, f)]
  | (q, g) :: t => if k = q then (k, f) :: t else (q, g) :: aset t k f
def amg {α : Type} (a b : List (Nat × (Int → α))) : List (Nat × (Int → α)) := match b with
  | [] => a
  | (k, f) :: t => aset (amg a t) k f
theorem alk_aset {α : Type} (l : List (Nat × (Int → α))) (k : Nat) (f : Int → α) (q : Nat) (d : Int → α) : alk (aset l k f) q d = if q = k then f else alk l q d := by
  induction l with
  | nil => rfl
  | cons p t ih =>
    obtain ⟨k', f'⟩ := p
    by_cases h1 : k = k'
    · subst h1
      simp only [aset, if_pos, alk]
      by_cases h2 : q = k
      · simp [h2]
      · simp [h2]
    · simp only [aset, if_neg h1, alk, ih]
      by_cases h2 : q = k'
      · subst h2
        simp [Ne.symm h1]
      · simp [h2]
theorem alk_amg {α : Type} (a b : List (Nat × (Int → α))) (q : Nat) (d : Int → α) : alk (amg a b) q d = alk b q (alk a q d) := by
  induction b with
  | nil => rfl
  | cons p t ih =>
    obtain ⟨k, f⟩ := p
    simp only [amg, alk_aset, alk, ih]
def hm (h : AH) (li : List (Nat × (Int → Int))) (ll : List (Nat × (Int → Int64))) (lr : List (Nat × (Int → Nat))) : AH := (fun q => alk li q (h.1 q), fun q => alk ll q (h.2.1 q), fun q => alk lr q (h.2.2 q))
theorem hm_0 (h : AH) : hm h [] [] [] = h := rfl
theorem hm_hm (h : AH) (a a' : List (Nat × (Int → Int))) (b b' : List (Nat × (Int → Int64))) (c c' : List (Nat × (Int → Nat))) : hm (hm h a b c) a' b' c' = hm h (amg a a') (amg b b') (amg c c') := by
  unfold hm
  refine Prod.ext (funext fun q => ?_) (Prod.ext (funext fun q => ?_) (funext fun q => ?_))
  · exact (alk_amg a a' q _).symm
  · exact (alk_amg b b' q _).symm
  · exact (alk_amg c c' q _).symm
theorem sw_alk {α : Type} (l : List (Nat × (Int → α))) (f : Nat → Int → α) (k : Nat) (z : Int) (v : α) : sw (fun q => alk l q (f q)) k z v = fun q => alk (aset l k (up (alk l k (f k)) z v)) q (f q) := by
  funext q
  rw [alk_aset]
  by_cases hq : q = k
  · subst hq
    rw [sw_eq, if_pos rfl]; rfl
  · rw [sw_ne _ _ _ hq, if_neg hq]
variable {cc : ByteArray} {own : String} {nL fr lo : Nat} {G : GT} {pc : Nat} {L L' : List (Nat × Value)} {st : List Value} {h : AH} {li li' : List (Nat × (Int → Int))} {ll ll' : List (Nat × (Int → Int64))} {lr lr' : List (Nat × (Int → Nat))}
theorem hm_wi (h : AH) (k : Nat) (z v : Int) : hwi (hm h li ll lr) k z v = hm h (aset li k (up (alk li k (h.1 k)) z v)) ll lr := Prod.ext (sw_alk li h.1 k z v) rfl
theorem hm_wl (h : AH) (k : Nat) (z : Int) (v : Int64) : hwl (hm h li ll lr) k z v = hm h li (aset ll k (up (alk ll k (h.2.1 k)) z v)) lr := Prod.ext rfl (Prod.ext (sw_alk ll h.2.1 k z v) rfl)
theorem hm_wr (h : AH) (k : Nat) (z : Int) (v : Nat) : hwr (hm h li ll lr) k z v = hm h li ll (aset lr k (up (alk lr k (h.2.2 k)) z v)) := Prod.ext rfl (Prod.ext rfl (sw_alk lr h.2.2 k z v))
theorem A_hm0 (k : G pc L st (hm h [] [] [])) : G pc L st h := k
theorem A_hm {a a' la : List (Nat × (Int → Int))} {b b' lb : List (Nat × (Int → Int64))} {c c' lc : List (Nat × (Int → Nat))} (e1 : amg a a' = la) (e2 : amg b b' = lb) (e3 : amg c c' = lc) (k : G pc L st (hm h la lb lc)) : G pc L st (hm (hm h a b c) a' b' c') := by
  rw [hm_hm, e1, e2, e3]; exact k
theorem M_iald (hG : Cx cc own nL fr lo G) (d : decode cc pc = .ok (.iaload, 1)) {k : Nat} {z v : Int} {N : Nat} (hk : obk k = 20) (hn : obn k = N) (hin : 0 ≤ z ∧ z < N) (hv : alk li k (h.1 k) z = v) (kk : ir v → G (pc + 1) L (vI v :: st) (hm h li ll lr)) : G pc L (vI z :: .ref k :: st) (hm h li ll lr) := by
  subst hv
  exact A_iald hG d hk hn hin (A_rng hG (fun rg => kk (rg k z)))
theorem M_zald (hG : Cx cc own nL fr lo G) (d : decode cc pc = .ok (.baload, 1)) {k : Nat} {z v : Int} {N : Nat} (hk : obk k = 21) (hn : obn k = N) (hin : 0 ≤ z ∧ z < N) (hv : alk li k (h.1 k) z = v) (kk : ir v → G (pc + 1) L (vI v :: st) (hm h li ll lr)) : G pc L (vI z :: .ref k :: st) (hm h li ll lr) := by
  subst hv
  exact A_zald hG d hk hn hin (A_rng hG (fun rg => kk (rg k z)))
theorem M_lald (hG : Cx cc own nL fr lo G) (d : decode cc pc = .ok (.laload, 1)) {k : Nat} {z : Int} {v : Int64} {N : Nat} (hk : obk k = 22) (hn : obn k = N) (hin : 0 ≤ z ∧ z < N) (hv : alk ll k (h.2.1 k) z = v) (kk : G (pc + 1) L (.long v :: st) (hm h li ll lr)) : G pc L (vI z :: .ref k :: st) (hm h li ll lr) := by
  subst hv
  exact A_lald hG d hk hn hin kk
theorem M_aald (hG : Cx cc own nL fr lo G) (d : decode cc pc = .ok (.aaload, 1)) {k r : Nat} {z : Int} {N : Nat} (hk : obk k = 23 ∨ obk k = 24) (hn : obn k = N) (hin : 0 ≤ z ∧ z < N) (hv : alk lr k (h.2.2 k) z = r) (kk : G (pc + 1) L (.ref r :: st) (hm h li ll lr)) : G pc L (vI z :: .ref k :: st) (hm h li ll lr) := by
  subst hv
  exact A_aald hG d hk hn hin kk
theorem M_iast (hG : Cx cc own nL fr lo G) (d : decode cc pc = .ok (.iastore, 1)) {k : Nat} {z v : Int} {N : Nat} (hk : obk k = 20) (hn : obn k = N) (hin : 0 ≤ z ∧ z < N) (hv : ir v) (hl : aset li k (up (alk li k (h.1 k)) z v) = li') (kk : G (pc + 1) L st (hm h li' ll lr)) : G pc L (vI v :: vI z :: .ref k :: st) (hm h li ll lr) := by
  subst hl
  exact A_iast hG d hk hn hin hv (by rw [hm_wi]; exact kk)
theorem M_zast (hG : Cx cc own nL fr lo G) (d : decode cc pc = .ok (.bastore, 1)) {k : Nat} {z v : Int} {N : Nat} (hk : obk k = 21) (hn : obn k = N) (hin : 0 ≤ z ∧ z < N) (hv : v = 0 ∨ v = 1) (hl : aset li k (up (alk li k (h.1 k)) z v) = li') (kk : G (pc + 1) L st (hm h li' ll lr)) : G pc L (vI v :: vI z :: .ref k :: st) (hm h li ll lr) := by
  subst hl
  exact A_zast hG d hk hn hin hv (by rw [hm_wi]; exact kk)
theorem M_last (hG : Cx cc own nL fr lo G) (d : decode cc pc = .ok (.lastore, 1)) {k : Nat} {z : Int} {v : Int64} {N : Nat} (hk : obk k = 22) (hn : obn k = N) (hin : 0 ≤ z ∧ z < N) (hl : aset ll k (up (alk ll k (h.2.1 k)) z v) = ll') (kk : G (pc + 1) L st (hm h li ll' lr)) : G pc L (.long v :: vI z :: .ref k :: st) (hm h li ll lr) := by
  subst hl
  exact A_last hG d hk hn hin (by rw [hm_wl]; exact kk)
theorem M_aast (hG : Cx cc own nL fr lo G) (d : decode cc pc = .ok (.aastore, 1)) {k r : Nat} {z : Int} {N : Nat} (hk : obk k = 23) (hn : obn k = N) (hr : obk r = 8) (hin : 0 ≤ z ∧ z < N) (hl : aset lr k (up (alk lr k (h.2.2 k)) z r) = lr') (kk : G (pc + 1) L st (hm h li ll lr')) : G pc L (.ref r :: vI z :: .ref k :: st) (hm h li ll lr) := by
  subst hl
  exact A_aast hG d hk hn hr hin (by rw [hm_wr]; exact kk)
theorem M_getI (hG : Cx cc own nL fr lo G) {idx k c j : Nat} {z v : Int} (d : decode cc pc = .ok (.getfield idx, 3)) (hf : FLk own idx c j) (hc : c < 12) (hk : obk k = c + 1) (ht : (fcode c j).1 = 0) (hz : (j : Int) = z) (hv : alk li k (h.1 k) z = v) (kk : ir v → G (pc + 3) L (vI v :: st) (hm h li ll lr)) : G pc L (.ref k :: st) (hm h li ll lr) := by
  subst hv
  exact A_getI hG d hf hc hk ht hz (A_rng hG (fun rg => kk (rg k z)))
theorem M_putI (hG : Cx cc own nL fr lo G) {idx k c j : Nat} {z v : Int} {ty : FieldType} (d : decode cc pc = .ok (.putfield idx, 3)) (hf : FLk own idx c j) (hc : c < 12) (hk : obk k = c + 1) (hnf : ∀ q, cls[c]? = some q → (q.2.1 j).2.2.2 = false ∧ parseFieldDescriptor (q.2.1 j).2.2.1 = some ty) (ht : (fcode c j).1 = 0) (hz : (j : Int) = z) (hv : ir v) (hty : ty = .int ∨ ty = .boolean ∧ (v = 0 ∨ v = 1)) (hl : aset li k (up (alk li k (h.1 k)) z v) = li')
    (kk : G (pc + 3) L st (hm h li' ll lr)) : G pc L (vI v :: .ref k :: st) (hm h li ll lr) := by
  subst hl
  exact A_putI hG d hf hc hk hnf ht hz hv hty (by rw [hm_wi]; exact kk)
theorem M_putR (hG : Cx cc own nL fr lo G) {idx k c j r : Nat} {z : Int} {ty : FieldType} (d : decode cc pc = .ok (.putfield idx, 3)) (hf : FLk own idx c j) (hc : c < 12) (hk : obk k = c + 1) (hnf : ∀ q, cls[c]? = some q → (q.2.1 j).2.2.2 = false ∧ parseFieldDescriptor (q.2.1 j).2.2.1 = some ty) (ht : (fcode c j).1 = 3) (hz : (j : Int) = z) (hty : ∃ n, ty = .object n) (hl : aset lr k (up (alk lr k (h.2.2 k)) z r) = lr')
    (kk : G (pc + 3) L st (hm h li ll lr')) : G pc L (.ref r :: .ref k :: st) (hm h li ll lr) := by
  subst hl
  exact A_putR hG d hf hc hk hnf ht hz hty (by rw [hm_wr]; exact kk)
/-! contracts by what they answer -/
def Qi (P : Int → AH → Prop) : Option Value → AH → Prop := fun v h' => ∃ z : Int, v = some (vI z) ∧ ir z ∧ P z h'
def Ql (P : Int64 → AH → Prop) : Option Value → AH → Prop := fun v h' => ∃ x : Int64, v = some (.long x) ∧ P x h'
def Qr (P : Nat → AH → Prop) : Option Value → AH → Prop := fun v h' => ∃ k : Nat, v = some (.ref k) ∧ P k h'
def Qv (P : AH → Prop) : Option Value → AH → Prop := fun v h' => v = none ∧ P h'
theorem Ret_i {P : Int → AH → Prop} (hM : CxM cc own nL fr lo (some .int) (Qi P) G) (d : decode cc pc = .ok (.ireturn, 1)) {z : Int} (hz : ir z) (hp : P z h) : G pc L [vI z] h := A_iret hM d ⟨z, rfl, hz, hp⟩
theorem Ret_z {P : Int → AH → Prop} (hM : CxM cc own nL fr lo (some .boolean) (Qi P) G) (d : decode cc pc = .ok (.ireturn, 1)) {z : Int} (hz : z = 0 ∨ z = 1) (hp : P z h) : G pc L [vI z] h := A_zret hM d hz ⟨z, rfl, by rcases hz with rfl | rfl <;> constructor <;> decide, hp⟩
theorem Ret_l {P : Int64 → AH → Prop} (hM : CxM cc own nL fr lo (some .long) (Ql P) G) (d : decode cc pc = .ok (.lreturn, 1)) {x : Int64} (hp : P x h) : G pc L [.long x] h := A_lret hM d ⟨x, rfl, hp⟩
theorem Ret_r {n0 : String} {P : Nat → AH → Prop} (hM : CxM cc own nL fr lo (some (.object n0)) (Qr P) G) (d : decode cc pc = .ok (.areturn, 1)) {k : Nat} (hp : P k h) : G pc L [.ref k] h := A_aret hM d ⟨k, rfl, hp⟩
theorem Ret_v {P : AH → Prop} (hM : CxM cc own nL fr lo none (Qv P) G) (d : decode cc pc = .ok (.return_, 1)) (hp : P h) : G pc L [] h := A_vret hM d ⟨rfl, hp⟩
theorem C_Vi (hG : Cx cc own nL fr lo G) {idx k c n nLy fr' lo' : Nat} {y : MethodName} {b : ByteArray} {ret : Option FieldType} {q : vw_C} {as st0 : List Value} {P : Int → AH → Prop} (d : decode cc pc = .ok (.invokevirtual idx, 3)) (hl0 : MLk own idx y) (hm : MFc y b nLy ret n) (hi : Cond.instanceMethod y ∈ wsAll) (hs : Cond.selects q.1 y y ∈ wsAll)
    (hq : cls[c]? = some q) (hc : c < 12) (hk : obk k = c + 1) (hM : AMet y b nLy ret fr' lo' (.ref k :: as) h (Qi P)) (hfr : fr' + 1 ≤ fr) (hlo : 8 + (nLy + 11) + lo' ≤ lo) (hst : st0 = as.reverse ++ .ref k :: st) (hn : as.length = n) (hw : (st.map fun v => v.category).sum ≤ 8)
    (kk : ∀ (z : Int) (h' : AH), ir z → P z h' → G (pc + 3) L (vI z :: st) h') : G pc L st0 h := A_callV hG d hl0 hm hi hs hq hc hk hM hfr hlo hst hn hw (fun v h' e => by obtain ⟨z, rfl, hz, hp⟩ := e; exact kk z h' hz hp)
theorem C_Si (hG : Cx cc own nL fr lo G) {idx n nLy fr' lo' : Nat} {y : MethodName} {b : ByteArray} {ret : Option FieldType} {as st0 : List Value} {P : Int → AH → Prop} (d : decode cc pc = .ok (.invokestatic idx, 3)) (hl0 : MLk own idx y) (hm : MFc y b nLy ret n) (hi : Cond.static y ∈ wsAll)
    (hM : AMet y b nLy ret fr' lo' as h (Qi P)) (hfr : fr' + 1 ≤ fr) (hlo : 8 + (nLy + 11) + lo' ≤ lo) (hst : st0 = as.reverse ++ st) (hn : as.length = n) (hw : (st.map fun v => v.category).sum ≤ 8)
    (kk : ∀ (z : Int) (h' : AH), ir z → P z h' → G (pc + 3) L (vI z :: st) h') : G pc L st0 h := A_callS hG d hl0 hm hi hM hfr hlo hst hn hw (fun v h' e => by obtain ⟨z, rfl, hz, hp⟩ := e; exact kk z h' hz hp)
theorem C_Ui (hG : Cx cc own nL fr lo G) {idx k c n nLy fr' lo' : Nat} {x y : MethodName} {owner : String} {b : ByteArray} {ret : Option FieldType} {q : vw_C} {as st0 : List Value} {P : Int → AH → Prop} (d : decode cc pc = .ok (.invokevirtual idx, 3)) (hl0 : Cond.methodLink own idx x ∈ wsAll) (hsm : Cond.sameMethod x.cls owner x.name x.desc ∈ wsAll) (hde : Cond.declares ⟨owner, x.name, x.desc⟩ ∈ nestAll) (ho : owner ≠ "java/lang/invoke/MethodHandle" ∧ owner ≠ "java/lang/invoke/VarHandle") (hd0 : x.desc = y.desc) (hm : MFc y b nLy ret n) (hi : Cond.instanceMethod y ∈ wsAll) (hs : Cond.selects q.1 x y ∈ wsAll)
    (hq : cls[c]? = some q) (hc : c < 12) (hk : obk k = c + 1) (hM : AMet y b nLy ret fr' lo' (.ref k :: as) h (Qi P)) (hfr : fr' + 1 ≤ fr) (hlo : 8 + (nLy + 11) + lo' ≤ lo) (hst : st0 = as.reverse ++ .ref k :: st) (hn : as.length = n) (hw : (st.map fun v => v.category).sum ≤ 8)
    (kk : ∀ (z : Int) (h' : AH), ir z → P z h' → G (pc + 3) L (vI z :: st) h') : G pc L st0 h := A_callU hG d hl0 hsm hde ho hd0 hm hi hs hq hc hk hM hfr hlo hst hn hw (fun v h' e => by obtain ⟨z, rfl, hz, hp⟩ := e; exact kk z h' hz hp)
theorem C_Vl (hG : Cx cc own nL fr lo G) {idx k c n nLy fr' lo' : Nat} {y : MethodName} {b : ByteArray} {ret : Option FieldType} {q : vw_C} {as st0 : List Value} {P : Int64 → AH → Prop} (d : decode cc pc = .ok (.invokevirtual idx, 3)) (hl0 : MLk own idx y) (hm : MFc y b nLy ret n) (hi : Cond.instanceMethod y ∈ wsAll) (hs : Cond.selects q.1 y y ∈ wsAll)
    (hq : cls[c]? = some q) (hc : c < 12) (hk : obk k = c + 1) (hM : AMet y b nLy ret fr' lo' (.ref k :: as) h (Ql P)) (hfr : fr' + 1 ≤ fr) (hlo : 8 + (nLy + 11) + lo' ≤ lo) (hst : st0 = as.reverse ++ .ref k :: st) (hn : as.length = n) (hw : (st.map fun v => v.category).sum ≤ 8)
    (kk : ∀ (x : Int64) (h' : AH), P x h' → G (pc + 3) L (.long x :: st) h') : G pc L st0 h := A_callV hG d hl0 hm hi hs hq hc hk hM hfr hlo hst hn hw (fun v h' e => by obtain ⟨x, rfl, hp⟩ := e; exact kk x h' hp)
theorem C_Sl (hG : Cx cc own nL fr lo G) {idx n nLy fr' lo' : Nat} {y : MethodName} {b : ByteArray} {ret : Option FieldType} {as st0 : List Value} {P : Int64 → AH → Prop} (d : decode cc pc = .ok (.invokestatic idx, 3)) (hl0 : MLk own idx y) (hm : MFc y b nLy ret n) (hi : Cond.static y ∈ wsAll)
    (hM : AMet y b nLy ret fr' lo' as h (Ql P)) (hfr : fr' + 1 ≤ fr) (hlo : 8 + (nLy + 11) + lo' ≤ lo) (hst : st0 = as.reverse ++ st) (hn : as.length = n) (hw : (st.map fun v => v.category).sum ≤ 8)
    (kk : ∀ (x : Int64) (h' : AH), P x h' → G (pc + 3) L (.long x :: st) h') : G pc L st0 h := A_callS hG d hl0 hm hi hM hfr hlo hst hn hw (fun v h' e => by obtain ⟨x, rfl, hp⟩ := e; exact kk x h' hp)
theorem C_Ul (hG : Cx cc own nL fr lo G) {idx k c n nLy fr' lo' : Nat} {x y : MethodName} {owner : String} {b : ByteArray} {ret : Option FieldType} {q : vw_C} {as st0 : List Value} {P : Int64 → AH → Prop} (d : decode cc pc = .ok (.invokevirtual idx, 3)) (hl0 : Cond.methodLink own idx x ∈ wsAll) (hsm : Cond.sameMethod x.cls owner x.name x.desc ∈ wsAll) (hde : Cond.declares ⟨owner, x.name, x.desc⟩ ∈ nestAll) (ho : owner ≠ "java/lang/invoke/MethodHandle" ∧ owner ≠ "java/lang/invoke/VarHandle") (hd0 : x.desc = y.desc) (hm : MFc y b nLy ret n) (hi : Cond.instanceMethod y ∈ wsAll) (hs : Cond.selects q.1 x y ∈ wsAll)
    (hq : cls[c]? = some q) (hc : c < 12) (hk : obk k = c + 1) (hM : AMet y b nLy ret fr' lo' (.ref k :: as) h (Ql P)) (hfr : fr' + 1 ≤ fr) (hlo : 8 + (nLy + 11) + lo' ≤ lo) (hst : st0 = as.reverse ++ .ref k :: st) (hn : as.length = n) (hw : (st.map fun v => v.category).sum ≤ 8)
    (kk : ∀ (x : Int64) (h' : AH), P x h' → G (pc + 3) L (.long x :: st) h') : G pc L st0 h := A_callU hG d hl0 hsm hde ho hd0 hm hi hs hq hc hk hM hfr hlo hst hn hw (fun v h' e => by obtain ⟨x, rfl, hp⟩ := e; exact kk x h' hp)
theorem C_Vr (hG : Cx cc own nL fr lo G) {idx k c n nLy fr' lo' : Nat} {y : MethodName} {b : ByteArray} {ret : Option FieldType} {q : vw_C} {as st0 : List Value} {P : Nat → AH → Prop} (d : decode cc pc = .ok (.invokevirtual idx, 3)) (hl0 : MLk own idx y) (hm : MFc y b nLy ret n) (hi : Cond.instanceMethod y ∈ wsAll) (hs : Cond.selects q.1 y y ∈ wsAll)
    (hq : cls[c]? = some q) (hc : c < 12) (hk : obk k = c + 1) (hM : AMet y b nLy ret fr' lo' (.ref k :: as) h (Qr P)) (hfr : fr' + 1 ≤ fr) (hlo : 8 + (nLy + 11) + lo' ≤ lo) (hst : st0 = as.reverse ++ .ref k :: st) (hn : as.length = n) (hw : (st.map fun v => v.category).sum ≤ 8)
    (kk : ∀ (r : Nat) (h' : AH), P r h' → G (pc + 3) L (.ref r :: st) h') : G pc L st0 h := A_callV hG d hl0 hm hi hs hq hc hk hM hfr hlo hst hn hw (fun v h' e => by obtain ⟨r, rfl, hp⟩ := e; exact kk r h' hp)
theorem C_Sr (hG : Cx cc own nL fr lo G) {idx n nLy fr' lo' : Nat} {y : MethodName} {b : ByteArray} {ret : Option FieldType} {as st0 : List Value} {P : Nat → AH → Prop} (d : decode cc pc = .ok (.invokestatic idx, 3)) (hl0 : MLk own idx y) (hm : MFc y b nLy ret n) (hi : Cond.static y ∈ wsAll)
    (hM : AMet y b nLy ret fr' lo' as h (Qr P)) (hfr : fr' + 1 ≤ fr) (hlo : 8 + (nLy + 11) + lo' ≤ lo) (hst : st0 = as.reverse ++ st) (hn : as.length = n) (hw : (st.map fun v => v.category).sum ≤ 8)
    (kk : ∀ (r : Nat) (h' : AH), P r h' → G (pc + 3) L (.ref r :: st) h') : G pc L st0 h := A_callS hG d hl0 hm hi hM hfr hlo hst hn hw (fun v h' e => by obtain ⟨r, rfl, hp⟩ := e; exact kk r h' hp)
theorem C_Ur (hG : Cx cc own nL fr lo G) {idx k c n nLy fr' lo' : Nat} {x y : MethodName} {owner : String} {b : ByteArray} {ret : Option FieldType} {q : vw_C} {as st0 : List Value} {P : Nat → AH → Prop} (d : decode cc pc = .ok (.invokevirtual idx, 3)) (hl0 : Cond.methodLink own idx x ∈ wsAll) (hsm : Cond.sameMethod x.cls owner x.name x.desc ∈ wsAll) (hde : Cond.declares ⟨owner, x.name, x.desc⟩ ∈ nestAll) (ho : owner ≠ "java/lang/invoke/MethodHandle" ∧ owner ≠ "java/lang/invoke/VarHandle") (hd0 : x.desc = y.desc) (hm : MFc y b nLy ret n) (hi : Cond.instanceMethod y ∈ wsAll) (hs : Cond.selects q.1 x y ∈ wsAll)
    (hq : cls[c]? = some q) (hc : c < 12) (hk : obk k = c + 1) (hM : AMet y b nLy ret fr' lo' (.ref k :: as) h (Qr P)) (hfr : fr' + 1 ≤ fr) (hlo : 8 + (nLy + 11) + lo' ≤ lo) (hst : st0 = as.reverse ++ .ref k :: st) (hn : as.length = n) (hw : (st.map fun v => v.category).sum ≤ 8)
    (kk : ∀ (r : Nat) (h' : AH), P r h' → G (pc + 3) L (.ref r :: st) h') : G pc L st0 h := A_callU hG d hl0 hsm hde ho hd0 hm hi hs hq hc hk hM hfr hlo hst hn hw (fun v h' e => by obtain ⟨r, rfl, hp⟩ := e; exact kk r h' hp)
theorem C_Vv (hG : Cx cc own nL fr lo G) {idx k c n nLy fr' lo' : Nat} {y : MethodName} {b : ByteArray} {ret : Option FieldType} {q : vw_C} {as st0 : List Value} {P : AH → Prop} (d : decode cc pc = .ok (.invokevirtual idx, 3)) (hl0 : MLk own idx y) (hm : MFc y b nLy ret n) (hi : Cond.instanceMethod y ∈ wsAll) (hs : Cond.selects q.1 y y ∈ wsAll)
    (hq : cls[c]? = some q) (hc : c < 12) (hk : obk k = c + 1) (hM : AMet y b nLy ret fr' lo' (.ref k :: as) h (Qv P)) (hfr : fr' + 1 ≤ fr) (hlo : 8 + (nLy + 11) + lo' ≤ lo) (hst : st0 = as.reverse ++ .ref k :: st) (hn : as.length = n) (hw : (st.map fun v => v.category).sum ≤ 8)
    (kk : ∀ h' : AH, P h' → G (pc + 3) L st h') : G pc L st0 h := A_callV hG d hl0 hm hi hs hq hc hk hM hfr hlo hst hn hw (fun v h' e => by obtain ⟨rfl, hp⟩ := e; exact kk h' hp)
theorem C_Sv (hG : Cx cc own nL fr lo G) {idx n nLy fr' lo' : Nat} {y : MethodName} {b : ByteArray} {ret : Option FieldType} {as st0 : List Value} {P : AH → Prop} (d : decode cc pc = .ok (.invokestatic idx, 3)) (hl0 : MLk own idx y) (hm : MFc y b nLy ret n) (hi : Cond.static y ∈ wsAll)
    (hM : AMet y b nLy ret fr' lo' as h (Qv P)) (hfr : fr' + 1 ≤ fr) (hlo : 8 + (nLy + 11) + lo' ≤ lo) (hst : st0 = as.reverse ++ st) (hn : as.length = n) (hw : (st.map fun v => v.category).sum ≤ 8)
    (kk : ∀ h' : AH, P h' → G (pc + 3) L st h') : G pc L st0 h := A_callS hG d hl0 hm hi hM hfr hlo hst hn hw (fun v h' e => by obtain ⟨rfl, hp⟩ := e; exact kk h' hp)
theorem C_Uv (hG : Cx cc own nL fr lo G) {idx k c n nLy fr' lo' : Nat} {x y : MethodName} {owner : String} {b : ByteArray} {ret : Option FieldType} {q : vw_C} {as st0 : List Value} {P : AH → Prop} (d : decode cc pc = .ok (.invokevirtual idx, 3)) (hl0 : Cond.methodLink own idx x ∈ wsAll) (hsm : Cond.sameMethod x.cls owner x.name x.desc ∈ wsAll) (hde : Cond.declares ⟨owner, x.name, x.desc⟩ ∈ nestAll) (ho : owner ≠ "java/lang/invoke/MethodHandle" ∧ owner ≠ "java/lang/invoke/VarHandle") (hd0 : x.desc = y.desc) (hm : MFc y b nLy ret n) (hi : Cond.instanceMethod y ∈ wsAll) (hs : Cond.selects q.1 x y ∈ wsAll)
    (hq : cls[c]? = some q) (hc : c < 12) (hk : obk k = c + 1) (hM : AMet y b nLy ret fr' lo' (.ref k :: as) h (Qv P)) (hfr : fr' + 1 ≤ fr) (hlo : 8 + (nLy + 11) + lo' ≤ lo) (hst : st0 = as.reverse ++ .ref k :: st) (hn : as.length = n) (hw : (st.map fun v => v.category).sum ≤ 8)
    (kk : ∀ h' : AH, P h' → G (pc + 3) L st h') : G pc L st0 h := A_callU hG d hl0 hsm hde ho hd0 hm hi hs hq hc hk hM hfr hlo hst hn hw (fun v h' e => by obtain ⟨rfl, hp⟩ := e; exact kk h' hp)
theorem k1 : obk 1 = 11 := by decide
theorem k2 : obk 2 = 9 := by decide
theorem k3 : obk 3 = 20 := by decide
theorem n3 : obn 3 = 400 := by decide
theorem k4 : obk 4 = 20 := by decide
theorem n4 : obn 4 = 5 := by decide
theorem k5 : obk 5 = 23 := by decide
theorem n5 : obn 5 = 8 := by decide
theorem k6 : obk 6 = 24 := by decide
theorem n6 : obn 6 = 12 := by decide
theorem k7 : obk 7 = 3 := by decide
theorem k8 : obk 8 = 20 := by decide
theorem n8 : obn 8 = 60 := by decide
theorem k9 : obk 9 = 20 := by decide
theorem n9 : obn 9 = 5 := by decide
theorem k10 : obk 10 = 10 := by decide
theorem k11 : obk 11 = 22 := by decide
theorem n11 : obn 11 = 2560 := by decide
theorem k12 : obk 12 = 7 := by decide
theorem k13 : obk 13 = 20 := by decide
theorem n13 : obn 13 = 3240 := by decide
theorem k14 : obk 14 = 5 := by decide
theorem k15 : obk 15 = 22 := by decide
theorem n15 : obn 15 = 2560 := by decide
theorem k16 : obk 16 = 22 := by decide
theorem n16 : obn 16 = 24 := by decide
theorem k17 : obk 17 = 1 := by decide
theorem k18 : obk 18 = 20 := by decide
theorem n18 : obn 18 = 64 := by decide
theorem k20 : obk 20 = 2 := by decide
theorem k21 : obk 21 = 20 := by decide
theorem n21 : obn 21 = 16 := by decide
theorem k22 : obk 22 = 20 := by decide
theorem n22 : obn 22 = 16 := by decide
theorem k23 : obk 23 = 20 := by decide
theorem n23 : obn 23 = 16 := by decide
theorem k24 : obk 24 = 20 := by decide
theorem n24 : obn 24 = 16 := by decide
theorem k25 : obk 25 = 20 := by decide
theorem n25 : obn 25 = 24 := by decide
theorem k26 : obk 26 = 20 := by decide
theorem n26 : obn 26 = 24 := by decide
theorem k27 : obk 27 = 20 := by decide
theorem n27 : obn 27 = 24 := by decide
theorem k28 : obk 28 = 21 := by decide
theorem n28 : obn 28 = 24 := by decide
theorem k29 : obk 29 = 21 := by decide
theorem n29 : obn 29 = 24 := by decide
theorem k30 : obk 30 = 20 := by decide
theorem n30 : obn 30 = 5 := by decide
theorem k40 : obk 40 = 2 := by decide
theorem k41 : obk 41 = 20 := by decide
theorem n41 : obn 41 = 16 := by decide
theorem k42 : obk 42 = 20 := by decide
theorem n42 : obn 42 = 16 := by decide
theorem k43 : obk 43 = 20 := by decide
theorem n43 : obn 43 = 16 := by decide
theorem k44 : obk 44 = 20 := by decide
theorem n44 : obn 44 = 16 := by decide
theorem k45 : obk 45 = 20 := by decide
theorem n45 : obn 45 = 24 := by decide
theorem k46 : obk 46 = 20 := by decide
theorem n46 : obn 46 = 24 := by decide
theorem k47 : obk 47 = 20 := by decide
theorem n47 : obn 47 = 24 := by decide
theorem k48 : obk 48 = 21 := by decide
theorem n48 : obn 48 = 24 := by decide
theorem k49 : obk 49 = 21 := by decide
theorem n49 : obn 49 = 24 := by decide
theorem k50 : obk 50 = 20 := by decide
theorem n50 : obn 50 = 5 := by decide
theorem k60 : obk 60 = 6 := by decide
theorem k61 : obk 61 = 23 := by decide
theorem n61 : obn 61 = 40 := by decide
theorem k62 : obk 62 = 20 := by decide
theorem n62 : obn 62 = 40 := by decide
theorem k63 : obk 63 = 23 := by decide
theorem n63 : obn 63 = 64 := by decide
theorem k64 : obk 64 = 20 := by decide
theorem n64 : obn 64 = 64 := by decide
theorem k65 : obk 65 = 20 := by decide
theorem n65 : obn 65 = 40 := by decide
theorem k66 : obk 66 = 20 := by decide
theorem n66 : obn 66 = 17 := by decide
theorem k500 : obk 500 = 12 := by decide
theorem k502 : obk 502 = 20 := by decide
theorem n502 : obn 502 = 400 := by decide
theorem k503 : obk 503 = 20 := by decide
theorem n503 : obn 503 = 2 := by decide
theorem k504 : obk 504 = 20 := by decide
theorem n504 : obn 504 = 128 := by decide
theorem k505 : obk 505 = 20 := by decide
theorem n505 : obn 505 = 2 := by decide
theorem k506 : obk 506 = 20 := by decide
theorem n506 : obn 506 = 240 := by decide
theorem k507 : obk 507 = 20 := by decide
theorem n507 : obn 507 = 10 := by decide
theorem k508 : obk 508 = 20 := by decide
theorem n508 : obn 508 = 10 := by decide
theorem k509 : obk 509 = 20 := by decide
theorem n509 : obn 509 = 100 := by decide
theorem k510 : obk 510 = 20 := by decide
theorem n510 : obn 510 = 10 := by decide
theorem k512 : obk 512 = 20 := by decide
theorem n512 : obn 512 = 24 := by decide
theorem k513 : obk 513 = 20 := by decide
theorem n513 : obn 513 = 192 := by decide
theorem k515 : obk 515 = 20 := by decide
theorem n515 : obn 515 = 60 := by decide
theorem k517 : obk 517 = 20 := by decide
theorem n517 : obn 517 = 5 := by decide
theorem k518 : obk 518 = 22 := by decide
theorem n518 : obn 518 = 72 := by decide
theorem k519 : obk 519 = 22 := by decide
theorem n519 : obn 519 = 2880 := by decide
theorem k520 : obk 520 = 20 := by decide
theorem n520 : obn 520 = 4050 := by decide
theorem k521 : obk 521 = 20 := by decide
theorem n521 : obn 521 = 5 := by decide
theorem k523 : obk 523 = 20 := by decide
theorem n523 : obn 523 = 40 := by decide
theorem k524 : obk 524 = 20 := by decide
theorem n524 : obn 524 = 40 := by decide
theorem k525 : obk 525 = 20 := by decide
theorem n525 : obn 525 = 320 := by decide
theorem k527 : obk 527 = 20 := by decide
theorem n527 : obn 527 = 40 := by decide
theorem k600 : obk 600 = 25 := by decide
theorem n600 : obn 600 = 5 := by decide
theorem k601 : obk 601 = 25 := by decide
theorem n601 : obn 601 = 4 := by decide
theorem k602 : obk 602 = 25 := by decide
theorem n602 : obn 602 = 5 := by decide
theorem k603 : obk 603 = 25 := by decide
theorem n603 : obn 603 = 2 := by decide
theorem nf_0_1 : ∀ q, cls[0]? = some q → (q.2.1 1).2.2.2 = false ∧ parseFieldDescriptor (q.2.1 1).2.2.1 = some .int := fun q hq => by cases hq; exact ⟨rfl, by decide +kernel⟩
theorem nf_1_4 : ∀ q, cls[1]? = some q → (q.2.1 4).2.2.2 = false ∧ parseFieldDescriptor (q.2.1 4).2.2.1 = some .int := fun q hq => by cases hq; exact ⟨rfl, by decide +kernel⟩
theorem nf_1_10 : ∀ q, cls[1]? = some q → (q.2.1 10).2.2.2 = false ∧ parseFieldDescriptor (q.2.1 10).2.2.1 = some .int := fun q hq => by cases hq; exact ⟨rfl, by decide +kernel⟩
theorem nf_2_1 : ∀ q, cls[2]? = some q → (q.2.1 1).2.2.2 = false ∧ parseFieldDescriptor (q.2.1 1).2.2.1 = some .int := fun q hq => by cases hq; exact ⟨rfl, by decide +kernel⟩
theorem nf_3_0 : ∀ q, cls[3]? = some q → (q.2.1 0).2.2.2 = false ∧ parseFieldDescriptor (q.2.1 0).2.2.1 = some .boolean := fun q hq => by cases hq; exact ⟨rfl, by decide +kernel⟩
theorem nf_3_1 : ∀ q, cls[3]? = some q → (q.2.1 1).2.2.2 = false ∧ parseFieldDescriptor (q.2.1 1).2.2.1 = some .boolean := fun q hq => by cases hq; exact ⟨rfl, by decide +kernel⟩
theorem nf_3_2 : ∀ q, cls[3]? = some q → (q.2.1 2).2.2.2 = false ∧ parseFieldDescriptor (q.2.1 2).2.2.1 = some .int := fun q hq => by cases hq; exact ⟨rfl, by decide +kernel⟩
theorem nf_3_3 : ∀ q, cls[3]? = some q → (q.2.1 3).2.2.2 = false ∧ parseFieldDescriptor (q.2.1 3).2.2.1 = some .int := fun q hq => by cases hq; exact ⟨rfl, by decide +kernel⟩
theorem nf_5_2 : ∀ q, cls[5]? = some q → (q.2.1 2).2.2.2 = false ∧ parseFieldDescriptor (q.2.1 2).2.2.1 = some .int := fun q hq => by cases hq; exact ⟨rfl, by decide +kernel⟩
theorem nf_5_5 : ∀ q, cls[5]? = some q → (q.2.1 5).2.2.2 = false ∧ parseFieldDescriptor (q.2.1 5).2.2.1 = some .int := fun q hq => by cases hq; exact ⟨rfl, by decide +kernel⟩
theorem nf_5_7 : ∀ q, cls[5]? = some q → (q.2.1 7).2.2.2 = false ∧ parseFieldDescriptor (q.2.1 7).2.2.1 = some .int := fun q hq => by cases hq; exact ⟨rfl, by decide +kernel⟩
theorem nf_7_1 : ∀ q, cls[7]? = some q → (q.2.1 1).2.2.2 = false ∧ parseFieldDescriptor (q.2.1 1).2.2.1 = some .int := fun q hq => by cases hq; exact ⟨rfl, by decide +kernel⟩
theorem nf_7_2 : ∀ q, cls[7]? = some q → (q.2.1 2).2.2.2 = false ∧ parseFieldDescriptor (q.2.1 2).2.2.1 = some .int := fun q hq => by cases hq; exact ⟨rfl, by decide +kernel⟩
theorem nf_8_1 : ∀ q, cls[8]? = some q → (q.2.1 1).2.2.2 = false ∧ parseFieldDescriptor (q.2.1 1).2.2.1 = some .int := fun q hq => by cases hq; exact ⟨rfl, by decide +kernel⟩
theorem nf_8_3 : ∀ q, cls[8]? = some q → (q.2.1 3).2.2.2 = false ∧ parseFieldDescriptor (q.2.1 3).2.2.1 = some .int := fun q hq => by cases hq; exact ⟨rfl, by decide +kernel⟩
theorem nf_10_1 : ∀ q, cls[10]? = some q → (q.2.1 1).2.2.2 = false ∧ parseFieldDescriptor (q.2.1 1).2.2.1 = some (.object "OneWordWrong$Grammar") := fun q hq => by cases hq; exact ⟨rfl, by decide +kernel⟩
theorem nf_10_2 : ∀ q, cls[10]? = some q → (q.2.1 2).2.2.2 = false ∧ parseFieldDescriptor (q.2.1 2).2.2.1 = some (.object "OneWordWrong$Grammar") := fun q hq => by cases hq; exact ⟨rfl, by decide +kernel⟩
theorem nf_10_5 : ∀ q, cls[10]? = some q → (q.2.1 5).2.2.2 = false ∧ parseFieldDescriptor (q.2.1 5).2.2.1 = some .int := fun q hq => by cases hq; exact ⟨rfl, by decide +kernel⟩
theorem nf_10_13 : ∀ q, cls[10]? = some q → (q.2.1 13).2.2.2 = false ∧ parseFieldDescriptor (q.2.1 13).2.2.1 = some .int := fun q hq => by cases hq; exact ⟨rfl, by decide +kernel⟩
theorem nf_11_0 : ∀ q, cls[11]? = some q → (q.2.1 0).2.2.2 = false ∧ parseFieldDescriptor (q.2.1 0).2.2.1 = some .int := fun q hq => by cases hq; exact ⟨rfl, by decide +kernel⟩
theorem nf_11_10 : ∀ q, cls[11]? = some q → (q.2.1 10).2.2.2 = false ∧ parseFieldDescriptor (q.2.1 10).2.2.1 = some .int := fun q hq => by cases hq; exact ⟨rfl, by decide +kernel⟩
theorem nf_11_13 : ∀ q, cls[11]? = some q → (q.2.1 13).2.2.2 = false ∧ parseFieldDescriptor (q.2.1 13).2.2.1 = some .int := fun q hq => by cases hq; exact ⟨rfl, by decide +kernel⟩
theorem nf_11_15 : ∀ q, cls[11]? = some q → (q.2.1 15).2.2.2 = false ∧ parseFieldDescriptor (q.2.1 15).2.2.1 = some .int := fun q hq => by cases hq; exact ⟨rfl, by decide +kernel⟩
theorem nf_11_21 : ∀ q, cls[11]? = some q → (q.2.1 21).2.2.2 = false ∧ parseFieldDescriptor (q.2.1 21).2.2.1 = some .int := fun q hq => by cases hq; exact ⟨rfl, by decide +kernel⟩
theorem nf_11_25 : ∀ q, cls[11]? = some q → (q.2.1 25).2.2.2 = false ∧ parseFieldDescriptor (q.2.1 25).2.2.1 = some .int := fun q hq => by cases hq; exact ⟨rfl, by decide +kernel⟩
end HM
