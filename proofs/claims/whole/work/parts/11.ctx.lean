/-! WALKS OVER THE PICTURE: 'G pc L st h' says: from there the method comes to its end as it should -/
section CTX
theorem Stat.moved {ad : Nat → Nat} {A : Nat → Prop} {u U : State} {H : Heap} (hvm : u.vm.Alike U.vm) (h : Stat ad A u H) : Stat ad A U H := fun k hk => ⟨va_Z.moved hvm (h k hk).1, va_T.moved hvm (h k hk).2⟩
theorem Stat.kept {ad : Nat → Nat} {A : Nat → Prop} {U : State} {H H1 : Heap} (h : Stat ad A U H) (hq : ∀ a : Nat, a < H.size → ¬ A a → H1[a]? = H[a]?) : Stat ad A U H1 := fun k hk => ⟨(h k hk).1.kept hq, (h k hk).2.kept hq⟩
theorem Wst.warm {D : va_G} {cA : Nat → ClassId} {ad : Nat → Nat} {A : Nat → Prop} {s U : State} {H : Heap} (hW : s.WarmedH U.vm) (h : Wst D cA ad A s H) : Wst D cA ad A U H := ⟨va_K.moved hW.alike h.1, h.2.1, h.2.2.1.moved hW.alike, h.2.2.2.warm hW⟩
theorem Wst.kept {D : va_G} {cA : Nat → ClassId} {ad : Nat → Nat} {A : Nat → Prop} {s : State} {H H1 : Heap} (h : Wst D cA ad A s H) (hq : ∀ a : Nat, a < H.size → ¬ A a → H1[a]? = H[a]?) : Wst D cA ad A s H1 := ⟨h.1, h.2.1, h.2.2.1.kept hq, h.2.2.2⟩
theorem World.blind {D : va_G} {cA : Nat → ClassId} {ad : Nat → Nat} {A : Nat → Prop} {h : AH} {av : List Value} : FrameBlind (va_Pc av (World D cA ad A h)) := fun a U g mk q => by
  obtain ⟨q0, qR, qK, qA, qS, qN⟩ := q
  exact ⟨q0, qR, va_K.moved (u := U) (U := U.calling g mk a) (Vm.Alike.refl U.vm) qK, qA, Stat.moved (u := U) (U := U.calling g mk a) (Vm.Alike.refl U.vm) qS, Nest.moved (u := U) (U := U.calling g mk a) rfl qN⟩
/-- a contract over the picture: with these arguments and this picture the method returns, with an answer and a picture of which Q holds; it makes no cell -/
def AMet (y : MethodName) (cc : ByteArray) (nL : Nat) (ret : Option FieldType) (fr lo : Nat) (as : List Value) (h : AH) (Q : Option Value → AH → Prop) : Prop :=
  ∀ (l : Launch) (D : va_G) (cA : Nat → ClassId) (ad : Nat → Nat) (A : Nat → Prop), Met l y (.code y cc nL ret :: wsAll) { frames := fr, cells := 0, slots := 0, locals := lo } (va_Pc (as.map (cv ad)) (World D cA ad A h))
    (fun _ st oc t => (∃ (v : Option Value) (h' : AH), oc = .returned (v.map (cv ad)) ∧ Q v h' ∧ World D cA ad A h' t) ∧ va_F A st t) 0 0 A
/-- what a walk rests on -/
def Fx (p : Program) (R : Room) (s : State) (m : MethodId) (args : Array Value) (c : Code) (cc : ByteArray) (own : String) (nL fr lo : Nat) (D : va_G) (cA : Nat → ClassId) (ad : Nat → Nat) (A : Nat → Prop) (cells slots : Nat) : Prop :=
  p.tables.exec = Jvm.exec ∧ c.code = cc ∧ c.maxLocals = nL ∧ s.vm.findClass own = some m.cls ∧ (∀ w ∈ wsAll, w.before args s = true) ∧ Wst D cA ad A s s.heap ∧ fr ≤ R.frames ∧ lo ≤ R.locals ∧ cells ≤ R.cells ∧ slots ≤ R.slots
def AW (p : Program) (l : Launch) (e : Env) (R : Room) (s : State) (m : MethodId) (args : Array Value) (below : List Frame) (meth : Method) (c : Code) (nL : Nat) (D : va_G) (cA : Nat → ClassId) (ad : Nat → Nat) (A : Nat → Prop) (cells slots : Nat) (Q : State → Prop) (pc : Nat) (L : List (Nat × Value)) (st : List Value) (h : AH) : Prop :=
  ∀ (H : Heap) (locs : List Loc) (ls : Array Slot), Rel D cA ad h H → va_S A s.heap H locs → lv_has ls nL (L.map (fun q => (q.1, cv ad q.2))) → W p l e R s m args below meth c H locs cells slots Q (F0 m pc ls (st.map (cv ad)))
abbrev GT : Type := Nat → List (Nat × Value) → List Value → AH → Prop
def Cx (cc : ByteArray) (own : String) (nL fr lo : Nat) (G : GT) : Prop :=
  ∃ (p : Program) (l : Launch) (e : Env) (R : Room) (s : State) (m : MethodId) (args : Array Value) (below : List Frame) (meth : Method) (c : Code) (D : va_G) (cA : Nat → ClassId) (ad : Nat → Nat) (A : Nat → Prop) (cells slots : Nat) (Q : State → Prop),
    Fx p R s m args c cc own nL fr lo D cA ad A cells slots ∧ G = AW p l e R s m args below meth c nL D cA ad A cells slots Q
def Qm (D : va_G) (cA : Nat → ClassId) (ad : Nat → Nat) (A : Nat → Prop) (QR : Option Value → AH → Prop) : Array Value → State → Outcome → State → Prop := fun _ st oc t => (∃ (v : Option Value) (h' : AH), oc = .returned (v.map (cv ad)) ∧ QR v h' ∧ World D cA ad A h' t) ∧ va_F A st t
def CxM (cc : ByteArray) (own : String) (nL fr lo : Nat) (ret : Option FieldType) (QR : Option Value → AH → Prop) (G : GT) : Prop :=
  ∃ (p : Program) (l : Launch) (e : Env) (R : Room) (s : State) (m : MethodId) (args : Array Value) (below : List Frame) (meth : Method) (c : Code) (D : va_G) (cA : Nat → ClassId) (ad : Nat → Nat) (A : Nat → Prop),
    Fx p R s m args c cc own nL fr lo D cA ad A 0 0 ∧ meth.sig.returnType = ret ∧ meth.locks = false ∧ G = AW p l e R s m args below meth c nL D cA ad A 0 0 (MQ below (Qm D cA ad A QR) args s 0 0 A)
theorem CxM.cx {cc : ByteArray} {own : String} {nL fr lo : Nat} {ret : Option FieldType} {QR : Option Value → AH → Prop} {G : GT} (h : CxM cc own nL fr lo ret QR G) : Cx cc own nL fr lo G := by
  obtain ⟨p, l, e, R, s, m, args, below, meth, c, D, cA, ad, A, F, -, -, rfl⟩ := h
  exact ⟨p, l, e, R, s, m, args, below, meth, c, D, cA, ad, A, 0, 0, _, F, rfl⟩
theorem cv_cat (ad : Nat → Nat) (v : Value) : (cv ad v).category = v.category := by cases v <;> rfl
theorem lgsl_cv (ad : Nat → Nat) (as : List Value) : (lg_sl (as.map (cv ad))).length = (lg_sl as).length := by
  induction as with
  | nil => rfl
  | cons v vs ih =>
    simp only [lg_sl, List.map_cons, List.flatMap_cons, List.length_append] at ih ⊢
    rw [cv_cat, ih]
    by_cases hv : v.category = 2 <;> simp [hv]
theorem lvargs_cv (ad : Nat → Nat) : ∀ (as : List Value) (i : Nat), lv_args i (as.map (cv ad)) = (lv_args i as).map (fun q => (q.1, cv ad q.2))
  | [], _ => rfl
  | v :: vs, i => by
    simp only [List.map_cons, lv_args, cv_cat]
    rw [lvargs_cv ad vs]
/-- a contract out of a walk -/
theorem AMet.of {y : MethodName} {cc : ByteArray} {nL : Nat} {ret : Option FieldType} {fr lo : Nat} {as : List Value} {h : AH} {QR : Option Value → AH → Prop} (hy : plainName y.cls = true) (hn : (lg_sl as).length ≤ nL)
    (hb : ∀ G : GT, CxM cc y.cls nL fr lo ret QR G → G 0 (lv_args 0 as) [] h) : AMet y cc nL ret fr lo as h QR := by
  intro l D cA ad A
  refine Met.ofW (cc := cc) (maxL := nL) (ret := ret) hy rfl ?_
  intro p e s m args below meth c s₁ B hml hv
  obtain ⟨rfl, hR, hW⟩ := hv
  have hts := atoms_spec (ws := .code y cc nL ret :: wsAll) B.pre
  have hown : s.vm.findClass y.cls = some m.cls := findClass_of_methodNamed B.named
  have hF : Fx p (headSpec (.code y cc nL ret :: wsAll) { frames := fr, cells := 0, slots := 0, locals := lo }).room s m (as.map (cv ad)).toArray c cc y.cls nL fr lo D cA ad A 0 0 := ⟨B.exec, B.bytes, hml, hown, fun w hw => hts w (List.mem_cons_of_mem _ hw), hW, Nat.le_refl _, Nat.le_refl _, Nat.zero_le _, Nat.zero_le _⟩
  have K := hb _ ⟨p, l, e, _, s, m, _, below, meth, c, D, cA, ad, A, hF, B.returns, B.notSynchronized, rfl⟩
  have hl := lv_entry (as.map (cv ad)) (n := nL) (by rw [lgsl_cv]; exact hn)
  rw [lg_entry_eq]
  rw [lvargs_cv] at hl
  exact K s.heap [] _ hR va_S.rf hl
end CTX
