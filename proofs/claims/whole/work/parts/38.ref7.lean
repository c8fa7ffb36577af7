/-! the reference: leaves (printed by gen) -/
section
/-- what a goOver keeps -/
def gI (g : Gm) (p : Int → Int) (qs : Int → Prop) (w : Int → Int) (len at0 : Int) (F f : Int → Int) (any : Int) : Prop :=
  (any = 0 ∨ any = 1) ∧ (∀ i, f i ≤ F i) ∧ (∀ i, (i < at0 ∨ at0 + 40 ≤ i) → f i = F i) ∧ (∀ i, 0 ≤ i → i < 4050 → 0 ≤ f i) ∧ (any = 0 → ∀ i, f i = F i) ∧ (any = 1 → ∃ i, at0 ≤ i ∧ i < at0 + 40 ∧ f i < F i) ∧
  ∀ U, clsd g p qs w len 100000 U → below len U (tR F) → below len U (tR f)
theorem gI_0 {g : Gm} {p : Int → Int} {qs : Int → Prop} {w : Int → Int} {len at0 : Int} {F : Int → Int} (h : ∀ i, 0 ≤ i → i < 4050 → 0 ≤ F i) : gI g p qs w len at0 F F 0 :=
  ⟨Or.inl rfl, fun _ => Int.le_refl _, fun _ _ => rfl, h, fun _ _ => rfl, fun q => by omega, fun _ _ q => q⟩
theorem gI_s {g : Gm} {p : Int → Int} {qs : Int → Prop} {w : Int → Int} {len a b i0 v z any : Int} {F f f' : Int → Int} (hI : gI g p qs w len (40 * (10 * a + b)) F f any) (hl : len ≤ 8) (ha : 0 ≤ a ∧ a ≤ b ∧ b ≤ len) (hi : 40 * (10 * a + b) ≤ i0 ∧ i0 < 40 * (10 * a + b) + 40) (hv : 0 ≤ v)
    (hn : ∀ i, i ≠ i0 → f' i = f i) (hz : (z = 0 ∧ f i0 ≤ v ∧ f' i0 = f i0) ∨ (z = 1 ∧ v < f i0 ∧ f' i0 = v))
    (hU : ∀ U, clsd g p qs w len 100000 U → below len U (tR f) → U a b (i0 - 40 * (10 * a + b)) ≤ v) : gI g p qs w len (40 * (10 * a + b)) F f' (ior any z) := by
  obtain ⟨c1, c2, c3, c4, c5, c6, c7⟩ := hI
  have hz01 : z = 0 ∨ z = 1 := hz.elim (fun q => Or.inl q.1) (fun q => Or.inr q.1)
  have e := ior01 c1 hz01
  refine ⟨by omega, fun i => ?_, fun i hi2 => ?_, fun i h1 h2 => ?_, fun q i => ?_, fun q => ?_, fun U hc hb => ?_⟩
  · have := c2 i
    by_cases hq : i = i0
    · subst hq; omega
    · rw [hn i hq]; exact this
  · rw [hn i (by omega)]; exact c3 i hi2
  · by_cases hq : i = i0
    · subst hq; have := c4 i h1 h2; omega
    · rw [hn i hq]; exact c4 i h1 h2
  · have e2 := c5 (by omega) i
    by_cases hq : i = i0
    · subst hq; omega
    · rw [hn i hq]; exact e2
  · rcases e with e | e
    · omega
    · rcases e.2 with e1 | e1
      · obtain ⟨i, i1, i2, i3⟩ := c6 e1
        refine ⟨i, i1, i2, ?_⟩
        by_cases hq : i = i0
        · subst hq; omega
        · rw [hn i hq]; exact i3
      · have := c2 i0
        exact ⟨i0, hi.1, hi.2, by clear c6; omega⟩
  · have hb1 := c7 U hc hb
    intro a' b' k a1 a2 a3 a4 a5
    have := hb1 a' b' k a1 a2 a3 a4 a5
    have hu := hU U hc hb1
    unfold tR at this ⊢
    by_cases hq : 40 * (10 * a' + b') + k = i0
    · have ea : a' = a := by omega
      have eb : b' = b := by omega
      subst ea; subst eb
      rw [hq] at this ⊢
      rw [show i0 - 40 * (10 * a' + b') = k by omega] at hu
      omega
    · rw [hn _ hq]; exact this
/-- leaves of a cell -/
def leafC (g : Gm) (p : Int → Int) (q : Prop) (own a b : Int) (u : Int → Int) : Prop :=
  (∀ k, 0 ≤ k → k < 40 → u k ≤ 100000) ∧ (a = b → ∀ v, 0 ≤ v → v < g 10 0 → u (4 * g 0 v + g 1 v) ≤ p 4) ∧ (b = a + 1 → ∀ v, 0 ≤ v → v < g 10 0 → lfB g p q own v (u (4 * g 0 v + g 1 v)))
theorem lf_le {g : Gm} {p : Int → Int} {q : Prop} {own a b v x y : Int} (h : (a = b → x ≤ p 4) ∧ (b = a + 1 → lfB g p q own v x)) (hy : y ≤ x) : (a = b → y ≤ p 4) ∧ (b = a + 1 → lfB g p q own v y) := by
  refine ⟨fun e => Int.le_trans hy (h.1 e), fun e => ?_⟩
  obtain ⟨h1, h2⟩ := h.2 e
  refine ⟨fun e2 => Int.le_trans hy (h1 e2), fun e2 e3 => ?_⟩
  obtain ⟨m1, m2, m3⟩ := h2 e2 e3
  exact ⟨fun e4 => Int.le_trans hy (m1 e4), fun e4 => Int.le_trans hy (m2 e4), fun e4 => Int.le_trans hy (m3 e4)⟩
theorem lf_ch {h : AH} {a b own v z : Int} {q : Prop} (hab : ¬ a = b) (hz : (own = v ∧ z = 0) ∨ (own ≠ v ∧ (0 ≤ z ∧ z ≤ 100000) ∧ (h.1 504 (4 * own + 2) = h.1 504 (4 * v + 2) → z ≤ h.1 521 0) ∧ (h.1 504 (4 * own + 3) = h.1 504 (4 * v + 3) → z ≤ h.1 521 1) ∧ (h.1 504 (4 * own + 0) = h.1 504 (4 * v + 0) → z ≤ h.1 521 2) ∧ (z = 100000 ∨ (h.1 504 (4 * own + 2) = h.1 504 (4 * v + 2) ∧ z = h.1 521 0) ∨ (h.1 504 (4 * own + 3) = h.1 504 (4 * v + 3) ∧ z = h.1 521 1) ∨ (h.1 504 (4 * own + 0) = h.1 504 (4 * v + 0) ∧ z = h.1 521 2))))
    (ew : gR h 0 v = h.1 504 (4 * v) ∧ gR h 1 v = h.1 504 (4 * v + 1) ∧ gR h 2 v = h.1 504 (4 * v + 2) ∧ gR h 3 v = h.1 504 (4 * v + 3)) (eo : ¬ a = b → gR h 0 own = h.1 504 (4 * own) ∧ gR h 1 own = h.1 504 (4 * own + 1) ∧ gR h 2 own = h.1 504 (4 * own + 2) ∧ gR h 3 own = h.1 504 (4 * own + 3)) (hq : ¬ q ∨ own = v) :
    (0 ≤ z ∧ z ≤ 100000) ∧ ((a = b → z ≤ h.1 521 4) ∧ (b = a + 1 → lfB (gR h) (h.1 521) q own v z)) ∧ ∀ y, y ≤ 100000 → ((a = b → y ≤ h.1 521 4) ∧ (b = a + 1 → lfB (gR h) (h.1 521) q own v y)) → b = a + 1 → y ≤ z := by
  have eo := eo hab
  simp only [Int.add_zero] at hz
  refine ⟨by omega, ⟨fun e => absurd e hab, fun e => ?_⟩, fun y y1 y2 e => ?_⟩
  · unfold lfB
    rw [ew.1, ew.2.2.1, ew.2.2.2, eo.1, eo.2.2.1, eo.2.2.2]
    refine ⟨fun e2 => by omega, fun e2 e3 => ⟨fun e4 => by omega, fun e4 => by omega, fun e4 => by omega⟩⟩
  · have y3 := y2.2 e
    unfold lfB at y3
    rw [ew.1, ew.2.2.1, ew.2.2.2, eo.1, eo.2.2.1, eo.2.2.2] at y3
    rcases hz with hz | hz
    · have := y3.1 hz.1; omega
    · rcases hq with hq | hq
      · obtain ⟨m1, m2, m3⟩ := y3.2 hz.1 hq
        omega
      · omega
set_option maxHeartbeats 2000000 in
set_option maxRecDepth 20000 in
theorem r_layLeaves (h : AH) {s a b : Int} (hs : 0 ≤ s ∧ s ≤ 9) (hG0 : okG (gR h)) (hW0 : okW (gR h) (rowR h s) (h.1 508 s)) (hab : 0 ≤ a ∧ a ≤ b ∧ b ≤ h.1 508 s) (hpp : ∀ c, 0 ≤ c → c < 5 → 0 ≤ h.1 521 c ∧ h.1 521 c ≤ 99) : AMet yX12_layLeaves cX12_layLeaves 9 none 1 27 [.ref 500, vI s, vI a, vI b] h (Qv (fun h' => ∃ f : Int → Int, ((∀ i, (i < 40 * (10 * a + b) ∨ 40 * (10 * a + b) + 40 ≤ i) → f i = h.1 520 i) ∧ (∀ k, 0 ≤ k → k < 40 → 0 ≤ f (40 * (10 * a + b) + k)) ∧ leafC (gR h) (h.1 521) (hasb (h.1 510 s) a) (h.1 509 (10 * s + a)) a b (fun k => f (40 * (10 * a + b) + k)) ∧ (∀ u, leafC (gR h) (h.1 521) (hasb (h.1 510 s) a) (h.1 509 (10 * s + a)) a b u → ∀ k, 0 ≤ k → k < 40 → u k ≤ f (40 * (10 * a + b) + k))) ∧ h' = hm h [(520, f)] [] [])) := by
  have hlen := hW0.1
  have hnw := hG0.1
  rw [(gR_n h).1] at hnw
  have hp0 := hpp 0 (by omega) (by omega)
  have hp1 := hpp 1 (by omega) (by omega)
  have hp2 := hpp 2 (by omega) (by omega)
  have hp4 := hpp 4 (by omega) (by omega)
  refine AMet.of (by decide) (Nat.le_of_ble_eq_true rfl) (fun G hM => ?_)
  have hG := hM.cx
  refine A_hm0 (G := G) (L := [(0, .ref 500), (1, vI s), (2, vI a), (3, vI b)]) ?_
  refine A_aload_n hG 0 dX12_layLeaves_0 rfl rfl ?_
  refine A_iload_n hG 2 dX12_layLeaves_1 rfl rfl ?_
  refine A_iload_n hG 3 dX12_layLeaves_2 rfl rfl ?_
  refine C_Vi (as := [vI a, vI b]) (st := []) (k := 500) (c := 11) hG dX12_layLeaves_3 ml_X12_167 mf_X12_costAt mi_X12_costAt se_X12_costAt rfl (by decide) k500 (r_costAt (hm h [] [] []) (a := a) (b := b) (by omega) (by omega)) (by decide) (by decide) rfl rfl (by decide) (fun z3 g3 ri_3 hp_3 => ?_)
  obtain ⟨ra_3, rb_3⟩ := ri_3
  obtain ⟨rfl, rfl⟩ := hp_3
  refine A_istore (L' := [(4, vI (40 * (10 * a + b))), (0, .ref 500), (1, vI s), (2, vI a), (3, vI b)]) hG dX12_layLeaves_6 (by decide) rfl ?_
  refine A_iconst (n := 0) hG dX12_layLeaves_8 ?_
  refine A_istore (L' := [(5, vI 0), (4, vI (40 * (10 * a + b))), (0, .ref 500), (1, vI s), (2, vI a), (3, vI b)]) hG dX12_layLeaves_9 (by decide) rfl ?_
  refine A_insI 520 (li' := [(520, h.1 520)]) rfl ?_
  have i_1 : ∀ fu : Nat, ∀ (i : Int) (f : Int → Int), (0 ≤ i ∧ i ≤ 40) → (∀ i, (i < 40 * (10 * a + b) ∨ 40 * (10 * a + b) + 40 ≤ i) → f i = h.1 520 i) → (∀ k, 0 ≤ k → k < i → f (40 * (10 * a + b) + k) = 100000) → ((40 - i).toNat) < fu → G 11 [(0, .ref 500), (1, vI s), (2, vI a), (3, vI b), (4, vI (40 * (10 * a + b))), (5, vI i)] [] (hm h [(520, f)] [] []) := by
    intro fu
    induction fu with
    | zero => intro i f hi ho hf hfu; exact absurd hfu (Nat.not_lt_zero _)
    | succ fu ih_i =>
      intro i f hi ho hf hfu
      refine A_iload hG 5 dX12_layLeaves_11 rfl ?_
      refine A_bipush (n := 40) hG dX12_layLeaves_13 (by decide) ?_
      refine A_icmp_ge hG 36 dX12_layLeaves_15 (by decide) (by constructor <;> omega) (by constructor <;> omega) (fun c_15 => ?_) (fun c_15 => ?_)
      ·
        refine A_iconst (n := 0) hG dX12_layLeaves_36 ?_
        refine A_istore (L' := [(5, vI 0), (0, .ref 500), (1, vI s), (2, vI a), (3, vI b), (4, vI (40 * (10 * a + b)))]) hG dX12_layLeaves_37 (by decide) rfl ?_
        have w_2 : ∀ fu : Nat, ∀ (v : Int) (f : Int → Int), (0 ≤ v ∧ v ≤ h.1 503 0) → (∀ i, (i < 40 * (10 * a + b) ∨ 40 * (10 * a + b) + 40 ≤ i) → f i = h.1 520 i) → (∀ k, 0 ≤ k → k < 40 → 0 ≤ f (40 * (10 * a + b) + k) ∧ f (40 * (10 * a + b) + k) ≤ 100000) → (∀ x, 0 ≤ x → x < v → (a = b → f (40 * (10 * a + b) + (4 * gR h 0 x + gR h 1 x)) ≤ h.1 521 4) ∧ (b = a + 1 → lfB (gR h) (h.1 521) (hasb (h.1 510 s) a) (h.1 509 (10 * s + a)) x (f (40 * (10 * a + b) + (4 * gR h 0 x + gR h 1 x))))) → (∀ u, leafC (gR h) (h.1 521) (hasb (h.1 510 s) a) (h.1 509 (10 * s + a)) a b u → ∀ k, 0 ≤ k → k < 40 → u k ≤ f (40 * (10 * a + b) + k)) → ((20 - v).toNat) < fu → G 39 [(0, .ref 500), (1, vI s), (2, vI a), (3, vI b), (4, vI (40 * (10 * a + b))), (5, vI v)] [] (hm h [(520, f)] [] []) := by
          intro fu
          induction fu with
          | zero => intro v f hv ho hr hd hmx hfu; exact absurd hfu (Nat.not_lt_zero _)
          | succ fu ih_w =>
            intro v f hv ho hr hd hmx hfu
            refine A_iload hG 5 dX12_layLeaves_39 rfl ?_
            refine A_aload_n hG 0 dX12_layLeaves_41 rfl rfl ?_
            refine A_getR (r := 503) hG dX12_layLeaves_42 fl_X12_13 (by decide) k500 (by decide) rfl ?_
            refine A_iconst (n := 0) hG dX12_layLeaves_45 ?_
            refine M_iald (v := h.1 503 0) hG dX12_layLeaves_46 k503 n503 (by omega) rfl (fun ⟨ra_46, rb_46⟩ => ?_)
            refine A_icmp_ge hG 190 dX12_layLeaves_47 (by decide) (by constructor <;> omega) (by constructor <;> omega) (fun c_47 => ?_) (fun c_47 => ?_)
            ·
              exact Ret_v hM dX12_layLeaves_190 (⟨f, ⟨ho, fun k k1 k2 => (hr k k1 k2).1, ⟨fun k k1 k2 => (hr k k1 k2).2, fun e x x1 x2 => (hd x x1 (by rw [(gR_n h).1] at x2; omega)).1 e, fun e x x1 x2 => (hd x x1 (by rw [(gR_n h).1] at x2; omega)).2 e⟩, hmx⟩, rfl⟩)
            ·
              refine A_iload_n hG 3 dX12_layLeaves_50 rfl rfl ?_
              refine A_iload_n hG 2 dX12_layLeaves_51 rfl rfl ?_
              refine A_isub hG dX12_layLeaves_52 ?_
              refine A_iconst (n := 2) hG dX12_layLeaves_53 ?_
              refine A_icmp_ge hG 190 dX12_layLeaves_54 (by decide) (by constructor <;> omega) (by constructor <;> omega) (fun c_54 => ?_) (fun c_54 => ?_)
              ·
                exact Ret_v hM dX12_layLeaves_190 (⟨f, ⟨ho, fun k k1 k2 => (hr k k1 k2).1, ⟨fun k k1 k2 => (hr k k1 k2).2, fun e x x1 x2 => (hd x x1 (by rw [(gR_n h).1] at x2; omega)).1 e, fun e x x1 x2 => (hd x x1 (by rw [(gR_n h).1] at x2; omega)).2 e⟩, hmx⟩, rfl⟩)
              ·
                have ew := gR_w (h := h) (j := v) (by omega)
                have ok := hG0.2.2.1 v (by omega) (by rw [(gR_n h).1]; omega)
                have eow : ¬ a = b → 0 ≤ (h.1 509 (10 * s + a)) ∧ (h.1 509 (10 * s + a)) < h.1 503 0 := fun e => by have := hW0.2 a (by omega) (by omega); rw [rowR_in (by omega), (gR_n h).1] at this; exact this
                have eo : ¬ a = b → _ := fun e => gR_w (h := h) (j := (h.1 509 (10 * s + a))) (eow e)
                refine A_iconst (n := 4) hG dX12_layLeaves_57 ?_
                refine A_aload_n hG 0 dX12_layLeaves_58 rfl rfl ?_
                refine A_getR (r := 504) hG dX12_layLeaves_59 fl_X12_16 (by decide) k500 (by decide) rfl ?_
                refine A_iconst (n := 4) hG dX12_layLeaves_62 ?_
                refine A_iload hG 5 dX12_layLeaves_63 rfl ?_
                refine A_imul hG dX12_layLeaves_65 ?_
                refine M_iald (v := h.1 504 (4 * v)) hG dX12_layLeaves_66 k504 n504 (by omega) rfl (fun ⟨ra_66, rb_66⟩ => ?_)
                refine A_imul hG dX12_layLeaves_67 ?_
                refine A_aload_n hG 0 dX12_layLeaves_68 rfl rfl ?_
                refine A_getR (r := 504) hG dX12_layLeaves_69 fl_X12_16 (by decide) k500 (by decide) rfl ?_
                refine A_iconst (n := 4) hG dX12_layLeaves_72 ?_
                refine A_iload hG 5 dX12_layLeaves_73 rfl ?_
                refine A_imul hG dX12_layLeaves_75 ?_
                refine A_iconst (n := 1) hG dX12_layLeaves_76 ?_
                refine A_iadd hG dX12_layLeaves_77 ?_
                refine M_iald (v := h.1 504 ((4 * v) + 1)) hG dX12_layLeaves_78 k504 n504 (by omega) rfl (fun ⟨ra_78, rb_78⟩ => ?_)
                refine A_iadd hG dX12_layLeaves_79 ?_
                refine A_istore (L' := [(6, vI ((4 * (h.1 504 (4 * v))) + (h.1 504 ((4 * v) + 1)))), (0, .ref 500), (1, vI s), (2, vI a), (3, vI b), (4, vI (40 * (10 * a + b))), (5, vI v)]) hG dX12_layLeaves_80 (by decide) rfl ?_
                have c_3 : ∀ (x : Int), ((0 ≤ x ∧ x ≤ 100000) ∧ ((a = b → x ≤ h.1 521 4) ∧ (b = a + 1 → lfB (gR h) (h.1 521) (hasb (h.1 510 s) a) (h.1 509 (10 * s + a)) v x)) ∧ (∀ y, y ≤ 100000 → ((a = b → y ≤ h.1 521 4) ∧ (b = a + 1 → lfB (gR h) (h.1 521) (hasb (h.1 510 s) a) (h.1 509 (10 * s + a)) v y)) → y ≤ x)) → G 142 [(0, .ref 500), (1, vI s), (2, vI a), (3, vI b), (4, vI (40 * (10 * a + b))), (5, vI v), (6, vI (4 * h.1 504 (4 * v) + h.1 504 (4 * v + 1)))] [vI x] (hm h [(520, f)] [] []) := by
                  intro x hx
                  have hcur := hr (4 * h.1 504 (4 * v) + h.1 504 (4 * v + 1)) (by omega) (by omega)
                  refine A_istore (L' := [(8, vI x), (0, .ref 500), (1, vI s), (2, vI a), (3, vI b), (4, vI (40 * (10 * a + b))), (5, vI v), (6, vI (4 * h.1 504 (4 * v) + h.1 504 (4 * v + 1)))]) hG dX12_layLeaves_142 (by decide) rfl ?_
                  refine A_aload_n hG 1 dX12_layLeaves_144 rfl rfl ?_
                  refine A_getR (r := 520) hG dX12_layLeaves_145 fl_X12_56 (by decide) k500 (by decide) rfl ?_
                  refine A_iload hG 5 dX12_layLeaves_148 rfl ?_
                  refine A_iload hG 7 dX12_layLeaves_150 rfl ?_
                  refine A_iadd hG dX12_layLeaves_152 ?_
                  refine A_iload hG 0 dX12_layLeaves_153 rfl ?_
                  refine A_aload_n hG 1 dX12_layLeaves_155 rfl rfl ?_
                  refine A_getR (r := 520) hG dX12_layLeaves_156 fl_X12_56 (by decide) k500 (by decide) rfl ?_
                  refine A_iload hG 5 dX12_layLeaves_159 rfl ?_
                  refine A_iload hG 7 dX12_layLeaves_161 rfl ?_
                  refine A_iadd hG dX12_layLeaves_163 ?_
                  refine M_iald (v := f ((40 * (10 * a + b)) + (4 * h.1 504 (4 * v) + h.1 504 (4 * v + 1)))) hG dX12_layLeaves_164 k520 n520 (by omega) rfl (fun ⟨ra_164, rb_164⟩ => ?_)
                  refine A_icmp_ge hG 173 dX12_layLeaves_165 (by decide) (by constructor <;> omega) (by constructor <;> omega) (fun c_165 => ?_) (fun c_165 => ?_)
                  ·
                    refine A_aload_n hG 1 dX12_layLeaves_173 rfl rfl ?_
                    refine A_getR (r := 520) hG dX12_layLeaves_174 fl_X12_56 (by decide) k500 (by decide) rfl ?_
                    refine A_iload hG 5 dX12_layLeaves_177 rfl ?_
                    refine A_iload hG 7 dX12_layLeaves_179 rfl ?_
                    refine A_iadd hG dX12_layLeaves_181 ?_
                    refine M_iald (v := f ((40 * (10 * a + b)) + (4 * h.1 504 (4 * v) + h.1 504 (4 * v + 1)))) hG dX12_layLeaves_182 k520 n520 (by omega) rfl (fun ⟨ra_182, rb_182⟩ => ?_)
                    refine M_iast (li' := [(520, up f ((40 * (10 * a + b)) + (4 * h.1 504 (4 * v) + h.1 504 (4 * v + 1))) (f ((40 * (10 * a + b)) + (4 * h.1 504 (4 * v) + h.1 504 (4 * v + 1)))))]) hG dX12_layLeaves_183 k520 n520 (by omega) (by constructor <;> omega) rfl ?_
                    refine A_iinc (L' := [(5, vI (v + 1)), (8, vI x), (0, .ref 500), (1, vI s), (2, vI a), (3, vI b), (4, vI (40 * (10 * a + b))), (6, vI (4 * h.1 504 (4 * v) + h.1 504 (4 * v + 1)))]) hG 6 dX12_layLeaves_184 rfl (by decide) rfl ?_
                    refine A_goto hG 39 dX12_layLeaves_187 (by decide) ?_
                    refine A_sub hG [2, 3, 4, 5, 6, 0] rfl ?_
                    exact ih_w (v + 1) (up f ((40 * (10 * a + b)) + (4 * h.1 504 (4 * v) + h.1 504 (4 * v + 1))) (f ((40 * (10 * a + b)) + (4 * h.1 504 (4 * v) + h.1 504 (4 * v + 1))))) (by omega) (fun j hj => by rw [up_ne _ _ (by omega)]; exact ho j hj) (fun k k1 k2 => by
                        by_cases hk : k = 4 * h.1 504 (4 * v) + h.1 504 (4 * v + 1)
                        · rw [hk, up_eq]; omega
                        · rw [up_ne _ _ (by omega)]; exact hr k k1 k2) (fun x x1 x2 => by
                        have ew2 := gR_w (h := h) (j := x) (by omega)
                        by_cases hk : 4 * gR h 0 x + gR h 1 x = 4 * h.1 504 (4 * v) + h.1 504 (4 * v + 1)
                        · rw [hk, show 40 * (10 * a + b) + (4 * h.1 504 (4 * v) + h.1 504 (4 * v + 1)) = 40 * (10 * a + b) + ((4 * h.1 504 (4 * v)) + (h.1 504 (4 * v + 1))) by omega, up_eq]
                          by_cases hxv : x = v
                          · subst hxv; exact lf_le hx.2.1 (by omega)
                          · have := hd x x1 (by omega)
                            rw [hk] at this
                            exact lf_le this (by omega)
                        · rw [up_ne _ _ (by omega)]
                          by_cases hxv : x = v
                          · subst hxv; omega
                          · exact hd x x1 (by omega)) (fun u hu k k1 k2 => by
                        have hm1 := hmx u hu k k1 k2
                        by_cases hk : k = 4 * h.1 504 (4 * v) + h.1 504 (4 * v + 1)
                        · subst hk
                          rw [up_eq]
                          have hb := hx.2.2 (u (4 * h.1 504 (4 * v) + h.1 504 (4 * v + 1))) (hu.1 _ k1 k2) ⟨fun e => by have := hu.2.1 e v (by omega) (by rw [(gR_n h).1]; omega); rw [ew.1, ew.2.1] at this; exact this, fun e => by have := hu.2.2 e v (by omega) (by rw [(gR_n h).1]; omega); rw [ew.1, ew.2.1] at this; exact this⟩
                          omega
                        · rw [up_ne _ _ (by omega)]; exact hm1) (by omega)
                  ·
                    refine A_iload hG 0 dX12_layLeaves_168 rfl ?_
                    refine A_goto hG 183 dX12_layLeaves_170 (by decide) ?_
                    refine M_iast (li' := [(520, up f ((40 * (10 * a + b)) + (4 * h.1 504 (4 * v) + h.1 504 (4 * v + 1))) x)]) hG dX12_layLeaves_183 k520 n520 (by omega) (by constructor <;> omega) rfl ?_
                    refine A_iinc (L' := [(5, vI (v + 1)), (8, vI x), (0, .ref 500), (1, vI s), (2, vI a), (3, vI b), (4, vI (40 * (10 * a + b))), (6, vI (4 * h.1 504 (4 * v) + h.1 504 (4 * v + 1)))]) hG 6 dX12_layLeaves_184 rfl (by decide) rfl ?_
                    refine A_goto hG 39 dX12_layLeaves_187 (by decide) ?_
                    refine A_sub hG [2, 3, 4, 5, 6, 0] rfl ?_
                    exact ih_w (v + 1) (up f ((40 * (10 * a + b)) + (4 * h.1 504 (4 * v) + h.1 504 (4 * v + 1))) x) (by omega) (fun j hj => by rw [up_ne _ _ (by omega)]; exact ho j hj) (fun k k1 k2 => by
                        by_cases hk : k = 4 * h.1 504 (4 * v) + h.1 504 (4 * v + 1)
                        · rw [hk, up_eq]; omega
                        · rw [up_ne _ _ (by omega)]; exact hr k k1 k2) (fun x x1 x2 => by
                        have ew2 := gR_w (h := h) (j := x) (by omega)
                        by_cases hk : 4 * gR h 0 x + gR h 1 x = 4 * h.1 504 (4 * v) + h.1 504 (4 * v + 1)
                        · rw [hk, show 40 * (10 * a + b) + (4 * h.1 504 (4 * v) + h.1 504 (4 * v + 1)) = 40 * (10 * a + b) + ((4 * h.1 504 (4 * v)) + (h.1 504 (4 * v + 1))) by omega, up_eq]
                          by_cases hxv : x = v
                          · subst hxv; exact lf_le hx.2.1 (by omega)
                          · have := hd x x1 (by omega)
                            rw [hk] at this
                            exact lf_le this (by omega)
                        · rw [up_ne _ _ (by omega)]
                          by_cases hxv : x = v
                          · subst hxv; omega
                          · exact hd x x1 (by omega)) (fun u hu k k1 k2 => by
                        have hm1 := hmx u hu k k1 k2
                        by_cases hk : k = 4 * h.1 504 (4 * v) + h.1 504 (4 * v + 1)
                        · subst hk
                          rw [up_eq]
                          have hb := hx.2.2 (u (4 * h.1 504 (4 * v) + h.1 504 (4 * v + 1))) (hu.1 _ k1 k2) ⟨fun e => by have := hu.2.1 e v (by omega) (by rw [(gR_n h).1]; omega); rw [ew.1, ew.2.1] at this; exact this, fun e => by have := hu.2.2 e v (by omega) (by rw [(gR_n h).1]; omega); rw [ew.1, ew.2.1] at this; exact this⟩
                          omega
                        · rw [up_ne _ _ (by omega)]; exact hm1) (by omega)
                refine A_aload_n hG 1 dX12_layLeaves_82 rfl rfl ?_
                refine A_getR (r := 509) hG dX12_layLeaves_83 fl_X12_31 (by decide) k500 (by decide) rfl ?_
                refine A_bipush (n := 10) hG dX12_layLeaves_86 (by decide) ?_
                refine A_iload_n hG 2 dX12_layLeaves_88 rfl rfl ?_
                refine A_imul hG dX12_layLeaves_89 ?_
                refine A_iload_n hG 3 dX12_layLeaves_90 rfl rfl ?_
                refine A_iadd hG dX12_layLeaves_91 ?_
                refine M_iald (v := h.1 509 ((10 * s) + a)) hG dX12_layLeaves_92 k509 n509 (by omega) rfl (fun ⟨ra_92, rb_92⟩ => ?_)
                refine A_istore (L' := [(7, vI (h.1 509 ((10 * s) + a))), (6, vI ((4 * (h.1 504 (4 * v))) + (h.1 504 ((4 * v) + 1)))), (0, .ref 500), (1, vI s), (2, vI a), (3, vI b), (4, vI (40 * (10 * a + b))), (5, vI v)]) hG dX12_layLeaves_93 (by decide) rfl ?_
                refine A_iload_n hG 4 dX12_layLeaves_95 rfl rfl ?_
                refine A_iload_n hG 5 dX12_layLeaves_96 rfl rfl ?_
                refine A_icmp_ne hG 109 dX12_layLeaves_97 (by decide) (by constructor <;> omega) (by constructor <;> omega) (fun c_97 => ?_) (fun c_97 => ?_)
                ·
                  refine A_aload_n hG 2 dX12_layLeaves_109 rfl rfl ?_
                  refine A_getR (r := 510) hG dX12_layLeaves_110 fl_X12_34 (by decide) k500 (by decide) rfl ?_
                  refine A_iload_n hG 3 dX12_layLeaves_113 rfl rfl ?_
                  refine M_iald (v := h.1 510 s) hG dX12_layLeaves_114 k510 n510 (by omega) rfl (fun ⟨ra_114, rb_114⟩ => ?_)
                  refine A_iload_n hG 4 dX12_layLeaves_115 rfl rfl ?_
                  refine C_Si (as := [vI (h.1 510 s), vI a]) (st := []) hG dX12_layLeaves_116 ml_X12_143 mf_X12_has ms_X12_has (r_has (hm h [(520, f)] [] []) (h.1 510 s) a) (by decide) (by decide) rfl rfl (by decide) (fun z116 g116 ri_116 hp_116 => ?_)
                  obtain ⟨ra_116, rb_116⟩ := ri_116
                  obtain ⟨hz116, rfl⟩ := hp_116
                  refine A_if_eq hG 134 dX12_layLeaves_119 (by decide) (by constructor <;> omega) (fun c_119 => ?_) (fun c_119 => ?_)
                  ·
                    have eow2 := eow c_97
                    refine A_aload_n hG 2 dX12_layLeaves_134 rfl rfl ?_
                    refine A_iload hG 0 dX12_layLeaves_135 rfl ?_
                    refine A_iload hG 7 dX12_layLeaves_137 rfl ?_
                    refine C_Vi (as := [vI (h.1 509 ((10 * s) + a)), vI v]) (st := []) (k := 500) (c := 11) hG dX12_layLeaves_139 ml_X12_171 mf_X12_changes mi_X12_changes se_X12_changes rfl (by decide) k500 (r_changes (hm h [(520, f)] [] []) (u := (h.1 509 ((10 * s) + a))) (v := v) (by omega) (by omega) hp0 hp1 hp2) (by decide) (by decide) rfl rfl (by decide) (fun z139 g139 ri_139 hp_139 => ?_)
                    obtain ⟨ra_139, rb_139⟩ := ri_139
                    have hq_139 : (((h.1 509 ((10 * s) + a)) = v ∧ z139 = 0) ∨ ((h.1 509 ((10 * s) + a)) ≠ v ∧ (0 ≤ z139 ∧ z139 ≤ 100000) ∧ (h.1 504 (4 * (h.1 509 ((10 * s) + a)) + 2) = h.1 504 (4 * v + 2) → z139 ≤ h.1 521 0) ∧ (h.1 504 (4 * (h.1 509 ((10 * s) + a)) + 3) = h.1 504 (4 * v + 3) → z139 ≤ h.1 521 1) ∧ (h.1 504 (4 * (h.1 509 ((10 * s) + a)) + 0) = h.1 504 (4 * v + 0) → z139 ≤ h.1 521 2) ∧ (z139 = 100000 ∨ (h.1 504 (4 * (h.1 509 ((10 * s) + a)) + 2) = h.1 504 (4 * v + 2) ∧ z139 = h.1 521 0) ∨ (h.1 504 (4 * (h.1 509 ((10 * s) + a)) + 3) = h.1 504 (4 * v + 3) ∧ z139 = h.1 521 1) ∨ (h.1 504 (4 * (h.1 509 ((10 * s) + a)) + 0) = h.1 504 (4 * v + 0) ∧ z139 = h.1 521 2)))) ∧ g139 = hm h [(520, f)] [] [] := hp_139
                    obtain ⟨hz139, rfl⟩ := hq_139
                    refine A_sub hG [2, 3, 4, 5, 6, 7, 1] rfl ?_
                    exact c_3 z139 (by have hl := lf_ch c_97 hz139 ew eo (q := (hasb (h.1 510 s) a)) (by first | exact Or.inl (has_no hz116 c_119) | exact Or.inr c_126); exact ⟨hl.1, hl.2.1, fun y y1 y2 => hl.2.2 y y1 y2 (by omega)⟩)
                  ·
                    refine A_iload hG 0 dX12_layLeaves_122 rfl ?_
                    refine A_iload hG 7 dX12_layLeaves_124 rfl ?_
                    refine A_icmp_eq hG 134 dX12_layLeaves_126 (by decide) (by constructor <;> omega) (by constructor <;> omega) (fun c_126 => ?_) (fun c_126 => ?_)
                    ·
                      have eow2 := eow c_97
                      refine A_aload_n hG 2 dX12_layLeaves_134 rfl rfl ?_
                      refine A_iload hG 0 dX12_layLeaves_135 rfl ?_
                      refine A_iload hG 7 dX12_layLeaves_137 rfl ?_
                      refine C_Vi (as := [vI (h.1 509 ((10 * s) + a)), vI v]) (st := []) (k := 500) (c := 11) hG dX12_layLeaves_139 ml_X12_171 mf_X12_changes mi_X12_changes se_X12_changes rfl (by decide) k500 (r_changes (hm h [(520, f)] [] []) (u := (h.1 509 ((10 * s) + a))) (v := v) (by omega) (by omega) hp0 hp1 hp2) (by decide) (by decide) rfl rfl (by decide) (fun z139 g139 ri_139 hp_139 => ?_)
                      obtain ⟨ra_139, rb_139⟩ := ri_139
                      have hq_139 : (((h.1 509 ((10 * s) + a)) = v ∧ z139 = 0) ∨ ((h.1 509 ((10 * s) + a)) ≠ v ∧ (0 ≤ z139 ∧ z139 ≤ 100000) ∧ (h.1 504 (4 * (h.1 509 ((10 * s) + a)) + 2) = h.1 504 (4 * v + 2) → z139 ≤ h.1 521 0) ∧ (h.1 504 (4 * (h.1 509 ((10 * s) + a)) + 3) = h.1 504 (4 * v + 3) → z139 ≤ h.1 521 1) ∧ (h.1 504 (4 * (h.1 509 ((10 * s) + a)) + 0) = h.1 504 (4 * v + 0) → z139 ≤ h.1 521 2) ∧ (z139 = 100000 ∨ (h.1 504 (4 * (h.1 509 ((10 * s) + a)) + 2) = h.1 504 (4 * v + 2) ∧ z139 = h.1 521 0) ∨ (h.1 504 (4 * (h.1 509 ((10 * s) + a)) + 3) = h.1 504 (4 * v + 3) ∧ z139 = h.1 521 1) ∨ (h.1 504 (4 * (h.1 509 ((10 * s) + a)) + 0) = h.1 504 (4 * v + 0) ∧ z139 = h.1 521 2)))) ∧ g139 = hm h [(520, f)] [] [] := hp_139
                      obtain ⟨hz139, rfl⟩ := hq_139
                      refine A_sub hG [2, 3, 4, 5, 6, 7, 1] rfl ?_
                      exact c_3 z139 (by have hl := lf_ch c_97 hz139 ew eo (q := (hasb (h.1 510 s) a)) (by first | exact Or.inl (has_no hz116 c_119) | exact Or.inr c_126); exact ⟨hl.1, hl.2.1, fun y y1 y2 => hl.2.2 y y1 y2 (by omega)⟩)
                    ·
                      refine A_ldc (n := 100000) hG dX12_layLeaves_129 kc_X12_166 ?_
                      refine A_goto hG 142 dX12_layLeaves_131 (by decide) ?_
                      refine A_sub hG [2, 3, 4, 5, 6, 7, 1] rfl ?_
                      exact c_3 100000 (⟨by omega, ⟨fun e => by omega, fun e => ⟨fun e2 => absurd e2 c_126, fun e2 e3 => absurd (has_yes hz116 c_119) e3⟩⟩, fun y y1 y2 => y1⟩)
                ·
                  refine A_aload_n hG 2 dX12_layLeaves_100 rfl rfl ?_
                  refine A_getR (r := 521) hG dX12_layLeaves_101 fl_X12_59 (by decide) k500 (by decide) rfl ?_
                  refine A_iconst (n := 4) hG dX12_layLeaves_104 ?_
                  refine M_iald (v := h.1 521 4) hG dX12_layLeaves_105 k521 n521 (by omega) rfl (fun ⟨ra_105, rb_105⟩ => ?_)
                  refine A_goto hG 142 dX12_layLeaves_106 (by decide) ?_
                  refine A_sub hG [2, 3, 4, 5, 6, 7, 1] rfl ?_
                  exact c_3 (h.1 521 4) (⟨by omega, ⟨fun _ => Int.le_refl _, fun e => by omega⟩, fun y y1 y2 => y2.1 (by omega)⟩)
        refine A_sub hG [1, 2, 3, 4, 5, 0] rfl ?_
        exact w_2 _ 0 f (by omega) ho (fun k k1 k2 => by rw [hf k k1 (by omega)]; omega) (fun x x1 x2 => by omega) (fun u hu k k1 k2 => by rw [hf k k1 (by omega)]; exact hu.1 k k1 k2) (Nat.lt_succ_self _)
      ·
        refine A_aload_n hG 0 dX12_layLeaves_18 rfl rfl ?_
        refine A_getR (r := 520) hG dX12_layLeaves_19 fl_X12_56 (by decide) k500 (by decide) rfl ?_
        refine A_iload hG 4 dX12_layLeaves_22 rfl ?_
        refine A_iload hG 5 dX12_layLeaves_24 rfl ?_
        refine A_iadd hG dX12_layLeaves_26 ?_
        refine A_ldc (n := 100000) hG dX12_layLeaves_27 kc_X12_166 ?_
        refine M_iast (li' := [(520, up f ((40 * (10 * a + b)) + i) 100000)]) hG dX12_layLeaves_29 k520 n520 (by omega) (by constructor <;> omega) rfl ?_
        refine A_iinc (L' := [(5, vI (i + 1)), (0, .ref 500), (1, vI s), (2, vI a), (3, vI b), (4, vI (40 * (10 * a + b)))]) hG 5 dX12_layLeaves_30 rfl (by decide) rfl ?_
        refine A_goto hG 11 dX12_layLeaves_33 (by decide) ?_
        refine A_sub hG [1, 2, 3, 4, 5, 0] rfl ?_
        exact ih_i (i + 1) (up f ((40 * (10 * a + b)) + i) 100000) (by omega) (fun j hj => by rw [up_ne _ _ (by omega)]; exact ho j hj) (fun k k1 k2 => by
            by_cases hk : k = i
            · rw [hk, up_eq]
            · rw [up_ne _ _ (by omega)]; exact hf k k1 (by omega)) (by omega)
  refine A_sub hG [2, 3, 4, 5, 1, 0] rfl ?_
  exact i_1 _ 0 (h.1 520) (by omega) (fun _ _ => rfl) (fun k k1 k2 => by omega) (Nat.lt_succ_self _)

end
