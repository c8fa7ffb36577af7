/-! the class: texts and grammars (printed by gen) -/
section
/-- how many numbers an ITEM has is told by its signs -/
theorem okS_one {t : Int → Int} {L p : Int} {m m' : Nat} (h : okS t L p m) (h' : okS t L p m') (h1 : 1 ≤ m) (h1' : 1 ≤ m') : m = m' := by
  rcases Nat.lt_trichotomy m m' with q | q | q
  · have a := (h (m - 1) (by omega)).2.2
    have b := (h' (m - 1) (by omega)).2.2
    rw [if_neg (by omega)] at a
    rw [if_pos (by omega)] at b
    omega
  · exact q
  · have a := (h' (m' - 1) (by omega)).2.2
    have b := (h (m' - 1) (by omega)).2.2
    rw [if_neg (by omega)] at a
    rw [if_pos (by omega)] at b
    omega
/-- not so many numbers: an earlier sign, or none here -/
theorem okS_no {t : Int → Int} {L p : Int} {j : Nat} (hs : ∀ i, i < j → okN t L (np t L p i) 44) (hn : ¬ okN t L (np t L p j) 44 ∧ ¬ okN t L (np t L p j) 59) : ∀ m : Nat, 1 ≤ m → ¬ okS t L p m := by
  intro m h1 h
  rcases Nat.lt_or_ge j m with q | q
  · have a := h j q
    by_cases c : j + 1 < m
    · rw [if_pos c] at a; exact hn.1 a
    · rw [if_neg c] at a; exact hn.2 a
  · have a := (h (m - 1) (by omega)).2.2
    have b := (hs (m - 1) (by omega)).2.2
    rw [if_neg (by omega)] at a
    omega
theorem okS_yes {t : Int → Int} {L p : Int} {j : Nat} (hs : ∀ i, i < j → okN t L (np t L p i) 44) (hn : okN t L (np t L p j) 59) : okS t L p (j + 1) := by
  intro k hk
  by_cases c : k < j
  · rw [if_pos (by omega)]; exact hs k c
  · have e : k = j := by omega
    subst e
    rw [if_neg (by omega)]; exact hn
theorem okS_5 {t : Int → Int} {L p : Int} (hs : ∀ i, i < 5 → okN t L (np t L p i) 44) : ∀ m : Nat, 1 ≤ m → m ≤ 5 → ¬ okS t L p m := by
  intro m h1 h5 h
  have a := (h (m - 1) (by omega)).2.2
  have b := (hs (m - 1) (by omega)).2.2
  rw [if_neg (by omega)] at a
  omega
/-- the cells of a grammar of the class hold g -/
def gxC (a0 a1 a2 a3 a4 a5 a6 a7 a8 a9 a10 : Int → Int) (g : Gm) : Prop := a0 4 = g 10 0 ∧ a0 10 = g 10 1 ∧ (∀ w, 0 ≤ w → w < g 10 0 → a1 w = g 0 w ∧ a2 w = g 1 w ∧ a3 w = g 2 w ∧ a4 w = g 3 w) ∧
  (∀ r, 0 ≤ r → r < g 10 1 → a5 r = g 4 r ∧ a6 r = g 5 r ∧ a7 r = g 6 r ∧ a8 r = g 7 r ∧ a9 r = g 8 r) ∧ ∀ c, 0 ≤ c → c < 5 → a10 c = g 9 c
theorem gxC_00 {a0 a1 a2 a3 a4 a5 a6 a7 a8 a9 a10 : Int → Int} (h0 : a0 4 = 0) (h1 : a0 10 = 0) (h2 : ∀ c, 0 ≤ c → c < 5 → a10 c = tb 600 c) : gxC a0 a1 a2 a3 a4 a5 a6 a7 a8 a9 a10 g00 :=
  ⟨h0, h1, fun w w1 w2 => by have : w < 0 := w2; omega, fun w w1 w2 => by have : w < 0 := w2; omega, h2⟩
theorem gxC_W {a0 a1 a2 a3 a4 a5 a6 a7 a8 a9 a10 : Int → Int} {g : Gm} (h : gxC a0 a1 a2 a3 a4 a5 a6 a7 a8 a9 a10 g) (a b c d : Int) : gxC (up a0 4 (a0 4 + 1)) (up a1 (a0 4) a) (up a2 (a0 4) b) (up a3 (a0 4) c) (up a4 (a0 4) d) a5 a6 a7 a8 a9 a10 (gAddW g a b c d) := by
  obtain ⟨c1, c2, c3, c4, c5⟩ := h
  refine ⟨?_, ?_, fun w w1 w2 => ?_, c4, c5⟩
  · show up a0 4 _ 4 = up (g 10) 0 _ 0
    rw [up_eq, up_eq, c1]
  · show up a0 4 _ 10 = up (g 10) 0 _ 1
    rw [up_ne _ _ (by decide), up_ne _ _ (by decide)]; exact c2
  · have w3 : w < up (g 10) 0 (g 10 0 + 1) 0 := w2
    rw [up_eq] at w3
    show up a1 (a0 4) a w = up (g 0) (g 10 0) a w ∧ up a2 (a0 4) b w = up (g 1) (g 10 0) b w ∧ up a3 (a0 4) c w = up (g 2) (g 10 0) c w ∧ up a4 (a0 4) d w = up (g 3) (g 10 0) d w
    rw [c1]
    by_cases hq : w = g 10 0
    · subst hq; simp only [up_eq, and_self]
    · simp only [up_ne _ _ hq]; exact c3 w w1 (by omega)
theorem gxC_R {a0 a1 a2 a3 a4 a5 a6 a7 a8 a9 a10 : Int → Int} {g : Gm} (h : gxC a0 a1 a2 a3 a4 a5 a6 a7 a8 a9 a10 g) (a b c d e : Int) : gxC (up a0 10 (a0 10 + 1)) a1 a2 a3 a4 (up a5 (a0 10) a) (up a6 (a0 10) b) (up a7 (a0 10) c) (up a8 (a0 10) d) (up a9 (a0 10) e) a10 (gAddR g a b c d e) := by
  obtain ⟨c1, c2, c3, c4, c5⟩ := h
  refine ⟨?_, ?_, c3, fun w w1 w2 => ?_, c5⟩
  · show up a0 10 _ 4 = up (g 10) 1 _ 0
    rw [up_ne _ _ (by decide), up_ne _ _ (by decide)]; exact c1
  · show up a0 10 _ 10 = up (g 10) 1 _ 1
    rw [up_eq, up_eq, c2]
  · have w3 : w < up (g 10) 1 (g 10 1 + 1) 1 := w2
    rw [up_eq] at w3
    show up a5 (a0 10) a w = up (g 4) (g 10 1) a w ∧ up a6 (a0 10) b w = up (g 5) (g 10 1) b w ∧ up a7 (a0 10) c w = up (g 6) (g 10 1) c w ∧ up a8 (a0 10) d w = up (g 7) (g 10 1) d w ∧ up a9 (a0 10) e w = up (g 8) (g 10 1) e w
    rw [c2]
    by_cases hq : w = g 10 1
    · subst hq; simp only [up_eq, and_self]
    · simp only [up_ne _ _ hq]; exact c4 w w1 (by omega)
theorem gxC_P {a0 a1 a2 a3 a4 a5 a6 a7 a8 a9 a10 : Int → Int} {g : Gm} (h : gxC a0 a1 a2 a3 a4 a5 a6 a7 a8 a9 a10 g) (a b : Int) : gxC a0 a1 a2 a3 a4 a5 a6 a7 a8 a9 (up a10 a b) (gPr g a b) := by
  obtain ⟨c1, c2, c3, c4, c5⟩ := h
  refine ⟨c1, c2, c3, c4, fun c d1 d2 => ?_⟩
  show up a10 a b c = up (g 9) a b c
  by_cases hq : c = a
  · rw [hq, up_eq, up_eq]
  · rw [up_ne _ _ hq, up_ne _ _ hq]; exact c5 c d1 d2
/-- the numbers that an ITEM has -/
def nmC (t : Int → Int) (L q : Int) (m : Nat) (f : Int → Int) : Prop := ∀ i : Nat, i < m → f i = nv t L (np t L q i)
/-- what takeItem tests -/
def itW (l n k : Int) (f : Int → Int) : Prop := l = 119 ∧ k < 16 ∧ n = 4 ∧ f 0 ≤ 9 ∧ f 1 ≤ 3 ∧ f 2 ≤ 15 ∧ f 3 ≤ 15
def itR (l n k : Int) (f : Int → Int) : Prop := l = 114 ∧ k < 24 ∧ n = 5 ∧ f 0 ≤ 9 ∧ f 1 ≤ 9 ∧ f 2 ≤ 9 ∧ f 3 ≤ 1 ∧ f 4 ≤ 1
def itP (l n : Int) (f : Int → Int) : Prop := l = 112 ∧ n = 2 ∧ f 0 ≤ 4 ∧ f 1 ≤ 99
theorem it_W {t f : Int → Int} {L p k : Int} {m : Nat} (hs : okS t L (p + 1) m) (h1 : 1 ≤ m) (hf : nmC t L (p + 1) m f) : itW (t p) m k f ↔ t p = 119 ∧ Wok t L (p + 1) k := by
  constructor
  · rintro ⟨a1, a2, a3, a4, a5, a6, a7⟩
    have e : m = 4 := by omega
    subst e
    have f0 := hf 0 (by omega); have f1 := hf 1 (by omega); have f2 := hf 2 (by omega); have f3 := hf 3 (by omega)
    simp only [Int.natCast_zero, Int.cast_ofNat_Int, Int.natCast_one] at f0 f1 f2 f3
    exact ⟨a1, hs, by omega, by omega, by omega, by omega, a2⟩
  · rintro ⟨a1, a2, a3, a4, a5, a6, a7⟩
    have e : m = 4 := okS_one hs a2 h1 (by omega)
    subst e
    have f0 := hf 0 (by omega); have f1 := hf 1 (by omega); have f2 := hf 2 (by omega); have f3 := hf 3 (by omega)
    simp only [Int.natCast_zero, Int.cast_ofNat_Int, Int.natCast_one] at f0 f1 f2 f3
    exact ⟨a1, a7, by omega, by omega, by omega, by omega, by omega⟩
theorem it_R {t f : Int → Int} {L p k : Int} {m : Nat} (hs : okS t L (p + 1) m) (h1 : 1 ≤ m) (hf : nmC t L (p + 1) m f) : itR (t p) m k f ↔ t p = 114 ∧ Rok t L (p + 1) k := by
  constructor
  · rintro ⟨a1, a2, a3, a4, a5, a6, a7, a8⟩
    have e : m = 5 := by omega
    subst e
    have f0 := hf 0 (by omega); have f1 := hf 1 (by omega); have f2 := hf 2 (by omega); have f3 := hf 3 (by omega); have f4 := hf 4 (by omega)
    simp only [Int.natCast_zero, Int.cast_ofNat_Int, Int.natCast_one] at f0 f1 f2 f3 f4
    exact ⟨a1, hs, by omega, by omega, by omega, by omega, by omega, a2⟩
  · rintro ⟨a1, a2, a3, a4, a5, a6, a7, a8⟩
    have e : m = 5 := okS_one hs a2 h1 (by omega)
    subst e
    have f0 := hf 0 (by omega); have f1 := hf 1 (by omega); have f2 := hf 2 (by omega); have f3 := hf 3 (by omega); have f4 := hf 4 (by omega)
    simp only [Int.natCast_zero, Int.cast_ofNat_Int, Int.natCast_one] at f0 f1 f2 f3 f4
    exact ⟨a1, a8, by omega, by omega, by omega, by omega, by omega, by omega⟩
theorem it_P {t f : Int → Int} {L p : Int} {m : Nat} (hs : okS t L (p + 1) m) (h1 : 1 ≤ m) (hf : nmC t L (p + 1) m f) : itP (t p) m f ↔ t p = 112 ∧ Pok t L (p + 1) := by
  constructor
  · rintro ⟨a1, a2, a3, a4⟩
    have e : m = 2 := by omega
    subst e
    have f0 := hf 0 (by omega); have f1 := hf 1 (by omega)
    simp only [Int.natCast_zero, Int.cast_ofNat_Int, Int.natCast_one] at f0 f1
    exact ⟨a1, hs, by omega⟩
  · rintro ⟨a1, a2, a3⟩
    have e : m = 2 := okS_one hs a2 h1 (by omega)
    subst e
    have f0 := hf 0 (by omega); have f1 := hf 1 (by omega)
    have r1 := nv_rng (hs 1 (by omega))
    simp only [Int.natCast_zero, Int.cast_ofNat_Int, Int.natCast_one] at f0 f1
    exact ⟨a1, by omega, by omega, by omega⟩
theorem step_W {t f : Int → Int} {L p : Int} {m : Nat} {g : Gm} {a0 a1 a2 a3 a4 a5 a6 a7 a8 a9 a10 : Int → Int} (hs : okS t L (p + 1) m) (h1 : 1 ≤ m) (hf : nmC t L (p + 1) m f) (hC : gxC a0 a1 a2 a3 a4 a5 a6 a7 a8 a9 a10 g) (hOk : okG g) (u : itW (t p) m (a0 4) f) : m = 4 ∧ okG (gW t L p g) ∧ gxC (up a0 4 (a0 4 + 1)) (up a1 (a0 4) (f 0)) (up a2 (a0 4) (f 1)) (up a3 (a0 4) (f 2)) (up a4 (a0 4) (f 3)) a5 a6 a7 a8 a9 a10 (gW t L p g) ∧ isW t L p g := by
  have e : m = 4 := by have := u.2.2.1; omega
  subst e
  have hw : isW t L p g := by
    have := (it_W hs h1 hf).mp u
    rw [hC.1] at this
    exact this
  have f0 : f 0 = _ := hf 0 (by omega)
  have f1 : f 1 = _ := hf 1 (by omega)
  have f2 : f 2 = _ := hf 2 (by omega)
  have f3 : f 3 = _ := hf 3 (by omega)
  refine ⟨rfl, okG_W hOk hw, ?_, hw⟩
  rw [f0, f1, f2, f3]
  exact gxC_W hC _ _ _ _
theorem step_R {t f : Int → Int} {L p : Int} {m : Nat} {g : Gm} {a0 a1 a2 a3 a4 a5 a6 a7 a8 a9 a10 : Int → Int} (hs : okS t L (p + 1) m) (h1 : 1 ≤ m) (hf : nmC t L (p + 1) m f) (hC : gxC a0 a1 a2 a3 a4 a5 a6 a7 a8 a9 a10 g) (hOk : okG g) (u : itR (t p) m (a0 10) f) : m = 5 ∧ okG (gRu t L p g) ∧ gxC (up a0 10 (a0 10 + 1)) a1 a2 a3 a4 (up a5 (a0 10) (f 0)) (up a6 (a0 10) (f 1)) (up a7 (a0 10) (f 2)) (up a8 (a0 10) (f 3)) (up a9 (a0 10) (f 4)) a10 (gRu t L p g) ∧ isR t L p g := by
  have e : m = 5 := by have := u.2.2.1; omega
  subst e
  have hw : isR t L p g := by
    have := (it_R hs h1 hf).mp u
    rw [hC.2.1] at this
    exact this
  have f0 : f 0 = _ := hf 0 (by omega)
  have f1 : f 1 = _ := hf 1 (by omega)
  have f2 : f 2 = _ := hf 2 (by omega)
  have f3 : f 3 = _ := hf 3 (by omega)
  have f4 : f 4 = _ := hf 4 (by omega)
  refine ⟨rfl, okG_R hOk hw, ?_, hw⟩
  rw [f0, f1, f2, f3, f4]
  exact gxC_R hC _ _ _ _ _
theorem step_P {t f : Int → Int} {L p : Int} {m : Nat} {g : Gm} {a0 a1 a2 a3 a4 a5 a6 a7 a8 a9 a10 : Int → Int} (hs : okS t L (p + 1) m) (h1 : 1 ≤ m) (hf : nmC t L (p + 1) m f) (hC : gxC a0 a1 a2 a3 a4 a5 a6 a7 a8 a9 a10 g) (hOk : okG g) (u : itP (t p) m f) : m = 2 ∧ okG (gP t L p g) ∧ gxC a0 a1 a2 a3 a4 a5 a6 a7 a8 a9 (up a10 (f 0) (f 1)) (gP t L p g) ∧ isP t L p := by
  have e : m = 2 := by have := u.2.1; omega
  subst e
  have hw : isP t L p := (it_P hs h1 hf).mp u
  have f0 : f 0 = _ := hf 0 (by omega)
  have f1 : f 1 = _ := hf 1 (by omega)
  refine ⟨rfl, okG_P hOk hw, ?_, hw⟩
  rw [f0, f1]
  exact gxC_P hC _ _
theorem no_item {t : Int → Int} {L p : Int} {g : Gm} (h : ∀ m : Nat, 1 ≤ m → m ≤ 5 → ¬ okS t L (p + 1) m) : ¬ isW t L p g ∧ ¬ isR t L p g ∧ ¬ isP t L p :=
  ⟨fun q => h 4 (by omega) (by omega) q.2.1, fun q => h 5 (by omega) (by omega) q.2.1, fun q => h 2 (by omega) (by omega) q.2.1⟩
theorem prs_no {t : Int → Int} {L p : Int} {g : Gm} (hp : p < L) (h : ¬ isW t L p g ∧ ¬ isR t L p g ∧ ¬ isP t L p) : prs t L 1 p g p g := Or.inr (Or.inr (Or.inr (Or.inr ⟨hp, h.1, h.2.1, h.2.2, rfl, rfl⟩)))
set_option maxHeartbeats 2000000 in
set_option maxRecDepth 20000 in
theorem x_textAppend (h : AH) {v : Int} {e f : Int → Int} (he : h.1 2 = e) (hf : h.1 3 = f) (hv : ir v) (hn : 0 ≤ e 1 ∧ e 1 < 400) : AMet yX9_append cX9_append 2 none 0 0 [.ref 2, vI v] h (Qv (fun h' => h' = hm h [(3, up f (e 1) v), (2, up e 1 (e 1 + 1))] [] [])) := by
  subst he
  subst hf
  refine AMet.of (by decide) (Nat.le_of_ble_eq_true rfl) (fun G hM => ?_)
  have hG := hM.cx
  refine A_hm0 (G := G) (L := [(0, .ref 2), (1, vI v)]) ?_
  refine A_aload_n hG 0 dX9_append_0 rfl rfl ?_
  refine M_getI (z := 1) (v := h.1 2 1) hG dX9_append_1 fl_X9_15 (by decide) k2 rfl rfl rfl (fun ⟨ra_1, rb_1⟩ => ?_)
  refine A_sipush (n := 400) hG dX9_append_4 (by decide) ?_
  refine A_icmp_ge hG 30 dX9_append_7 (by decide) (by constructor <;> omega) (by constructor <;> omega) (fun c_7 => ?_) (fun c_7 => ?_)
  ·
    exfalso; omega
  ·
    refine A_aload_n hG 0 dX9_append_10 rfl rfl ?_
    refine A_getR (r := 3) hG dX9_append_11 fl_X9_9 (by decide) k2 (by decide) rfl ?_
    refine A_aload_n hG 0 dX9_append_14 rfl rfl ?_
    refine M_getI (z := 1) (v := h.1 2 1) hG dX9_append_15 fl_X9_15 (by decide) k2 rfl rfl rfl (fun ⟨ra_15, rb_15⟩ => ?_)
    refine A_iload_n hG 1 dX9_append_18 rfl rfl ?_
    refine M_iast (li' := [(3, up (h.1 3) (h.1 2 1) v)]) hG dX9_append_19 k3 n3 (by omega) hv rfl ?_
    refine A_aload_n hG 0 dX9_append_20 rfl rfl ?_
    refine A_dup hG dX9_append_21 rfl ?_
    refine M_getI (z := 1) (v := h.1 2 1) hG dX9_append_22 fl_X9_15 (by decide) k2 rfl rfl rfl (fun ⟨ra_22, rb_22⟩ => ?_)
    refine A_iconst (n := 1) hG dX9_append_25 ?_
    refine A_iadd hG dX9_append_26 ?_
    refine M_putI (z := 1) (li' := [(3, up (h.1 3) (h.1 2 1) v), (2, up (h.1 2) 1 ((h.1 2 1) + 1))]) hG dX9_append_27 fl_X9_15 (by decide) k2 nf_8_1 rfl rfl (by constructor <;> omega) (Or.inl rfl) rfl ?_
    exact Ret_v hM dX9_append_30 rfl

set_option maxHeartbeats 2000000 in
set_option maxRecDepth 20000 in
theorem x_isFigure (h : AH) {p : Int} (hp : 0 ≤ p ∧ p ≤ 400) (hL : 0 ≤ h.1 2 1 ∧ h.1 2 1 ≤ 400) : AMet yX9_isFigure cX9_isFigure 2 (some .boolean) 1 22 [.ref 2, vI p] h (Qi (fun z h' => ((z = 1 ∧ p < h.1 2 1 ∧ 48 ≤ h.1 3 p ∧ h.1 3 p ≤ 57) ∨ (z = 0 ∧ ¬ (p < h.1 2 1 ∧ 48 ≤ h.1 3 p ∧ h.1 3 p ≤ 57))) ∧ h' = h)) := by
  refine AMet.of (by decide) (Nat.le_of_ble_eq_true rfl) (fun G hM => ?_)
  have hG := hM.cx
  refine A_hm0 (G := G) (L := [(0, .ref 2), (1, vI p)]) ?_
  refine A_iload_n hG 1 dX9_isFigure_0 rfl rfl ?_
  refine A_aload_n hG 0 dX9_isFigure_1 rfl rfl ?_
  refine M_getI (z := 1) (v := h.1 2 1) hG dX9_isFigure_2 fl_X9_15 (by decide) k2 rfl rfl rfl (fun ⟨ra_2, rb_2⟩ => ?_)
  refine A_icmp_ge hG 28 dX9_isFigure_5 (by decide) (by constructor <;> omega) (by constructor <;> omega) (fun c_5 => ?_) (fun c_5 => ?_)
  ·
    refine A_iconst (n := 0) hG dX9_isFigure_28 ?_
    exact Ret_z hM dX9_isFigure_29 (by omega) (⟨by omega, rfl⟩)
  ·
    refine A_aload_n hG 0 dX9_isFigure_8 rfl rfl ?_
    refine A_getR (r := 3) hG dX9_isFigure_9 fl_X9_9 (by decide) k2 (by decide) rfl ?_
    refine A_iload_n hG 1 dX9_isFigure_12 rfl rfl ?_
    refine M_iald (v := h.1 3 p) hG dX9_isFigure_13 k3 n3 (by omega) rfl (fun ⟨ra_13, rb_13⟩ => ?_)
    refine A_bipush (n := 48) hG dX9_isFigure_14 (by decide) ?_
    refine A_bipush (n := 57) hG dX9_isFigure_16 (by decide) ?_
    refine C_Si (as := [vI (h.1 3 p), vI 48, vI 57]) (st := []) hG dX9_isFigure_18 ml_X9_42 mf_X11_isWithin ms_X11_isWithin (x_isWithin (hm h [] [] []) (by constructor <;> omega) (by constructor <;> omega) (by constructor <;> omega)) (by decide) (by decide) rfl rfl (Nat.le_of_ble_eq_true rfl) (fun z18 g18 ri_18 hp_18 => ?_)
    obtain ⟨ra_18, rb_18⟩ := ri_18
    obtain ⟨hz18, rfl⟩ := hp_18
    refine A_if_eq hG 28 dX9_isFigure_21 (by decide) (by constructor <;> omega) (fun c_21 => ?_) (fun c_21 => ?_)
    ·
      refine A_iconst (n := 0) hG dX9_isFigure_28 ?_
      exact Ret_z hM dX9_isFigure_29 (by omega) (⟨by omega, rfl⟩)
    ·
      refine A_iconst (n := 1) hG dX9_isFigure_24 ?_
      refine A_goto hG 29 dX9_isFigure_25 (by decide) ?_
      exact Ret_z hM dX9_isFigure_29 (by omega) (⟨by omega, rfl⟩)

set_option maxHeartbeats 2000000 in
set_option maxRecDepth 20000 in
theorem x_itemEnd (h : AH) {p : Int} (hp : 0 ≤ p ∧ p < h.1 2 1) (hL : 0 ≤ h.1 2 1 ∧ h.1 2 1 ≤ 400) : AMet yX9_itemEnd cX9_itemEnd 5 (some .int) 2 43 [.ref 2, vI p] h (Qi (fun z h' => ∃ e nm : Int → Int, ((∀ q, q ≠ 3 → e q = h.1 2 q) ∧ ((z = -4 ∧ ∀ m : Nat, 1 ≤ m → m ≤ 5 → ¬ okS (h.1 3) (h.1 2 1) (p + 1) m) ∨ (∃ m : Nat, 1 ≤ m ∧ m ≤ 5 ∧ okS (h.1 3) (h.1 2 1) (p + 1) m ∧ z = np (h.1 3) (h.1 2 1) (p + 1) m ∧ e 3 = m ∧ nmC (h.1 3) (h.1 2 1) (p + 1) m nm))) ∧ h' = hm h [(2, e), (4, nm)] [] [])) := by
  refine AMet.of (by decide) (Nat.le_of_ble_eq_true rfl) (fun G hM => ?_)
  have hG := hM.cx
  refine A_hm0 (G := G) (L := [(0, .ref 2), (1, vI p)]) ?_
  refine A_aload_n hG 0 dX9_itemEnd_0 rfl rfl ?_
  refine A_iconst (n := 0) hG dX9_itemEnd_1 ?_
  refine M_putI (z := 3) (li' := [(2, up (h.1 2) 3 0)]) hG dX9_itemEnd_2 fl_X9_22 (by decide) k2 nf_8_3 rfl rfl (by constructor <;> omega) (Or.inl rfl) rfl ?_
  refine A_iload_n hG 1 dX9_itemEnd_5 rfl rfl ?_
  refine A_iconst (n := 1) hG dX9_itemEnd_6 ?_
  refine A_iadd hG dX9_itemEnd_7 ?_
  refine A_istore_n (L' := [(2, vI (p + 1)), (0, .ref 2), (1, vI p)]) hG dX9_itemEnd_8 rfl (by decide) rfl ?_
  refine A_iconst (n := 0) hG dX9_itemEnd_9 ?_
  refine A_istore_n (L' := [(3, vI 0), (2, vI (p + 1)), (0, .ref 2), (1, vI p)]) hG dX9_itemEnd_10 rfl (by decide) rfl ?_
  refine A_insI 4 (li' := [(2, up (h.1 2) 3 0), (4, h.1 4)]) rfl ?_
  have k_0 : ∀ fu : Nat, ∀ (j : Nat) (at_ : Int) (e : Int → Int) (nm : Int → Int), (j ≤ 5) → (at_ = np (h.1 3) (h.1 2 1) (p + 1) j) → (p + 1 ≤ at_ ∧ at_ ≤ h.1 2 1) → (∀ q, q ≠ 3 → e q = h.1 2 q) → (∀ i, i < j → okN (h.1 3) (h.1 2 1) (np (h.1 3) (h.1 2 1) (p + 1) i) 44) → (nmC (h.1 3) (h.1 2 1) (p + 1) j nm) → (5 - j) < fu → G 11 [(0, .ref 2), (1, vI p), (2, vI at_), (3, vI (j : Int))] [] (hm h [(2, e), (4, nm)] [] []) := by
    intro fu
    induction fu with
    | zero => intro j at_ e nm hj hat hle hE hs hnm hfu; exact absurd hfu (Nat.not_lt_zero _)
    | succ fu ih_k =>
      intro j at_ e nm hj hat hle hE hs hnm hfu
      have hsz : e 1 = h.1 2 1 := hE 1 (by decide)
      refine A_iload_n hG 3 dX9_itemEnd_11 rfl rfl ?_
      refine A_iconst (n := 5) hG dX9_itemEnd_12 ?_
      refine A_icmp_ge hG 141 dX9_itemEnd_13 (by decide) (by constructor <;> omega) (by constructor <;> omega) (fun c_13 => ?_) (fun c_13 => ?_)
      ·
        refine A_bipush (n := -4) hG dX9_itemEnd_141 (by decide) ?_
        exact Ret_i hM dX9_itemEnd_143 (by constructor <;> omega) (⟨e, nm, ⟨hE, Or.inl ⟨rfl, fun m m1 m5 => okS_5 (fun i hi => hs i (by omega)) m m1 m5⟩⟩, rfl⟩)
      ·
        refine A_aload_n hG 0 dX9_itemEnd_16 rfl rfl ?_
        refine A_iload_n hG 2 dX9_itemEnd_17 rfl rfl ?_
        refine C_Vi (as := [vI at_]) (st := []) (k := 2) (c := 8) hG dX9_itemEnd_18 ml_X9_38 mf_X9_isFigure mi_X9_isFigure se_X9_isFigure rfl (by decide) k2 (x_isFigure (hm h [(2, e), (4, nm)] [] []) (p := at_) (by omega) (show 0 ≤ e 1 ∧ e 1 ≤ 400 by omega)) (by decide) (by decide) rfl rfl (Nat.le_of_ble_eq_true rfl) (fun z18 g18 ri_18 hp_18 => ?_)
        obtain ⟨ra_18, rb_18⟩ := ri_18
        have hq_18 : ((z18 = 1 ∧ at_ < e 1 ∧ 48 ≤ h.1 3 at_ ∧ h.1 3 at_ ≤ 57) ∨ (z18 = 0 ∧ ¬ (at_ < e 1 ∧ 48 ≤ h.1 3 at_ ∧ h.1 3 at_ ≤ 57))) ∧ g18 = hm h [(2, e), (4, nm)] [] [] := hp_18
        clear hp_18
        obtain ⟨hz18, rfl⟩ := hq_18
        refine A_if_ne hG 27 dX9_itemEnd_21 (by decide) (by constructor <;> omega) (fun c_21 => ?_) (fun c_21 => ?_)
        ·
          have v_2 : ∀ (b : Int) (v : Int), (b = nq (h.1 3) (h.1 2 1) at_) → (v = nv (h.1 3) (h.1 2 1) at_) → (b ≤ h.1 2 1 ∧ at_ + 1 ≤ b) → (0 ≤ v ∧ v ≤ 99) → G 69 [(0, .ref 2), (1, vI p), (2, vI b), (3, vI (j : Int)), (4, vI v)] [] (hm h [(2, e), (4, nm)] [] []) := by
            intro b v hb hv hbb hv9
            have hval : v = nv (h.1 3) (h.1 2 1) (np (h.1 3) (h.1 2 1) (p + 1) j) := by rw [← hat]; exact hv
            have hnq : nq (h.1 3) (h.1 2 1) (np (h.1 3) (h.1 2 1) (p + 1) j) = b := by rw [← hat]; exact hb.symm
            refine A_aload_n hG 0 dX9_itemEnd_69 rfl rfl ?_
            refine A_getR (r := 4) hG dX9_itemEnd_70 fl_X9_19 (by decide) k2 (by decide) rfl ?_
            refine A_iload_n hG 3 dX9_itemEnd_73 rfl rfl ?_
            refine A_iload hG 4 dX9_itemEnd_74 rfl ?_
            refine M_iast (li' := [(2, e), (4, up nm (j : Int) v)]) hG dX9_itemEnd_76 k4 n4 (by omega) (by constructor <;> omega) rfl ?_
            refine A_aload_n hG 0 dX9_itemEnd_77 rfl rfl ?_
            refine A_iload_n hG 3 dX9_itemEnd_78 rfl rfl ?_
            refine A_iconst (n := 1) hG dX9_itemEnd_79 ?_
            refine A_iadd hG dX9_itemEnd_80 ?_
            refine M_putI (z := 3) (li' := [(2, up e 3 ((j : Int) + 1)), (4, up nm (j : Int) v)]) hG dX9_itemEnd_81 fl_X9_22 (by decide) k2 nf_8_3 rfl rfl (by constructor <;> omega) (Or.inl rfl) rfl ?_
            refine A_iload_n hG 2 dX9_itemEnd_84 rfl rfl ?_
            refine A_aload_n hG 0 dX9_itemEnd_85 rfl rfl ?_
            refine M_getI (z := 1) (v := e 1) hG dX9_itemEnd_86 fl_X9_15 (by decide) k2 rfl rfl (up_ne e (z := 3) (j := 1) ((j : Int) + 1) (by decide)) (fun ⟨ra_86, rb_86⟩ => ?_)
            refine A_icmp_ge hG 114 dX9_itemEnd_89 (by decide) (by constructor <;> omega) (by constructor <;> omega) (fun c_89 => ?_) (fun c_89 => ?_)
            ·
              refine A_bipush (n := -4) hG dX9_itemEnd_114 (by decide) ?_
              exact Ret_i hM dX9_itemEnd_116 (by constructor <;> omega) (⟨_, _, ⟨fun q hq => (up_ne _ _ hq).trans (hE q hq), Or.inl ⟨rfl, fun m m1 _ => okS_no hs ⟨fun q => by have := q.2; rw [hnq] at this; omega, fun q => by have := q.2; rw [hnq] at this; omega⟩ m m1⟩⟩, rfl⟩)
            ·
              have w_3 : (h.1 3 b = 44 ∨ h.1 3 b = 59) → G 117 [(0, .ref 2), (1, vI p), (2, vI b), (3, vI (j : Int)), (4, vI v)] [] (hm h [(2, up e 3 ((j : Int) + 1)), (4, up nm (j : Int) v)] [] []) := by
                intro  hsg
                refine A_iinc (L' := [(2, vI (b + 1)), (0, .ref 2), (1, vI p), (3, vI (j : Int)), (4, vI v)]) hG 2 dX9_itemEnd_117 rfl (by decide) rfl ?_
                refine A_aload_n hG 1 dX9_itemEnd_120 rfl rfl ?_
                refine A_getR (r := 3) hG dX9_itemEnd_121 fl_X9_9 (by decide) k2 (by decide) rfl ?_
                refine A_iload_n hG 0 dX9_itemEnd_124 rfl rfl ?_
                refine A_iconst (n := 1) hG dX9_itemEnd_125 ?_
                refine A_isub hG dX9_itemEnd_126 ?_
                refine M_iald (v := h.1 3 b) hG dX9_itemEnd_127 k3 n3 (by omega) (congrArg (h.1 3) (show b + 1 - 1 = b by omega)) (fun ⟨ra_127, rb_127⟩ => ?_)
                refine A_bipush (n := 59) hG dX9_itemEnd_128 (by decide) ?_
                refine A_icmp_ne hG 135 dX9_itemEnd_130 (by decide) (by constructor <;> omega) (by constructor <;> omega) (fun c_130 => ?_) (fun c_130 => ?_)
                ·
                  have hok : okN (h.1 3) (h.1 2 1) (np (h.1 3) (h.1 2 1) (p + 1) j) 44 := by rw [← hat]; exact ⟨by omega, by rw [← hb]; omega, by rw [← hb]; omega⟩
                  refine A_iinc (L' := [(3, vI ((j : Int) + 1)), (2, vI (b + 1)), (0, .ref 2), (1, vI p), (4, vI v)]) hG 3 dX9_itemEnd_135 rfl (by decide) rfl ?_
                  refine A_goto hG 11 dX9_itemEnd_138 (by decide) ?_
                  refine A_sub hG [2, 3, 1, 0] rfl ?_
                  exact ih_k (j + 1) (b + 1) (up e 3 ((j : Int) + 1)) (up nm (j : Int) v) (by omega) (by show _ = nq _ _ _ + 1; omega) (by omega) (fun q hq => (up_ne _ _ hq).trans (hE q hq)) (fun i hi => by
                      by_cases hq : i = j
                      · subst hq; exact hok
                      · exact hs i (by omega)) (fun i hi => by
                      by_cases hq : i = j
                      · rw [hq, up_eq]; exact hval
                      · rw [up_ne _ _ (by omega)]; exact hnm i (by omega)) (by omega)
                ·
                  have hok : okN (h.1 3) (h.1 2 1) (np (h.1 3) (h.1 2 1) (p + 1) j) 59 := by rw [← hat]; exact ⟨by omega, by rw [← hb]; omega, by rw [← hb]; omega⟩
                  refine A_iload_n hG 0 dX9_itemEnd_133 rfl rfl ?_
                  exact Ret_i hM dX9_itemEnd_134 (by constructor <;> omega) (⟨_, _, ⟨fun q hq => (up_ne _ _ hq).trans (hE q hq), Or.inr ⟨j + 1, by omega, by omega, okS_yes hs hok, by show _ = nq _ _ _ + 1; omega, by rw [up_eq]; omega, fun i hi => by
                      by_cases hq : i = j
                      · rw [hq, up_eq]; exact hval
                      · rw [up_ne _ _ (by omega)]; exact hnm i (by omega)⟩⟩, rfl⟩)
              refine A_aload_n hG 0 dX9_itemEnd_92 rfl rfl ?_
              refine A_getR (r := 3) hG dX9_itemEnd_93 fl_X9_9 (by decide) k2 (by decide) rfl ?_
              refine A_iload_n hG 2 dX9_itemEnd_96 rfl rfl ?_
              refine M_iald (v := h.1 3 b) hG dX9_itemEnd_97 k3 n3 (by omega) rfl (fun ⟨ra_97, rb_97⟩ => ?_)
              refine A_bipush (n := 44) hG dX9_itemEnd_98 (by decide) ?_
              refine A_icmp_eq hG 117 dX9_itemEnd_100 (by decide) (by constructor <;> omega) (by constructor <;> omega) (fun c_100 => ?_) (fun c_100 => ?_)
              ·
                refine A_sub hG [0, 1, 2, 3, 4] rfl ?_
                exact w_3 (by omega)
              ·
                refine A_aload_n hG 0 dX9_itemEnd_103 rfl rfl ?_
                refine A_getR (r := 3) hG dX9_itemEnd_104 fl_X9_9 (by decide) k2 (by decide) rfl ?_
                refine A_iload_n hG 2 dX9_itemEnd_107 rfl rfl ?_
                refine M_iald (v := h.1 3 b) hG dX9_itemEnd_108 k3 n3 (by omega) rfl (fun ⟨ra_108, rb_108⟩ => ?_)
                refine A_bipush (n := 59) hG dX9_itemEnd_109 (by decide) ?_
                refine A_icmp_eq hG 117 dX9_itemEnd_111 (by decide) (by constructor <;> omega) (by constructor <;> omega) (fun c_111 => ?_) (fun c_111 => ?_)
                ·
                  refine A_sub hG [0, 1, 2, 3, 4] rfl ?_
                  exact w_3 (by omega)
                ·
                  refine A_bipush (n := -4) hG dX9_itemEnd_114 (by decide) ?_
                  exact Ret_i hM dX9_itemEnd_116 (by constructor <;> omega) (⟨_, _, ⟨fun q hq => (up_ne _ _ hq).trans (hE q hq), Or.inl ⟨rfl, fun m m1 _ => okS_no hs ⟨fun q => by have := q.2; rw [hnq] at this; omega, fun q => by have := q.2; rw [hnq] at this; omega⟩ m m1⟩⟩, rfl⟩)
          have hfig : at_ < h.1 2 1 ∧ 48 ≤ h.1 3 at_ ∧ h.1 3 at_ ≤ 57 := by omega
          refine A_aload_n hG 0 dX9_itemEnd_27 rfl rfl ?_
          refine A_getR (r := 3) hG dX9_itemEnd_28 fl_X9_9 (by decide) k2 (by decide) rfl ?_
          refine A_iload_n hG 2 dX9_itemEnd_31 rfl rfl ?_
          refine M_iald (v := h.1 3 at_) hG dX9_itemEnd_32 k3 n3 (by omega) rfl (fun ⟨ra_32, rb_32⟩ => ?_)
          refine A_bipush (n := 48) hG dX9_itemEnd_33 (by decide) ?_
          refine A_isub hG dX9_itemEnd_35 ?_
          refine A_istore (L' := [(4, vI ((h.1 3 at_) - 48)), (0, .ref 2), (1, vI p), (2, vI at_), (3, vI (j : Int))]) hG dX9_itemEnd_36 (by decide) rfl ?_
          refine A_iinc (L' := [(2, vI (at_ + 1)), (4, vI ((h.1 3 at_) - 48)), (0, .ref 2), (1, vI p), (3, vI (j : Int))]) hG 3 dX9_itemEnd_38 rfl (by decide) rfl ?_
          refine A_aload_n hG 2 dX9_itemEnd_41 rfl rfl ?_
          refine A_iload_n hG 0 dX9_itemEnd_42 rfl rfl ?_
          refine C_Vi (as := [vI (at_ + 1)]) (st := []) (k := 2) (c := 8) hG dX9_itemEnd_43 ml_X9_38 mf_X9_isFigure mi_X9_isFigure se_X9_isFigure rfl (by decide) k2 (x_isFigure (hm h [(2, e), (4, nm)] [] []) (p := at_ + 1) (by omega) (show 0 ≤ e 1 ∧ e 1 ≤ 400 by omega)) (by decide) (by decide) rfl rfl (Nat.le_of_ble_eq_true rfl) (fun z43 g43 ri_43 hp_43 => ?_)
          obtain ⟨ra_43, rb_43⟩ := ri_43
          have hq_43 : ((z43 = 1 ∧ (at_ + 1) < e 1 ∧ 48 ≤ h.1 3 (at_ + 1) ∧ h.1 3 (at_ + 1) ≤ 57) ∨ (z43 = 0 ∧ ¬ ((at_ + 1) < e 1 ∧ 48 ≤ h.1 3 (at_ + 1) ∧ h.1 3 (at_ + 1) ≤ 57))) ∧ g43 = hm h [(2, e), (4, nm)] [] [] := hp_43
          clear hp_43
          obtain ⟨hz43, rfl⟩ := hq_43
          refine A_if_eq hG 69 dX9_itemEnd_46 (by decide) (by constructor <;> omega) (fun c_46 => ?_) (fun c_46 => ?_)
          ·
            have hq46 : ¬ (at_ + 1 < h.1 2 1 ∧ 48 ≤ h.1 3 (at_ + 1) ∧ h.1 3 (at_ + 1) ≤ 57) := by omega
            refine A_sub hG [2, 3, 0, 4, 1] rfl ?_
            exact v_2 (at_ + 1) ((h.1 3 at_) - 48) (by unfold nq; first | (rw [if_pos (by omega)]; omega) | (rw [if_neg (by omega)])) (by unfold nv; first | (rw [if_pos (by omega)]; omega) | (rw [if_neg (by omega)])) (by omega) (by omega)
          ·
            have hq46 : at_ + 1 < h.1 2 1 ∧ 48 ≤ h.1 3 (at_ + 1) ∧ h.1 3 (at_ + 1) ≤ 57 := by omega
            refine A_iload hG 1 dX9_itemEnd_49 rfl ?_
            refine A_bipush (n := 10) hG dX9_itemEnd_51 (by decide) ?_
            refine A_imul hG dX9_itemEnd_53 ?_
            refine A_aload_n hG 2 dX9_itemEnd_54 rfl rfl ?_
            refine A_getR (r := 3) hG dX9_itemEnd_55 fl_X9_9 (by decide) k2 (by decide) rfl ?_
            refine A_iload_n hG 0 dX9_itemEnd_58 rfl rfl ?_
            refine M_iald (v := h.1 3 (at_ + 1)) hG dX9_itemEnd_59 k3 n3 (by omega) rfl (fun ⟨ra_59, rb_59⟩ => ?_)
            refine A_iadd hG dX9_itemEnd_60 ?_
            refine A_bipush (n := 48) hG dX9_itemEnd_61 (by decide) ?_
            refine A_isub hG dX9_itemEnd_63 ?_
            refine A_istore (L' := [(4, vI (((((h.1 3 at_) - 48) * 10) + (h.1 3 (at_ + 1))) - 48)), (2, vI (at_ + 1)), (0, .ref 2), (1, vI p), (3, vI (j : Int))]) hG dX9_itemEnd_64 (by decide) rfl ?_
            refine A_iinc (L' := [(2, vI ((at_ + 1) + 1)), (4, vI (((((h.1 3 at_) - 48) * 10) + (h.1 3 (at_ + 1))) - 48)), (0, .ref 2), (1, vI p), (3, vI (j : Int))]) hG 1 dX9_itemEnd_66 rfl (by decide) rfl ?_
            refine A_sub hG [2, 3, 0, 4, 1] rfl ?_
            exact v_2 ((at_ + 1) + 1) (((((h.1 3 at_) - 48) * 10) + (h.1 3 (at_ + 1))) - 48) (by unfold nq; first | (rw [if_pos (by omega)]; omega) | (rw [if_neg (by omega)])) (by unfold nv; first | (rw [if_pos (by omega)]; omega) | (rw [if_neg (by omega)])) (by omega) (by omega)
        ·
          refine A_bipush (n := -4) hG dX9_itemEnd_24 (by decide) ?_
          exact Ret_i hM dX9_itemEnd_26 (by constructor <;> omega) (⟨e, nm, ⟨hE, Or.inl ⟨rfl, fun m m1 _ => okS_no hs ⟨fun q => by have := q.1; rw [← hat] at this; omega, fun q => by have := q.1; rw [← hat] at this; omega⟩ m m1⟩⟩, rfl⟩)
  refine A_sub hG [2, 3, 1, 0] rfl ?_
  exact k_0 _ 0 (p + 1) (up (h.1 2) 3 0) (h.1 4) (by omega) rfl (by omega) (fun q hq => up_ne _ _ hq) (fun i hi => by omega) (fun i hi => by omega) (Nat.lt_succ_self _)

set_option maxHeartbeats 2000000 in
set_option maxRecDepth 20000 in
theorem x_areWithin601 (h : AH) {n : Int} (hn : 0 ≤ n ∧ n ≤ 5) : AMet yX1_areWithin cX1_areWithin 4 (some .boolean) 0 0 [.ref 4, vI n, .ref 601] h (Qi (fun z h' => ((z = 1 ∧ n = 4 ∧ h.1 4 0 ≤ 9 ∧ h.1 4 1 ≤ 3 ∧ h.1 4 2 ≤ 15 ∧ h.1 4 3 ≤ 15) ∨ (z = 0 ∧ ¬ (n = 4 ∧ h.1 4 0 ≤ 9 ∧ h.1 4 1 ≤ 3 ∧ h.1 4 2 ≤ 15 ∧ h.1 4 3 ≤ 15))) ∧ h' = h)) := by
  have tb_e : tb 601 0 = 9 ∧ tb 601 1 = 3 ∧ tb 601 2 = 15 ∧ tb 601 3 = 15 := by decide
  refine AMet.of (by decide) (Nat.le_of_ble_eq_true rfl) (fun G hM => ?_)
  have hG := hM.cx
  refine A_hm0 (G := G) (L := [(0, .ref 4), (1, vI n), (2, .ref 601)]) ?_
  refine A_iload_n hG 1 dX1_areWithin_0 rfl rfl ?_
  refine A_aload_n hG 2 dX1_areWithin_1 rfl rfl ?_
  refine A_tlen hG dX1_areWithin_2 k601 n601 ?_
  refine A_icmp_eq hG 8 dX1_areWithin_3 (by decide) (by constructor <;> omega) (by constructor <;> omega) (fun c_3 => ?_) (fun c_3 => ?_)
  ·
    refine A_iconst (n := 0) hG dX1_areWithin_8 ?_
    refine A_istore_n (L' := [(3, vI 0), (0, .ref 4), (1, vI n), (2, .ref 601)]) hG dX1_areWithin_9 rfl (by decide) rfl ?_
    have i_0 : ∀ fu : Nat, ∀ (i : Int), (0 ≤ i ∧ i ≤ 4) → (∀ j, 0 ≤ j → j < i → h.1 4 j ≤ tb 601 j) → ((9 - i).toNat) < fu → G 10 [(0, .ref 4), (1, vI n), (2, .ref 601), (3, vI i)] [] (hm h [] [] []) := by
      intro fu
      induction fu with
      | zero => intro i hi hq hfu; exact absurd hfu (Nat.not_lt_zero _)
      | succ fu ih_i =>
        intro i hi hq hfu
        have htb := tb_rng 601 i
        refine A_iload_n hG 3 dX1_areWithin_10 rfl rfl ?_
        refine A_iload_n hG 1 dX1_areWithin_11 rfl rfl ?_
        refine A_icmp_ge hG 32 dX1_areWithin_12 (by decide) (by constructor <;> omega) (by constructor <;> omega) (fun c_12 => ?_) (fun c_12 => ?_)
        ·
          refine A_iconst (n := 1) hG dX1_areWithin_32 ?_
          exact Ret_z hM dX1_areWithin_33 (by omega) (⟨Or.inl ⟨rfl, by omega, by have := hq 0 (by omega) (by omega); omega, by have := hq 1 (by omega) (by omega); omega, by have := hq 2 (by omega) (by omega); omega, by have := hq 3 (by omega) (by omega); omega⟩, rfl⟩)
        ·
          refine A_aload_n hG 0 dX1_areWithin_15 rfl rfl ?_
          refine A_iload_n hG 3 dX1_areWithin_16 rfl rfl ?_
          refine M_iald (v := h.1 4 i) hG dX1_areWithin_17 k4 n4 (by omega) rfl (fun ⟨ra_17, rb_17⟩ => ?_)
          refine A_aload_n hG 2 dX1_areWithin_18 rfl rfl ?_
          refine A_iload_n hG 3 dX1_areWithin_19 rfl rfl ?_
          refine A_tald hG dX1_areWithin_20 k601 n601 (by omega) ?_
          refine A_icmp_le hG 26 dX1_areWithin_21 (by decide) (by constructor <;> omega) (by constructor <;> omega) (fun c_21 => ?_) (fun c_21 => ?_)
          ·
            refine A_iinc (L' := [(3, vI (i + 1)), (0, .ref 4), (1, vI n), (2, .ref 601)]) hG 3 dX1_areWithin_26 rfl (by decide) rfl ?_
            refine A_goto hG 10 dX1_areWithin_29 (by decide) ?_
            refine A_sub hG [1, 2, 3, 0] rfl ?_
            exact ih_i (i + 1) (by omega) (fun j j0 j1 => by
                by_cases hj : j = i
                · rw [hj]; exact c_21
                · exact hq j j0 (by omega)) (by omega)
          ·
            refine A_iconst (n := 0) hG dX1_areWithin_24 ?_
            exact Ret_z hM dX1_areWithin_25 (by omega) (⟨Or.inr ⟨rfl, fun q => by
                rcases (show i = 0 ∨ i = 1 ∨ i = 2 ∨ i = 3 by omega) with rfl | rfl | rfl | rfl
                · omega
                · omega
                · omega
                · omega⟩, rfl⟩)
    refine A_sub hG [1, 2, 3, 0] rfl ?_
    exact i_0 _ 0 (by omega) (fun j j0 j1 => by omega) (Nat.lt_succ_self _)
  ·
    refine A_iconst (n := 0) hG dX1_areWithin_6 ?_
    exact Ret_z hM dX1_areWithin_7 (by omega) (⟨Or.inr ⟨rfl, fun q => c_3 q.1⟩, rfl⟩)

set_option maxHeartbeats 2000000 in
set_option maxRecDepth 20000 in
theorem x_areWithin602 (h : AH) {n : Int} (hn : 0 ≤ n ∧ n ≤ 5) : AMet yX1_areWithin cX1_areWithin 4 (some .boolean) 0 0 [.ref 4, vI n, .ref 602] h (Qi (fun z h' => ((z = 1 ∧ n = 5 ∧ h.1 4 0 ≤ 9 ∧ h.1 4 1 ≤ 9 ∧ h.1 4 2 ≤ 9 ∧ h.1 4 3 ≤ 1 ∧ h.1 4 4 ≤ 1) ∨ (z = 0 ∧ ¬ (n = 5 ∧ h.1 4 0 ≤ 9 ∧ h.1 4 1 ≤ 9 ∧ h.1 4 2 ≤ 9 ∧ h.1 4 3 ≤ 1 ∧ h.1 4 4 ≤ 1))) ∧ h' = h)) := by
  have tb_e : tb 602 0 = 9 ∧ tb 602 1 = 9 ∧ tb 602 2 = 9 ∧ tb 602 3 = 1 ∧ tb 602 4 = 1 := by decide
  refine AMet.of (by decide) (Nat.le_of_ble_eq_true rfl) (fun G hM => ?_)
  have hG := hM.cx
  refine A_hm0 (G := G) (L := [(0, .ref 4), (1, vI n), (2, .ref 602)]) ?_
  refine A_iload_n hG 1 dX1_areWithin_0 rfl rfl ?_
  refine A_aload_n hG 2 dX1_areWithin_1 rfl rfl ?_
  refine A_tlen hG dX1_areWithin_2 k602 n602 ?_
  refine A_icmp_eq hG 8 dX1_areWithin_3 (by decide) (by constructor <;> omega) (by constructor <;> omega) (fun c_3 => ?_) (fun c_3 => ?_)
  ·
    refine A_iconst (n := 0) hG dX1_areWithin_8 ?_
    refine A_istore_n (L' := [(3, vI 0), (0, .ref 4), (1, vI n), (2, .ref 602)]) hG dX1_areWithin_9 rfl (by decide) rfl ?_
    have i_0 : ∀ fu : Nat, ∀ (i : Int), (0 ≤ i ∧ i ≤ 5) → (∀ j, 0 ≤ j → j < i → h.1 4 j ≤ tb 602 j) → ((9 - i).toNat) < fu → G 10 [(0, .ref 4), (1, vI n), (2, .ref 602), (3, vI i)] [] (hm h [] [] []) := by
      intro fu
      induction fu with
      | zero => intro i hi hq hfu; exact absurd hfu (Nat.not_lt_zero _)
      | succ fu ih_i =>
        intro i hi hq hfu
        have htb := tb_rng 602 i
        refine A_iload_n hG 3 dX1_areWithin_10 rfl rfl ?_
        refine A_iload_n hG 1 dX1_areWithin_11 rfl rfl ?_
        refine A_icmp_ge hG 32 dX1_areWithin_12 (by decide) (by constructor <;> omega) (by constructor <;> omega) (fun c_12 => ?_) (fun c_12 => ?_)
        ·
          refine A_iconst (n := 1) hG dX1_areWithin_32 ?_
          exact Ret_z hM dX1_areWithin_33 (by omega) (⟨Or.inl ⟨rfl, by omega, by have := hq 0 (by omega) (by omega); omega, by have := hq 1 (by omega) (by omega); omega, by have := hq 2 (by omega) (by omega); omega, by have := hq 3 (by omega) (by omega); omega, by have := hq 4 (by omega) (by omega); omega⟩, rfl⟩)
        ·
          refine A_aload_n hG 0 dX1_areWithin_15 rfl rfl ?_
          refine A_iload_n hG 3 dX1_areWithin_16 rfl rfl ?_
          refine M_iald (v := h.1 4 i) hG dX1_areWithin_17 k4 n4 (by omega) rfl (fun ⟨ra_17, rb_17⟩ => ?_)
          refine A_aload_n hG 2 dX1_areWithin_18 rfl rfl ?_
          refine A_iload_n hG 3 dX1_areWithin_19 rfl rfl ?_
          refine A_tald hG dX1_areWithin_20 k602 n602 (by omega) ?_
          refine A_icmp_le hG 26 dX1_areWithin_21 (by decide) (by constructor <;> omega) (by constructor <;> omega) (fun c_21 => ?_) (fun c_21 => ?_)
          ·
            refine A_iinc (L' := [(3, vI (i + 1)), (0, .ref 4), (1, vI n), (2, .ref 602)]) hG 3 dX1_areWithin_26 rfl (by decide) rfl ?_
            refine A_goto hG 10 dX1_areWithin_29 (by decide) ?_
            refine A_sub hG [1, 2, 3, 0] rfl ?_
            exact ih_i (i + 1) (by omega) (fun j j0 j1 => by
                by_cases hj : j = i
                · rw [hj]; exact c_21
                · exact hq j j0 (by omega)) (by omega)
          ·
            refine A_iconst (n := 0) hG dX1_areWithin_24 ?_
            exact Ret_z hM dX1_areWithin_25 (by omega) (⟨Or.inr ⟨rfl, fun q => by
                rcases (show i = 0 ∨ i = 1 ∨ i = 2 ∨ i = 3 ∨ i = 4 by omega) with rfl | rfl | rfl | rfl | rfl
                · omega
                · omega
                · omega
                · omega
                · omega⟩, rfl⟩)
    refine A_sub hG [1, 2, 3, 0] rfl ?_
    exact i_0 _ 0 (by omega) (fun j j0 j1 => by omega) (Nat.lt_succ_self _)
  ·
    refine A_iconst (n := 0) hG dX1_areWithin_6 ?_
    exact Ret_z hM dX1_areWithin_7 (by omega) (⟨Or.inr ⟨rfl, fun q => c_3 q.1⟩, rfl⟩)

set_option maxHeartbeats 2000000 in
set_option maxRecDepth 20000 in
theorem x_areWithin603 (h : AH) {n : Int} (hn : 0 ≤ n ∧ n ≤ 5) : AMet yX1_areWithin cX1_areWithin 4 (some .boolean) 0 0 [.ref 4, vI n, .ref 603] h (Qi (fun z h' => ((z = 1 ∧ n = 2 ∧ h.1 4 0 ≤ 4 ∧ h.1 4 1 ≤ 99) ∨ (z = 0 ∧ ¬ (n = 2 ∧ h.1 4 0 ≤ 4 ∧ h.1 4 1 ≤ 99))) ∧ h' = h)) := by
  have tb_e : tb 603 0 = 4 ∧ tb 603 1 = 99 := by decide
  refine AMet.of (by decide) (Nat.le_of_ble_eq_true rfl) (fun G hM => ?_)
  have hG := hM.cx
  refine A_hm0 (G := G) (L := [(0, .ref 4), (1, vI n), (2, .ref 603)]) ?_
  refine A_iload_n hG 1 dX1_areWithin_0 rfl rfl ?_
  refine A_aload_n hG 2 dX1_areWithin_1 rfl rfl ?_
  refine A_tlen hG dX1_areWithin_2 k603 n603 ?_
  refine A_icmp_eq hG 8 dX1_areWithin_3 (by decide) (by constructor <;> omega) (by constructor <;> omega) (fun c_3 => ?_) (fun c_3 => ?_)
  ·
    refine A_iconst (n := 0) hG dX1_areWithin_8 ?_
    refine A_istore_n (L' := [(3, vI 0), (0, .ref 4), (1, vI n), (2, .ref 603)]) hG dX1_areWithin_9 rfl (by decide) rfl ?_
    have i_0 : ∀ fu : Nat, ∀ (i : Int), (0 ≤ i ∧ i ≤ 2) → (∀ j, 0 ≤ j → j < i → h.1 4 j ≤ tb 603 j) → ((9 - i).toNat) < fu → G 10 [(0, .ref 4), (1, vI n), (2, .ref 603), (3, vI i)] [] (hm h [] [] []) := by
      intro fu
      induction fu with
      | zero => intro i hi hq hfu; exact absurd hfu (Nat.not_lt_zero _)
      | succ fu ih_i =>
        intro i hi hq hfu
        have htb := tb_rng 603 i
        refine A_iload_n hG 3 dX1_areWithin_10 rfl rfl ?_
        refine A_iload_n hG 1 dX1_areWithin_11 rfl rfl ?_
        refine A_icmp_ge hG 32 dX1_areWithin_12 (by decide) (by constructor <;> omega) (by constructor <;> omega) (fun c_12 => ?_) (fun c_12 => ?_)
        ·
          refine A_iconst (n := 1) hG dX1_areWithin_32 ?_
          exact Ret_z hM dX1_areWithin_33 (by omega) (⟨Or.inl ⟨rfl, by omega, by have := hq 0 (by omega) (by omega); omega, by have := hq 1 (by omega) (by omega); omega⟩, rfl⟩)
        ·
          refine A_aload_n hG 0 dX1_areWithin_15 rfl rfl ?_
          refine A_iload_n hG 3 dX1_areWithin_16 rfl rfl ?_
          refine M_iald (v := h.1 4 i) hG dX1_areWithin_17 k4 n4 (by omega) rfl (fun ⟨ra_17, rb_17⟩ => ?_)
          refine A_aload_n hG 2 dX1_areWithin_18 rfl rfl ?_
          refine A_iload_n hG 3 dX1_areWithin_19 rfl rfl ?_
          refine A_tald hG dX1_areWithin_20 k603 n603 (by omega) ?_
          refine A_icmp_le hG 26 dX1_areWithin_21 (by decide) (by constructor <;> omega) (by constructor <;> omega) (fun c_21 => ?_) (fun c_21 => ?_)
          ·
            refine A_iinc (L' := [(3, vI (i + 1)), (0, .ref 4), (1, vI n), (2, .ref 603)]) hG 3 dX1_areWithin_26 rfl (by decide) rfl ?_
            refine A_goto hG 10 dX1_areWithin_29 (by decide) ?_
            refine A_sub hG [1, 2, 3, 0] rfl ?_
            exact ih_i (i + 1) (by omega) (fun j j0 j1 => by
                by_cases hj : j = i
                · rw [hj]; exact c_21
                · exact hq j j0 (by omega)) (by omega)
          ·
            refine A_iconst (n := 0) hG dX1_areWithin_24 ?_
            exact Ret_z hM dX1_areWithin_25 (by omega) (⟨Or.inr ⟨rfl, fun q => by
                rcases (show i = 0 ∨ i = 1 by omega) with rfl | rfl
                · omega
                · omega⟩, rfl⟩)
    refine A_sub hG [1, 2, 3, 0] rfl ?_
    exact i_0 _ 0 (by omega) (fun j j0 j1 => by omega) (Nat.lt_succ_self _)
  ·
    refine A_iconst (n := 0) hG dX1_areWithin_6 ?_
    exact Ret_z hM dX1_areWithin_7 (by omega) (⟨Or.inr ⟨rfl, fun q => c_3 q.1⟩, rfl⟩)

set_option maxHeartbeats 2000000 in
set_option maxRecDepth 20000 in
theorem x_grestart20 (h : AH) : AMet yX1_restart cX1_restart 1 none 1 40 [.ref 20] h (Qv (fun h' => h' = hm h [(20, up (up (h.1 20) 4 0) 10 0), (30, cpI (tb 600) (h.1 30) 0 0 5)] [] [])) := by
  refine AMet.of (by decide) (Nat.le_of_ble_eq_true rfl) (fun G hM => ?_)
  have hG := hM.cx
  refine A_hm0 (G := G) (L := [(0, .ref 20)]) ?_
  refine A_aload_n hG 0 dX1_restart_0 rfl rfl ?_
  refine A_iconst (n := 0) hG dX1_restart_1 ?_
  refine M_putI (z := 4) (li' := [(20, up (h.1 20) 4 0)]) hG dX1_restart_2 fl_X1_24 (by decide) k20 nf_1_4 rfl rfl (by constructor <;> omega) (Or.inl rfl) rfl ?_
  refine A_aload_n hG 0 dX1_restart_5 rfl rfl ?_
  refine A_iconst (n := 0) hG dX1_restart_6 ?_
  refine M_putI (z := 10) (li' := [(20, up (up (h.1 20) 4 0) 10 0)]) hG dX1_restart_7 fl_X1_44 (by decide) k20 nf_1_10 rfl rfl (by constructor <;> omega) (Or.inl rfl) rfl ?_
  refine A_gets (k := 600) hG dX1_restart_10 k600 gs_X1_47 ?_
  refine A_iconst (n := 0) hG dX1_restart_13 ?_
  refine A_aload_n hG 0 dX1_restart_14 rfl rfl ?_
  refine A_getR (r := 30) hG dX1_restart_15 fl_X1_55 (by decide) k20 (by decide) rfl ?_
  refine A_iconst (n := 0) hG dX1_restart_18 ?_
  refine A_iconst (n := 5) hG dX1_restart_19 ?_
  refine M_copy (f := tb 600) (li' := [(20, up (up (h.1 20) 4 0) 10 0), (30, cpI (tb 600) (h.1 30) 0 0 5)]) hG dX1_restart_20 lw_X1_58 (Or.inr ⟨k600, rfl⟩) k30 n600 n30 (by omega) (by omega) (by omega) (fun _ => ir_tb600) (by decide) (by decide) (Nat.le_of_ble_eq_true rfl) rfl ?_
  exact Ret_v hM dX1_restart_23 rfl

set_option maxHeartbeats 2000000 in
set_option maxRecDepth 20000 in
theorem x_addWord20 (h : AH) (hn : 0 ≤ h.1 20 4 ∧ h.1 20 4 < 16) : AMet yX1_addWord cX1_addWord 2 (some .boolean) 0 0 [.ref 20, .ref 4] h (Qi (fun z h' => z = 1 ∧ h' = hm h [(21, up (h.1 21) (h.1 20 4) (h.1 4 0)), (22, up (h.1 22) (h.1 20 4) (h.1 4 1)), (23, up (h.1 23) (h.1 20 4) (h.1 4 2)), (24, up (h.1 24) (h.1 20 4) (h.1 4 3)), (20, up (h.1 20) 4 (h.1 20 4 + 1))] [] [])) := by
  refine AMet.of (by decide) (Nat.le_of_ble_eq_true rfl) (fun G hM => ?_)
  have hG := hM.cx
  refine A_hm0 (G := G) (L := [(0, .ref 20), (1, .ref 4)]) ?_
  refine A_aload_n hG 0 dX1_addWord_0 rfl rfl ?_
  refine A_getR (r := 21) hG dX1_addWord_1 fl_X1_9 (by decide) k20 (by decide) rfl ?_
  refine A_aload_n hG 0 dX1_addWord_4 rfl rfl ?_
  refine M_getI (z := 4) (v := h.1 20 4) hG dX1_addWord_5 fl_X1_24 (by decide) k20 rfl rfl rfl (fun ⟨ra_5, rb_5⟩ => ?_)
  refine A_aload_n hG 1 dX1_addWord_8 rfl rfl ?_
  refine A_iconst (n := 0) hG dX1_addWord_9 ?_
  refine M_iald (v := h.1 4 0) hG dX1_addWord_10 k4 n4 (by omega) rfl (fun ⟨ra_10, rb_10⟩ => ?_)
  refine M_iast (li' := [(21, up (h.1 21) (h.1 20 4) (h.1 4 0))]) hG dX1_addWord_11 k21 n21 (by omega) (by constructor <;> omega) rfl ?_
  refine A_aload_n hG 0 dX1_addWord_12 rfl rfl ?_
  refine A_getR (r := 22) hG dX1_addWord_13 fl_X1_15 (by decide) k20 (by decide) rfl ?_
  refine A_aload_n hG 0 dX1_addWord_16 rfl rfl ?_
  refine M_getI (z := 4) (v := h.1 20 4) hG dX1_addWord_17 fl_X1_24 (by decide) k20 rfl rfl rfl (fun ⟨ra_17, rb_17⟩ => ?_)
  refine A_aload_n hG 1 dX1_addWord_20 rfl rfl ?_
  refine A_iconst (n := 1) hG dX1_addWord_21 ?_
  refine M_iald (v := h.1 4 1) hG dX1_addWord_22 k4 n4 (by omega) rfl (fun ⟨ra_22, rb_22⟩ => ?_)
  refine M_iast (li' := [(21, up (h.1 21) (h.1 20 4) (h.1 4 0)), (22, up (h.1 22) (h.1 20 4) (h.1 4 1))]) hG dX1_addWord_23 k22 n22 (by omega) (by constructor <;> omega) rfl ?_
  refine A_aload_n hG 0 dX1_addWord_24 rfl rfl ?_
  refine A_getR (r := 23) hG dX1_addWord_25 fl_X1_18 (by decide) k20 (by decide) rfl ?_
  refine A_aload_n hG 0 dX1_addWord_28 rfl rfl ?_
  refine M_getI (z := 4) (v := h.1 20 4) hG dX1_addWord_29 fl_X1_24 (by decide) k20 rfl rfl rfl (fun ⟨ra_29, rb_29⟩ => ?_)
  refine A_aload_n hG 1 dX1_addWord_32 rfl rfl ?_
  refine A_iconst (n := 2) hG dX1_addWord_33 ?_
  refine M_iald (v := h.1 4 2) hG dX1_addWord_34 k4 n4 (by omega) rfl (fun ⟨ra_34, rb_34⟩ => ?_)
  refine M_iast (li' := [(21, up (h.1 21) (h.1 20 4) (h.1 4 0)), (22, up (h.1 22) (h.1 20 4) (h.1 4 1)), (23, up (h.1 23) (h.1 20 4) (h.1 4 2))]) hG dX1_addWord_35 k23 n23 (by omega) (by constructor <;> omega) rfl ?_
  refine A_aload_n hG 0 dX1_addWord_36 rfl rfl ?_
  refine A_getR (r := 24) hG dX1_addWord_37 fl_X1_21 (by decide) k20 (by decide) rfl ?_
  refine A_aload_n hG 0 dX1_addWord_40 rfl rfl ?_
  refine M_getI (z := 4) (v := h.1 20 4) hG dX1_addWord_41 fl_X1_24 (by decide) k20 rfl rfl rfl (fun ⟨ra_41, rb_41⟩ => ?_)
  refine A_aload_n hG 1 dX1_addWord_44 rfl rfl ?_
  refine A_iconst (n := 3) hG dX1_addWord_45 ?_
  refine M_iald (v := h.1 4 3) hG dX1_addWord_46 k4 n4 (by omega) rfl (fun ⟨ra_46, rb_46⟩ => ?_)
  refine M_iast (li' := [(21, up (h.1 21) (h.1 20 4) (h.1 4 0)), (22, up (h.1 22) (h.1 20 4) (h.1 4 1)), (23, up (h.1 23) (h.1 20 4) (h.1 4 2)), (24, up (h.1 24) (h.1 20 4) (h.1 4 3))]) hG dX1_addWord_47 k24 n24 (by omega) (by constructor <;> omega) rfl ?_
  refine A_aload_n hG 0 dX1_addWord_48 rfl rfl ?_
  refine A_dup hG dX1_addWord_49 rfl ?_
  refine M_getI (z := 4) (v := h.1 20 4) hG dX1_addWord_50 fl_X1_24 (by decide) k20 rfl rfl rfl (fun ⟨ra_50, rb_50⟩ => ?_)
  refine A_iconst (n := 1) hG dX1_addWord_53 ?_
  refine A_iadd hG dX1_addWord_54 ?_
  refine M_putI (z := 4) (li' := [(21, up (h.1 21) (h.1 20 4) (h.1 4 0)), (22, up (h.1 22) (h.1 20 4) (h.1 4 1)), (23, up (h.1 23) (h.1 20 4) (h.1 4 2)), (24, up (h.1 24) (h.1 20 4) (h.1 4 3)), (20, up (h.1 20) 4 ((h.1 20 4) + 1))]) hG dX1_addWord_55 fl_X1_24 (by decide) k20 nf_1_4 rfl rfl (by constructor <;> omega) (Or.inl rfl) rfl ?_
  refine A_iconst (n := 1) hG dX1_addWord_58 ?_
  exact Ret_z hM dX1_addWord_59 (by omega) (⟨rfl, rfl⟩)

set_option maxHeartbeats 2000000 in
set_option maxRecDepth 20000 in
theorem x_addRule20 (h : AH) (hn : 0 ≤ h.1 20 10 ∧ h.1 20 10 < 24) (h3 : h.1 4 3 = 0 ∨ h.1 4 3 = 1) (h4 : h.1 4 4 = 0 ∨ h.1 4 4 = 1) : AMet yX1_addRule cX1_addRule 2 (some .boolean) 0 0 [.ref 20, .ref 4] h (Qi (fun z h' => z = 1 ∧ h' = hm h [(25, up (h.1 25) (h.1 20 10) (h.1 4 0)), (26, up (h.1 26) (h.1 20 10) (h.1 4 1)), (27, up (h.1 27) (h.1 20 10) (h.1 4 2)), (28, up (h.1 28) (h.1 20 10) (h.1 4 3)), (29, up (h.1 29) (h.1 20 10) (h.1 4 4)), (20, up (h.1 20) 10 (h.1 20 10 + 1))] [] [])) := by
  refine AMet.of (by decide) (Nat.le_of_ble_eq_true rfl) (fun G hM => ?_)
  have hG := hM.cx
  refine A_hm0 (G := G) (L := [(0, .ref 20), (1, .ref 4)]) ?_
  refine A_aload_n hG 0 dX1_addRule_0 rfl rfl ?_
  refine A_getR (r := 25) hG dX1_addRule_1 fl_X1_28 (by decide) k20 (by decide) rfl ?_
  refine A_aload_n hG 0 dX1_addRule_4 rfl rfl ?_
  refine M_getI (z := 10) (v := h.1 20 10) hG dX1_addRule_5 fl_X1_44 (by decide) k20 rfl rfl rfl (fun ⟨ra_5, rb_5⟩ => ?_)
  refine A_aload_n hG 1 dX1_addRule_8 rfl rfl ?_
  refine A_iconst (n := 0) hG dX1_addRule_9 ?_
  refine M_iald (v := h.1 4 0) hG dX1_addRule_10 k4 n4 (by omega) rfl (fun ⟨ra_10, rb_10⟩ => ?_)
  refine M_iast (li' := [(25, up (h.1 25) (h.1 20 10) (h.1 4 0))]) hG dX1_addRule_11 k25 n25 (by omega) (by constructor <;> omega) rfl ?_
  refine A_aload_n hG 0 dX1_addRule_12 rfl rfl ?_
  refine A_getR (r := 26) hG dX1_addRule_13 fl_X1_31 (by decide) k20 (by decide) rfl ?_
  refine A_aload_n hG 0 dX1_addRule_16 rfl rfl ?_
  refine M_getI (z := 10) (v := h.1 20 10) hG dX1_addRule_17 fl_X1_44 (by decide) k20 rfl rfl rfl (fun ⟨ra_17, rb_17⟩ => ?_)
  refine A_aload_n hG 1 dX1_addRule_20 rfl rfl ?_
  refine A_iconst (n := 1) hG dX1_addRule_21 ?_
  refine M_iald (v := h.1 4 1) hG dX1_addRule_22 k4 n4 (by omega) rfl (fun ⟨ra_22, rb_22⟩ => ?_)
  refine M_iast (li' := [(25, up (h.1 25) (h.1 20 10) (h.1 4 0)), (26, up (h.1 26) (h.1 20 10) (h.1 4 1))]) hG dX1_addRule_23 k26 n26 (by omega) (by constructor <;> omega) rfl ?_
  refine A_aload_n hG 0 dX1_addRule_24 rfl rfl ?_
  refine A_getR (r := 27) hG dX1_addRule_25 fl_X1_34 (by decide) k20 (by decide) rfl ?_
  refine A_aload_n hG 0 dX1_addRule_28 rfl rfl ?_
  refine M_getI (z := 10) (v := h.1 20 10) hG dX1_addRule_29 fl_X1_44 (by decide) k20 rfl rfl rfl (fun ⟨ra_29, rb_29⟩ => ?_)
  refine A_aload_n hG 1 dX1_addRule_32 rfl rfl ?_
  refine A_iconst (n := 2) hG dX1_addRule_33 ?_
  refine M_iald (v := h.1 4 2) hG dX1_addRule_34 k4 n4 (by omega) rfl (fun ⟨ra_34, rb_34⟩ => ?_)
  refine M_iast (li' := [(25, up (h.1 25) (h.1 20 10) (h.1 4 0)), (26, up (h.1 26) (h.1 20 10) (h.1 4 1)), (27, up (h.1 27) (h.1 20 10) (h.1 4 2))]) hG dX1_addRule_35 k27 n27 (by omega) (by constructor <;> omega) rfl ?_
  refine A_aload_n hG 0 dX1_addRule_36 rfl rfl ?_
  have a_0 : ∀ (x : Int), (x = h.1 4 3) → G 56 [(0, .ref 20), (1, .ref 4)] [vI x, vI (h.1 20 10), .ref 28] (hm h [(25, up (h.1 25) (h.1 20 10) (h.1 4 0)), (26, up (h.1 26) (h.1 20 10) (h.1 4 1)), (27, up (h.1 27) (h.1 20 10) (h.1 4 2))] [] []) := by
    intro x hx
    refine M_zast (li' := [(25, up (h.1 25) (h.1 20 10) (h.1 4 0)), (26, up (h.1 26) (h.1 20 10) (h.1 4 1)), (27, up (h.1 27) (h.1 20 10) (h.1 4 2)), (28, up (h.1 28) (h.1 20 10) x)]) hG dX1_addRule_56 k28 n28 (by omega) (by omega) rfl ?_
    refine A_aload_n hG 0 dX1_addRule_57 rfl rfl ?_
    have b_1 : ∀ (y : Int), (y = h.1 4 4) → G 77 [(0, .ref 20), (1, .ref 4)] [vI y, vI (h.1 20 10), .ref 29] (hm h [(25, up (h.1 25) (h.1 20 10) (h.1 4 0)), (26, up (h.1 26) (h.1 20 10) (h.1 4 1)), (27, up (h.1 27) (h.1 20 10) (h.1 4 2)), (28, up (h.1 28) (h.1 20 10) x)] [] []) := by
      intro y hy
      refine M_zast (li' := [(25, up (h.1 25) (h.1 20 10) (h.1 4 0)), (26, up (h.1 26) (h.1 20 10) (h.1 4 1)), (27, up (h.1 27) (h.1 20 10) (h.1 4 2)), (28, up (h.1 28) (h.1 20 10) x), (29, up (h.1 29) (h.1 20 10) y)]) hG dX1_addRule_77 k29 n29 (by omega) (by omega) rfl ?_
      refine A_aload_n hG 0 dX1_addRule_78 rfl rfl ?_
      refine A_dup hG dX1_addRule_79 rfl ?_
      refine M_getI (z := 10) (v := h.1 20 10) hG dX1_addRule_80 fl_X1_44 (by decide) k20 rfl rfl rfl (fun ⟨ra_80, rb_80⟩ => ?_)
      refine A_iconst (n := 1) hG dX1_addRule_83 ?_
      refine A_iadd hG dX1_addRule_84 ?_
      refine M_putI (z := 10) (li' := [(25, up (h.1 25) (h.1 20 10) (h.1 4 0)), (26, up (h.1 26) (h.1 20 10) (h.1 4 1)), (27, up (h.1 27) (h.1 20 10) (h.1 4 2)), (28, up (h.1 28) (h.1 20 10) x), (29, up (h.1 29) (h.1 20 10) y), (20, up (h.1 20) 10 ((h.1 20 10) + 1))]) hG dX1_addRule_85 fl_X1_44 (by decide) k20 nf_1_10 rfl rfl (by constructor <;> omega) (Or.inl rfl) rfl ?_
      refine A_iconst (n := 1) hG dX1_addRule_88 ?_
      exact Ret_z hM dX1_addRule_89 (by omega) (⟨rfl, by rw [hx, hy]⟩)
    refine A_getR (r := 29) hG dX1_addRule_58 fl_X1_41 (by decide) k20 (by decide) rfl ?_
    refine A_aload_n hG 0 dX1_addRule_61 rfl rfl ?_
    refine M_getI (z := 10) (v := h.1 20 10) hG dX1_addRule_62 fl_X1_44 (by decide) k20 rfl rfl rfl (fun ⟨ra_62, rb_62⟩ => ?_)
    refine A_aload_n hG 1 dX1_addRule_65 rfl rfl ?_
    refine A_iconst (n := 4) hG dX1_addRule_66 ?_
    refine M_iald (v := h.1 4 4) hG dX1_addRule_67 k4 n4 (by omega) rfl (fun ⟨ra_67, rb_67⟩ => ?_)
    refine A_iconst (n := 1) hG dX1_addRule_68 ?_
    refine A_icmp_ne hG 76 dX1_addRule_69 (by decide) (by constructor <;> omega) (by constructor <;> omega) (fun c_69 => ?_) (fun c_69 => ?_)
    ·
      refine A_iconst (n := 0) hG dX1_addRule_76 ?_
      refine A_sub hG [0, 1] rfl ?_
      exact b_1 0 (by omega)
    ·
      refine A_iconst (n := 1) hG dX1_addRule_72 ?_
      refine A_goto hG 77 dX1_addRule_73 (by decide) ?_
      refine A_sub hG [0, 1] rfl ?_
      exact b_1 1 (by omega)
  refine A_getR (r := 28) hG dX1_addRule_37 fl_X1_37 (by decide) k20 (by decide) rfl ?_
  refine A_aload_n hG 0 dX1_addRule_40 rfl rfl ?_
  refine M_getI (z := 10) (v := h.1 20 10) hG dX1_addRule_41 fl_X1_44 (by decide) k20 rfl rfl rfl (fun ⟨ra_41, rb_41⟩ => ?_)
  refine A_aload_n hG 1 dX1_addRule_44 rfl rfl ?_
  refine A_iconst (n := 3) hG dX1_addRule_45 ?_
  refine M_iald (v := h.1 4 3) hG dX1_addRule_46 k4 n4 (by omega) rfl (fun ⟨ra_46, rb_46⟩ => ?_)
  refine A_iconst (n := 1) hG dX1_addRule_47 ?_
  refine A_icmp_ne hG 55 dX1_addRule_48 (by decide) (by constructor <;> omega) (by constructor <;> omega) (fun c_48 => ?_) (fun c_48 => ?_)
  ·
    refine A_iconst (n := 0) hG dX1_addRule_55 ?_
    refine A_sub hG [0, 1] rfl ?_
    exact a_0 0 (by omega)
  ·
    refine A_iconst (n := 1) hG dX1_addRule_51 ?_
    refine A_goto hG 56 dX1_addRule_52 (by decide) ?_
    refine A_sub hG [0, 1] rfl ?_
    exact a_0 1 (by omega)

set_option maxHeartbeats 2000000 in
set_option maxRecDepth 20000 in
theorem x_tellPrice20 (h : AH) (h0 : 0 ≤ h.1 4 0 ∧ h.1 4 0 ≤ 4) : AMet yX1_tellPrice cX1_tellPrice 2 (some .boolean) 0 0 [.ref 20, .ref 4] h (Qi (fun z h' => z = 1 ∧ h' = hm h [(30, up (h.1 30) (h.1 4 0) (h.1 4 1))] [] [])) := by
  refine AMet.of (by decide) (Nat.le_of_ble_eq_true rfl) (fun G hM => ?_)
  have hG := hM.cx
  refine A_hm0 (G := G) (L := [(0, .ref 20), (1, .ref 4)]) ?_
  refine A_aload_n hG 0 dX1_tellPrice_0 rfl rfl ?_
  refine A_getR (r := 30) hG dX1_tellPrice_1 fl_X1_55 (by decide) k20 (by decide) rfl ?_
  refine A_aload_n hG 1 dX1_tellPrice_4 rfl rfl ?_
  refine A_iconst (n := 0) hG dX1_tellPrice_5 ?_
  refine M_iald (v := h.1 4 0) hG dX1_tellPrice_6 k4 n4 (by omega) rfl (fun ⟨ra_6, rb_6⟩ => ?_)
  refine A_aload_n hG 1 dX1_tellPrice_7 rfl rfl ?_
  refine A_iconst (n := 1) hG dX1_tellPrice_8 ?_
  refine M_iald (v := h.1 4 1) hG dX1_tellPrice_9 k4 n4 (by omega) rfl (fun ⟨ra_9, rb_9⟩ => ?_)
  refine M_iast (li' := [(30, up (h.1 30) (h.1 4 0) (h.1 4 1))]) hG dX1_tellPrice_10 k30 n30 (by omega) (by constructor <;> omega) rfl ?_
  refine A_iconst (n := 1) hG dX1_tellPrice_11 ?_
  exact Ret_z hM dX1_tellPrice_12 (by omega) (⟨rfl, rfl⟩)

set_option maxHeartbeats 2000000 in
set_option maxRecDepth 20000 in
theorem x_takeItem20 (h : AH) {l n : Int} (hl : ir l) (hn : 0 ≤ n ∧ n ≤ 5) (hf : ∀ i : Int, 0 ≤ i → i < n → 0 ≤ h.1 4 i) (hw : 0 ≤ h.1 20 4) (hr : 0 ≤ h.1 20 10) : AMet yX1_takeItem cX1_takeItem 4 (some .boolean) 1 23 [.ref 20, vI l, .ref 4, vI n] h (Qi (fun z h' => (z = 1 ∧ itW l n (h.1 20 4) (h.1 4) ∧ h' = hm h [(20, up (h.1 20) 4 (h.1 20 4 + 1)), (24, up (h.1 24) (h.1 20 4) (h.1 4 3)), (23, up (h.1 23) (h.1 20 4) (h.1 4 2)), (22, up (h.1 22) (h.1 20 4) (h.1 4 1)), (21, up (h.1 21) (h.1 20 4) (h.1 4 0))] [] []) ∨ (z = 1 ∧ itR l n (h.1 20 10) (h.1 4) ∧ h' = hm h [(20, up (h.1 20) 10 (h.1 20 10 + 1)), (29, up (h.1 29) (h.1 20 10) (h.1 4 4)), (28, up (h.1 28) (h.1 20 10) (h.1 4 3)), (27, up (h.1 27) (h.1 20 10) (h.1 4 2)), (26, up (h.1 26) (h.1 20 10) (h.1 4 1)), (25, up (h.1 25) (h.1 20 10) (h.1 4 0))] [] []) ∨ (z = 1 ∧ itP l n (h.1 4) ∧ h' = hm h [(30, up (h.1 30) (h.1 4 0) (h.1 4 1))] [] []) ∨ (z = 0 ∧ ¬ itW l n (h.1 20 4) (h.1 4) ∧ ¬ itR l n (h.1 20 10) (h.1 4) ∧ ¬ itP l n (h.1 4) ∧ h' = h))) := by
  obtain ⟨hl1, hl2⟩ := hl
  refine AMet.of (by decide) (Nat.le_of_ble_eq_true rfl) (fun G hM => ?_)
  have hG := hM.cx
  refine A_hm0 (G := G) (L := [(0, .ref 20), (1, vI l), (2, .ref 4), (3, vI n)]) ?_
  refine A_iload_n hG 1 dX1_takeItem_0 rfl rfl ?_
  rcases (show l = 112 ∨ l = 114 ∨ l = 119 ∨ (l ≠ 112 ∧ l ≠ 114 ∧ l ≠ 119) by omega) with hsw | hsw | hsw | hsw
  ·
    refine A_lookup (off := 103) hG 104 dX1_takeItem_1 (by decide) (by constructor <;> omega) (by rw [hsw]; try rfl) (by decide) ?_
    refine A_aload_n hG 2 dX1_takeItem_104 rfl rfl ?_
    refine A_iload_n hG 3 dX1_takeItem_105 rfl rfl ?_
    refine A_gets (k := 603) hG dX1_takeItem_106 k603 gs_X1_81 ?_
    refine C_Si (as := [.ref 4, vI n, .ref 603]) (st := []) hG dX1_takeItem_109 ml_X1_67 mf_X1_areWithin ms_X1_areWithin (x_areWithin603 (hm h [] [] []) (n := n) (by omega)) (by decide) (by decide) rfl rfl (Nat.le_of_ble_eq_true rfl) (fun z109 g109 ri_109 hp_109 => ?_)
    obtain ⟨ra_109, rb_109⟩ := ri_109
    have hq_109 : ((z109 = 1 ∧ n = 2 ∧ h.1 4 0 ≤ 4 ∧ h.1 4 1 ≤ 99) ∨ (z109 = 0 ∧ ¬ (n = 2 ∧ h.1 4 0 ≤ 4 ∧ h.1 4 1 ≤ 99))) ∧ g109 = hm h [] [] [] := hp_109
    clear hp_109
    obtain ⟨hz109, rfl⟩ := hq_109
    refine A_if_eq hG 127 dX1_takeItem_112 (by decide) (by constructor <;> omega) (fun c_112 => ?_) (fun c_112 => ?_)
    ·
      refine A_iconst (n := 0) hG dX1_takeItem_127 ?_
      exact Ret_z hM dX1_takeItem_128 (by omega) (Or.inr (Or.inr (Or.inr ⟨rfl, fun q => by have := q.1; omega, fun q => by have := q.1; omega, fun q => by obtain ⟨q1, q2, q3, q4⟩ := q; omega, rfl⟩)))
    ·
      have hn2 : n = 2 := by omega
      have f0 := hf 0 (by omega) (by omega)
      refine A_aload_n hG 0 dX1_takeItem_115 rfl rfl ?_
      refine A_aload_n hG 2 dX1_takeItem_116 rfl rfl ?_
      refine C_Vi (as := [.ref 4]) (st := []) (k := 20) (c := 1) hG dX1_takeItem_117 ml_X1_84 mf_X1_tellPrice mi_X1_tellPrice se_X1_tellPrice rfl (by decide) k20 (x_tellPrice20 (hm h [] [] []) (show 0 ≤ h.1 4 0 ∧ h.1 4 0 ≤ 4 by omega)) (by decide) (by decide) rfl rfl (Nat.le_of_ble_eq_true rfl) (fun z117 g117 ri_117 hp_117 => ?_)
      obtain ⟨ra_117, rb_117⟩ := ri_117
      have hq_117 : z117 = 1 ∧ g117 = hm (hm h [] [] []) [(30, up (h.1 30) (h.1 4 0) (h.1 4 1))] [] [] := hp_117
      clear hp_117
      obtain ⟨rfl, rfl⟩ := hq_117
      refine A_hm (la := [(30, up (h.1 30) (h.1 4 0) (h.1 4 1))]) (lb := []) (lc := []) rfl rfl rfl ?_
      refine A_if_eq hG 127 dX1_takeItem_120 (by decide) (by constructor <;> omega) (fun c_120 => ?_) (fun c_120 => ?_)
      ·
        exfalso; omega
      ·
        refine A_iconst (n := 1) hG dX1_takeItem_123 ?_
        refine A_goto hG 128 dX1_takeItem_124 (by decide) ?_
        exact Ret_z hM dX1_takeItem_128 (by omega) (Or.inr (Or.inr (Or.inl ⟨rfl, ⟨by omega, by omega, by omega, by omega⟩, rfl⟩)))
  ·
    refine A_lookup (off := 69) hG 70 dX1_takeItem_1 (by decide) (by constructor <;> omega) (by rw [hsw]; try rfl) (by decide) ?_
    refine A_aload_n hG 0 dX1_takeItem_70 rfl rfl ?_
    refine M_getI (z := 10) (v := h.1 20 10) hG dX1_takeItem_71 fl_X1_44 (by decide) k20 rfl rfl rfl (fun ⟨ra_71, rb_71⟩ => ?_)
    refine A_bipush (n := 24) hG dX1_takeItem_74 (by decide) ?_
    refine A_icmp_ge hG 102 dX1_takeItem_76 (by decide) (by constructor <;> omega) (by constructor <;> omega) (fun c_76 => ?_) (fun c_76 => ?_)
    ·
      refine A_iconst (n := 0) hG dX1_takeItem_102 ?_
      exact Ret_z hM dX1_takeItem_103 (by omega) (Or.inr (Or.inr (Or.inr ⟨rfl, fun q => by have := q.1; omega, fun q => by obtain ⟨q1, q2, q3, q4, q5, q6, q7, q8⟩ := q; omega, fun q => by have := q.1; omega, rfl⟩)))
    ·
      refine A_aload_n hG 2 dX1_takeItem_79 rfl rfl ?_
      refine A_iload_n hG 3 dX1_takeItem_80 rfl rfl ?_
      refine A_gets (k := 602) hG dX1_takeItem_81 k602 gs_X1_75 ?_
      refine C_Si (as := [.ref 4, vI n, .ref 602]) (st := []) hG dX1_takeItem_84 ml_X1_67 mf_X1_areWithin ms_X1_areWithin (x_areWithin602 (hm h [] [] []) (n := n) (by omega)) (by decide) (by decide) rfl rfl (Nat.le_of_ble_eq_true rfl) (fun z84 g84 ri_84 hp_84 => ?_)
      obtain ⟨ra_84, rb_84⟩ := ri_84
      have hq_84 : ((z84 = 1 ∧ n = 5 ∧ h.1 4 0 ≤ 9 ∧ h.1 4 1 ≤ 9 ∧ h.1 4 2 ≤ 9 ∧ h.1 4 3 ≤ 1 ∧ h.1 4 4 ≤ 1) ∨ (z84 = 0 ∧ ¬ (n = 5 ∧ h.1 4 0 ≤ 9 ∧ h.1 4 1 ≤ 9 ∧ h.1 4 2 ≤ 9 ∧ h.1 4 3 ≤ 1 ∧ h.1 4 4 ≤ 1))) ∧ g84 = hm h [] [] [] := hp_84
      clear hp_84
      obtain ⟨hz84, rfl⟩ := hq_84
      refine A_if_eq hG 102 dX1_takeItem_87 (by decide) (by constructor <;> omega) (fun c_87 => ?_) (fun c_87 => ?_)
      ·
        refine A_iconst (n := 0) hG dX1_takeItem_102 ?_
        exact Ret_z hM dX1_takeItem_103 (by omega) (Or.inr (Or.inr (Or.inr ⟨rfl, fun q => by have := q.1; omega, fun q => by obtain ⟨q1, q2, q3, q4, q5, q6, q7, q8⟩ := q; omega, fun q => by have := q.1; omega, rfl⟩)))
      ·
        have hn5 : n = 5 := by omega
        have f3 := hf 3 (by omega) (by omega)
        have f4 := hf 4 (by omega) (by omega)
        refine A_aload_n hG 0 dX1_takeItem_90 rfl rfl ?_
        refine A_aload_n hG 2 dX1_takeItem_91 rfl rfl ?_
        refine C_Vi (as := [.ref 4]) (st := []) (k := 20) (c := 1) hG dX1_takeItem_92 ml_X1_78 mf_X1_addRule mi_X1_addRule se_X1_addRule rfl (by decide) k20 (x_addRule20 (hm h [] [] []) (show 0 ≤ h.1 20 10 ∧ h.1 20 10 < 24 by omega) (show h.1 4 3 = 0 ∨ h.1 4 3 = 1 by omega) (show h.1 4 4 = 0 ∨ h.1 4 4 = 1 by omega)) (by decide) (by decide) rfl rfl (Nat.le_of_ble_eq_true rfl) (fun z92 g92 ri_92 hp_92 => ?_)
        obtain ⟨ra_92, rb_92⟩ := ri_92
        have hq_92 : z92 = 1 ∧ g92 = hm (hm h [] [] []) [(25, up (h.1 25) (h.1 20 10) (h.1 4 0)), (26, up (h.1 26) (h.1 20 10) (h.1 4 1)), (27, up (h.1 27) (h.1 20 10) (h.1 4 2)), (28, up (h.1 28) (h.1 20 10) (h.1 4 3)), (29, up (h.1 29) (h.1 20 10) (h.1 4 4)), (20, up (h.1 20) 10 (h.1 20 10 + 1))] [] [] := hp_92
        clear hp_92
        obtain ⟨rfl, rfl⟩ := hq_92
        refine A_hm (la := [(20, up (h.1 20) 10 (h.1 20 10 + 1)), (29, up (h.1 29) (h.1 20 10) (h.1 4 4)), (28, up (h.1 28) (h.1 20 10) (h.1 4 3)), (27, up (h.1 27) (h.1 20 10) (h.1 4 2)), (26, up (h.1 26) (h.1 20 10) (h.1 4 1)), (25, up (h.1 25) (h.1 20 10) (h.1 4 0))]) (lb := []) (lc := []) rfl rfl rfl ?_
        refine A_if_eq hG 102 dX1_takeItem_95 (by decide) (by constructor <;> omega) (fun c_95 => ?_) (fun c_95 => ?_)
        ·
          exfalso; omega
        ·
          refine A_iconst (n := 1) hG dX1_takeItem_98 ?_
          refine A_goto hG 103 dX1_takeItem_99 (by decide) ?_
          exact Ret_z hM dX1_takeItem_103 (by omega) (Or.inr (Or.inl ⟨rfl, ⟨by omega, by omega, by omega, by omega, by omega, by omega, by omega, by omega⟩, rfl⟩))
  ·
    refine A_lookup (off := 35) hG 36 dX1_takeItem_1 (by decide) (by constructor <;> omega) (by rw [hsw]; try rfl) (by decide) ?_
    refine A_aload_n hG 0 dX1_takeItem_36 rfl rfl ?_
    refine M_getI (z := 4) (v := h.1 20 4) hG dX1_takeItem_37 fl_X1_24 (by decide) k20 rfl rfl rfl (fun ⟨ra_37, rb_37⟩ => ?_)
    refine A_bipush (n := 16) hG dX1_takeItem_40 (by decide) ?_
    refine A_icmp_ge hG 68 dX1_takeItem_42 (by decide) (by constructor <;> omega) (by constructor <;> omega) (fun c_42 => ?_) (fun c_42 => ?_)
    ·
      refine A_iconst (n := 0) hG dX1_takeItem_68 ?_
      exact Ret_z hM dX1_takeItem_69 (by omega) (Or.inr (Or.inr (Or.inr ⟨rfl, fun q => by obtain ⟨q1, q2, q3, q4, q5, q6, q7⟩ := q; omega, fun q => by have := q.1; omega, fun q => by have := q.1; omega, rfl⟩)))
    ·
      refine A_aload_n hG 2 dX1_takeItem_45 rfl rfl ?_
      refine A_iload_n hG 3 dX1_takeItem_46 rfl rfl ?_
      refine A_gets (k := 601) hG dX1_takeItem_47 k601 gs_X1_64 ?_
      refine C_Si (as := [.ref 4, vI n, .ref 601]) (st := []) hG dX1_takeItem_50 ml_X1_67 mf_X1_areWithin ms_X1_areWithin (x_areWithin601 (hm h [] [] []) (n := n) (by omega)) (by decide) (by decide) rfl rfl (Nat.le_of_ble_eq_true rfl) (fun z50 g50 ri_50 hp_50 => ?_)
      obtain ⟨ra_50, rb_50⟩ := ri_50
      have hq_50 : ((z50 = 1 ∧ n = 4 ∧ h.1 4 0 ≤ 9 ∧ h.1 4 1 ≤ 3 ∧ h.1 4 2 ≤ 15 ∧ h.1 4 3 ≤ 15) ∨ (z50 = 0 ∧ ¬ (n = 4 ∧ h.1 4 0 ≤ 9 ∧ h.1 4 1 ≤ 3 ∧ h.1 4 2 ≤ 15 ∧ h.1 4 3 ≤ 15))) ∧ g50 = hm h [] [] [] := hp_50
      clear hp_50
      obtain ⟨hz50, rfl⟩ := hq_50
      refine A_if_eq hG 68 dX1_takeItem_53 (by decide) (by constructor <;> omega) (fun c_53 => ?_) (fun c_53 => ?_)
      ·
        refine A_iconst (n := 0) hG dX1_takeItem_68 ?_
        exact Ret_z hM dX1_takeItem_69 (by omega) (Or.inr (Or.inr (Or.inr ⟨rfl, fun q => by obtain ⟨q1, q2, q3, q4, q5, q6, q7⟩ := q; omega, fun q => by have := q.1; omega, fun q => by have := q.1; omega, rfl⟩)))
      ·
        refine A_aload_n hG 0 dX1_takeItem_56 rfl rfl ?_
        refine A_aload_n hG 2 dX1_takeItem_57 rfl rfl ?_
        refine C_Vi (as := [.ref 4]) (st := []) (k := 20) (c := 1) hG dX1_takeItem_58 ml_X1_71 mf_X1_addWord mi_X1_addWord se_X1_addWord rfl (by decide) k20 (x_addWord20 (hm h [] [] []) (show 0 ≤ h.1 20 4 ∧ h.1 20 4 < 16 by omega)) (by decide) (by decide) rfl rfl (Nat.le_of_ble_eq_true rfl) (fun z58 g58 ri_58 hp_58 => ?_)
        obtain ⟨ra_58, rb_58⟩ := ri_58
        have hq_58 : z58 = 1 ∧ g58 = hm (hm h [] [] []) [(21, up (h.1 21) (h.1 20 4) (h.1 4 0)), (22, up (h.1 22) (h.1 20 4) (h.1 4 1)), (23, up (h.1 23) (h.1 20 4) (h.1 4 2)), (24, up (h.1 24) (h.1 20 4) (h.1 4 3)), (20, up (h.1 20) 4 (h.1 20 4 + 1))] [] [] := hp_58
        clear hp_58
        obtain ⟨rfl, rfl⟩ := hq_58
        refine A_hm (la := [(20, up (h.1 20) 4 (h.1 20 4 + 1)), (24, up (h.1 24) (h.1 20 4) (h.1 4 3)), (23, up (h.1 23) (h.1 20 4) (h.1 4 2)), (22, up (h.1 22) (h.1 20 4) (h.1 4 1)), (21, up (h.1 21) (h.1 20 4) (h.1 4 0))]) (lb := []) (lc := []) rfl rfl rfl ?_
        refine A_if_eq hG 68 dX1_takeItem_61 (by decide) (by constructor <;> omega) (fun c_61 => ?_) (fun c_61 => ?_)
        ·
          exfalso; omega
        ·
          refine A_iconst (n := 1) hG dX1_takeItem_64 ?_
          refine A_goto hG 69 dX1_takeItem_65 (by decide) ?_
          exact Ret_z hM dX1_takeItem_69 (by omega) (Or.inl ⟨rfl, ⟨by omega, by omega, by omega, by omega, by omega, by omega, by omega⟩, rfl⟩)
  ·
    refine A_lookup (off := 128) hG 129 dX1_takeItem_1 (by decide) (by constructor <;> omega) (by simp [Op.lookupswitch.offset]; omega) (by decide) ?_
    refine A_iconst (n := 0) hG dX1_takeItem_129 ?_
    exact Ret_z hM dX1_takeItem_130 (by omega) (Or.inr (Or.inr (Or.inr ⟨rfl, fun q => by have := q.1; omega, fun q => by have := q.1; omega, fun q => by have := q.1; omega, rfl⟩)))

set_option maxHeartbeats 2000000 in
set_option maxRecDepth 20000 in
theorem x_tellTo20 (h : AH) (hL : 0 ≤ h.1 2 1 ∧ h.1 2 1 ≤ 400) : AMet yX9_tellTo cX9_tellTo 5 (some .int) 3 67 [.ref 2, .ref 20] h (Qi (fun z h' => ∃ a0 a1 a2 a3 a4 a5 a6 a7 a8 a9 a10 e nm : Int → Int, ∃ (N : Nat) (g : Gm), (prs (h.1 3) (h.1 2 1) N 0 g00 z g ∧ (z = -4 → okG g ∧ gxC a0 a1 a2 a3 a4 a5 a6 a7 a8 a9 a10 g) ∧ ∀ q, q ≠ 3 → e q = h.1 2 q) ∧ h' = hm h [(30, a10), (20, a0), (21, a1), (22, a2), (23, a3), (24, a4), (25, a5), (26, a6), (27, a7), (28, a8), (29, a9), (2, e), (4, nm)] [] [])) := by
  refine AMet.of (by decide) (Nat.le_of_ble_eq_true rfl) (fun G hM => ?_)
  have hG := hM.cx
  refine A_hm0 (G := G) (L := [(0, .ref 2), (1, .ref 20)]) ?_
  refine A_aload_n hG 1 dX9_tellTo_0 rfl rfl ?_
  refine C_Vv (as := []) (st := []) (k := 20) (c := 1) hG dX9_tellTo_1 ml_X9_25 mf_X1_restart mi_X1_restart se_X1_restart rfl (by decide) k20 (x_grestart20 (hm h [] [] [])) (by decide) (by decide) rfl rfl (Nat.le_of_ble_eq_true rfl) (fun g1 hp_1 => ?_)
  have hq_1 : g1 = hm (hm h [] [] []) [(20, up (up (h.1 20) 4 0) 10 0), (30, cpI (tb 600) (h.1 30) 0 0 5)] [] [] := hp_1
  clear hp_1
  subst hq_1
  refine A_hm (la := [(30, cpI (tb 600) (h.1 30) 0 0 5), (20, up (up (h.1 20) 4 0) 10 0)]) (lb := []) (lc := []) rfl rfl rfl ?_
  refine A_iconst (n := 0) hG dX9_tellTo_4 ?_
  refine A_istore_n (L' := [(2, vI 0), (0, .ref 2), (1, .ref 20)]) hG dX9_tellTo_5 rfl (by decide) rfl ?_
  refine A_iconst (n := 0) hG dX9_tellTo_6 ?_
  refine A_istore_n (L' := [(3, vI 0), (2, vI 0), (0, .ref 2), (1, .ref 20)]) hG dX9_tellTo_7 rfl (by decide) rfl ?_
  refine A_insI 21 (li' := [(30, cpI (tb 600) (h.1 30) 0 0 5), (20, up (up (h.1 20) 4 0) 10 0), (21, h.1 21)]) rfl ?_
  refine A_insI 22 (li' := [(30, cpI (tb 600) (h.1 30) 0 0 5), (20, up (up (h.1 20) 4 0) 10 0), (21, h.1 21), (22, h.1 22)]) rfl ?_
  refine A_insI 23 (li' := [(30, cpI (tb 600) (h.1 30) 0 0 5), (20, up (up (h.1 20) 4 0) 10 0), (21, h.1 21), (22, h.1 22), (23, h.1 23)]) rfl ?_
  refine A_insI 24 (li' := [(30, cpI (tb 600) (h.1 30) 0 0 5), (20, up (up (h.1 20) 4 0) 10 0), (21, h.1 21), (22, h.1 22), (23, h.1 23), (24, h.1 24)]) rfl ?_
  refine A_insI 25 (li' := [(30, cpI (tb 600) (h.1 30) 0 0 5), (20, up (up (h.1 20) 4 0) 10 0), (21, h.1 21), (22, h.1 22), (23, h.1 23), (24, h.1 24), (25, h.1 25)]) rfl ?_
  refine A_insI 26 (li' := [(30, cpI (tb 600) (h.1 30) 0 0 5), (20, up (up (h.1 20) 4 0) 10 0), (21, h.1 21), (22, h.1 22), (23, h.1 23), (24, h.1 24), (25, h.1 25), (26, h.1 26)]) rfl ?_
  refine A_insI 27 (li' := [(30, cpI (tb 600) (h.1 30) 0 0 5), (20, up (up (h.1 20) 4 0) 10 0), (21, h.1 21), (22, h.1 22), (23, h.1 23), (24, h.1 24), (25, h.1 25), (26, h.1 26), (27, h.1 27)]) rfl ?_
  refine A_insI 28 (li' := [(30, cpI (tb 600) (h.1 30) 0 0 5), (20, up (up (h.1 20) 4 0) 10 0), (21, h.1 21), (22, h.1 22), (23, h.1 23), (24, h.1 24), (25, h.1 25), (26, h.1 26), (27, h.1 27), (28, h.1 28)]) rfl ?_
  refine A_insI 29 (li' := [(30, cpI (tb 600) (h.1 30) 0 0 5), (20, up (up (h.1 20) 4 0) 10 0), (21, h.1 21), (22, h.1 22), (23, h.1 23), (24, h.1 24), (25, h.1 25), (26, h.1 26), (27, h.1 27), (28, h.1 28), (29, h.1 29)]) rfl ?_
  refine A_insI 2 (li' := [(30, cpI (tb 600) (h.1 30) 0 0 5), (20, up (up (h.1 20) 4 0) 10 0), (21, h.1 21), (22, h.1 22), (23, h.1 23), (24, h.1 24), (25, h.1 25), (26, h.1 26), (27, h.1 27), (28, h.1 28), (29, h.1 29), (2, h.1 2)]) rfl ?_
  refine A_insI 4 (li' := [(30, cpI (tb 600) (h.1 30) 0 0 5), (20, up (up (h.1 20) 4 0) 10 0), (21, h.1 21), (22, h.1 22), (23, h.1 23), (24, h.1 24), (25, h.1 25), (26, h.1 26), (27, h.1 27), (28, h.1 28), (29, h.1 29), (2, h.1 2), (4, h.1 4)]) rfl ?_
  have i_1 : ∀ fu : Nat, ∀ (p : Int) (i : Int) (g : Gm) (a0 : Int → Int) (a1 : Int → Int) (a2 : Int → Int) (a3 : Int → Int) (a4 : Int → Int) (a5 : Int → Int) (a6 : Int → Int) (a7 : Int → Int) (a8 : Int → Int) (a9 : Int → Int) (a10 : Int → Int) (e : Int → Int) (nm : Int → Int), (0 ≤ i ∧ i ≤ 400 ∧ 2 * i ≤ p ∧ p ≤ h.1 2 1) → (∀ q, q ≠ 3 → e q = h.1 2 q) → (okG g) → (gxC a0 a1 a2 a3 a4 a5 a6 a7 a8 a9 a10 g) → (∀ N z g1, prs (h.1 3) (h.1 2 1) N p g z g1 → ∃ N, prs (h.1 3) (h.1 2 1) N 0 g00 z g1) → ((401 - i).toNat) < fu → G 8 [(0, .ref 2), (1, .ref 20), (2, vI p), (3, vI i)] [] (hm h [(30, a10), (20, a0), (21, a1), (22, a2), (23, a3), (24, a4), (25, a5), (26, a6), (27, a7), (28, a8), (29, a9), (2, e), (4, nm)] [] []) := by
    intro fu
    induction fu with
    | zero => intro p i g a0 a1 a2 a3 a4 a5 a6 a7 a8 a9 a10 e nm hi hE hOk hC hgo hfu; exact absurd hfu (Nat.not_lt_zero _)
    | succ fu ih_i =>
      intro p i g a0 a1 a2 a3 a4 a5 a6 a7 a8 a9 a10 e nm hi hE hOk hC hgo hfu
      have hsz : e 1 = h.1 2 1 := hE 1 (by decide)
      have g1 := hOk.1
      have g2 := hOk.2.1
      have a04 := hC.1
      have a010 := hC.2.1
      refine A_iload_n hG 3 dX9_tellTo_8 rfl rfl ?_
      refine A_sipush (n := 400) hG dX9_tellTo_9 (by decide) ?_
      refine A_icmp_ge hG 69 dX9_tellTo_12 (by decide) (by constructor <;> omega) (by constructor <;> omega) (fun c_12 => ?_) (fun c_12 => ?_)
      ·
        exfalso; omega
      ·
        refine A_iload_n hG 2 dX9_tellTo_15 rfl rfl ?_
        refine A_aload_n hG 0 dX9_tellTo_16 rfl rfl ?_
        refine M_getI (z := 1) (v := e 1) hG dX9_tellTo_17 fl_X9_15 (by decide) k2 rfl rfl rfl (fun ⟨ra_17, rb_17⟩ => ?_)
        refine A_icmp_ge hG 69 dX9_tellTo_20 (by decide) (by constructor <;> omega) (by constructor <;> omega) (fun c_20 => ?_) (fun c_20 => ?_)
        ·
          obtain ⟨N', hN'⟩ := hgo 1 (-4) g (Or.inl ⟨by omega, rfl, rfl⟩)
          refine A_bipush (n := -4) hG dX9_tellTo_69 (by decide) ?_
          exact Ret_i hM dX9_tellTo_71 (by constructor <;> omega) (⟨a0, a1, a2, a3, a4, a5, a6, a7, a8, a9, a10, e, nm, N', g, ⟨hN', fun _ => ⟨hOk, hC⟩, hE⟩, rfl⟩)
        ·
          refine A_aload_n hG 0 dX9_tellTo_23 rfl rfl ?_
          refine A_iload_n hG 2 dX9_tellTo_24 rfl rfl ?_
          refine C_Vi (as := [vI p]) (st := []) (k := 2) (c := 8) hG dX9_tellTo_25 ml_X9_30 mf_X9_itemEnd mi_X9_itemEnd se_X9_itemEnd rfl (by decide) k2 (x_itemEnd (hm h [(30, a10), (20, a0), (21, a1), (22, a2), (23, a3), (24, a4), (25, a5), (26, a6), (27, a7), (28, a8), (29, a9), (2, e), (4, nm)] [] []) (p := p) (show 0 ≤ p ∧ p < e 1 by omega) (show 0 ≤ e 1 ∧ e 1 ≤ 400 by omega)) (by decide) (by decide) rfl rfl (Nat.le_of_ble_eq_true rfl) (fun z25 g25 ri_25 hp_25 => ?_)
          obtain ⟨ra_25, rb_25⟩ := ri_25
          have hq_25 : ∃ ex nx : Int → Int, ((∀ q, q ≠ 3 → ex q = e q) ∧ ((z25 = -4 ∧ ∀ m : Nat, 1 ≤ m → m ≤ 5 → ¬ okS (h.1 3) (e 1) (p + 1) m) ∨ (∃ m : Nat, 1 ≤ m ∧ m ≤ 5 ∧ okS (h.1 3) (e 1) (p + 1) m ∧ z25 = np (h.1 3) (e 1) (p + 1) m ∧ ex 3 = m ∧ nmC (h.1 3) (e 1) (p + 1) m nx))) ∧ g25 = hm (hm h [(30, a10), (20, a0), (21, a1), (22, a2), (23, a3), (24, a4), (25, a5), (26, a6), (27, a7), (28, a8), (29, a9), (2, e), (4, nm)] [] []) [(2, ex), (4, nx)] [] [] := hp_25
          clear hp_25
          obtain ⟨e25, n25, ⟨he25, hz25⟩, rfl⟩ := hq_25
          refine A_hm (la := [(30, a10), (20, a0), (21, a1), (22, a2), (23, a3), (24, a4), (25, a5), (26, a6), (27, a7), (28, a8), (29, a9), (2, e25), (4, n25)]) (lb := []) (lc := []) rfl rfl rfl ?_
          rw [hsz] at hz25
          refine A_istore (L' := [(4, vI z25), (0, .ref 2), (1, .ref 20), (2, vI p), (3, vI i)]) hG dX9_tellTo_28 (by decide) rfl ?_
          refine A_iload hG 0 dX9_tellTo_30 rfl ?_
          refine A_bipush (n := -4) hG dX9_tellTo_32 (by decide) ?_
          refine A_icmp_eq hG 58 dX9_tellTo_34 (by decide) (by constructor <;> omega) (by constructor <;> omega) (fun c_34 => ?_) (fun c_34 => ?_)
          ·
            obtain ⟨N', hN'⟩ := hgo 1 p g (prs_no (by omega) (no_item (hz25.elim (fun q => q.2) (fun ⟨m, m1, m2, m3, m4, m5, m6⟩ => absurd (np_lt (h.1 3) (h.1 2 1) (p + 1) m) (by omega)))))
            refine A_iload_n hG 3 dX9_tellTo_58 rfl rfl ?_
            exact Ret_i hM dX9_tellTo_59 (by constructor <;> omega) (⟨a0, a1, a2, a3, a4, a5, a6, a7, a8, a9, a10, e25, n25, N', g, ⟨hN', fun q => by omega, fun q hq => (he25 q hq).trans (hE q hq)⟩, rfl⟩)
          ·
            obtain ⟨m, m1, m2, m3, m4, m5, m6⟩ := hz25.resolve_left (fun q => c_34 q.1)
            have htk : ∀ i : Int, 0 ≤ i → i < e25 3 → 0 ≤ n25 i := fun i i0 i1 => by
                obtain ⟨k, rfl⟩ := Int.eq_ofNat_of_zero_le i0
                rw [m6 k (by omega)]; exact (nv_rng (m3 k (by omega))).1
            have hnlt := np_lt (h.1 3) (h.1 2 1) (p + 1) m
            have hnle : np (h.1 3) (h.1 2 1) (p + 1) m ≤ h.1 2 1 := by
                obtain ⟨k, rfl⟩ : ∃ k, m = k + 1 := ⟨m - 1, by omega⟩
                have := (m3 k (by omega)).2.1
                show nq _ _ _ + 1 ≤ _; omega
            refine A_aload_n hG 2 dX9_tellTo_37 rfl rfl ?_
            refine A_aload_n hG 1 dX9_tellTo_38 rfl rfl ?_
            refine A_getR (r := 3) hG dX9_tellTo_39 fl_X9_9 (by decide) k2 (by decide) rfl ?_
            refine A_iload_n hG 3 dX9_tellTo_42 rfl rfl ?_
            refine M_iald (v := h.1 3 p) hG dX9_tellTo_43 k3 n3 (by omega) rfl (fun ⟨ra_43, rb_43⟩ => ?_)
            refine A_aload_n hG 1 dX9_tellTo_44 rfl rfl ?_
            refine A_getR (r := 4) hG dX9_tellTo_45 fl_X9_19 (by decide) k2 (by decide) rfl ?_
            refine A_aload_n hG 1 dX9_tellTo_48 rfl rfl ?_
            refine M_getI (z := 3) (v := e25 3) hG dX9_tellTo_49 fl_X9_22 (by decide) k2 rfl rfl rfl (fun ⟨ra_49, rb_49⟩ => ?_)
            refine C_Vi (as := [vI (h.1 3 p), .ref 4, vI (e25 3)]) (st := []) (k := 20) (c := 1) hG dX9_tellTo_52 ml_X9_34 mf_X1_takeItem mi_X1_takeItem se_X1_takeItem rfl (by decide) k20 (x_takeItem20 (hm h [(30, a10), (20, a0), (21, a1), (22, a2), (23, a3), (24, a4), (25, a5), (26, a6), (27, a7), (28, a8), (29, a9), (2, e25), (4, n25)] [] []) (l := (h.1 3 p)) (n := (e25 3)) (by constructor <;> omega) (by omega) (fun i i0 i1 => htk i i0 i1) (show 0 ≤ a0 4 by omega) (show 0 ≤ a0 10 by omega)) (by decide) (by decide) rfl rfl (Nat.le_of_ble_eq_true rfl) (fun z52 g52 ri_52 hp_52 => ?_)
            obtain ⟨ra_52, rb_52⟩ := ri_52
            have hb52 : ∃ b0 b1 b2 b3 b4 b5 b6 b7 b8 b9 b10 : Int → Int, ((z52 = 1 ∧ itW (h.1 3 p) (e25 3) (a0 4) n25 ∧ b0 = up a0 4 (a0 4 + 1) ∧ b1 = up a1 (a0 4) (n25 0) ∧ b2 = up a2 (a0 4) (n25 1) ∧ b3 = up a3 (a0 4) (n25 2) ∧ b4 = up a4 (a0 4) (n25 3) ∧ b5 = a5 ∧ b6 = a6 ∧ b7 = a7 ∧ b8 = a8 ∧ b9 = a9 ∧ b10 = a10) ∨ (z52 = 1 ∧ itR (h.1 3 p) (e25 3) (a0 10) n25 ∧ b0 = up a0 10 (a0 10 + 1) ∧ b5 = up a5 (a0 10) (n25 0) ∧ b6 = up a6 (a0 10) (n25 1) ∧ b7 = up a7 (a0 10) (n25 2) ∧ b8 = up a8 (a0 10) (n25 3) ∧ b9 = up a9 (a0 10) (n25 4) ∧ b1 = a1 ∧ b2 = a2 ∧ b3 = a3 ∧ b4 = a4 ∧ b10 = a10) ∨ (z52 = 1 ∧ itP (h.1 3 p) (e25 3) n25 ∧ b10 = up a10 (n25 0) (n25 1) ∧ b0 = a0 ∧ b1 = a1 ∧ b2 = a2 ∧ b3 = a3 ∧ b4 = a4 ∧ b5 = a5 ∧ b6 = a6 ∧ b7 = a7 ∧ b8 = a8 ∧ b9 = a9) ∨ (z52 = 0 ∧ ¬ itW (h.1 3 p) (e25 3) (a0 4) n25 ∧ ¬ itR (h.1 3 p) (e25 3) (a0 10) n25 ∧ ¬ itP (h.1 3 p) (e25 3) n25 ∧ b0 = a0 ∧ b1 = a1 ∧ b2 = a2 ∧ b3 = a3 ∧ b4 = a4 ∧ b5 = a5 ∧ b6 = a6 ∧ b7 = a7 ∧ b8 = a8 ∧ b9 = a9 ∧ b10 = a10)) ∧ g52 = hm h [(30, b10), (20, b0), (21, b1), (22, b2), (23, b3), (24, b4), (25, b5), (26, b6), (27, b7), (28, b8), (29, b9), (2, e25), (4, n25)] [] [] := by
                rcases hp_52 with ⟨u1, u2, u3⟩ | ⟨u1, u2, u3⟩ | ⟨u1, u2, u3⟩ | ⟨u1, u2, u3, u4, u5⟩
                · exact ⟨_, _, _, _, _, _, _, _, _, _, _, Or.inl ⟨u1, u2, rfl, rfl, rfl, rfl, rfl, rfl, rfl, rfl, rfl, rfl, rfl⟩, u3.trans ((hm_hm _ _ _ _ _ _ _).trans rfl)⟩
                · exact ⟨_, _, _, _, _, _, _, _, _, _, _, Or.inr (Or.inl ⟨u1, u2, rfl, rfl, rfl, rfl, rfl, rfl, rfl, rfl, rfl, rfl, rfl⟩), u3.trans ((hm_hm _ _ _ _ _ _ _).trans rfl)⟩
                · exact ⟨_, _, _, _, _, _, _, _, _, _, _, Or.inr (Or.inr (Or.inl ⟨u1, u2, rfl, rfl, rfl, rfl, rfl, rfl, rfl, rfl, rfl, rfl, rfl⟩)), u3.trans ((hm_hm _ _ _ _ _ _ _).trans rfl)⟩
                · exact ⟨_, _, _, _, _, _, _, _, _, _, _, Or.inr (Or.inr (Or.inr ⟨u1, u2, u3, u4, rfl, rfl, rfl, rfl, rfl, rfl, rfl, rfl, rfl, rfl, rfl⟩)), u5⟩
            clear hp_52
            obtain ⟨b0, b1, b2, b3, b4, b5, b6, b7, b8, b9, b10, hb52, rfl⟩ := hb52
            refine A_if_ne hG 60 dX9_tellTo_55 (by decide) (by constructor <;> omega) (fun c_55 => ?_) (fun c_55 => ?_)
            ·
              obtain ⟨g', hOk', hC', hgo'⟩ : ∃ g' : Gm, okG g' ∧ gxC b0 b1 b2 b3 b4 b5 b6 b7 b8 b9 b10 g' ∧ ∀ N z g1, prs (h.1 3) (h.1 2 1) N z25 g' z g1 → ∃ N, prs (h.1 3) (h.1 2 1) N 0 g00 z g1 := by
                  rw [m5] at hb52
                  rcases hb52 with ⟨-, u, rfl, rfl, rfl, rfl, rfl, rfl, rfl, rfl, rfl, rfl, rfl⟩ | ⟨-, u, rfl, rfl, rfl, rfl, rfl, rfl, rfl, rfl, rfl, rfl, rfl⟩ | ⟨-, u, rfl, rfl, rfl, rfl, rfl, rfl, rfl, rfl, rfl, rfl, rfl⟩ | ⟨u, -⟩
                  · obtain ⟨v1, v2, v3, v4⟩ := step_W m3 m1 m6 hC hOk u
                    subst v1
                    exact ⟨_, v2, v3, fun N z g1 q => hgo (N + 1) z g1 (Or.inr (Or.inl ⟨by omega, v4, by rw [m4] at q; exact q⟩))⟩
                  · obtain ⟨v1, v2, v3, v4⟩ := step_R m3 m1 m6 hC hOk u
                    subst v1
                    exact ⟨_, v2, v3, fun N z g1 q => hgo (N + 1) z g1 (Or.inr (Or.inr (Or.inl ⟨by omega, v4, by rw [m4] at q; exact q⟩)))⟩
                  · obtain ⟨v1, v2, v3, v4⟩ := step_P m3 m1 m6 hC hOk u
                    subst v1
                    exact ⟨_, v2, v3, fun N z g1 q => hgo (N + 1) z g1 (Or.inr (Or.inr (Or.inr (Or.inl ⟨by omega, v4, by rw [m4] at q; exact q⟩))))⟩
                  · omega
              clear hz25 hb52
              refine A_iload hG 0 dX9_tellTo_60 rfl ?_
              refine A_istore_n (L' := [(2, vI z25), (4, vI z25), (0, .ref 2), (1, .ref 20), (3, vI i)]) hG dX9_tellTo_62 rfl (by decide) rfl ?_
              refine A_iinc (L' := [(3, vI (i + 1)), (2, vI z25), (4, vI z25), (0, .ref 2), (1, .ref 20)]) hG 4 dX9_tellTo_63 rfl (by decide) rfl ?_
              refine A_goto hG 8 dX9_tellTo_66 (by decide) ?_
              refine A_sub hG [3, 4, 1, 0] rfl ?_
              exact ih_i z25 (i + 1) g' b0 b1 b2 b3 b4 b5 b6 b7 b8 b9 b10 e25 n25 (by omega) (fun q hq => (he25 q hq).trans (hE q hq)) hOk' hC' hgo' (by omega)
            ·
              obtain ⟨N', hN'⟩ : ∃ N, prs (h.1 3) (h.1 2 1) N 0 g00 p g := by
                  rw [m5] at hb52
                  rcases hb52 with ⟨u, -⟩ | ⟨u, -⟩ | ⟨u, -⟩ | ⟨-, u1, u2, u3, -⟩
                  · omega
                  · omega
                  · omega
                  · rw [it_W m3 m1 m6, hC.1] at u1
                    rw [it_R m3 m1 m6, hC.2.1] at u2
                    rw [it_P m3 m1 m6] at u3
                    exact hgo 1 p g (prs_no (by omega) ⟨u1, u2, u3⟩)
              refine A_iload_n hG 3 dX9_tellTo_58 rfl rfl ?_
              exact Ret_i hM dX9_tellTo_59 (by constructor <;> omega) (⟨b0, b1, b2, b3, b4, b5, b6, b7, b8, b9, b10, e25, n25, N', g, ⟨hN', fun q => by omega, fun q hq => (he25 q hq).trans (hE q hq)⟩, rfl⟩)
  refine A_sub hG [2, 3, 1, 0] rfl ?_
  exact i_1 _ 0 0 g00 (up (up (h.1 20) 4 0) 10 0) (h.1 21) (h.1 22) (h.1 23) (h.1 24) (h.1 25) (h.1 26) (h.1 27) (h.1 28) (h.1 29) (cpI (tb 600) (h.1 30) 0 0 5) (h.1 2) (h.1 4) (by omega) (fun _ _ => rfl) okG_00 (gxC_00 (by rw [up_ne _ _ (by decide), up_eq]) (by rw [up_eq]) (fun c c0 c1 => by unfold cpI; rw [if_pos (by omega), show (0 : Int) + (c - 0) = c by omega])) (fun N z g1 q => ⟨N, q⟩) (Nat.lt_succ_self _)

set_option maxHeartbeats 2000000 in
set_option maxRecDepth 20000 in
theorem x_grestart40 (h : AH) : AMet yX1_restart cX1_restart 1 none 1 40 [.ref 40] h (Qv (fun h' => h' = hm h [(40, up (up (h.1 40) 4 0) 10 0), (50, cpI (tb 600) (h.1 50) 0 0 5)] [] [])) := by
  refine AMet.of (by decide) (Nat.le_of_ble_eq_true rfl) (fun G hM => ?_)
  have hG := hM.cx
  refine A_hm0 (G := G) (L := [(0, .ref 40)]) ?_
  refine A_aload_n hG 0 dX1_restart_0 rfl rfl ?_
  refine A_iconst (n := 0) hG dX1_restart_1 ?_
  refine M_putI (z := 4) (li' := [(40, up (h.1 40) 4 0)]) hG dX1_restart_2 fl_X1_24 (by decide) k40 nf_1_4 rfl rfl (by constructor <;> omega) (Or.inl rfl) rfl ?_
  refine A_aload_n hG 0 dX1_restart_5 rfl rfl ?_
  refine A_iconst (n := 0) hG dX1_restart_6 ?_
  refine M_putI (z := 10) (li' := [(40, up (up (h.1 40) 4 0) 10 0)]) hG dX1_restart_7 fl_X1_44 (by decide) k40 nf_1_10 rfl rfl (by constructor <;> omega) (Or.inl rfl) rfl ?_
  refine A_gets (k := 600) hG dX1_restart_10 k600 gs_X1_47 ?_
  refine A_iconst (n := 0) hG dX1_restart_13 ?_
  refine A_aload_n hG 0 dX1_restart_14 rfl rfl ?_
  refine A_getR (r := 50) hG dX1_restart_15 fl_X1_55 (by decide) k40 (by decide) rfl ?_
  refine A_iconst (n := 0) hG dX1_restart_18 ?_
  refine A_iconst (n := 5) hG dX1_restart_19 ?_
  refine M_copy (f := tb 600) (li' := [(40, up (up (h.1 40) 4 0) 10 0), (50, cpI (tb 600) (h.1 50) 0 0 5)]) hG dX1_restart_20 lw_X1_58 (Or.inr ⟨k600, rfl⟩) k50 n600 n50 (by omega) (by omega) (by omega) (fun _ => ir_tb600) (by decide) (by decide) (Nat.le_of_ble_eq_true rfl) rfl ?_
  exact Ret_v hM dX1_restart_23 rfl

set_option maxHeartbeats 2000000 in
set_option maxRecDepth 20000 in
theorem x_addWord40 (h : AH) (hn : 0 ≤ h.1 40 4 ∧ h.1 40 4 < 16) : AMet yX1_addWord cX1_addWord 2 (some .boolean) 0 0 [.ref 40, .ref 4] h (Qi (fun z h' => z = 1 ∧ h' = hm h [(41, up (h.1 41) (h.1 40 4) (h.1 4 0)), (42, up (h.1 42) (h.1 40 4) (h.1 4 1)), (43, up (h.1 43) (h.1 40 4) (h.1 4 2)), (44, up (h.1 44) (h.1 40 4) (h.1 4 3)), (40, up (h.1 40) 4 (h.1 40 4 + 1))] [] [])) := by
  refine AMet.of (by decide) (Nat.le_of_ble_eq_true rfl) (fun G hM => ?_)
  have hG := hM.cx
  refine A_hm0 (G := G) (L := [(0, .ref 40), (1, .ref 4)]) ?_
  refine A_aload_n hG 0 dX1_addWord_0 rfl rfl ?_
  refine A_getR (r := 41) hG dX1_addWord_1 fl_X1_9 (by decide) k40 (by decide) rfl ?_
  refine A_aload_n hG 0 dX1_addWord_4 rfl rfl ?_
  refine M_getI (z := 4) (v := h.1 40 4) hG dX1_addWord_5 fl_X1_24 (by decide) k40 rfl rfl rfl (fun ⟨ra_5, rb_5⟩ => ?_)
  refine A_aload_n hG 1 dX1_addWord_8 rfl rfl ?_
  refine A_iconst (n := 0) hG dX1_addWord_9 ?_
  refine M_iald (v := h.1 4 0) hG dX1_addWord_10 k4 n4 (by omega) rfl (fun ⟨ra_10, rb_10⟩ => ?_)
  refine M_iast (li' := [(41, up (h.1 41) (h.1 40 4) (h.1 4 0))]) hG dX1_addWord_11 k41 n41 (by omega) (by constructor <;> omega) rfl ?_
  refine A_aload_n hG 0 dX1_addWord_12 rfl rfl ?_
  refine A_getR (r := 42) hG dX1_addWord_13 fl_X1_15 (by decide) k40 (by decide) rfl ?_
  refine A_aload_n hG 0 dX1_addWord_16 rfl rfl ?_
  refine M_getI (z := 4) (v := h.1 40 4) hG dX1_addWord_17 fl_X1_24 (by decide) k40 rfl rfl rfl (fun ⟨ra_17, rb_17⟩ => ?_)
  refine A_aload_n hG 1 dX1_addWord_20 rfl rfl ?_
  refine A_iconst (n := 1) hG dX1_addWord_21 ?_
  refine M_iald (v := h.1 4 1) hG dX1_addWord_22 k4 n4 (by omega) rfl (fun ⟨ra_22, rb_22⟩ => ?_)
  refine M_iast (li' := [(41, up (h.1 41) (h.1 40 4) (h.1 4 0)), (42, up (h.1 42) (h.1 40 4) (h.1 4 1))]) hG dX1_addWord_23 k42 n42 (by omega) (by constructor <;> omega) rfl ?_
  refine A_aload_n hG 0 dX1_addWord_24 rfl rfl ?_
  refine A_getR (r := 43) hG dX1_addWord_25 fl_X1_18 (by decide) k40 (by decide) rfl ?_
  refine A_aload_n hG 0 dX1_addWord_28 rfl rfl ?_
  refine M_getI (z := 4) (v := h.1 40 4) hG dX1_addWord_29 fl_X1_24 (by decide) k40 rfl rfl rfl (fun ⟨ra_29, rb_29⟩ => ?_)
  refine A_aload_n hG 1 dX1_addWord_32 rfl rfl ?_
  refine A_iconst (n := 2) hG dX1_addWord_33 ?_
  refine M_iald (v := h.1 4 2) hG dX1_addWord_34 k4 n4 (by omega) rfl (fun ⟨ra_34, rb_34⟩ => ?_)
  refine M_iast (li' := [(41, up (h.1 41) (h.1 40 4) (h.1 4 0)), (42, up (h.1 42) (h.1 40 4) (h.1 4 1)), (43, up (h.1 43) (h.1 40 4) (h.1 4 2))]) hG dX1_addWord_35 k43 n43 (by omega) (by constructor <;> omega) rfl ?_
  refine A_aload_n hG 0 dX1_addWord_36 rfl rfl ?_
  refine A_getR (r := 44) hG dX1_addWord_37 fl_X1_21 (by decide) k40 (by decide) rfl ?_
  refine A_aload_n hG 0 dX1_addWord_40 rfl rfl ?_
  refine M_getI (z := 4) (v := h.1 40 4) hG dX1_addWord_41 fl_X1_24 (by decide) k40 rfl rfl rfl (fun ⟨ra_41, rb_41⟩ => ?_)
  refine A_aload_n hG 1 dX1_addWord_44 rfl rfl ?_
  refine A_iconst (n := 3) hG dX1_addWord_45 ?_
  refine M_iald (v := h.1 4 3) hG dX1_addWord_46 k4 n4 (by omega) rfl (fun ⟨ra_46, rb_46⟩ => ?_)
  refine M_iast (li' := [(41, up (h.1 41) (h.1 40 4) (h.1 4 0)), (42, up (h.1 42) (h.1 40 4) (h.1 4 1)), (43, up (h.1 43) (h.1 40 4) (h.1 4 2)), (44, up (h.1 44) (h.1 40 4) (h.1 4 3))]) hG dX1_addWord_47 k44 n44 (by omega) (by constructor <;> omega) rfl ?_
  refine A_aload_n hG 0 dX1_addWord_48 rfl rfl ?_
  refine A_dup hG dX1_addWord_49 rfl ?_
  refine M_getI (z := 4) (v := h.1 40 4) hG dX1_addWord_50 fl_X1_24 (by decide) k40 rfl rfl rfl (fun ⟨ra_50, rb_50⟩ => ?_)
  refine A_iconst (n := 1) hG dX1_addWord_53 ?_
  refine A_iadd hG dX1_addWord_54 ?_
  refine M_putI (z := 4) (li' := [(41, up (h.1 41) (h.1 40 4) (h.1 4 0)), (42, up (h.1 42) (h.1 40 4) (h.1 4 1)), (43, up (h.1 43) (h.1 40 4) (h.1 4 2)), (44, up (h.1 44) (h.1 40 4) (h.1 4 3)), (40, up (h.1 40) 4 ((h.1 40 4) + 1))]) hG dX1_addWord_55 fl_X1_24 (by decide) k40 nf_1_4 rfl rfl (by constructor <;> omega) (Or.inl rfl) rfl ?_
  refine A_iconst (n := 1) hG dX1_addWord_58 ?_
  exact Ret_z hM dX1_addWord_59 (by omega) (⟨rfl, rfl⟩)

set_option maxHeartbeats 2000000 in
set_option maxRecDepth 20000 in
theorem x_addRule40 (h : AH) (hn : 0 ≤ h.1 40 10 ∧ h.1 40 10 < 24) (h3 : h.1 4 3 = 0 ∨ h.1 4 3 = 1) (h4 : h.1 4 4 = 0 ∨ h.1 4 4 = 1) : AMet yX1_addRule cX1_addRule 2 (some .boolean) 0 0 [.ref 40, .ref 4] h (Qi (fun z h' => z = 1 ∧ h' = hm h [(45, up (h.1 45) (h.1 40 10) (h.1 4 0)), (46, up (h.1 46) (h.1 40 10) (h.1 4 1)), (47, up (h.1 47) (h.1 40 10) (h.1 4 2)), (48, up (h.1 48) (h.1 40 10) (h.1 4 3)), (49, up (h.1 49) (h.1 40 10) (h.1 4 4)), (40, up (h.1 40) 10 (h.1 40 10 + 1))] [] [])) := by
  refine AMet.of (by decide) (Nat.le_of_ble_eq_true rfl) (fun G hM => ?_)
  have hG := hM.cx
  refine A_hm0 (G := G) (L := [(0, .ref 40), (1, .ref 4)]) ?_
  refine A_aload_n hG 0 dX1_addRule_0 rfl rfl ?_
  refine A_getR (r := 45) hG dX1_addRule_1 fl_X1_28 (by decide) k40 (by decide) rfl ?_
  refine A_aload_n hG 0 dX1_addRule_4 rfl rfl ?_
  refine M_getI (z := 10) (v := h.1 40 10) hG dX1_addRule_5 fl_X1_44 (by decide) k40 rfl rfl rfl (fun ⟨ra_5, rb_5⟩ => ?_)
  refine A_aload_n hG 1 dX1_addRule_8 rfl rfl ?_
  refine A_iconst (n := 0) hG dX1_addRule_9 ?_
  refine M_iald (v := h.1 4 0) hG dX1_addRule_10 k4 n4 (by omega) rfl (fun ⟨ra_10, rb_10⟩ => ?_)
  refine M_iast (li' := [(45, up (h.1 45) (h.1 40 10) (h.1 4 0))]) hG dX1_addRule_11 k45 n45 (by omega) (by constructor <;> omega) rfl ?_
  refine A_aload_n hG 0 dX1_addRule_12 rfl rfl ?_
  refine A_getR (r := 46) hG dX1_addRule_13 fl_X1_31 (by decide) k40 (by decide) rfl ?_
  refine A_aload_n hG 0 dX1_addRule_16 rfl rfl ?_
  refine M_getI (z := 10) (v := h.1 40 10) hG dX1_addRule_17 fl_X1_44 (by decide) k40 rfl rfl rfl (fun ⟨ra_17, rb_17⟩ => ?_)
  refine A_aload_n hG 1 dX1_addRule_20 rfl rfl ?_
  refine A_iconst (n := 1) hG dX1_addRule_21 ?_
  refine M_iald (v := h.1 4 1) hG dX1_addRule_22 k4 n4 (by omega) rfl (fun ⟨ra_22, rb_22⟩ => ?_)
  refine M_iast (li' := [(45, up (h.1 45) (h.1 40 10) (h.1 4 0)), (46, up (h.1 46) (h.1 40 10) (h.1 4 1))]) hG dX1_addRule_23 k46 n46 (by omega) (by constructor <;> omega) rfl ?_
  refine A_aload_n hG 0 dX1_addRule_24 rfl rfl ?_
  refine A_getR (r := 47) hG dX1_addRule_25 fl_X1_34 (by decide) k40 (by decide) rfl ?_
  refine A_aload_n hG 0 dX1_addRule_28 rfl rfl ?_
  refine M_getI (z := 10) (v := h.1 40 10) hG dX1_addRule_29 fl_X1_44 (by decide) k40 rfl rfl rfl (fun ⟨ra_29, rb_29⟩ => ?_)
  refine A_aload_n hG 1 dX1_addRule_32 rfl rfl ?_
  refine A_iconst (n := 2) hG dX1_addRule_33 ?_
  refine M_iald (v := h.1 4 2) hG dX1_addRule_34 k4 n4 (by omega) rfl (fun ⟨ra_34, rb_34⟩ => ?_)
  refine M_iast (li' := [(45, up (h.1 45) (h.1 40 10) (h.1 4 0)), (46, up (h.1 46) (h.1 40 10) (h.1 4 1)), (47, up (h.1 47) (h.1 40 10) (h.1 4 2))]) hG dX1_addRule_35 k47 n47 (by omega) (by constructor <;> omega) rfl ?_
  refine A_aload_n hG 0 dX1_addRule_36 rfl rfl ?_
  have a_0 : ∀ (x : Int), (x = h.1 4 3) → G 56 [(0, .ref 40), (1, .ref 4)] [vI x, vI (h.1 40 10), .ref 48] (hm h [(45, up (h.1 45) (h.1 40 10) (h.1 4 0)), (46, up (h.1 46) (h.1 40 10) (h.1 4 1)), (47, up (h.1 47) (h.1 40 10) (h.1 4 2))] [] []) := by
    intro x hx
    refine M_zast (li' := [(45, up (h.1 45) (h.1 40 10) (h.1 4 0)), (46, up (h.1 46) (h.1 40 10) (h.1 4 1)), (47, up (h.1 47) (h.1 40 10) (h.1 4 2)), (48, up (h.1 48) (h.1 40 10) x)]) hG dX1_addRule_56 k48 n48 (by omega) (by omega) rfl ?_
    refine A_aload_n hG 0 dX1_addRule_57 rfl rfl ?_
    have b_1 : ∀ (y : Int), (y = h.1 4 4) → G 77 [(0, .ref 40), (1, .ref 4)] [vI y, vI (h.1 40 10), .ref 49] (hm h [(45, up (h.1 45) (h.1 40 10) (h.1 4 0)), (46, up (h.1 46) (h.1 40 10) (h.1 4 1)), (47, up (h.1 47) (h.1 40 10) (h.1 4 2)), (48, up (h.1 48) (h.1 40 10) x)] [] []) := by
      intro y hy
      refine M_zast (li' := [(45, up (h.1 45) (h.1 40 10) (h.1 4 0)), (46, up (h.1 46) (h.1 40 10) (h.1 4 1)), (47, up (h.1 47) (h.1 40 10) (h.1 4 2)), (48, up (h.1 48) (h.1 40 10) x), (49, up (h.1 49) (h.1 40 10) y)]) hG dX1_addRule_77 k49 n49 (by omega) (by omega) rfl ?_
      refine A_aload_n hG 0 dX1_addRule_78 rfl rfl ?_
      refine A_dup hG dX1_addRule_79 rfl ?_
      refine M_getI (z := 10) (v := h.1 40 10) hG dX1_addRule_80 fl_X1_44 (by decide) k40 rfl rfl rfl (fun ⟨ra_80, rb_80⟩ => ?_)
      refine A_iconst (n := 1) hG dX1_addRule_83 ?_
      refine A_iadd hG dX1_addRule_84 ?_
      refine M_putI (z := 10) (li' := [(45, up (h.1 45) (h.1 40 10) (h.1 4 0)), (46, up (h.1 46) (h.1 40 10) (h.1 4 1)), (47, up (h.1 47) (h.1 40 10) (h.1 4 2)), (48, up (h.1 48) (h.1 40 10) x), (49, up (h.1 49) (h.1 40 10) y), (40, up (h.1 40) 10 ((h.1 40 10) + 1))]) hG dX1_addRule_85 fl_X1_44 (by decide) k40 nf_1_10 rfl rfl (by constructor <;> omega) (Or.inl rfl) rfl ?_
      refine A_iconst (n := 1) hG dX1_addRule_88 ?_
      exact Ret_z hM dX1_addRule_89 (by omega) (⟨rfl, by rw [hx, hy]⟩)
    refine A_getR (r := 49) hG dX1_addRule_58 fl_X1_41 (by decide) k40 (by decide) rfl ?_
    refine A_aload_n hG 0 dX1_addRule_61 rfl rfl ?_
    refine M_getI (z := 10) (v := h.1 40 10) hG dX1_addRule_62 fl_X1_44 (by decide) k40 rfl rfl rfl (fun ⟨ra_62, rb_62⟩ => ?_)
    refine A_aload_n hG 1 dX1_addRule_65 rfl rfl ?_
    refine A_iconst (n := 4) hG dX1_addRule_66 ?_
    refine M_iald (v := h.1 4 4) hG dX1_addRule_67 k4 n4 (by omega) rfl (fun ⟨ra_67, rb_67⟩ => ?_)
    refine A_iconst (n := 1) hG dX1_addRule_68 ?_
    refine A_icmp_ne hG 76 dX1_addRule_69 (by decide) (by constructor <;> omega) (by constructor <;> omega) (fun c_69 => ?_) (fun c_69 => ?_)
    ·
      refine A_iconst (n := 0) hG dX1_addRule_76 ?_
      refine A_sub hG [0, 1] rfl ?_
      exact b_1 0 (by omega)
    ·
      refine A_iconst (n := 1) hG dX1_addRule_72 ?_
      refine A_goto hG 77 dX1_addRule_73 (by decide) ?_
      refine A_sub hG [0, 1] rfl ?_
      exact b_1 1 (by omega)
  refine A_getR (r := 48) hG dX1_addRule_37 fl_X1_37 (by decide) k40 (by decide) rfl ?_
  refine A_aload_n hG 0 dX1_addRule_40 rfl rfl ?_
  refine M_getI (z := 10) (v := h.1 40 10) hG dX1_addRule_41 fl_X1_44 (by decide) k40 rfl rfl rfl (fun ⟨ra_41, rb_41⟩ => ?_)
  refine A_aload_n hG 1 dX1_addRule_44 rfl rfl ?_
  refine A_iconst (n := 3) hG dX1_addRule_45 ?_
  refine M_iald (v := h.1 4 3) hG dX1_addRule_46 k4 n4 (by omega) rfl (fun ⟨ra_46, rb_46⟩ => ?_)
  refine A_iconst (n := 1) hG dX1_addRule_47 ?_
  refine A_icmp_ne hG 55 dX1_addRule_48 (by decide) (by constructor <;> omega) (by constructor <;> omega) (fun c_48 => ?_) (fun c_48 => ?_)
  ·
    refine A_iconst (n := 0) hG dX1_addRule_55 ?_
    refine A_sub hG [0, 1] rfl ?_
    exact a_0 0 (by omega)
  ·
    refine A_iconst (n := 1) hG dX1_addRule_51 ?_
    refine A_goto hG 56 dX1_addRule_52 (by decide) ?_
    refine A_sub hG [0, 1] rfl ?_
    exact a_0 1 (by omega)

set_option maxHeartbeats 2000000 in
set_option maxRecDepth 20000 in
theorem x_tellPrice40 (h : AH) (h0 : 0 ≤ h.1 4 0 ∧ h.1 4 0 ≤ 4) : AMet yX1_tellPrice cX1_tellPrice 2 (some .boolean) 0 0 [.ref 40, .ref 4] h (Qi (fun z h' => z = 1 ∧ h' = hm h [(50, up (h.1 50) (h.1 4 0) (h.1 4 1))] [] [])) := by
  refine AMet.of (by decide) (Nat.le_of_ble_eq_true rfl) (fun G hM => ?_)
  have hG := hM.cx
  refine A_hm0 (G := G) (L := [(0, .ref 40), (1, .ref 4)]) ?_
  refine A_aload_n hG 0 dX1_tellPrice_0 rfl rfl ?_
  refine A_getR (r := 50) hG dX1_tellPrice_1 fl_X1_55 (by decide) k40 (by decide) rfl ?_
  refine A_aload_n hG 1 dX1_tellPrice_4 rfl rfl ?_
  refine A_iconst (n := 0) hG dX1_tellPrice_5 ?_
  refine M_iald (v := h.1 4 0) hG dX1_tellPrice_6 k4 n4 (by omega) rfl (fun ⟨ra_6, rb_6⟩ => ?_)
  refine A_aload_n hG 1 dX1_tellPrice_7 rfl rfl ?_
  refine A_iconst (n := 1) hG dX1_tellPrice_8 ?_
  refine M_iald (v := h.1 4 1) hG dX1_tellPrice_9 k4 n4 (by omega) rfl (fun ⟨ra_9, rb_9⟩ => ?_)
  refine M_iast (li' := [(50, up (h.1 50) (h.1 4 0) (h.1 4 1))]) hG dX1_tellPrice_10 k50 n50 (by omega) (by constructor <;> omega) rfl ?_
  refine A_iconst (n := 1) hG dX1_tellPrice_11 ?_
  exact Ret_z hM dX1_tellPrice_12 (by omega) (⟨rfl, rfl⟩)

set_option maxHeartbeats 2000000 in
set_option maxRecDepth 20000 in
theorem x_takeItem40 (h : AH) {l n : Int} (hl : ir l) (hn : 0 ≤ n ∧ n ≤ 5) (hf : ∀ i : Int, 0 ≤ i → i < n → 0 ≤ h.1 4 i) (hw : 0 ≤ h.1 40 4) (hr : 0 ≤ h.1 40 10) : AMet yX1_takeItem cX1_takeItem 4 (some .boolean) 1 23 [.ref 40, vI l, .ref 4, vI n] h (Qi (fun z h' => (z = 1 ∧ itW l n (h.1 40 4) (h.1 4) ∧ h' = hm h [(40, up (h.1 40) 4 (h.1 40 4 + 1)), (44, up (h.1 44) (h.1 40 4) (h.1 4 3)), (43, up (h.1 43) (h.1 40 4) (h.1 4 2)), (42, up (h.1 42) (h.1 40 4) (h.1 4 1)), (41, up (h.1 41) (h.1 40 4) (h.1 4 0))] [] []) ∨ (z = 1 ∧ itR l n (h.1 40 10) (h.1 4) ∧ h' = hm h [(40, up (h.1 40) 10 (h.1 40 10 + 1)), (49, up (h.1 49) (h.1 40 10) (h.1 4 4)), (48, up (h.1 48) (h.1 40 10) (h.1 4 3)), (47, up (h.1 47) (h.1 40 10) (h.1 4 2)), (46, up (h.1 46) (h.1 40 10) (h.1 4 1)), (45, up (h.1 45) (h.1 40 10) (h.1 4 0))] [] []) ∨ (z = 1 ∧ itP l n (h.1 4) ∧ h' = hm h [(50, up (h.1 50) (h.1 4 0) (h.1 4 1))] [] []) ∨ (z = 0 ∧ ¬ itW l n (h.1 40 4) (h.1 4) ∧ ¬ itR l n (h.1 40 10) (h.1 4) ∧ ¬ itP l n (h.1 4) ∧ h' = h))) := by
  obtain ⟨hl1, hl2⟩ := hl
  refine AMet.of (by decide) (Nat.le_of_ble_eq_true rfl) (fun G hM => ?_)
  have hG := hM.cx
  refine A_hm0 (G := G) (L := [(0, .ref 40), (1, vI l), (2, .ref 4), (3, vI n)]) ?_
  refine A_iload_n hG 1 dX1_takeItem_0 rfl rfl ?_
  rcases (show l = 112 ∨ l = 114 ∨ l = 119 ∨ (l ≠ 112 ∧ l ≠ 114 ∧ l ≠ 119) by omega) with hsw | hsw | hsw | hsw
  ·
    refine A_lookup (off := 103) hG 104 dX1_takeItem_1 (by decide) (by constructor <;> omega) (by rw [hsw]; try rfl) (by decide) ?_
    refine A_aload_n hG 2 dX1_takeItem_104 rfl rfl ?_
    refine A_iload_n hG 3 dX1_takeItem_105 rfl rfl ?_
    refine A_gets (k := 603) hG dX1_takeItem_106 k603 gs_X1_81 ?_
    refine C_Si (as := [.ref 4, vI n, .ref 603]) (st := []) hG dX1_takeItem_109 ml_X1_67 mf_X1_areWithin ms_X1_areWithin (x_areWithin603 (hm h [] [] []) (n := n) (by omega)) (by decide) (by decide) rfl rfl (Nat.le_of_ble_eq_true rfl) (fun z109 g109 ri_109 hp_109 => ?_)
    obtain ⟨ra_109, rb_109⟩ := ri_109
    have hq_109 : ((z109 = 1 ∧ n = 2 ∧ h.1 4 0 ≤ 4 ∧ h.1 4 1 ≤ 99) ∨ (z109 = 0 ∧ ¬ (n = 2 ∧ h.1 4 0 ≤ 4 ∧ h.1 4 1 ≤ 99))) ∧ g109 = hm h [] [] [] := hp_109
    clear hp_109
    obtain ⟨hz109, rfl⟩ := hq_109
    refine A_if_eq hG 127 dX1_takeItem_112 (by decide) (by constructor <;> omega) (fun c_112 => ?_) (fun c_112 => ?_)
    ·
      refine A_iconst (n := 0) hG dX1_takeItem_127 ?_
      exact Ret_z hM dX1_takeItem_128 (by omega) (Or.inr (Or.inr (Or.inr ⟨rfl, fun q => by have := q.1; omega, fun q => by have := q.1; omega, fun q => by obtain ⟨q1, q2, q3, q4⟩ := q; omega, rfl⟩)))
    ·
      have hn2 : n = 2 := by omega
      have f0 := hf 0 (by omega) (by omega)
      refine A_aload_n hG 0 dX1_takeItem_115 rfl rfl ?_
      refine A_aload_n hG 2 dX1_takeItem_116 rfl rfl ?_
      refine C_Vi (as := [.ref 4]) (st := []) (k := 40) (c := 1) hG dX1_takeItem_117 ml_X1_84 mf_X1_tellPrice mi_X1_tellPrice se_X1_tellPrice rfl (by decide) k40 (x_tellPrice40 (hm h [] [] []) (show 0 ≤ h.1 4 0 ∧ h.1 4 0 ≤ 4 by omega)) (by decide) (by decide) rfl rfl (Nat.le_of_ble_eq_true rfl) (fun z117 g117 ri_117 hp_117 => ?_)
      obtain ⟨ra_117, rb_117⟩ := ri_117
      have hq_117 : z117 = 1 ∧ g117 = hm (hm h [] [] []) [(50, up (h.1 50) (h.1 4 0) (h.1 4 1))] [] [] := hp_117
      clear hp_117
      obtain ⟨rfl, rfl⟩ := hq_117
      refine A_hm (la := [(50, up (h.1 50) (h.1 4 0) (h.1 4 1))]) (lb := []) (lc := []) rfl rfl rfl ?_
      refine A_if_eq hG 127 dX1_takeItem_120 (by decide) (by constructor <;> omega) (fun c_120 => ?_) (fun c_120 => ?_)
      ·
        exfalso; omega
      ·
        refine A_iconst (n := 1) hG dX1_takeItem_123 ?_
        refine A_goto hG 128 dX1_takeItem_124 (by decide) ?_
        exact Ret_z hM dX1_takeItem_128 (by omega) (Or.inr (Or.inr (Or.inl ⟨rfl, ⟨by omega, by omega, by omega, by omega⟩, rfl⟩)))
  ·
    refine A_lookup (off := 69) hG 70 dX1_takeItem_1 (by decide) (by constructor <;> omega) (by rw [hsw]; try rfl) (by decide) ?_
    refine A_aload_n hG 0 dX1_takeItem_70 rfl rfl ?_
    refine M_getI (z := 10) (v := h.1 40 10) hG dX1_takeItem_71 fl_X1_44 (by decide) k40 rfl rfl rfl (fun ⟨ra_71, rb_71⟩ => ?_)
    refine A_bipush (n := 24) hG dX1_takeItem_74 (by decide) ?_
    refine A_icmp_ge hG 102 dX1_takeItem_76 (by decide) (by constructor <;> omega) (by constructor <;> omega) (fun c_76 => ?_) (fun c_76 => ?_)
    ·
      refine A_iconst (n := 0) hG dX1_takeItem_102 ?_
      exact Ret_z hM dX1_takeItem_103 (by omega) (Or.inr (Or.inr (Or.inr ⟨rfl, fun q => by have := q.1; omega, fun q => by obtain ⟨q1, q2, q3, q4, q5, q6, q7, q8⟩ := q; omega, fun q => by have := q.1; omega, rfl⟩)))
    ·
      refine A_aload_n hG 2 dX1_takeItem_79 rfl rfl ?_
      refine A_iload_n hG 3 dX1_takeItem_80 rfl rfl ?_
      refine A_gets (k := 602) hG dX1_takeItem_81 k602 gs_X1_75 ?_
      refine C_Si (as := [.ref 4, vI n, .ref 602]) (st := []) hG dX1_takeItem_84 ml_X1_67 mf_X1_areWithin ms_X1_areWithin (x_areWithin602 (hm h [] [] []) (n := n) (by omega)) (by decide) (by decide) rfl rfl (Nat.le_of_ble_eq_true rfl) (fun z84 g84 ri_84 hp_84 => ?_)
      obtain ⟨ra_84, rb_84⟩ := ri_84
      have hq_84 : ((z84 = 1 ∧ n = 5 ∧ h.1 4 0 ≤ 9 ∧ h.1 4 1 ≤ 9 ∧ h.1 4 2 ≤ 9 ∧ h.1 4 3 ≤ 1 ∧ h.1 4 4 ≤ 1) ∨ (z84 = 0 ∧ ¬ (n = 5 ∧ h.1 4 0 ≤ 9 ∧ h.1 4 1 ≤ 9 ∧ h.1 4 2 ≤ 9 ∧ h.1 4 3 ≤ 1 ∧ h.1 4 4 ≤ 1))) ∧ g84 = hm h [] [] [] := hp_84
      clear hp_84
      obtain ⟨hz84, rfl⟩ := hq_84
      refine A_if_eq hG 102 dX1_takeItem_87 (by decide) (by constructor <;> omega) (fun c_87 => ?_) (fun c_87 => ?_)
      ·
        refine A_iconst (n := 0) hG dX1_takeItem_102 ?_
        exact Ret_z hM dX1_takeItem_103 (by omega) (Or.inr (Or.inr (Or.inr ⟨rfl, fun q => by have := q.1; omega, fun q => by obtain ⟨q1, q2, q3, q4, q5, q6, q7, q8⟩ := q; omega, fun q => by have := q.1; omega, rfl⟩)))
      ·
        have hn5 : n = 5 := by omega
        have f3 := hf 3 (by omega) (by omega)
        have f4 := hf 4 (by omega) (by omega)
        refine A_aload_n hG 0 dX1_takeItem_90 rfl rfl ?_
        refine A_aload_n hG 2 dX1_takeItem_91 rfl rfl ?_
        refine C_Vi (as := [.ref 4]) (st := []) (k := 40) (c := 1) hG dX1_takeItem_92 ml_X1_78 mf_X1_addRule mi_X1_addRule se_X1_addRule rfl (by decide) k40 (x_addRule40 (hm h [] [] []) (show 0 ≤ h.1 40 10 ∧ h.1 40 10 < 24 by omega) (show h.1 4 3 = 0 ∨ h.1 4 3 = 1 by omega) (show h.1 4 4 = 0 ∨ h.1 4 4 = 1 by omega)) (by decide) (by decide) rfl rfl (Nat.le_of_ble_eq_true rfl) (fun z92 g92 ri_92 hp_92 => ?_)
        obtain ⟨ra_92, rb_92⟩ := ri_92
        have hq_92 : z92 = 1 ∧ g92 = hm (hm h [] [] []) [(45, up (h.1 45) (h.1 40 10) (h.1 4 0)), (46, up (h.1 46) (h.1 40 10) (h.1 4 1)), (47, up (h.1 47) (h.1 40 10) (h.1 4 2)), (48, up (h.1 48) (h.1 40 10) (h.1 4 3)), (49, up (h.1 49) (h.1 40 10) (h.1 4 4)), (40, up (h.1 40) 10 (h.1 40 10 + 1))] [] [] := hp_92
        clear hp_92
        obtain ⟨rfl, rfl⟩ := hq_92
        refine A_hm (la := [(40, up (h.1 40) 10 (h.1 40 10 + 1)), (49, up (h.1 49) (h.1 40 10) (h.1 4 4)), (48, up (h.1 48) (h.1 40 10) (h.1 4 3)), (47, up (h.1 47) (h.1 40 10) (h.1 4 2)), (46, up (h.1 46) (h.1 40 10) (h.1 4 1)), (45, up (h.1 45) (h.1 40 10) (h.1 4 0))]) (lb := []) (lc := []) rfl rfl rfl ?_
        refine A_if_eq hG 102 dX1_takeItem_95 (by decide) (by constructor <;> omega) (fun c_95 => ?_) (fun c_95 => ?_)
        ·
          exfalso; omega
        ·
          refine A_iconst (n := 1) hG dX1_takeItem_98 ?_
          refine A_goto hG 103 dX1_takeItem_99 (by decide) ?_
          exact Ret_z hM dX1_takeItem_103 (by omega) (Or.inr (Or.inl ⟨rfl, ⟨by omega, by omega, by omega, by omega, by omega, by omega, by omega, by omega⟩, rfl⟩))
  ·
    refine A_lookup (off := 35) hG 36 dX1_takeItem_1 (by decide) (by constructor <;> omega) (by rw [hsw]; try rfl) (by decide) ?_
    refine A_aload_n hG 0 dX1_takeItem_36 rfl rfl ?_
    refine M_getI (z := 4) (v := h.1 40 4) hG dX1_takeItem_37 fl_X1_24 (by decide) k40 rfl rfl rfl (fun ⟨ra_37, rb_37⟩ => ?_)
    refine A_bipush (n := 16) hG dX1_takeItem_40 (by decide) ?_
    refine A_icmp_ge hG 68 dX1_takeItem_42 (by decide) (by constructor <;> omega) (by constructor <;> omega) (fun c_42 => ?_) (fun c_42 => ?_)
    ·
      refine A_iconst (n := 0) hG dX1_takeItem_68 ?_
      exact Ret_z hM dX1_takeItem_69 (by omega) (Or.inr (Or.inr (Or.inr ⟨rfl, fun q => by obtain ⟨q1, q2, q3, q4, q5, q6, q7⟩ := q; omega, fun q => by have := q.1; omega, fun q => by have := q.1; omega, rfl⟩)))
    ·
      refine A_aload_n hG 2 dX1_takeItem_45 rfl rfl ?_
      refine A_iload_n hG 3 dX1_takeItem_46 rfl rfl ?_
      refine A_gets (k := 601) hG dX1_takeItem_47 k601 gs_X1_64 ?_
      refine C_Si (as := [.ref 4, vI n, .ref 601]) (st := []) hG dX1_takeItem_50 ml_X1_67 mf_X1_areWithin ms_X1_areWithin (x_areWithin601 (hm h [] [] []) (n := n) (by omega)) (by decide) (by decide) rfl rfl (Nat.le_of_ble_eq_true rfl) (fun z50 g50 ri_50 hp_50 => ?_)
      obtain ⟨ra_50, rb_50⟩ := ri_50
      have hq_50 : ((z50 = 1 ∧ n = 4 ∧ h.1 4 0 ≤ 9 ∧ h.1 4 1 ≤ 3 ∧ h.1 4 2 ≤ 15 ∧ h.1 4 3 ≤ 15) ∨ (z50 = 0 ∧ ¬ (n = 4 ∧ h.1 4 0 ≤ 9 ∧ h.1 4 1 ≤ 3 ∧ h.1 4 2 ≤ 15 ∧ h.1 4 3 ≤ 15))) ∧ g50 = hm h [] [] [] := hp_50
      clear hp_50
      obtain ⟨hz50, rfl⟩ := hq_50
      refine A_if_eq hG 68 dX1_takeItem_53 (by decide) (by constructor <;> omega) (fun c_53 => ?_) (fun c_53 => ?_)
      ·
        refine A_iconst (n := 0) hG dX1_takeItem_68 ?_
        exact Ret_z hM dX1_takeItem_69 (by omega) (Or.inr (Or.inr (Or.inr ⟨rfl, fun q => by obtain ⟨q1, q2, q3, q4, q5, q6, q7⟩ := q; omega, fun q => by have := q.1; omega, fun q => by have := q.1; omega, rfl⟩)))
      ·
        refine A_aload_n hG 0 dX1_takeItem_56 rfl rfl ?_
        refine A_aload_n hG 2 dX1_takeItem_57 rfl rfl ?_
        refine C_Vi (as := [.ref 4]) (st := []) (k := 40) (c := 1) hG dX1_takeItem_58 ml_X1_71 mf_X1_addWord mi_X1_addWord se_X1_addWord rfl (by decide) k40 (x_addWord40 (hm h [] [] []) (show 0 ≤ h.1 40 4 ∧ h.1 40 4 < 16 by omega)) (by decide) (by decide) rfl rfl (Nat.le_of_ble_eq_true rfl) (fun z58 g58 ri_58 hp_58 => ?_)
        obtain ⟨ra_58, rb_58⟩ := ri_58
        have hq_58 : z58 = 1 ∧ g58 = hm (hm h [] [] []) [(41, up (h.1 41) (h.1 40 4) (h.1 4 0)), (42, up (h.1 42) (h.1 40 4) (h.1 4 1)), (43, up (h.1 43) (h.1 40 4) (h.1 4 2)), (44, up (h.1 44) (h.1 40 4) (h.1 4 3)), (40, up (h.1 40) 4 (h.1 40 4 + 1))] [] [] := hp_58
        clear hp_58
        obtain ⟨rfl, rfl⟩ := hq_58
        refine A_hm (la := [(40, up (h.1 40) 4 (h.1 40 4 + 1)), (44, up (h.1 44) (h.1 40 4) (h.1 4 3)), (43, up (h.1 43) (h.1 40 4) (h.1 4 2)), (42, up (h.1 42) (h.1 40 4) (h.1 4 1)), (41, up (h.1 41) (h.1 40 4) (h.1 4 0))]) (lb := []) (lc := []) rfl rfl rfl ?_
        refine A_if_eq hG 68 dX1_takeItem_61 (by decide) (by constructor <;> omega) (fun c_61 => ?_) (fun c_61 => ?_)
        ·
          exfalso; omega
        ·
          refine A_iconst (n := 1) hG dX1_takeItem_64 ?_
          refine A_goto hG 69 dX1_takeItem_65 (by decide) ?_
          exact Ret_z hM dX1_takeItem_69 (by omega) (Or.inl ⟨rfl, ⟨by omega, by omega, by omega, by omega, by omega, by omega, by omega⟩, rfl⟩)
  ·
    refine A_lookup (off := 128) hG 129 dX1_takeItem_1 (by decide) (by constructor <;> omega) (by simp [Op.lookupswitch.offset]; omega) (by decide) ?_
    refine A_iconst (n := 0) hG dX1_takeItem_129 ?_
    exact Ret_z hM dX1_takeItem_130 (by omega) (Or.inr (Or.inr (Or.inr ⟨rfl, fun q => by have := q.1; omega, fun q => by have := q.1; omega, fun q => by have := q.1; omega, rfl⟩)))

set_option maxHeartbeats 2000000 in
set_option maxRecDepth 20000 in
theorem x_tellTo40 (h : AH) (hL : 0 ≤ h.1 2 1 ∧ h.1 2 1 ≤ 400) : AMet yX9_tellTo cX9_tellTo 5 (some .int) 3 67 [.ref 2, .ref 40] h (Qi (fun z h' => ∃ a0 a1 a2 a3 a4 a5 a6 a7 a8 a9 a10 e nm : Int → Int, ∃ (N : Nat) (g : Gm), (prs (h.1 3) (h.1 2 1) N 0 g00 z g ∧ (z = -4 → okG g ∧ gxC a0 a1 a2 a3 a4 a5 a6 a7 a8 a9 a10 g) ∧ ∀ q, q ≠ 3 → e q = h.1 2 q) ∧ h' = hm h [(50, a10), (40, a0), (41, a1), (42, a2), (43, a3), (44, a4), (45, a5), (46, a6), (47, a7), (48, a8), (49, a9), (2, e), (4, nm)] [] [])) := by
  refine AMet.of (by decide) (Nat.le_of_ble_eq_true rfl) (fun G hM => ?_)
  have hG := hM.cx
  refine A_hm0 (G := G) (L := [(0, .ref 2), (1, .ref 40)]) ?_
  refine A_aload_n hG 1 dX9_tellTo_0 rfl rfl ?_
  refine C_Vv (as := []) (st := []) (k := 40) (c := 1) hG dX9_tellTo_1 ml_X9_25 mf_X1_restart mi_X1_restart se_X1_restart rfl (by decide) k40 (x_grestart40 (hm h [] [] [])) (by decide) (by decide) rfl rfl (Nat.le_of_ble_eq_true rfl) (fun g1 hp_1 => ?_)
  have hq_1 : g1 = hm (hm h [] [] []) [(40, up (up (h.1 40) 4 0) 10 0), (50, cpI (tb 600) (h.1 50) 0 0 5)] [] [] := hp_1
  clear hp_1
  subst hq_1
  refine A_hm (la := [(50, cpI (tb 600) (h.1 50) 0 0 5), (40, up (up (h.1 40) 4 0) 10 0)]) (lb := []) (lc := []) rfl rfl rfl ?_
  refine A_iconst (n := 0) hG dX9_tellTo_4 ?_
  refine A_istore_n (L' := [(2, vI 0), (0, .ref 2), (1, .ref 40)]) hG dX9_tellTo_5 rfl (by decide) rfl ?_
  refine A_iconst (n := 0) hG dX9_tellTo_6 ?_
  refine A_istore_n (L' := [(3, vI 0), (2, vI 0), (0, .ref 2), (1, .ref 40)]) hG dX9_tellTo_7 rfl (by decide) rfl ?_
  refine A_insI 41 (li' := [(50, cpI (tb 600) (h.1 50) 0 0 5), (40, up (up (h.1 40) 4 0) 10 0), (41, h.1 41)]) rfl ?_
  refine A_insI 42 (li' := [(50, cpI (tb 600) (h.1 50) 0 0 5), (40, up (up (h.1 40) 4 0) 10 0), (41, h.1 41), (42, h.1 42)]) rfl ?_
  refine A_insI 43 (li' := [(50, cpI (tb 600) (h.1 50) 0 0 5), (40, up (up (h.1 40) 4 0) 10 0), (41, h.1 41), (42, h.1 42), (43, h.1 43)]) rfl ?_
  refine A_insI 44 (li' := [(50, cpI (tb 600) (h.1 50) 0 0 5), (40, up (up (h.1 40) 4 0) 10 0), (41, h.1 41), (42, h.1 42), (43, h.1 43), (44, h.1 44)]) rfl ?_
  refine A_insI 45 (li' := [(50, cpI (tb 600) (h.1 50) 0 0 5), (40, up (up (h.1 40) 4 0) 10 0), (41, h.1 41), (42, h.1 42), (43, h.1 43), (44, h.1 44), (45, h.1 45)]) rfl ?_
  refine A_insI 46 (li' := [(50, cpI (tb 600) (h.1 50) 0 0 5), (40, up (up (h.1 40) 4 0) 10 0), (41, h.1 41), (42, h.1 42), (43, h.1 43), (44, h.1 44), (45, h.1 45), (46, h.1 46)]) rfl ?_
  refine A_insI 47 (li' := [(50, cpI (tb 600) (h.1 50) 0 0 5), (40, up (up (h.1 40) 4 0) 10 0), (41, h.1 41), (42, h.1 42), (43, h.1 43), (44, h.1 44), (45, h.1 45), (46, h.1 46), (47, h.1 47)]) rfl ?_
  refine A_insI 48 (li' := [(50, cpI (tb 600) (h.1 50) 0 0 5), (40, up (up (h.1 40) 4 0) 10 0), (41, h.1 41), (42, h.1 42), (43, h.1 43), (44, h.1 44), (45, h.1 45), (46, h.1 46), (47, h.1 47), (48, h.1 48)]) rfl ?_
  refine A_insI 49 (li' := [(50, cpI (tb 600) (h.1 50) 0 0 5), (40, up (up (h.1 40) 4 0) 10 0), (41, h.1 41), (42, h.1 42), (43, h.1 43), (44, h.1 44), (45, h.1 45), (46, h.1 46), (47, h.1 47), (48, h.1 48), (49, h.1 49)]) rfl ?_
  refine A_insI 2 (li' := [(50, cpI (tb 600) (h.1 50) 0 0 5), (40, up (up (h.1 40) 4 0) 10 0), (41, h.1 41), (42, h.1 42), (43, h.1 43), (44, h.1 44), (45, h.1 45), (46, h.1 46), (47, h.1 47), (48, h.1 48), (49, h.1 49), (2, h.1 2)]) rfl ?_
  refine A_insI 4 (li' := [(50, cpI (tb 600) (h.1 50) 0 0 5), (40, up (up (h.1 40) 4 0) 10 0), (41, h.1 41), (42, h.1 42), (43, h.1 43), (44, h.1 44), (45, h.1 45), (46, h.1 46), (47, h.1 47), (48, h.1 48), (49, h.1 49), (2, h.1 2), (4, h.1 4)]) rfl ?_
  have i_1 : ∀ fu : Nat, ∀ (p : Int) (i : Int) (g : Gm) (a0 : Int → Int) (a1 : Int → Int) (a2 : Int → Int) (a3 : Int → Int) (a4 : Int → Int) (a5 : Int → Int) (a6 : Int → Int) (a7 : Int → Int) (a8 : Int → Int) (a9 : Int → Int) (a10 : Int → Int) (e : Int → Int) (nm : Int → Int), (0 ≤ i ∧ i ≤ 400 ∧ 2 * i ≤ p ∧ p ≤ h.1 2 1) → (∀ q, q ≠ 3 → e q = h.1 2 q) → (okG g) → (gxC a0 a1 a2 a3 a4 a5 a6 a7 a8 a9 a10 g) → (∀ N z g1, prs (h.1 3) (h.1 2 1) N p g z g1 → ∃ N, prs (h.1 3) (h.1 2 1) N 0 g00 z g1) → ((401 - i).toNat) < fu → G 8 [(0, .ref 2), (1, .ref 40), (2, vI p), (3, vI i)] [] (hm h [(50, a10), (40, a0), (41, a1), (42, a2), (43, a3), (44, a4), (45, a5), (46, a6), (47, a7), (48, a8), (49, a9), (2, e), (4, nm)] [] []) := by
    intro fu
    induction fu with
    | zero => intro p i g a0 a1 a2 a3 a4 a5 a6 a7 a8 a9 a10 e nm hi hE hOk hC hgo hfu; exact absurd hfu (Nat.not_lt_zero _)
    | succ fu ih_i =>
      intro p i g a0 a1 a2 a3 a4 a5 a6 a7 a8 a9 a10 e nm hi hE hOk hC hgo hfu
      have hsz : e 1 = h.1 2 1 := hE 1 (by decide)
      have g1 := hOk.1
      have g2 := hOk.2.1
      have a04 := hC.1
      have a010 := hC.2.1
      refine A_iload_n hG 3 dX9_tellTo_8 rfl rfl ?_
      refine A_sipush (n := 400) hG dX9_tellTo_9 (by decide) ?_
      refine A_icmp_ge hG 69 dX9_tellTo_12 (by decide) (by constructor <;> omega) (by constructor <;> omega) (fun c_12 => ?_) (fun c_12 => ?_)
      ·
        exfalso; omega
      ·
        refine A_iload_n hG 2 dX9_tellTo_15 rfl rfl ?_
        refine A_aload_n hG 0 dX9_tellTo_16 rfl rfl ?_
        refine M_getI (z := 1) (v := e 1) hG dX9_tellTo_17 fl_X9_15 (by decide) k2 rfl rfl rfl (fun ⟨ra_17, rb_17⟩ => ?_)
        refine A_icmp_ge hG 69 dX9_tellTo_20 (by decide) (by constructor <;> omega) (by constructor <;> omega) (fun c_20 => ?_) (fun c_20 => ?_)
        ·
          obtain ⟨N', hN'⟩ := hgo 1 (-4) g (Or.inl ⟨by omega, rfl, rfl⟩)
          refine A_bipush (n := -4) hG dX9_tellTo_69 (by decide) ?_
          exact Ret_i hM dX9_tellTo_71 (by constructor <;> omega) (⟨a0, a1, a2, a3, a4, a5, a6, a7, a8, a9, a10, e, nm, N', g, ⟨hN', fun _ => ⟨hOk, hC⟩, hE⟩, rfl⟩)
        ·
          refine A_aload_n hG 0 dX9_tellTo_23 rfl rfl ?_
          refine A_iload_n hG 2 dX9_tellTo_24 rfl rfl ?_
          refine C_Vi (as := [vI p]) (st := []) (k := 2) (c := 8) hG dX9_tellTo_25 ml_X9_30 mf_X9_itemEnd mi_X9_itemEnd se_X9_itemEnd rfl (by decide) k2 (x_itemEnd (hm h [(50, a10), (40, a0), (41, a1), (42, a2), (43, a3), (44, a4), (45, a5), (46, a6), (47, a7), (48, a8), (49, a9), (2, e), (4, nm)] [] []) (p := p) (show 0 ≤ p ∧ p < e 1 by omega) (show 0 ≤ e 1 ∧ e 1 ≤ 400 by omega)) (by decide) (by decide) rfl rfl (Nat.le_of_ble_eq_true rfl) (fun z25 g25 ri_25 hp_25 => ?_)
          obtain ⟨ra_25, rb_25⟩ := ri_25
          have hq_25 : ∃ ex nx : Int → Int, ((∀ q, q ≠ 3 → ex q = e q) ∧ ((z25 = -4 ∧ ∀ m : Nat, 1 ≤ m → m ≤ 5 → ¬ okS (h.1 3) (e 1) (p + 1) m) ∨ (∃ m : Nat, 1 ≤ m ∧ m ≤ 5 ∧ okS (h.1 3) (e 1) (p + 1) m ∧ z25 = np (h.1 3) (e 1) (p + 1) m ∧ ex 3 = m ∧ nmC (h.1 3) (e 1) (p + 1) m nx))) ∧ g25 = hm (hm h [(50, a10), (40, a0), (41, a1), (42, a2), (43, a3), (44, a4), (45, a5), (46, a6), (47, a7), (48, a8), (49, a9), (2, e), (4, nm)] [] []) [(2, ex), (4, nx)] [] [] := hp_25
          clear hp_25
          obtain ⟨e25, n25, ⟨he25, hz25⟩, rfl⟩ := hq_25
          refine A_hm (la := [(50, a10), (40, a0), (41, a1), (42, a2), (43, a3), (44, a4), (45, a5), (46, a6), (47, a7), (48, a8), (49, a9), (2, e25), (4, n25)]) (lb := []) (lc := []) rfl rfl rfl ?_
          rw [hsz] at hz25
          refine A_istore (L' := [(4, vI z25), (0, .ref 2), (1, .ref 40), (2, vI p), (3, vI i)]) hG dX9_tellTo_28 (by decide) rfl ?_
          refine A_iload hG 0 dX9_tellTo_30 rfl ?_
          refine A_bipush (n := -4) hG dX9_tellTo_32 (by decide) ?_
          refine A_icmp_eq hG 58 dX9_tellTo_34 (by decide) (by constructor <;> omega) (by constructor <;> omega) (fun c_34 => ?_) (fun c_34 => ?_)
          ·
            obtain ⟨N', hN'⟩ := hgo 1 p g (prs_no (by omega) (no_item (hz25.elim (fun q => q.2) (fun ⟨m, m1, m2, m3, m4, m5, m6⟩ => absurd (np_lt (h.1 3) (h.1 2 1) (p + 1) m) (by omega)))))
            refine A_iload_n hG 3 dX9_tellTo_58 rfl rfl ?_
            exact Ret_i hM dX9_tellTo_59 (by constructor <;> omega) (⟨a0, a1, a2, a3, a4, a5, a6, a7, a8, a9, a10, e25, n25, N', g, ⟨hN', fun q => by omega, fun q hq => (he25 q hq).trans (hE q hq)⟩, rfl⟩)
          ·
            obtain ⟨m, m1, m2, m3, m4, m5, m6⟩ := hz25.resolve_left (fun q => c_34 q.1)
            have htk : ∀ i : Int, 0 ≤ i → i < e25 3 → 0 ≤ n25 i := fun i i0 i1 => by
                obtain ⟨k, rfl⟩ := Int.eq_ofNat_of_zero_le i0
                rw [m6 k (by omega)]; exact (nv_rng (m3 k (by omega))).1
            have hnlt := np_lt (h.1 3) (h.1 2 1) (p + 1) m
            have hnle : np (h.1 3) (h.1 2 1) (p + 1) m ≤ h.1 2 1 := by
                obtain ⟨k, rfl⟩ : ∃ k, m = k + 1 := ⟨m - 1, by omega⟩
                have := (m3 k (by omega)).2.1
                show nq _ _ _ + 1 ≤ _; omega
            refine A_aload_n hG 2 dX9_tellTo_37 rfl rfl ?_
            refine A_aload_n hG 1 dX9_tellTo_38 rfl rfl ?_
            refine A_getR (r := 3) hG dX9_tellTo_39 fl_X9_9 (by decide) k2 (by decide) rfl ?_
            refine A_iload_n hG 3 dX9_tellTo_42 rfl rfl ?_
            refine M_iald (v := h.1 3 p) hG dX9_tellTo_43 k3 n3 (by omega) rfl (fun ⟨ra_43, rb_43⟩ => ?_)
            refine A_aload_n hG 1 dX9_tellTo_44 rfl rfl ?_
            refine A_getR (r := 4) hG dX9_tellTo_45 fl_X9_19 (by decide) k2 (by decide) rfl ?_
            refine A_aload_n hG 1 dX9_tellTo_48 rfl rfl ?_
            refine M_getI (z := 3) (v := e25 3) hG dX9_tellTo_49 fl_X9_22 (by decide) k2 rfl rfl rfl (fun ⟨ra_49, rb_49⟩ => ?_)
            refine C_Vi (as := [vI (h.1 3 p), .ref 4, vI (e25 3)]) (st := []) (k := 40) (c := 1) hG dX9_tellTo_52 ml_X9_34 mf_X1_takeItem mi_X1_takeItem se_X1_takeItem rfl (by decide) k40 (x_takeItem40 (hm h [(50, a10), (40, a0), (41, a1), (42, a2), (43, a3), (44, a4), (45, a5), (46, a6), (47, a7), (48, a8), (49, a9), (2, e25), (4, n25)] [] []) (l := (h.1 3 p)) (n := (e25 3)) (by constructor <;> omega) (by omega) (fun i i0 i1 => htk i i0 i1) (show 0 ≤ a0 4 by omega) (show 0 ≤ a0 10 by omega)) (by decide) (by decide) rfl rfl (Nat.le_of_ble_eq_true rfl) (fun z52 g52 ri_52 hp_52 => ?_)
            obtain ⟨ra_52, rb_52⟩ := ri_52
            have hb52 : ∃ b0 b1 b2 b3 b4 b5 b6 b7 b8 b9 b10 : Int → Int, ((z52 = 1 ∧ itW (h.1 3 p) (e25 3) (a0 4) n25 ∧ b0 = up a0 4 (a0 4 + 1) ∧ b1 = up a1 (a0 4) (n25 0) ∧ b2 = up a2 (a0 4) (n25 1) ∧ b3 = up a3 (a0 4) (n25 2) ∧ b4 = up a4 (a0 4) (n25 3) ∧ b5 = a5 ∧ b6 = a6 ∧ b7 = a7 ∧ b8 = a8 ∧ b9 = a9 ∧ b10 = a10) ∨ (z52 = 1 ∧ itR (h.1 3 p) (e25 3) (a0 10) n25 ∧ b0 = up a0 10 (a0 10 + 1) ∧ b5 = up a5 (a0 10) (n25 0) ∧ b6 = up a6 (a0 10) (n25 1) ∧ b7 = up a7 (a0 10) (n25 2) ∧ b8 = up a8 (a0 10) (n25 3) ∧ b9 = up a9 (a0 10) (n25 4) ∧ b1 = a1 ∧ b2 = a2 ∧ b3 = a3 ∧ b4 = a4 ∧ b10 = a10) ∨ (z52 = 1 ∧ itP (h.1 3 p) (e25 3) n25 ∧ b10 = up a10 (n25 0) (n25 1) ∧ b0 = a0 ∧ b1 = a1 ∧ b2 = a2 ∧ b3 = a3 ∧ b4 = a4 ∧ b5 = a5 ∧ b6 = a6 ∧ b7 = a7 ∧ b8 = a8 ∧ b9 = a9) ∨ (z52 = 0 ∧ ¬ itW (h.1 3 p) (e25 3) (a0 4) n25 ∧ ¬ itR (h.1 3 p) (e25 3) (a0 10) n25 ∧ ¬ itP (h.1 3 p) (e25 3) n25 ∧ b0 = a0 ∧ b1 = a1 ∧ b2 = a2 ∧ b3 = a3 ∧ b4 = a4 ∧ b5 = a5 ∧ b6 = a6 ∧ b7 = a7 ∧ b8 = a8 ∧ b9 = a9 ∧ b10 = a10)) ∧ g52 = hm h [(50, b10), (40, b0), (41, b1), (42, b2), (43, b3), (44, b4), (45, b5), (46, b6), (47, b7), (48, b8), (49, b9), (2, e25), (4, n25)] [] [] := by
                rcases hp_52 with ⟨u1, u2, u3⟩ | ⟨u1, u2, u3⟩ | ⟨u1, u2, u3⟩ | ⟨u1, u2, u3, u4, u5⟩
                · exact ⟨_, _, _, _, _, _, _, _, _, _, _, Or.inl ⟨u1, u2, rfl, rfl, rfl, rfl, rfl, rfl, rfl, rfl, rfl, rfl, rfl⟩, u3.trans ((hm_hm _ _ _ _ _ _ _).trans rfl)⟩
                · exact ⟨_, _, _, _, _, _, _, _, _, _, _, Or.inr (Or.inl ⟨u1, u2, rfl, rfl, rfl, rfl, rfl, rfl, rfl, rfl, rfl, rfl, rfl⟩), u3.trans ((hm_hm _ _ _ _ _ _ _).trans rfl)⟩
                · exact ⟨_, _, _, _, _, _, _, _, _, _, _, Or.inr (Or.inr (Or.inl ⟨u1, u2, rfl, rfl, rfl, rfl, rfl, rfl, rfl, rfl, rfl, rfl, rfl⟩)), u3.trans ((hm_hm _ _ _ _ _ _ _).trans rfl)⟩
                · exact ⟨_, _, _, _, _, _, _, _, _, _, _, Or.inr (Or.inr (Or.inr ⟨u1, u2, u3, u4, rfl, rfl, rfl, rfl, rfl, rfl, rfl, rfl, rfl, rfl, rfl⟩)), u5⟩
            clear hp_52
            obtain ⟨b0, b1, b2, b3, b4, b5, b6, b7, b8, b9, b10, hb52, rfl⟩ := hb52
            refine A_if_ne hG 60 dX9_tellTo_55 (by decide) (by constructor <;> omega) (fun c_55 => ?_) (fun c_55 => ?_)
            ·
              obtain ⟨g', hOk', hC', hgo'⟩ : ∃ g' : Gm, okG g' ∧ gxC b0 b1 b2 b3 b4 b5 b6 b7 b8 b9 b10 g' ∧ ∀ N z g1, prs (h.1 3) (h.1 2 1) N z25 g' z g1 → ∃ N, prs (h.1 3) (h.1 2 1) N 0 g00 z g1 := by
                  rw [m5] at hb52
                  rcases hb52 with ⟨-, u, rfl, rfl, rfl, rfl, rfl, rfl, rfl, rfl, rfl, rfl, rfl⟩ | ⟨-, u, rfl, rfl, rfl, rfl, rfl, rfl, rfl, rfl, rfl, rfl, rfl⟩ | ⟨-, u, rfl, rfl, rfl, rfl, rfl, rfl, rfl, rfl, rfl, rfl, rfl⟩ | ⟨u, -⟩
                  · obtain ⟨v1, v2, v3, v4⟩ := step_W m3 m1 m6 hC hOk u
                    subst v1
                    exact ⟨_, v2, v3, fun N z g1 q => hgo (N + 1) z g1 (Or.inr (Or.inl ⟨by omega, v4, by rw [m4] at q; exact q⟩))⟩
                  · obtain ⟨v1, v2, v3, v4⟩ := step_R m3 m1 m6 hC hOk u
                    subst v1
                    exact ⟨_, v2, v3, fun N z g1 q => hgo (N + 1) z g1 (Or.inr (Or.inr (Or.inl ⟨by omega, v4, by rw [m4] at q; exact q⟩)))⟩
                  · obtain ⟨v1, v2, v3, v4⟩ := step_P m3 m1 m6 hC hOk u
                    subst v1
                    exact ⟨_, v2, v3, fun N z g1 q => hgo (N + 1) z g1 (Or.inr (Or.inr (Or.inr (Or.inl ⟨by omega, v4, by rw [m4] at q; exact q⟩))))⟩
                  · omega
              clear hz25 hb52
              refine A_iload hG 0 dX9_tellTo_60 rfl ?_
              refine A_istore_n (L' := [(2, vI z25), (4, vI z25), (0, .ref 2), (1, .ref 40), (3, vI i)]) hG dX9_tellTo_62 rfl (by decide) rfl ?_
              refine A_iinc (L' := [(3, vI (i + 1)), (2, vI z25), (4, vI z25), (0, .ref 2), (1, .ref 40)]) hG 4 dX9_tellTo_63 rfl (by decide) rfl ?_
              refine A_goto hG 8 dX9_tellTo_66 (by decide) ?_
              refine A_sub hG [3, 4, 1, 0] rfl ?_
              exact ih_i z25 (i + 1) g' b0 b1 b2 b3 b4 b5 b6 b7 b8 b9 b10 e25 n25 (by omega) (fun q hq => (he25 q hq).trans (hE q hq)) hOk' hC' hgo' (by omega)
            ·
              obtain ⟨N', hN'⟩ : ∃ N, prs (h.1 3) (h.1 2 1) N 0 g00 p g := by
                  rw [m5] at hb52
                  rcases hb52 with ⟨u, -⟩ | ⟨u, -⟩ | ⟨u, -⟩ | ⟨-, u1, u2, u3, -⟩
                  · omega
                  · omega
                  · omega
                  · rw [it_W m3 m1 m6, hC.1] at u1
                    rw [it_R m3 m1 m6, hC.2.1] at u2
                    rw [it_P m3 m1 m6] at u3
                    exact hgo 1 p g (prs_no (by omega) ⟨u1, u2, u3⟩)
              refine A_iload_n hG 3 dX9_tellTo_58 rfl rfl ?_
              exact Ret_i hM dX9_tellTo_59 (by constructor <;> omega) (⟨b0, b1, b2, b3, b4, b5, b6, b7, b8, b9, b10, e25, n25, N', g, ⟨hN', fun q => by omega, fun q hq => (he25 q hq).trans (hE q hq)⟩, rfl⟩)
  refine A_sub hG [2, 3, 1, 0] rfl ?_
  exact i_1 _ 0 0 g00 (up (up (h.1 40) 4 0) 10 0) (h.1 41) (h.1 42) (h.1 43) (h.1 44) (h.1 45) (h.1 46) (h.1 47) (h.1 48) (h.1 49) (cpI (tb 600) (h.1 50) 0 0 5) (h.1 2) (h.1 4) (by omega) (fun _ _ => rfl) okG_00 (gxC_00 (by rw [up_ne _ _ (by decide), up_eq]) (by rw [up_eq]) (fun c c0 c1 => by unfold cpI; rw [if_pos (by omega), show (0 : Int) + (c - 0) = c by omega])) (fun N z g1 q => ⟨N, q⟩) (Nat.lt_succ_self _)

end
