/-! the reference: heaps (printed by gen) -/
section
/-- most of the first h -/
def mostU (F : Int → Int) (n : Nat) (k0 m : Int) : Prop := (∀ k : Int, 0 ≤ k → k < k0 → cntE F (F k) n ≤ m) ∧ 0 ≤ m ∧ (m = 0 ∨ ∃ k : Int, 0 ≤ k ∧ k < k0 ∧ cntE F (F k) n = m)
theorem mostU_0 {F : Int → Int} {n : Nat} : mostU F n 0 0 := ⟨fun k k0 k1 => by omega, Int.le_refl _, Or.inl rfl⟩
theorem mostU_g {F : Int → Int} {n : Nat} {k m c : Int} (h : mostU F n k m) (hk : 0 ≤ k) (hc : c = cntE F (F k) n) (hl : m < c) : mostU F n (k + 1) c :=
  ⟨fun j j0 j1 => by
    by_cases e : j = k
    · rw [e]; omega
    · have := h.1 j j0 (by omega); omega, by have := h.2.1; omega, Or.inr ⟨k, hk, by omega, hc.symm⟩⟩
theorem mostU_l {F : Int → Int} {n : Nat} {k m c : Int} (h : mostU F n k m) (hc : c = cntE F (F k) n) (hl : c ≤ m) : mostU F n (k + 1) m :=
  ⟨fun j j0 j1 => by
    by_cases e : j = k
    · rw [e]; omega
    · exact h.1 j j0 (by omega), h.2.1, h.2.2.imp id (fun ⟨j, j0, j1, j2⟩ => ⟨j, j0, by omega, j2⟩)⟩
theorem mostU_P {F : Int → Int} {n : Nat} {k m : Int} (h : mostU F n k m) (hk : k = n) : mostP F n m := by subst hk; exact h
/-- the place asked at, of the first p -/
def askI (F : Int → Int → Int) (n : Nat) (p b l : Int) : Prop := (p = 0 ∧ b = -4) ∨ (0 ≤ b ∧ b < p ∧ ∃ m : Int → Int, (∀ q, 0 ≤ q → q < p → mostP (F q) n (m q)) ∧ m b = l ∧ (∀ q, 0 ≤ q → q < b → m b < m q) ∧ ∀ q, b ≤ q → q < p → m b ≤ m q)
theorem askI_b {F : Int → Int → Int} {n : Nat} {p b l : Int} (h : askI F n p b l) : (p = 0 ∧ b = -4) ∨ (0 ≤ b ∧ b < p) := h.imp id (fun q => ⟨q.1, q.2.1⟩)
theorem askI_new {F : Int → Int → Int} {n : Nat} {p b l v : Int} (h : askI F n p b l) (hp : 0 ≤ p) (hv : mostP (F p) n v) (hc : b = -4 ∨ v < l) : askI F n (p + 1) p v := by
  rcases h with ⟨rfl, rfl⟩ | ⟨a1, a2, m, a3, rfl, a5, a6⟩
  · exact Or.inr ⟨Int.le_refl _, by omega, fun _ => v, fun q q0 q1 => by rw [show q = 0 by omega]; exact hv, rfl, fun q q0 q1 => by omega, fun q q0 q1 => Int.le_refl _⟩
  · refine Or.inr ⟨hp, by omega, up m p v, fun q q0 q1 => ?_, up_eq _ _ _, fun q q0 q1 => ?_, fun q q0 q1 => ?_⟩
    · by_cases e : q = p
      · rw [e, up_eq]; exact hv
      · rw [up_ne _ _ e]; exact a3 q q0 (by omega)
    · rw [up_eq, up_ne _ _ (by omega)]
      by_cases e : q < b
      · have := a5 q q0 e; omega
      · have := a6 q (by omega) q1; omega
    · rw [show q = p by omega]; exact Int.le_refl _
theorem askI_old {F : Int → Int → Int} {n : Nat} {p b l v : Int} (h : askI F n p b l) (hv : mostP (F p) n v) (hb : b ≠ -4) (hc : l ≤ v) : askI F n (p + 1) b l := by
  rcases h with ⟨rfl, rfl⟩ | ⟨a1, a2, m, a3, rfl, a5, a6⟩
  · exact absurd rfl hb
  · refine Or.inr ⟨a1, by omega, up m p v, fun q q0 q1 => ?_, up_ne _ _ (by omega), fun q q0 q1 => ?_, fun q q0 q1 => ?_⟩
    · by_cases e : q = p
      · rw [e, up_eq]; exact hv
      · rw [up_ne _ _ e]; exact a3 q q0 (by omega)
    · rw [up_ne _ _ (by omega), up_ne _ _ (by omega)]; exact a5 q q0 q1
    · rw [up_ne _ _ (by omega)]
      by_cases e : q = p
      · rw [e, up_eq]; exact hc
      · rw [up_ne _ _ e]; exact a6 q q0 (by omega)
theorem askI_P {F : Int → Int → Int} {n : Nat} {p b l : Int} (h : askI F n p b l) (hp : p = 8) : askP F n b := by
  subst hp
  rcases h with ⟨h, -⟩ | ⟨a1, a2, m, a3, a4, a5, a6⟩
  · omega
  · exact ⟨⟨a1, a2⟩, m, a3, a5, a6⟩
/-- none of the first i heaps is alike, or one is -/
def hpX (g : Gm) (ms hf : Int → Int) (k hn i x : Int) : Prop := (x = 0 ∧ ∀ j, 0 ≤ j → j < i → ¬ sameF g (ms (hf j)) (ms k)) ∨ (x = 1 ∧ ∃ j, 0 ≤ j ∧ j < hn ∧ sameF g (ms (hf j)) (ms k))
def hpY (g : Gm) (a b p x : Int) : Prop := (x = 1 ∧ ∀ q, 0 ≤ q → q < p → famK g a q = famK g b q) ∨ (x = 0 ∧ ¬ sameF g b a)
theorem hpX_01 {g : Gm} {ms hf : Int → Int} {k hn i x : Int} (h : hpX g ms hf k hn i x) : x = 0 ∨ x = 1 := h.imp (fun q => q.1) (fun q => q.1)
theorem hpY_01 {g : Gm} {a b p x : Int} (h : hpY g a b p x) : x = 0 ∨ x = 1 := (h.imp (fun q => q.1) (fun q => q.1)).symm
theorem hpX_s {g : Gm} {ms hf : Int → Int} {k hn i x x' p : Int} (h : hpX g ms hf k hn i x) (hx : x = 0) (hi : 0 ≤ i ∧ i < hn) (h' : hpY g (ms k) (ms (hf i)) p x') (hp : p = 8) : hpX g ms hf k hn (i + 1) x' := by
  subst hp
  rcases h' with ⟨rfl, h'⟩ | ⟨rfl, h'⟩
  · exact Or.inr ⟨rfl, i, hi.1, hi.2, fun q q0 q1 => (h' q q0 q1).symm⟩
  · refine Or.inl ⟨rfl, fun j j0 j1 => ?_⟩
    by_cases e : j = i
    · rw [e]; exact h'
    · exact (h.resolve_right (fun q => by omega)).2 j j0 (by omega)
theorem hpX_new {g : Gm} {ms hf : Int → Int} {k hn i x : Int} (h : hpX g ms hf k hn i x) (hx : x = 0) (hi : hn ≤ i) (hk : hpK g k ms hn hf) (h0 : 0 ≤ k) : hpK g (k + 1) ms (hn + 1) (up hf hn k) :=
  hpK_new hk ((hpK_frst hk).mpr (fun j j0 j1 => (h.resolve_right (fun q => by omega)).2 j j0 (by omega))) h0
theorem hpX_old {g : Gm} {ms hf : Int → Int} {k hn i x : Int} (h : hpX g ms hf k hn i x) (hx : x = 1) (hk : hpK g k ms hn hf) : hpK g (k + 1) ms hn hf := by
  refine hpK_old hk (fun q => ?_)
  obtain ⟨-, j, j0, j1, j2⟩ := h.resolve_left (fun q => by omega)
  exact (hpK_frst hk).mp q j j0 j1 j2
set_option maxHeartbeats 2000000 in
set_option maxRecDepth 20000 in
theorem r_familyAt (h : AH) {k p : Int} {ms : Int → Int} (hG0 : okG (gR h)) (hk : 0 ≤ k ∧ k < h.1 500 21) (hp : 0 ≤ p ∧ p < 8) (hn : h.1 500 21 ≤ 40) (hT : mT (h.1 503 0) (h.1 500 21) (h.1 523) (h.1 524) (h.1 525) ms) : AMet yX12_familyAt cX12_familyAt 4 (some .int) 0 0 [.ref 500, vI k, vI p] h (Qi (fun z h' => z = famK (gR h) (ms k) p ∧ h' = h)) := by
  have hnw := hG0.1
  rw [(gR_n h).1] at hnw
  obtain ⟨t1, t2, t3, t4, -⟩ := hT k hk.1 hk.2
  obtain ⟨-, d2, d3⟩ := mT_dec hT hnw.2 hk
  refine AMet.of (by decide) (Nat.le_of_ble_eq_true rfl) (fun G hM => ?_)
  have hG := hM.cx
  refine A_hm0 (G := G) (L := [(0, .ref 500), (1, vI k), (2, vI p)]) ?_
  refine A_aload_n hG 0 dX12_familyAt_0 rfl rfl ?_
  refine A_getR (r := 525) hG dX12_familyAt_1 fl_X12_68 (by decide) k500 (by decide) rfl ?_
  refine A_bipush (n := 8) hG dX12_familyAt_4 (by decide) ?_
  refine A_iload_n hG 1 dX12_familyAt_6 rfl rfl ?_
  refine A_imul hG dX12_familyAt_7 ?_
  refine A_iload_n hG 2 dX12_familyAt_8 rfl rfl ?_
  refine A_iadd hG dX12_familyAt_9 ?_
  refine M_iald (v := h.1 525 ((8 * k) + p)) hG dX12_familyAt_10 k525 n525 (by omega) rfl (fun ⟨ra_10, rb_10⟩ => ?_)
  refine A_istore_n (L' := [(3, vI (h.1 525 ((8 * k) + p))), (0, .ref 500), (1, vI k), (2, vI p)]) hG dX12_familyAt_11 rfl (by decide) rfl ?_
  have hw0 : (p < h.1 524 k ∧ 0 ≤ h.1 525 (8 * k + p) ∧ h.1 525 (8 * k + p) < h.1 503 0) ∨ (h.1 524 k ≤ p ∧ h.1 525 (8 * k + p) = -4) := by
      by_cases q : p < h.1 524 k
      · exact Or.inl ⟨q, t3 p hp.1 q⟩
      · exact Or.inr ⟨by omega, t4 p (by omega) hp.2⟩
  refine A_iload_n hG 0 dX12_familyAt_12 rfl rfl ?_
  refine A_if_ge hG 21 dX12_familyAt_13 (by decide) (by constructor <;> omega) (fun c_13 => ?_) (fun c_13 => ?_)
  ·
    refine A_aload_n hG 1 dX12_familyAt_21 rfl rfl ?_
    refine A_getR (r := 504) hG dX12_familyAt_22 fl_X12_16 (by decide) k500 (by decide) rfl ?_
    refine A_iconst (n := 4) hG dX12_familyAt_25 ?_
    refine A_iload_n hG 0 dX12_familyAt_26 rfl rfl ?_
    refine A_imul hG dX12_familyAt_27 ?_
    refine A_iconst (n := 2) hG dX12_familyAt_28 ?_
    refine A_iadd hG dX12_familyAt_29 ?_
    refine M_iald (v := h.1 504 ((4 * (h.1 525 ((8 * k) + p))) + 2)) hG dX12_familyAt_30 k504 n504 (by omega) rfl (fun ⟨ra_30, rb_30⟩ => ?_)
    exact Ret_i hM dX12_familyAt_31 (by constructor <;> omega) (⟨by rw [famK, d2, if_pos (by omega), d3 p hp.1 (by omega), (gR_w (h := h) (j := h.1 525 (8 * k + p)) (by omega)).2.2.1], rfl⟩)
  ·
    refine A_bipush (n := -4) hG dX12_familyAt_16 (by decide) ?_
    refine A_goto hG 31 dX12_familyAt_18 (by decide) ?_
    exact Ret_i hM dX12_familyAt_31 (by constructor <;> omega) (⟨by rw [famK, d2, if_neg (by omega)], rfl⟩)

set_option maxHeartbeats 2000000 in
set_option maxRecDepth 20000 in
theorem r_layHeaps (h : AH) {ms : Int → Int} (hG0 : okG (gR h)) (hn : 0 ≤ h.1 500 21 ∧ h.1 500 21 ≤ 40) (hT : mT (h.1 503 0) (h.1 500 21) (h.1 523) (h.1 524) (h.1 525) ms) : AMet yX12_layHeaps cX12_layHeaps 5 none 1 23 [.ref 500] h (Qv (fun h' => ∃ o hf : Int → Int, ((∀ q, q ≠ 25 → o q = h.1 500 q) ∧ hpK (gR h) (h.1 500 21) ms (o 25) hf) ∧ h' = hm h [(500, o), (527, hf)] [] [])) := by
  refine AMet.of (by decide) (Nat.le_of_ble_eq_true rfl) (fun G hM => ?_)
  have hG := hM.cx
  refine A_hm0 (G := G) (L := [(0, .ref 500)]) ?_
  refine A_aload_n hG 0 dX12_layHeaps_0 rfl rfl ?_
  refine A_iconst (n := 0) hG dX12_layHeaps_1 ?_
  refine M_putI (z := 25) (li' := [(500, up (h.1 500) 25 0)]) hG dX12_layHeaps_2 fl_X12_204 (by decide) k500 nf_11_25 rfl rfl (by constructor <;> omega) (Or.inl rfl) rfl ?_
  refine A_iconst (n := 0) hG dX12_layHeaps_5 ?_
  refine A_istore_n (L' := [(1, vI 0), (0, .ref 500)]) hG dX12_layHeaps_6 rfl (by decide) rfl ?_
  refine A_insI 527 (li' := [(500, up (h.1 500) 25 0), (527, h.1 527)]) rfl ?_
  have k_0 : ∀ fu : Nat, ∀ (k : Int) (o : Int → Int) (hf : Int → Int), (0 ≤ k ∧ k ≤ h.1 500 21) → (∀ q, q ≠ 25 → o q = h.1 500 q) → (hpK (gR h) k ms (o 25) hf) → ((41 - k).toNat) < fu → G 7 [(0, .ref 500), (1, vI k)] [] (hm h [(500, o), (527, hf)] [] []) := by
    intro fu
    induction fu with
    | zero => intro k o hf hk hO hK hfu; exact absurd hfu (Nat.not_lt_zero _)
    | succ fu ih_k =>
      intro k o hf hk hO hK hfu
      have ho21 : o 21 = h.1 500 21 := hO 21 (by decide)
      have hKn := hK.1
      refine A_iload_n hG 1 dX12_layHeaps_7 rfl rfl ?_
      refine A_aload_n hG 0 dX12_layHeaps_8 rfl rfl ?_
      refine M_getI (z := 21) (v := o 21) hG dX12_layHeaps_9 fl_X12_188 (by decide) k500 rfl rfl rfl (fun ⟨ra_9, rb_9⟩ => ?_)
      refine A_icmp_ge hG 117 dX12_layHeaps_12 (by decide) (by constructor <;> omega) (by constructor <;> omega) (fun c_12 => ?_) (fun c_12 => ?_)
      ·
        exact Ret_v hM dX12_layHeaps_117 (⟨o, hf, ⟨hO, by rw [show h.1 500 21 = k by omega]; exact hK⟩, rfl⟩)
      ·
        refine A_iconst (n := 0) hG dX12_layHeaps_15 ?_
        refine A_istore_n (L' := [(2, vI 0), (0, .ref 500), (1, vI k)]) hG dX12_layHeaps_16 rfl (by decide) rfl ?_
        refine A_iconst (n := 0) hG dX12_layHeaps_17 ?_
        refine A_istore_n (L' := [(3, vI 0), (2, vI 0), (0, .ref 500), (1, vI k)]) hG dX12_layHeaps_18 rfl (by decide) rfl ?_
        have i_1 : ∀ fu : Nat, ∀ (x : Int) (i : Int), (0 ≤ i ∧ i ≤ 41) → (hpX (gR h) ms hf k (o 25) i x) → ((41 - i).toNat) < fu → G 19 [(0, .ref 500), (1, vI k), (2, vI x), (3, vI i)] [] (hm h [(500, o), (527, hf)] [] []) := by
          intro fu
          induction fu with
          | zero => intro x i hi hX hfu; exact absurd hfu (Nat.not_lt_zero _)
          | succ fu ih_i =>
            intro x i hi hX hfu
            have hx01 := hpX_01 hX
            refine A_iload_n hG 3 dX12_layHeaps_19 rfl rfl ?_
            refine A_aload_n hG 0 dX12_layHeaps_20 rfl rfl ?_
            refine M_getI (z := 25) (v := o 25) hG dX12_layHeaps_21 fl_X12_204 (by decide) k500 rfl rfl rfl (fun ⟨ra_21, rb_21⟩ => ?_)
            refine A_icmp_ge hG 87 dX12_layHeaps_24 (by decide) (by constructor <;> omega) (by constructor <;> omega) (fun c_24 => ?_) (fun c_24 => ?_)
            ·
              refine A_iload_n hG 2 dX12_layHeaps_87 rfl rfl ?_
              refine A_if_ne hG 111 dX12_layHeaps_88 (by decide) (by constructor <;> omega) (fun c_88 => ?_) (fun c_88 => ?_)
              ·
                refine A_iinc (L' := [(1, vI (k + 1)), (0, .ref 500), (2, vI x), (3, vI i)]) hG 1 dX12_layHeaps_111 rfl (by decide) rfl ?_
                refine A_goto hG 7 dX12_layHeaps_114 (by decide) ?_
                refine A_sub hG [1, 0] rfl ?_
                exact ih_k (k + 1) o hf (by omega) hO (hpX_old hX (by have := hpX_01 hX; omega) hK) (by omega)
              ·
                refine A_aload_n hG 0 dX12_layHeaps_91 rfl rfl ?_
                refine A_getR (r := 527) hG dX12_layHeaps_92 fl_X12_71 (by decide) k500 (by decide) rfl ?_
                refine A_aload_n hG 0 dX12_layHeaps_95 rfl rfl ?_
                refine M_getI (z := 25) (v := o 25) hG dX12_layHeaps_96 fl_X12_204 (by decide) k500 rfl rfl rfl (fun ⟨ra_96, rb_96⟩ => ?_)
                refine A_iload_n hG 1 dX12_layHeaps_99 rfl rfl ?_
                refine M_iast (li' := [(500, o), (527, up hf (o 25) k)]) hG dX12_layHeaps_100 k527 n527 (by omega) (by constructor <;> omega) rfl ?_
                refine A_aload_n hG 0 dX12_layHeaps_101 rfl rfl ?_
                refine A_dup hG dX12_layHeaps_102 rfl ?_
                refine M_getI (z := 25) (v := o 25) hG dX12_layHeaps_103 fl_X12_204 (by decide) k500 rfl rfl rfl (fun ⟨ra_103, rb_103⟩ => ?_)
                refine A_iconst (n := 1) hG dX12_layHeaps_106 ?_
                refine A_iadd hG dX12_layHeaps_107 ?_
                refine M_putI (z := 25) (li' := [(500, up o 25 ((o 25) + 1)), (527, up hf (o 25) k)]) hG dX12_layHeaps_108 fl_X12_204 (by decide) k500 nf_11_25 rfl rfl (by constructor <;> omega) (Or.inl rfl) rfl ?_
                refine A_iinc (L' := [(1, vI (k + 1)), (0, .ref 500), (2, vI x), (3, vI i)]) hG 1 dX12_layHeaps_111 rfl (by decide) rfl ?_
                refine A_goto hG 7 dX12_layHeaps_114 (by decide) ?_
                refine A_sub hG [1, 0] rfl ?_
                exact ih_k (k + 1) (up o 25 ((o 25) + 1)) (up hf (o 25) k) (by omega) (fun q hq => by rw [up_ne _ _ hq]; exact hO q hq) (by rw [up_eq]; exact hpX_new hX (by omega) (by omega) hK hk.1) (by omega)
            ·
              refine A_iload_n hG 2 dX12_layHeaps_27 rfl rfl ?_
              refine A_if_ne hG 87 dX12_layHeaps_28 (by decide) (by constructor <;> omega) (fun c_28 => ?_) (fun c_28 => ?_)
              ·
                refine A_iload_n hG 2 dX12_layHeaps_87 rfl rfl ?_
                refine A_if_ne hG 111 dX12_layHeaps_88 (by decide) (by constructor <;> omega) (fun c_88 => ?_) (fun c_88 => ?_)
                ·
                  refine A_iinc (L' := [(1, vI (k + 1)), (0, .ref 500), (2, vI x), (3, vI i)]) hG 1 dX12_layHeaps_111 rfl (by decide) rfl ?_
                  refine A_goto hG 7 dX12_layHeaps_114 (by decide) ?_
                  refine A_sub hG [1, 0] rfl ?_
                  exact ih_k (k + 1) o hf (by omega) hO (hpX_old hX (by have := hpX_01 hX; omega) hK) (by omega)
                ·
                  refine A_aload_n hG 0 dX12_layHeaps_91 rfl rfl ?_
                  refine A_getR (r := 527) hG dX12_layHeaps_92 fl_X12_71 (by decide) k500 (by decide) rfl ?_
                  refine A_aload_n hG 0 dX12_layHeaps_95 rfl rfl ?_
                  refine M_getI (z := 25) (v := o 25) hG dX12_layHeaps_96 fl_X12_204 (by decide) k500 rfl rfl rfl (fun ⟨ra_96, rb_96⟩ => ?_)
                  refine A_iload_n hG 1 dX12_layHeaps_99 rfl rfl ?_
                  refine M_iast (li' := [(500, o), (527, up hf (o 25) k)]) hG dX12_layHeaps_100 k527 n527 (by omega) (by constructor <;> omega) rfl ?_
                  refine A_aload_n hG 0 dX12_layHeaps_101 rfl rfl ?_
                  refine A_dup hG dX12_layHeaps_102 rfl ?_
                  refine M_getI (z := 25) (v := o 25) hG dX12_layHeaps_103 fl_X12_204 (by decide) k500 rfl rfl rfl (fun ⟨ra_103, rb_103⟩ => ?_)
                  refine A_iconst (n := 1) hG dX12_layHeaps_106 ?_
                  refine A_iadd hG dX12_layHeaps_107 ?_
                  refine M_putI (z := 25) (li' := [(500, up o 25 ((o 25) + 1)), (527, up hf (o 25) k)]) hG dX12_layHeaps_108 fl_X12_204 (by decide) k500 nf_11_25 rfl rfl (by constructor <;> omega) (Or.inl rfl) rfl ?_
                  refine A_iinc (L' := [(1, vI (k + 1)), (0, .ref 500), (2, vI x), (3, vI i)]) hG 1 dX12_layHeaps_111 rfl (by decide) rfl ?_
                  refine A_goto hG 7 dX12_layHeaps_114 (by decide) ?_
                  refine A_sub hG [1, 0] rfl ?_
                  exact ih_k (k + 1) (up o 25 ((o 25) + 1)) (up hf (o 25) k) (by omega) (fun q hq => by rw [up_ne _ _ hq]; exact hO q hq) (by rw [up_eq]; exact hpX_new hX (by omega) (by omega) hK hk.1) (by omega)
              ·
                have hfi := (hK.2.2.1 i (by omega) (by omega)).1
                refine A_iconst (n := 1) hG dX12_layHeaps_31 ?_
                refine A_istore_n (L' := [(2, vI 1), (0, .ref 500), (1, vI k), (3, vI i)]) hG dX12_layHeaps_32 rfl (by decide) rfl ?_
                refine A_iconst (n := 0) hG dX12_layHeaps_33 ?_
                refine A_istore (L' := [(4, vI 0), (2, vI 1), (0, .ref 500), (1, vI k), (3, vI i)]) hG dX12_layHeaps_34 (by decide) rfl ?_
                have p_2 : ∀ fu : Nat, ∀ (y : Int) (p : Int), (0 ≤ p ∧ p ≤ 8) → (hpY (gR h) (ms k) (ms (hf i)) p y) → ((8 - p).toNat) < fu → G 36 [(0, .ref 500), (1, vI k), (2, vI y), (3, vI i), (4, vI p)] [] (hm h [(500, o), (527, hf)] [] []) := by
                  intro fu
                  induction fu with
                  | zero => intro y p hp hY hfu; exact absurd hfu (Nat.not_lt_zero _)
                  | succ fu ih_p =>
                    intro y p hp hY hfu
                    have hy01 := hpY_01 hY
                    refine A_iload hG 4 dX12_layHeaps_36 rfl ?_
                    refine A_bipush (n := 8) hG dX12_layHeaps_38 (by decide) ?_
                    refine A_icmp_ge hG 81 dX12_layHeaps_40 (by decide) (by constructor <;> omega) (by constructor <;> omega) (fun c_40 => ?_) (fun c_40 => ?_)
                    ·
                      refine A_iinc (L' := [(3, vI (i + 1)), (0, .ref 500), (1, vI k), (2, vI y), (4, vI p)]) hG 3 dX12_layHeaps_81 rfl (by decide) rfl ?_
                      refine A_goto hG 19 dX12_layHeaps_84 (by decide) ?_
                      refine A_sub hG [1, 2, 3, 0] rfl ?_
                      exact ih_i y (i + 1) (by omega) (hpX_s hX (by omega) (by omega) hY (by omega)) (by omega)
                    ·
                      refine A_iload_n hG 2 dX12_layHeaps_43 rfl rfl ?_
                      refine A_if_eq hG 73 dX12_layHeaps_44 (by decide) (by constructor <;> omega) (fun c_44 => ?_) (fun c_44 => ?_)
                      ·
                        refine A_iconst (n := 0) hG dX12_layHeaps_73 ?_
                        refine A_istore_n (L' := [(2, vI 0), (0, .ref 500), (1, vI k), (3, vI i), (4, vI p)]) hG dX12_layHeaps_74 rfl (by decide) rfl ?_
                        refine A_iinc (L' := [(4, vI (p + 1)), (2, vI 0), (0, .ref 500), (1, vI k), (3, vI i)]) hG 4 dX12_layHeaps_75 rfl (by decide) rfl ?_
                        refine A_goto hG 36 dX12_layHeaps_78 (by decide) ?_
                        refine A_sub hG [2, 3, 1, 4, 0] rfl ?_
                        exact ih_p 0 (p + 1) (by omega) (by first | exact Or.inr ⟨rfl, (hY.resolve_left (fun q => by omega)).2⟩ | exact Or.inr ⟨rfl, fun q => by have := q p (by omega) (by omega); omega⟩) (by omega)
                      ·
                        refine A_aload_n hG 0 dX12_layHeaps_47 rfl rfl ?_
                        refine A_iload_n hG 1 dX12_layHeaps_48 rfl rfl ?_
                        refine A_iload hG 4 dX12_layHeaps_49 rfl ?_
                        refine C_Vi (as := [vI k, vI p]) (st := []) (k := 500) (c := 11) hG dX12_layHeaps_51 ml_X12_207 mf_X12_familyAt mi_X12_familyAt se_X12_familyAt rfl (by decide) k500 (r_familyAt (hm h [(500, o), (527, hf)] [] []) (k := k) (p := p) (ms := ms) hG0 (show 0 ≤ k ∧ k < o 21 by omega) (by omega) (show o 21 ≤ 40 by omega) (show mT (h.1 503 0) (o 21) (h.1 523) (h.1 524) (h.1 525) ms by rw [ho21]; exact hT)) (by decide) (by decide) rfl rfl (Nat.le_of_ble_eq_true rfl) (fun z51 g51 ri_51 hp_51 => ?_)
                        obtain ⟨ra_51, rb_51⟩ := ri_51
                        have hq_51 : z51 = famK (gR h) (ms k) p ∧ g51 = hm h [(500, o), (527, hf)] [] [] := hp_51
                        obtain ⟨hv51, rfl⟩ := hq_51
                        refine A_aload_n hG 0 dX12_layHeaps_54 rfl rfl ?_
                        refine A_aload_n hG 0 dX12_layHeaps_55 rfl rfl ?_
                        refine A_getR (r := 527) hG dX12_layHeaps_56 fl_X12_71 (by decide) k500 (by decide) rfl ?_
                        refine A_iload_n hG 3 dX12_layHeaps_59 rfl rfl ?_
                        refine M_iald (v := hf i) hG dX12_layHeaps_60 k527 n527 (by omega) rfl (fun ⟨ra_60, rb_60⟩ => ?_)
                        refine A_iload hG 4 dX12_layHeaps_61 rfl ?_
                        refine C_Vi (as := [vI (hf i), vI p]) (st := [vI z51]) (k := 500) (c := 11) hG dX12_layHeaps_63 ml_X12_207 mf_X12_familyAt mi_X12_familyAt se_X12_familyAt rfl (by decide) k500 (r_familyAt (hm h [(500, o), (527, hf)] [] []) (k := (hf i)) (p := p) (ms := ms) hG0 (show 0 ≤ hf i ∧ hf i < o 21 by omega) (by omega) (show o 21 ≤ 40 by omega) (show mT (h.1 503 0) (o 21) (h.1 523) (h.1 524) (h.1 525) ms by rw [ho21]; exact hT)) (by decide) (by decide) rfl rfl (Nat.le_of_ble_eq_true rfl) (fun z63 g63 ri_63 hp_63 => ?_)
                        obtain ⟨ra_63, rb_63⟩ := ri_63
                        have hq_63 : z63 = famK (gR h) (ms (hf i)) p ∧ g63 = hm h [(500, o), (527, hf)] [] [] := hp_63
                        obtain ⟨hv63, rfl⟩ := hq_63
                        refine A_icmp_ne hG 73 dX12_layHeaps_66 (by decide) (by constructor <;> omega) (by constructor <;> omega) (fun c_66 => ?_) (fun c_66 => ?_)
                        ·
                          refine A_iconst (n := 0) hG dX12_layHeaps_73 ?_
                          refine A_istore_n (L' := [(2, vI 0), (0, .ref 500), (1, vI k), (3, vI i), (4, vI p)]) hG dX12_layHeaps_74 rfl (by decide) rfl ?_
                          refine A_iinc (L' := [(4, vI (p + 1)), (2, vI 0), (0, .ref 500), (1, vI k), (3, vI i)]) hG 4 dX12_layHeaps_75 rfl (by decide) rfl ?_
                          refine A_goto hG 36 dX12_layHeaps_78 (by decide) ?_
                          refine A_sub hG [2, 3, 1, 4, 0] rfl ?_
                          exact ih_p 0 (p + 1) (by omega) (by first | exact Or.inr ⟨rfl, (hY.resolve_left (fun q => by omega)).2⟩ | exact Or.inr ⟨rfl, fun q => by have := q p (by omega) (by omega); omega⟩) (by omega)
                        ·
                          refine A_iconst (n := 1) hG dX12_layHeaps_69 ?_
                          refine A_goto hG 74 dX12_layHeaps_70 (by decide) ?_
                          refine A_istore_n (L' := [(2, vI 1), (0, .ref 500), (1, vI k), (3, vI i), (4, vI p)]) hG dX12_layHeaps_74 rfl (by decide) rfl ?_
                          refine A_iinc (L' := [(4, vI (p + 1)), (2, vI 1), (0, .ref 500), (1, vI k), (3, vI i)]) hG 4 dX12_layHeaps_75 rfl (by decide) rfl ?_
                          refine A_goto hG 36 dX12_layHeaps_78 (by decide) ?_
                          refine A_sub hG [2, 3, 1, 4, 0] rfl ?_
                          exact ih_p 1 (p + 1) (by omega) (Or.inl ⟨rfl, fun j j0 j1 => by
                              by_cases hq : j = p
                              · rw [hq]; omega
                              · exact (hY.resolve_right (fun q => by omega)).2 j j0 (by omega)⟩) (by omega)
                refine A_sub hG [2, 3, 1, 4, 0] rfl ?_
                exact p_2 _ 1 0 (by omega) (Or.inl ⟨rfl, fun j j0 j1 => by omega⟩) (Nat.lt_succ_self _)
        refine A_sub hG [2, 3, 1, 0] rfl ?_
        exact i_1 _ 0 0 (by omega) (Or.inl ⟨rfl, fun j j0 j1 => by omega⟩) (Nat.lt_succ_self _)
  refine A_sub hG [1, 0] rfl ?_
  exact k_0 _ 0 (up (h.1 500) 25 0) (h.1 527) (by omega) (fun q hq => up_ne _ _ hq) (by rw [up_eq]; exact hpK_0 _ _ _) (Nat.lt_succ_self _)

set_option maxHeartbeats 2000000 in
set_option maxRecDepth 20000 in
theorem r_asked (h : AH) {ms : Int → Int} (hG0 : okG (gR h)) (hn : 0 ≤ h.1 500 21 ∧ h.1 500 21 ≤ 40) (hT : mT (h.1 503 0) (h.1 500 21) (h.1 523) (h.1 524) (h.1 525) ms) (hK : hpK (gR h) (h.1 500 21) ms (h.1 500 25) (h.1 527)) : AMet yX12_asked cX12_asked 8 (some .int) 1 23 [.ref 500] h (Qi (fun z h' => askP (fun p k => famK (gR h) (ms (h.1 527 k)) p) (h.1 500 25).toNat z ∧ h' = h)) := by
  have hKn := hK.1
  refine AMet.of (by decide) (Nat.le_of_ble_eq_true rfl) (fun G hM => ?_)
  have hG := hM.cx
  refine A_hm0 (G := G) (L := [(0, .ref 500)]) ?_
  refine A_bipush (n := -4) hG dX12_asked_0 (by decide) ?_
  refine A_istore_n (L' := [(1, vI (-4)), (0, .ref 500)]) hG dX12_asked_2 rfl (by decide) rfl ?_
  refine A_iconst (n := 0) hG dX12_asked_3 ?_
  refine A_istore_n (L' := [(2, vI 0), (1, vI (-4)), (0, .ref 500)]) hG dX12_asked_4 rfl (by decide) rfl ?_
  refine A_iconst (n := 0) hG dX12_asked_5 ?_
  refine A_istore_n (L' := [(3, vI 0), (2, vI 0), (1, vI (-4)), (0, .ref 500)]) hG dX12_asked_6 rfl (by decide) rfl ?_
  have p_0 : ∀ fu : Nat, ∀ (b : Int) (l : Int) (p : Int), (0 ≤ p ∧ p ≤ 8) → (0 ≤ l ∧ l ≤ 40) → (askI (fun p k => famK (gR h) (ms (h.1 527 k)) p) (h.1 500 25).toNat p b l) → ((8 - p).toNat) < fu → G 7 [(0, .ref 500), (1, vI b), (2, vI l), (3, vI p)] [] (hm h [] [] []) := by
    intro fu
    induction fu with
    | zero => intro b l p hp hl hA hfu; exact absurd hfu (Nat.not_lt_zero _)
    | succ fu ih_p =>
      intro b l p hp hl hA hfu
      have hb := askI_b hA
      refine A_iload_n hG 3 dX12_asked_7 rfl rfl ?_
      refine A_bipush (n := 8) hG dX12_asked_8 (by decide) ?_
      refine A_icmp_ge hG 131 dX12_asked_10 (by decide) (by constructor <;> omega) (by constructor <;> omega) (fun c_10 => ?_) (fun c_10 => ?_)
      ·
        refine A_iload_n hG 1 dX12_asked_131 rfl rfl ?_
        exact Ret_i hM dX12_asked_132 (by constructor <;> omega) (⟨askI_P hA (by omega), rfl⟩)
      ·
        refine A_iconst (n := 0) hG dX12_asked_13 ?_
        refine A_istore (L' := [(4, vI 0), (0, .ref 500), (1, vI b), (2, vI l), (3, vI p)]) hG dX12_asked_14 (by decide) rfl ?_
        refine A_iconst (n := 0) hG dX12_asked_16 ?_
        refine A_istore (L' := [(5, vI 0), (4, vI 0), (0, .ref 500), (1, vI b), (2, vI l), (3, vI p)]) hG dX12_asked_17 (by decide) rfl ?_
        have k_1 : ∀ fu : Nat, ∀ (m : Int) (k : Int), (0 ≤ k ∧ k ≤ h.1 500 25) → (m ≤ 40) → (mostU (fun k => famK (gR h) (ms (h.1 527 k)) p) (h.1 500 25).toNat k m) → ((41 - k).toNat) < fu → G 19 [(0, .ref 500), (1, vI b), (2, vI l), (3, vI p), (4, vI m), (5, vI k)] [] (hm h [] [] []) := by
          intro fu
          induction fu with
          | zero => intro m k hk hm0 hU hfu; exact absurd hfu (Nat.not_lt_zero _)
          | succ fu ih_k =>
            intro m k hk hm0 hU hfu
            have hm1 := hU.2.1
            refine A_iload hG 5 dX12_asked_19 rfl ?_
            refine A_aload_n hG 0 dX12_asked_21 rfl rfl ?_
            refine M_getI (z := 25) (v := h.1 500 25) hG dX12_asked_22 fl_X12_204 (by decide) k500 rfl rfl rfl (fun ⟨ra_22, rb_22⟩ => ?_)
            refine A_icmp_ge hG 108 dX12_asked_25 (by decide) (by constructor <;> omega) (by constructor <;> omega) (fun c_25 => ?_) (fun c_25 => ?_)
            ·
              refine A_iload_n hG 1 dX12_asked_108 rfl rfl ?_
              refine A_bipush (n := -4) hG dX12_asked_109 (by decide) ?_
              refine A_icmp_eq hG 120 dX12_asked_111 (by decide) (by constructor <;> omega) (by constructor <;> omega) (fun c_111 => ?_) (fun c_111 => ?_)
              ·
                refine A_iload_n hG 3 dX12_asked_120 rfl rfl ?_
                refine A_istore_n (L' := [(1, vI p), (0, .ref 500), (2, vI l), (3, vI p), (4, vI m), (5, vI k)]) hG dX12_asked_121 rfl (by decide) rfl ?_
                refine A_iload hG 4 dX12_asked_122 rfl ?_
                refine A_istore_n (L' := [(2, vI m), (1, vI p), (0, .ref 500), (3, vI p), (4, vI m), (5, vI k)]) hG dX12_asked_124 rfl (by decide) rfl ?_
                refine A_iinc (L' := [(3, vI (p + 1)), (2, vI m), (1, vI p), (0, .ref 500), (4, vI m), (5, vI k)]) hG 3 dX12_asked_125 rfl (by decide) rfl ?_
                refine A_goto hG 7 dX12_asked_128 (by decide) ?_
                refine A_sub hG [3, 2, 1, 0] rfl ?_
                exact ih_p p m (p + 1) (by omega) (by omega) (askI_new hA hp.1 (mostU_P hU (by omega)) (by omega)) (by omega)
              ·
                refine A_iload hG 4 dX12_asked_114 rfl ?_
                refine A_iload_n hG 2 dX12_asked_116 rfl rfl ?_
                refine A_icmp_ge hG 125 dX12_asked_117 (by decide) (by constructor <;> omega) (by constructor <;> omega) (fun c_117 => ?_) (fun c_117 => ?_)
                ·
                  refine A_iinc (L' := [(3, vI (p + 1)), (0, .ref 500), (1, vI b), (2, vI l), (4, vI m), (5, vI k)]) hG 3 dX12_asked_125 rfl (by decide) rfl ?_
                  refine A_goto hG 7 dX12_asked_128 (by decide) ?_
                  refine A_sub hG [1, 2, 3, 0] rfl ?_
                  exact ih_p b l (p + 1) (by omega) (by omega) (askI_old hA (mostU_P hU (by omega)) (by omega) (by omega)) (by omega)
                ·
                  refine A_iload_n hG 3 dX12_asked_120 rfl rfl ?_
                  refine A_istore_n (L' := [(1, vI p), (0, .ref 500), (2, vI l), (3, vI p), (4, vI m), (5, vI k)]) hG dX12_asked_121 rfl (by decide) rfl ?_
                  refine A_iload hG 4 dX12_asked_122 rfl ?_
                  refine A_istore_n (L' := [(2, vI m), (1, vI p), (0, .ref 500), (3, vI p), (4, vI m), (5, vI k)]) hG dX12_asked_124 rfl (by decide) rfl ?_
                  refine A_iinc (L' := [(3, vI (p + 1)), (2, vI m), (1, vI p), (0, .ref 500), (4, vI m), (5, vI k)]) hG 3 dX12_asked_125 rfl (by decide) rfl ?_
                  refine A_goto hG 7 dX12_asked_128 (by decide) ?_
                  refine A_sub hG [3, 2, 1, 0] rfl ?_
                  exact ih_p p m (p + 1) (by omega) (by omega) (askI_new hA hp.1 (mostU_P hU (by omega)) (by omega)) (by omega)
            ·
              refine A_iconst (n := 0) hG dX12_asked_28 ?_
              refine A_istore (L' := [(6, vI 0), (0, .ref 500), (1, vI b), (2, vI l), (3, vI p), (4, vI m), (5, vI k)]) hG dX12_asked_29 (by decide) rfl ?_
              refine A_iconst (n := 0) hG dX12_asked_31 ?_
              refine A_istore (L' := [(7, vI 0), (6, vI 0), (0, .ref 500), (1, vI b), (2, vI l), (3, vI p), (4, vI m), (5, vI k)]) hG dX12_asked_32 (by decide) rfl ?_
              have j_2 : ∀ fu : Nat, ∀ (x : Int) (j : Nat), (j ≤ (h.1 500 25).toNat) → (x = cntE (fun k => famK (gR h) (ms (h.1 527 k)) p) (famK (gR h) (ms (h.1 527 k)) p) j) → (41 - j) < fu → G 34 [(0, .ref 500), (1, vI b), (2, vI l), (3, vI p), (4, vI m), (5, vI k), (6, vI x), (7, vI (j : Int))] [] (hm h [] [] []) := by
                intro fu
                induction fu with
                | zero => intro x j hj hx hfu; exact absurd hfu (Nat.not_lt_zero _)
                | succ fu ih_j =>
                  intro x j hj hx hfu
                  have hxb := cntE_le (fun k => famK (gR h) (ms (h.1 527 k)) p) (famK (gR h) (ms (h.1 527 k)) p) j
                  refine A_iload hG 7 dX12_asked_34 rfl ?_
                  refine A_aload_n hG 0 dX12_asked_36 rfl rfl ?_
                  refine M_getI (z := 25) (v := h.1 500 25) hG dX12_asked_37 fl_X12_204 (by decide) k500 rfl rfl rfl (fun ⟨ra_37, rb_37⟩ => ?_)
                  refine A_icmp_ge hG 86 dX12_asked_40 (by decide) (by constructor <;> omega) (by constructor <;> omega) (fun c_40 => ?_) (fun c_40 => ?_)
                  ·
                    refine A_iload hG 6 dX12_asked_86 rfl ?_
                    refine A_iload hG 4 dX12_asked_88 rfl ?_
                    refine A_icmp_le hG 98 dX12_asked_90 (by decide) (by constructor <;> omega) (by constructor <;> omega) (fun c_90 => ?_) (fun c_90 => ?_)
                    ·
                      refine A_iload hG 4 dX12_asked_98 rfl ?_
                      refine A_istore (L' := [(4, vI m), (0, .ref 500), (1, vI b), (2, vI l), (3, vI p), (5, vI k), (6, vI x), (7, vI (j : Int))]) hG dX12_asked_100 (by decide) rfl ?_
                      refine A_iinc (L' := [(5, vI (k + 1)), (4, vI m), (0, .ref 500), (1, vI b), (2, vI l), (3, vI p), (6, vI x), (7, vI (j : Int))]) hG 5 dX12_asked_102 rfl (by decide) rfl ?_
                      refine A_goto hG 19 dX12_asked_105 (by decide) ?_
                      refine A_sub hG [2, 3, 4, 5, 1, 0] rfl ?_
                      exact ih_k m (k + 1) (by omega) (by omega) (mostU_l (c := x) hU (by rw [hx, show (h.1 500 25).toNat = j by omega]) (by omega)) (by omega)
                    ·
                      refine A_iload hG 6 dX12_asked_93 rfl ?_
                      refine A_goto hG 100 dX12_asked_95 (by decide) ?_
                      refine A_istore (L' := [(4, vI x), (0, .ref 500), (1, vI b), (2, vI l), (3, vI p), (5, vI k), (6, vI x), (7, vI (j : Int))]) hG dX12_asked_100 (by decide) rfl ?_
                      refine A_iinc (L' := [(5, vI (k + 1)), (4, vI x), (0, .ref 500), (1, vI b), (2, vI l), (3, vI p), (6, vI x), (7, vI (j : Int))]) hG 5 dX12_asked_102 rfl (by decide) rfl ?_
                      refine A_goto hG 19 dX12_asked_105 (by decide) ?_
                      refine A_sub hG [2, 3, 4, 5, 1, 0] rfl ?_
                      exact ih_k x (k + 1) (by omega) (by omega) (mostU_g hU hk.1 (by rw [hx, show (h.1 500 25).toNat = j by omega]) (by omega)) (by omega)
                  ·
                    have hfk := (hK.2.2.1 k (by omega) (by omega)).1
                    have hfj := (hK.2.2.1 j (by omega) (by omega)).1
                    refine A_iload hG 6 dX12_asked_43 rfl ?_
                    refine A_aload_n hG 0 dX12_asked_45 rfl rfl ?_
                    refine A_aload_n hG 0 dX12_asked_46 rfl rfl ?_
                    refine A_getR (r := 527) hG dX12_asked_47 fl_X12_71 (by decide) k500 (by decide) rfl ?_
                    refine A_iload hG 5 dX12_asked_50 rfl ?_
                    refine M_iald (v := h.1 527 k) hG dX12_asked_52 k527 n527 (by omega) rfl (fun ⟨ra_52, rb_52⟩ => ?_)
                    refine A_iload_n hG 3 dX12_asked_53 rfl rfl ?_
                    refine C_Vi (as := [vI (h.1 527 k), vI p]) (st := [vI x]) (k := 500) (c := 11) hG dX12_asked_54 ml_X12_207 mf_X12_familyAt mi_X12_familyAt se_X12_familyAt rfl (by decide) k500 (r_familyAt (hm h [] [] []) (k := (h.1 527 k)) (p := p) (ms := ms) hG0 hfk (by omega) hn.2 hT) (by decide) (by decide) rfl rfl (Nat.le_of_ble_eq_true rfl) (fun z54 g54 ri_54 hp_54 => ?_)
                    obtain ⟨ra_54, rb_54⟩ := ri_54
                    have hq_54 : z54 = famK (gR h) (ms (h.1 527 k)) p ∧ g54 = hm h [] [] [] := hp_54
                    obtain ⟨hv54, rfl⟩ := hq_54
                    refine A_aload_n hG 0 dX12_asked_57 rfl rfl ?_
                    refine A_aload_n hG 0 dX12_asked_58 rfl rfl ?_
                    refine A_getR (r := 527) hG dX12_asked_59 fl_X12_71 (by decide) k500 (by decide) rfl ?_
                    refine A_iload hG 7 dX12_asked_62 rfl ?_
                    refine M_iald (v := h.1 527 (j : Int)) hG dX12_asked_64 k527 n527 (by omega) rfl (fun ⟨ra_64, rb_64⟩ => ?_)
                    refine A_iload_n hG 3 dX12_asked_65 rfl rfl ?_
                    refine C_Vi (as := [vI (h.1 527 (j : Int)), vI p]) (st := [vI z54, vI x]) (k := 500) (c := 11) hG dX12_asked_66 ml_X12_207 mf_X12_familyAt mi_X12_familyAt se_X12_familyAt rfl (by decide) k500 (r_familyAt (hm h [] [] []) (k := (h.1 527 (j : Int))) (p := p) (ms := ms) hG0 hfj (by omega) hn.2 hT) (by decide) (by decide) rfl rfl (Nat.le_of_ble_eq_true rfl) (fun z66 g66 ri_66 hp_66 => ?_)
                    obtain ⟨ra_66, rb_66⟩ := ri_66
                    have hq_66 : z66 = famK (gR h) (ms (h.1 527 (j : Int))) p ∧ g66 = hm h [] [] [] := hp_66
                    obtain ⟨hv66, rfl⟩ := hq_66
                    refine A_icmp_ne hG 76 dX12_asked_69 (by decide) (by constructor <;> omega) (by constructor <;> omega) (fun c_69 => ?_) (fun c_69 => ?_)
                    ·
                      refine A_iconst (n := 0) hG dX12_asked_76 ?_
                      refine A_iadd hG dX12_asked_77 ?_
                      refine A_istore (L' := [(6, vI (x + 0)), (0, .ref 500), (1, vI b), (2, vI l), (3, vI p), (4, vI m), (5, vI k), (7, vI (j : Int))]) hG dX12_asked_78 (by decide) rfl ?_
                      refine A_iinc (L' := [(7, vI ((j : Int) + 1)), (6, vI (x + 0)), (0, .ref 500), (1, vI b), (2, vI l), (3, vI p), (4, vI m), (5, vI k)]) hG 7 dX12_asked_80 rfl (by decide) rfl ?_
                      refine A_goto hG 34 dX12_asked_83 (by decide) ?_
                      refine A_sub hG [2, 3, 4, 5, 6, 7, 1, 0] rfl ?_
                      exact ih_j (x + 0) (j + 1) (by omega) (by simp only [cntE]; split <;> omega) (by omega)
                    ·
                      refine A_iconst (n := 1) hG dX12_asked_72 ?_
                      refine A_goto hG 77 dX12_asked_73 (by decide) ?_
                      refine A_iadd hG dX12_asked_77 ?_
                      refine A_istore (L' := [(6, vI (x + 1)), (0, .ref 500), (1, vI b), (2, vI l), (3, vI p), (4, vI m), (5, vI k), (7, vI (j : Int))]) hG dX12_asked_78 (by decide) rfl ?_
                      refine A_iinc (L' := [(7, vI ((j : Int) + 1)), (6, vI (x + 1)), (0, .ref 500), (1, vI b), (2, vI l), (3, vI p), (4, vI m), (5, vI k)]) hG 7 dX12_asked_80 rfl (by decide) rfl ?_
                      refine A_goto hG 34 dX12_asked_83 (by decide) ?_
                      refine A_sub hG [2, 3, 4, 5, 6, 7, 1, 0] rfl ?_
                      exact ih_j (x + 1) (j + 1) (by omega) (by simp only [cntE]; split <;> omega) (by omega)
              refine A_sub hG [2, 3, 4, 5, 6, 7, 1, 0] rfl ?_
              exact j_2 _ 0 0 (by omega) rfl (Nat.lt_succ_self _)
        refine A_sub hG [2, 3, 4, 5, 1, 0] rfl ?_
        exact k_1 _ 0 0 (by omega) (by omega) mostU_0 (Nat.lt_succ_self _)
  refine A_sub hG [3, 2, 1, 0] rfl ?_
  exact p_0 _ (-4) 0 0 (by omega) (by omega) (Or.inl ⟨rfl, rfl⟩) (Nat.lt_succ_self _)

end
