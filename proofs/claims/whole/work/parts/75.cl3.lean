/-! the class: trees counted (printed by gen) -/
section
set_option maxHeartbeats 2000000 in
set_option maxRecDepth 20000 in
theorem x_span (h : AH) {a b : Int} (ha : 0 ≤ a ∧ a ≤ 8) (hb : 0 ≤ b ∧ b ≤ 8) : AMet yX8_span cX8_span 2 (some .int) 0 0 [vI a, vI b] h (Qi (fun z h' => z = 40 * (8 * a + b - 1) ∧ h' = h)) := by
  refine AMet.of (by decide) (Nat.le_of_ble_eq_true rfl) (fun G hM => ?_)
  have hG := hM.cx
  refine A_hm0 (G := G) (L := [(0, vI a), (1, vI b)]) ?_
  refine A_iload_n hG 0 dX8_span_0 rfl rfl ?_
  refine A_bipush (n := 8) hG dX8_span_1 (by decide) ?_
  refine A_imul hG dX8_span_3 ?_
  refine A_iload_n hG 1 dX8_span_4 rfl rfl ?_
  refine A_iadd hG dX8_span_5 ?_
  refine A_iconst (n := 1) hG dX8_span_6 ?_
  refine A_isub hG dX8_span_7 ?_
  refine A_bipush (n := 40) hG dX8_span_8 (by decide) ?_
  refine A_imul hG dX8_span_10 ?_
  exact Ret_i hM dX8_span_11 (by constructor <;> omega) (⟨by omega, rfl⟩)

set_option maxHeartbeats 2000000 in
set_option maxRecDepth 20000 in
theorem x_sumAt (h : AH) {p : Int} (hp : 0 ≤ p ∧ p ≤ 2556) : AMet yX10_sumAt cX10_sumAt 2 (some .long) 0 0 [.ref 10, vI p] h (Ql (fun z h' => z = h.2.1 11 p + h.2.1 11 (p + 1) + h.2.1 11 (p + 2) + h.2.1 11 (p + 3) ∧ h' = h)) := by
  refine AMet.of (by decide) (Nat.le_of_ble_eq_true rfl) (fun G hM => ?_)
  have hG := hM.cx
  refine A_hm0 (G := G) (L := [(0, .ref 10), (1, vI p)]) ?_
  refine A_aload_n hG 0 dX10_sumAt_0 rfl rfl ?_
  refine A_getR (r := 11) hG dX10_sumAt_1 fl_X10_9 (by decide) k10 (by decide) rfl ?_
  refine A_iload_n hG 1 dX10_sumAt_4 rfl rfl ?_
  refine M_lald (v := h.2.1 11 p) hG dX10_sumAt_5 k11 n11 (by omega) rfl ?_
  refine A_aload_n hG 0 dX10_sumAt_6 rfl rfl ?_
  refine A_getR (r := 11) hG dX10_sumAt_7 fl_X10_9 (by decide) k10 (by decide) rfl ?_
  refine A_iload_n hG 1 dX10_sumAt_10 rfl rfl ?_
  refine A_iconst (n := 1) hG dX10_sumAt_11 ?_
  refine A_iadd hG dX10_sumAt_12 ?_
  refine M_lald (v := h.2.1 11 (p + 1)) hG dX10_sumAt_13 k11 n11 (by omega) rfl ?_
  refine A_ladd hG dX10_sumAt_14 ?_
  refine A_aload_n hG 0 dX10_sumAt_15 rfl rfl ?_
  refine A_getR (r := 11) hG dX10_sumAt_16 fl_X10_9 (by decide) k10 (by decide) rfl ?_
  refine A_iload_n hG 1 dX10_sumAt_19 rfl rfl ?_
  refine A_iconst (n := 2) hG dX10_sumAt_20 ?_
  refine A_iadd hG dX10_sumAt_21 ?_
  refine M_lald (v := h.2.1 11 (p + 2)) hG dX10_sumAt_22 k11 n11 (by omega) rfl ?_
  refine A_ladd hG dX10_sumAt_23 ?_
  refine A_aload_n hG 0 dX10_sumAt_24 rfl rfl ?_
  refine A_getR (r := 11) hG dX10_sumAt_25 fl_X10_9 (by decide) k10 (by decide) rfl ?_
  refine A_iload_n hG 1 dX10_sumAt_28 rfl rfl ?_
  refine A_iconst (n := 3) hG dX10_sumAt_29 ?_
  refine A_iadd hG dX10_sumAt_30 ?_
  refine M_lald (v := h.2.1 11 (p + 3)) hG dX10_sumAt_31 k11 n11 (by omega) rfl ?_
  refine A_ladd hG dX10_sumAt_32 ?_
  exact Ret_l hM dX10_sumAt_33 (⟨rfl, rfl⟩)

set_option maxHeartbeats 2000000 in
set_option maxRecDepth 20000 in
theorem x_treesOver (h : AH) {f n k m : Int} (hf : 0 ≤ f ∧ f ≤ 7) (hn : 1 ≤ n ∧ n ≤ 8 - f) (hk : 0 ≤ k ∧ k ≤ 9) (hm0 : 0 ≤ m ∧ m ≤ 3) : AMet yX10_treesOver cX10_treesOver 5 (some .long) 1 21 [.ref 10, vI f, vI n, vI k, vI m] h (Ql (fun z h' => z = h.2.1 11 (40 * (8 * f + n - 1) + (4 * k + m)) ∧ h' = h)) := by
  refine AMet.of (by decide) (Nat.le_of_ble_eq_true rfl) (fun G hM => ?_)
  have hG := hM.cx
  refine A_hm0 (G := G) (L := [(0, .ref 10), (1, vI f), (2, vI n), (3, vI k), (4, vI m)]) ?_
  refine A_aload_n hG 0 dX10_treesOver_0 rfl rfl ?_
  refine A_getR (r := 11) hG dX10_treesOver_1 fl_X10_9 (by decide) k10 (by decide) rfl ?_
  refine A_iload_n hG 1 dX10_treesOver_4 rfl rfl ?_
  refine A_iload_n hG 2 dX10_treesOver_5 rfl rfl ?_
  refine C_SUi (as := [vI f, vI n]) (st := [.ref 11]) (owner := RX8) (x := ⟨RX10, yX8_span.name, yX8_span.desc⟩) hG dX10_treesOver_6 lw_X10_27 sm_X10_X8_span rfl (by decide) mf_X8_span ms_X8_span (x_span (hm h [] [] []) (a := f) (b := n) (by omega) (by omega)) (by decide) (by decide) rfl rfl (Nat.le_of_ble_eq_true rfl) (fun z6 g6 ri_6 hp_6 => ?_)
  obtain ⟨ra_6, rb_6⟩ := ri_6
  obtain ⟨rfl, rfl⟩ := hp_6
  refine A_iload_n hG 3 dX10_treesOver_9 rfl rfl ?_
  refine A_iconst (n := 4) hG dX10_treesOver_10 ?_
  refine A_imul hG dX10_treesOver_11 ?_
  refine A_iadd hG dX10_treesOver_12 ?_
  refine A_iload hG 4 dX10_treesOver_13 rfl ?_
  refine A_iadd hG dX10_treesOver_15 ?_
  refine M_lald (v := h.2.1 11 (((40 * (8 * f + n - 1)) + (k * 4)) + m)) hG dX10_treesOver_16 k11 n11 (by omega) rfl ?_
  exact Ret_l hM dX10_treesOver_17 (⟨congrArg (h.2.1 11) (by omega), rfl⟩)

set_option maxHeartbeats 2000000 in
set_option maxRecDepth 20000 in
theorem x_overAll (h : AH) {n : Int} (hn : 1 ≤ n ∧ n ≤ 8) : AMet yX10_overAll cX10_overAll 2 (some .long) 1 21 [.ref 10, vI n] h (Ql (fun z h' => z = h.2.1 11 (40 * (n - 1)) + h.2.1 11 (40 * (n - 1) + 1) + h.2.1 11 (40 * (n - 1) + 2) + h.2.1 11 (40 * (n - 1) + 3) ∧ h' = h)) := by
  refine AMet.of (by decide) (Nat.le_of_ble_eq_true rfl) (fun G hM => ?_)
  have hG := hM.cx
  refine A_hm0 (G := G) (L := [(0, .ref 10), (1, vI n)]) ?_
  refine A_aload_n hG 0 dX10_overAll_0 rfl rfl ?_
  refine A_iconst (n := 0) hG dX10_overAll_1 ?_
  refine A_iload_n hG 1 dX10_overAll_2 rfl rfl ?_
  refine C_SUi (as := [vI 0, vI n]) (st := [.ref 10]) (owner := RX8) (x := ⟨RX10, yX8_span.name, yX8_span.desc⟩) hG dX10_overAll_3 lw_X10_27 sm_X10_X8_span rfl (by decide) mf_X8_span ms_X8_span (x_span (hm h [] [] []) (a := 0) (b := n) (by omega) (by omega)) (by decide) (by decide) rfl rfl (Nat.le_of_ble_eq_true rfl) (fun z3 g3 ri_3 hp_3 => ?_)
  obtain ⟨ra_3, rb_3⟩ := ri_3
  obtain ⟨rfl, rfl⟩ := hp_3
  refine C_Vl (as := [vI (40 * (8 * 0 + n - 1))]) (st := []) (k := 10) (c := 9) hG dX10_overAll_6 ml_X10_45 mf_X10_sumAt mi_X10_sumAt se_X10_sumAt rfl (by decide) k10 (x_sumAt (hm h [] [] []) (p := 40 * (8 * 0 + n - 1)) (by omega)) (by decide) (by decide) rfl rfl (Nat.le_of_ble_eq_true rfl) (fun z6 g6 hp_6 => ?_)
  have hq_6 : z6 = h.2.1 11 (40 * (8 * 0 + n - 1)) + h.2.1 11 ((40 * (8 * 0 + n - 1)) + 1) + h.2.1 11 ((40 * (8 * 0 + n - 1)) + 2) + h.2.1 11 ((40 * (8 * 0 + n - 1)) + 3) ∧ g6 = hm h [] [] [] := hp_6
  clear hp_6
  obtain ⟨hz6, rfl⟩ := hq_6
  exact Ret_l hM dX10_overAll_9 (⟨by rw [hz6, show 40 * (8 * 0 + n - 1) = 40 * (n - 1) by omega], rfl⟩)

set_option maxHeartbeats 2000000 in
set_option maxRecDepth 20000 in
theorem x_joinSpans10 (h : AH) {gn : Nat} (hg : gn = 20 ∨ gn = 40) {g : Gm} (hgx : gX h gn = g) (hOk : okG g) {l r b : Int} {A B : Int → Int → Nat} (hl : 0 ≤ l ∧ l ≤ 2520) (hr : 0 ≤ r ∧ r ≤ 2520) (hb : 0 ≤ b ∧ b ≤ 2520) (dl : l + 40 ≤ b ∨ b + 40 ≤ l) (dr : r + 40 ≤ b ∨ b + 40 ≤ r) (hA : ∀ k m, 0 ≤ k → k ≤ 9 → 0 ≤ m → m < 4 → h.2.1 11 (l + (4 * k + m)) = Int64.ofNat (A k m)) (hB : ∀ k m, 0 ≤ k → k ≤ 9 → 0 ≤ m → m < 4 → h.2.1 11 (r + (4 * k + m)) = Int64.ofNat (B k m)) (tA : ∀ k, 0 ≤ k → k ≤ 9 → s4 (A k) ≤ 1967596240896) (tB : ∀ k, 0 ≤ k → k ≤ 9 → s4 (B k) ≤ 1967596240896) : AMet yX10_joinSpans cX10_joinSpans 14 none 1 21 [.ref 10, .ref gn, vI l, vI r, vI b] h (Qv (fun h' => ∃ f : Int → Int64, ((∀ i, (i < b ∨ b + 40 ≤ i) → f i = h.2.1 11 i) ∧ ∀ k m, 0 ≤ k → k ≤ 9 → 0 ≤ m → m < 4 → f (b + (4 * k + m)) = h.2.1 11 (b + (4 * k + m)) + Int64.ofNat (nsum (fun q => tm g q k m (A (g 5 q)) (B (g 6 q))) (g 10 1).toNat)) ∧ h' = hm h [] [(11, f)] [])) := by
  have hR := hOk.2.1
  refine AMet.of (by decide) (Nat.le_of_ble_eq_true rfl) (fun G hM => ?_)
  have hG := hM.cx
  refine A_hm0 (G := G) (L := [(0, .ref 10), (1, .ref gn), (2, vI l), (3, vI r), (4, vI b)]) ?_
  refine A_iconst (n := 0) hG dX10_joinSpans_0 ?_
  refine A_istore (L' := [(5, vI 0), (0, .ref 10), (1, .ref gn), (2, vI l), (3, vI r), (4, vI b)]) hG dX10_joinSpans_1 (by decide) rfl ?_
  refine A_insL 11 (ll' := [(11, h.2.1 11)]) rfl ?_
  have r_0 : ∀ fu : Nat, ∀ (j : Nat) (f : Int → Int64), (j ≤ (g 10 1).toNat) → (∀ i, (i < b ∨ b + 40 ≤ i) → f i = h.2.1 11 i) → (∀ k m, 0 ≤ k → k ≤ 9 → 0 ≤ m → m < 4 → f (b + (4 * k + m)) = h.2.1 11 (b + (4 * k + m)) + Int64.ofNat (nsum (fun q => tm g q k m (A (g 5 q)) (B (g 6 q))) j)) → (24 - j) < fu → G 3 [(0, .ref 10), (1, .ref gn), (2, vI l), (3, vI r), (4, vI b), (5, vI (j : Int))] [] (hm h [] [(11, f)] []) := by
    intro fu
    induction fu with
    | zero => intro j f hj hO hI hfu; exact absurd hfu (Nat.not_lt_zero _)
    | succ fu ih_r =>
      intro j f hj hO hI hfu
      refine A_iload hG 5 dX10_joinSpans_3 rfl ?_
      refine A_aload_n hG 1 dX10_joinSpans_5 rfl rfl ?_
      refine M_getI (z := 10) (v := g 10 1) hG dX10_joinSpans_6 fl_X10_49 (by decide) (kg0 hg) rfl rfl ((gx_n hgx).2) (fun ⟨ra_6, rb_6⟩ => ?_)
      refine A_icmp_ge hG 215 dX10_joinSpans_9 (by decide) (by constructor <;> omega) (by constructor <;> omega) (fun c_9 => ?_) (fun c_9 => ?_)
      ·
        exact Ret_v hM dX10_joinSpans_215 (⟨f, ⟨hO, fun k m k0 k1 m0 m1 => by rw [show (g 10 1).toNat = j by omega]; exact hI k m k0 k1 m0 m1⟩, rfl⟩)
      ·
        have hx := gx_r hgx (r := (j : Int)) (by omega)
        have o := hOk.2.2.2.1 (j : Int) (by omega) (by omega)
        refine A_iload_n hG 2 dX10_joinSpans_12 rfl rfl ?_
        refine A_aload_n hG 1 dX10_joinSpans_13 rfl rfl ?_
        refine A_getR (r := (gn + 6)) hG dX10_joinSpans_14 fl_X10_52 (by decide) (kg0 hg) (by decide) rfl ?_
        refine A_iload hG 5 dX10_joinSpans_17 rfl ?_
        refine M_iald (v := g 5 j) hG dX10_joinSpans_19 (kg6 hg) (ng6 hg) (by omega) hx.2.1 (fun ⟨ra_19, rb_19⟩ => ?_)
        refine A_iconst (n := 4) hG dX10_joinSpans_20 ?_
        refine A_imul hG dX10_joinSpans_21 ?_
        refine A_iadd hG dX10_joinSpans_22 ?_
        refine A_istore (L' := [(6, vI (l + ((g 5 j) * 4))), (0, .ref 10), (1, .ref gn), (2, vI l), (3, vI r), (4, vI b), (5, vI (j : Int))]) hG dX10_joinSpans_23 (by decide) rfl ?_
        refine A_iload_n hG 4 dX10_joinSpans_25 rfl rfl ?_
        refine A_aload_n hG 2 dX10_joinSpans_26 rfl rfl ?_
        refine A_getR (r := (gn + 7)) hG dX10_joinSpans_27 fl_X10_55 (by decide) (kg0 hg) (by decide) rfl ?_
        refine A_iload hG 6 dX10_joinSpans_30 rfl ?_
        refine M_iald (v := g 6 j) hG dX10_joinSpans_32 (kg7 hg) (ng7 hg) (by omega) hx.2.2.1 (fun ⟨ra_32, rb_32⟩ => ?_)
        refine A_iconst (n := 4) hG dX10_joinSpans_33 ?_
        refine A_imul hG dX10_joinSpans_34 ?_
        refine A_iadd hG dX10_joinSpans_35 ?_
        refine A_istore (L' := [(7, vI (r + ((g 6 j) * 4))), (6, vI (l + ((g 5 j) * 4))), (0, .ref 10), (1, .ref gn), (2, vI l), (3, vI r), (4, vI b), (5, vI (j : Int))]) hG dX10_joinSpans_36 (by decide) rfl ?_
        refine A_iload hG 6 dX10_joinSpans_38 rfl ?_
        refine A_aload_n hG 3 dX10_joinSpans_40 rfl rfl ?_
        refine A_getR (r := (gn + 5)) hG dX10_joinSpans_41 fl_X10_58 (by decide) (kg0 hg) (by decide) rfl ?_
        refine A_iload hG 7 dX10_joinSpans_44 rfl ?_
        refine M_iald (v := g 4 j) hG dX10_joinSpans_46 (kg5 hg) (ng5 hg) (by omega) hx.1 (fun ⟨ra_46, rb_46⟩ => ?_)
        refine A_iconst (n := 4) hG dX10_joinSpans_47 ?_
        refine A_imul hG dX10_joinSpans_48 ?_
        refine A_iadd hG dX10_joinSpans_49 ?_
        refine A_istore (L' := [(8, vI (b + ((g 4 j) * 4))), (7, vI (r + ((g 6 j) * 4))), (6, vI (l + ((g 5 j) * 4))), (0, .ref 10), (1, .ref gn), (2, vI l), (3, vI r), (4, vI b), (5, vI (j : Int))]) hG dX10_joinSpans_50 (by decide) rfl ?_
        refine A_aload_n hG 3 dX10_joinSpans_52 rfl rfl ?_
        refine A_iload hG 2 dX10_joinSpans_53 rfl ?_
        refine C_Vl (as := [vI (l + ((g 5 j) * 4))]) (st := []) (k := 10) (c := 9) hG dX10_joinSpans_55 ml_X10_45 mf_X10_sumAt mi_X10_sumAt se_X10_sumAt rfl (by decide) k10 (x_sumAt (hm h [] [(11, f)] []) (p := l + ((g 5 j) * 4)) (by omega)) (by decide) (by decide) rfl rfl (Nat.le_of_ble_eq_true rfl) (fun z55 g55 hp_55 => ?_)
        have hq_55 : z55 = f (l + ((g 5 j) * 4)) + f ((l + ((g 5 j) * 4)) + 1) + f ((l + ((g 5 j) * 4)) + 2) + f ((l + ((g 5 j) * 4)) + 3) ∧ g55 = hm h [] [(11, f)] [] := hp_55
        clear hp_55
        obtain ⟨hz55, rfl⟩ := hq_55
        refine A_lstore (L' := [(9, .long z55), (8, vI (b + ((g 4 j) * 4))), (7, vI (r + ((g 6 j) * 4))), (6, vI (l + ((g 5 j) * 4))), (0, .ref 10), (1, .ref gn), (2, vI l), (3, vI r), (4, vI b), (5, vI (j : Int))]) hG dX10_joinSpans_58 (by decide) rfl ?_
        refine A_aload_n hG 4 dX10_joinSpans_60 rfl rfl ?_
        refine A_iload hG 2 dX10_joinSpans_61 rfl ?_
        refine C_Vl (as := [vI (r + ((g 6 j) * 4))]) (st := []) (k := 10) (c := 9) hG dX10_joinSpans_63 ml_X10_45 mf_X10_sumAt mi_X10_sumAt se_X10_sumAt rfl (by decide) k10 (x_sumAt (hm h [] [(11, f)] []) (p := r + ((g 6 j) * 4)) (by omega)) (by decide) (by decide) rfl rfl (Nat.le_of_ble_eq_true rfl) (fun z63 g63 hp_63 => ?_)
        have hq_63 : z63 = f (r + ((g 6 j) * 4)) + f ((r + ((g 6 j) * 4)) + 1) + f ((r + ((g 6 j) * 4)) + 2) + f ((r + ((g 6 j) * 4)) + 3) ∧ g63 = hm h [] [(11, f)] [] := hp_63
        clear hp_63
        obtain ⟨hz63, rfl⟩ := hq_63
        refine A_lstore (L' := [(11, .long z63), (9, .long z55), (8, vI (b + ((g 4 j) * 4))), (7, vI (r + ((g 6 j) * 4))), (6, vI (l + ((g 5 j) * 4))), (0, .ref 10), (1, .ref gn), (2, vI l), (3, vI r), (4, vI b), (5, vI (j : Int))]) hG dX10_joinSpans_66 (by decide) rfl ?_
        have t5 := tA (g 5 j) (by omega) (by omega)
        have t6 := tB (g 6 j) (by omega) (by omega)
        have fA : ∀ q, 0 ≤ q → q < 4 → f (l + (g 5 j) * 4 + q) = Int64.ofNat (A (g 5 j) q) := fun q q0 q1 => by rw [hO _ (by omega), ← hA (g 5 j) q (by omega) (by omega) q0 q1]; exact congrArg _ (by omega)
        have fB : ∀ q, 0 ≤ q → q < 4 → f (r + (g 6 j) * 4 + q) = Int64.ofNat (B (g 6 j) q) := fun q q0 q1 => by rw [hO _ (by omega), ← hB (g 6 j) q (by omega) (by omega) q0 q1]; exact congrArg _ (by omega)
        have hx9 : z55 = Int64.ofNat (s4 (A (g 5 j))) := by
            have e0 := fA 0 (by omega) (by omega)
            rw [Int.add_zero] at e0
            unfold s4
            rw [hz55, e0, fA 1 (by omega) (by omega), fA 2 (by omega) (by omega), fA 3 (by omega) (by omega)]; simp only [Int64.ofNat_add]
        have hy9 : z63 = Int64.ofNat (s4 (B (g 6 j))) := by
            have e0 := fB 0 (by omega) (by omega)
            rw [Int.add_zero] at e0
            unfold s4
            rw [hz63, e0, fB 1 (by omega) (by omega), fB 2 (by omega) (by omega), fB 3 (by omega) (by omega)]; simp only [Int64.ofNat_add]
        have hz : ∀ k m, 0 ≤ m → m < 4 → (s4 (A (g 5 j)) = 0 ∨ s4 (B (g 6 j)) = 0) → tm g j k m (A (g 5 j)) (B (g 6 j)) = 0 := fun k m m0 m1 hq => by
            have := s4_tm (g := g) (r := (j : Int)) (k := k) (A := A (g 5 j)) (B := B (g 6 j))
            rw [show s4 (A (g 5 j)) * s4 (B (g 6 j)) = 0 by rcases hq with q | q <;> rw [q] <;> simp] at this
            simp only [s4] at this
            rcases (show m = 0 ∨ m = 1 ∨ m = 2 ∨ m = 3 by omega) with rfl | rfl | rfl | rfl <;> omega
        refine A_iconst (n := 0) hG dX10_joinSpans_68 ?_
        have z_3 : ∀ (f : Int → Int64), (∀ i, (i < b ∨ b + 40 ≤ i) → f i = h.2.1 11 i) → (∀ k m, 0 ≤ k → k ≤ 9 → 0 ≤ m → m < 4 → f (b + (4 * k + m)) = h.2.1 11 (b + (4 * k + m)) + Int64.ofNat (nsum (fun q => tm g q k m (A (g 5 q)) (B (g 6 q))) j + tm g j k m (A (g 5 j)) (B (g 6 j)))) → G 209 [(0, .ref 10), (1, .ref gn), (2, vI l), (3, vI r), (4, vI b), (5, vI (j : Int))] [] (hm h [] [(11, f)] []) := by
          intro f hO hI
          refine A_iinc (L' := [(5, vI ((j : Int) + 1)), (0, .ref 10), (1, .ref gn), (2, vI l), (3, vI r), (4, vI b)]) hG 5 dX10_joinSpans_209 rfl (by decide) rfl ?_
          refine A_goto hG 3 dX10_joinSpans_212 (by decide) ?_
          refine A_sub hG [1, 2, 3, 4, 5, 0] rfl ?_
          exact ih_r (j + 1) f (by omega) hO (fun k m k0 k1 m0 m1 => by simp only [nsum]; exact hI k m k0 k1 m0 m1) (by omega)
        refine A_istore (L' := [(13, vI 0), (11, .long z63), (9, .long z55), (8, vI (b + ((g 4 j) * 4))), (7, vI (r + ((g 6 j) * 4))), (6, vI (l + ((g 5 j) * 4))), (0, .ref 10), (1, .ref gn), (2, vI l), (3, vI r), (4, vI b), (5, vI (j : Int))]) hG dX10_joinSpans_69 (by decide) rfl ?_
        have m_4 : ∀ fu : Nat, ∀ (m : Int) (f : Int → Int64), (0 ≤ m ∧ m ≤ 4) → (∀ i, (i < b ∨ b + 40 ≤ i) → f i = h.2.1 11 i) → (∀ k m', 0 ≤ k → k ≤ 9 → 0 ≤ m' → m' < 4 → f (b + (4 * k + m')) = h.2.1 11 (b + (4 * k + m')) + Int64.ofNat (nsum (fun q => tm g q k m' (A (g 5 q)) (B (g 6 q))) j + if m' < m then tm g j k m' (A (g 5 j)) (B (g 6 j)) else 0)) → ((4 - m).toNat) < fu → G 71 [(0, .ref 10), (1, .ref gn), (2, vI l), (3, vI r), (4, vI b), (5, vI (j : Int)), (6, vI (l + (g 5 j) * 4)), (7, vI (r + (g 6 j) * 4)), (8, vI (b + (g 4 j) * 4)), (9, .long z55), (11, .long z63), (13, vI m)] [] (hm h [] [(11, f)] []) := by
          intro fu
          induction fu with
          | zero => intro m f hm hO hI hfu; exact absurd hfu (Nat.not_lt_zero _)
          | succ fu ih_m =>
            intro m f hm hO hI hfu
            have fA : ∀ q, 0 ≤ q → q < 4 → f (l + (g 5 j) * 4 + q) = Int64.ofNat (A (g 5 j) q) := fun q q0 q1 => by rw [hO _ (by omega), ← hA (g 5 j) q (by omega) (by omega) q0 q1]; exact congrArg _ (by omega)
            have fB : ∀ q, 0 ≤ q → q < 4 → f (r + (g 6 j) * 4 + q) = Int64.ofNat (B (g 6 j) q) := fun q q0 q1 => by rw [hO _ (by omega), ← hB (g 6 j) q (by omega) (by omega) q0 q1]; exact congrArg _ (by omega)
            refine A_iload hG 11 dX10_joinSpans_71 rfl ?_
            refine A_iconst (n := 4) hG dX10_joinSpans_73 ?_
            refine A_icmp_ge hG 209 dX10_joinSpans_74 (by decide) (by constructor <;> omega) (by constructor <;> omega) (fun c_74 => ?_) (fun c_74 => ?_)
            ·
              refine A_sub hG [0, 1, 2, 3, 4, 5] rfl ?_
              exact z_3 f hO (fun k m' k0 k1 m0 m1 => by rw [hI k m' k0 k1 m0 m1, if_pos (by omega)])
            ·
              refine A_lload hG 9 dX10_joinSpans_77 rfl ?_
              refine A_lconst (v := i2l 0) hG dX10_joinSpans_79 (by decide) ?_
              refine A_lcmp hG dX10_joinSpans_80 ?_
              refine A_if_eq hG 209 dX10_joinSpans_81 (by decide) (ir_lcmp _ _) (fun c_81 => ?_) (fun c_81 => ?_)
              ·
                refine A_sub hG [0, 1, 2, 3, 4, 5] rfl ?_
                exact z_3 f hO (fun k m' k0 k1 m0 m1 => by rw [hI k m' k0 k1 m0 m1, hz k m' m0 m1 (Or.inl ((ofN_0 (by omega)).mp (hx9.symm.trans (lcmp_0.mp c_81))))]; simp)
              ·
                refine A_lload hG 10 dX10_joinSpans_84 rfl ?_
                refine A_lconst (v := i2l 0) hG dX10_joinSpans_86 (by decide) ?_
                refine A_lcmp hG dX10_joinSpans_87 ?_
                refine A_if_eq hG 209 dX10_joinSpans_88 (by decide) (ir_lcmp _ _) (fun c_88 => ?_) (fun c_88 => ?_)
                ·
                  refine A_sub hG [0, 1, 2, 3, 4, 5] rfl ?_
                  exact z_3 f hO (fun k m' k0 k1 m0 m1 => by rw [hI k m' k0 k1 m0 m1, hz k m' m0 m1 (Or.inr ((ofN_0 (by omega)).mp (hy9.symm.trans (lcmp_0.mp c_88))))]; simp)
                ·
                  refine A_aload_n hG 1 dX10_joinSpans_91 rfl rfl ?_
                  refine A_getR (r := (gn + 8)) hG dX10_joinSpans_92 fl_X10_61 (by decide) (kg0 hg) (by decide) rfl ?_
                  refine A_iload hG 5 dX10_joinSpans_95 rfl ?_
                  refine M_zald (v := g 7 j) hG dX10_joinSpans_97 (kg8 hg) (ng8 hg) (by omega) hx.2.2.2.1 (fun ⟨ra_97, rb_97⟩ => ?_)
                  refine A_if_eq hG 138 dX10_joinSpans_98 (by decide) (by constructor <;> omega) (fun c_98 => ?_) (fun c_98 => ?_)
                  ·
                    refine A_aload_n hG 1 dX10_joinSpans_138 rfl rfl ?_
                    refine A_getR (r := (gn + 9)) hG dX10_joinSpans_139 fl_X10_65 (by decide) (kg0 hg) (by decide) rfl ?_
                    refine A_iload hG 5 dX10_joinSpans_142 rfl ?_
                    refine M_zald (v := g 8 j) hG dX10_joinSpans_144 (kg9 hg) (ng9 hg) (by omega) hx.2.2.2.2 (fun ⟨ra_144, rb_144⟩ => ?_)
                    refine A_if_eq hG 177 dX10_joinSpans_145 (by decide) (by constructor <;> omega) (fun c_145 => ?_) (fun c_145 => ?_)
                    ·
                      have hT3 : f (l + (g 5 j) * 4 + m) * z63 = Int64.ofNat (tm g j (g 4 j) m (A (g 5 j)) (B (g 6 j))) := by
                          rw [hy9, fA m (by omega) (by omega), ← Int64.ofNat_mul]; unfold tm s4; rw [if_pos rfl, if_pos (by omega), if_pos (by omega)]
                      refine A_aload_n hG 0 dX10_joinSpans_177 rfl rfl ?_
                      refine A_getR (r := 11) hG dX10_joinSpans_178 fl_X10_9 (by decide) k10 (by decide) rfl ?_
                      refine A_iload hG 8 dX10_joinSpans_181 rfl ?_
                      refine A_iload hG 11 dX10_joinSpans_183 rfl ?_
                      refine A_iadd hG dX10_joinSpans_185 ?_
                      refine A_dup2 hG dX10_joinSpans_186 rfl rfl ?_
                      refine M_lald (v := f ((b + (g 4 j) * 4) + m)) hG dX10_joinSpans_187 k11 n11 (by omega) rfl ?_
                      refine A_aload_n hG 0 dX10_joinSpans_188 rfl rfl ?_
                      refine A_getR (r := 11) hG dX10_joinSpans_189 fl_X10_9 (by decide) k10 (by decide) rfl ?_
                      refine A_iload hG 6 dX10_joinSpans_192 rfl ?_
                      refine A_iload hG 11 dX10_joinSpans_194 rfl ?_
                      refine A_iadd hG dX10_joinSpans_196 ?_
                      refine M_lald (v := f ((l + (g 5 j) * 4) + m)) hG dX10_joinSpans_197 k11 n11 (by omega) rfl ?_
                      refine A_lload hG 10 dX10_joinSpans_198 rfl ?_
                      refine A_lmul hG dX10_joinSpans_200 ?_
                      refine A_ladd hG dX10_joinSpans_201 ?_
                      refine M_last (ll' := [(11, up f ((b + (g 4 j) * 4) + m) ((f ((b + (g 4 j) * 4) + m)) + ((f ((l + (g 5 j) * 4) + m)) * z63)))]) hG dX10_joinSpans_202 k11 n11 (by omega) rfl ?_
                      refine A_iinc (L' := [(13, vI (m + 1)), (0, .ref 10), (1, .ref gn), (2, vI l), (3, vI r), (4, vI b), (5, vI (j : Int)), (6, vI (l + (g 5 j) * 4)), (7, vI (r + (g 6 j) * 4)), (8, vI (b + (g 4 j) * 4)), (9, .long z55), (11, .long z63)]) hG 11 dX10_joinSpans_203 rfl (by decide) rfl ?_
                      refine A_goto hG 71 dX10_joinSpans_206 (by decide) ?_
                      refine A_sub hG [1, 2, 3, 4, 5, 6, 7, 8, 9, 10, 11, 0] rfl ?_
                      exact ih_m (m + 1) (up f ((b + (g 4 j) * 4) + m) ((f ((b + (g 4 j) * 4) + m)) + ((f ((l + (g 5 j) * 4) + m)) * z63))) (by omega) (fun i hi => by rw [up_ne _ _ (by omega)]; exact hO i hi) (fun k m' k0 k1 m0 m1 => by
                          have e0 := hI k m' k0 k1 m0 m1
                          by_cases hq : k = g 4 j ∧ m' = m
                          · obtain ⟨rfl, rfl⟩ := hq
                            rw [show b + (4 * g 4 j + m') = b + (g 4 j) * 4 + m' by omega] at e0 ⊢
                            rw [up_eq, e0, if_neg (by omega), if_pos (by omega), hT3, Nat.add_zero, Int64.add_assoc, ← Int64.ofNat_add]
                          · rw [up_ne _ _ (by omega), e0]
                            by_cases hm3 : m' < m
                            · rw [if_pos hm3, if_pos (by omega)]
                            · rw [if_neg hm3]
                              by_cases hm4 : m' < m + 1
                              · rw [if_pos hm4, show tm g j k m' (A (g 5 j)) (B (g 6 j)) = 0 from (if_neg (fun e => hq ⟨e.symm, by omega⟩))]
                              · rw [if_neg hm4]) (by omega)
                    ·
                      have hT2 : z55 * f (r + (g 6 j) * 4 + m) = Int64.ofNat (tm g j (g 4 j) m (A (g 5 j)) (B (g 6 j))) := by
                          rw [hx9, fB m (by omega) (by omega), ← Int64.ofNat_mul]; unfold tm s4; rw [if_pos rfl, if_pos (by omega), if_neg (by omega)]
                      refine A_aload_n hG 0 dX10_joinSpans_148 rfl rfl ?_
                      refine A_getR (r := 11) hG dX10_joinSpans_149 fl_X10_9 (by decide) k10 (by decide) rfl ?_
                      refine A_iload hG 8 dX10_joinSpans_152 rfl ?_
                      refine A_iload hG 11 dX10_joinSpans_154 rfl ?_
                      refine A_iadd hG dX10_joinSpans_156 ?_
                      refine A_dup2 hG dX10_joinSpans_157 rfl rfl ?_
                      refine M_lald (v := f ((b + (g 4 j) * 4) + m)) hG dX10_joinSpans_158 k11 n11 (by omega) rfl ?_
                      refine A_lload hG 9 dX10_joinSpans_159 rfl ?_
                      refine A_aload_n hG 0 dX10_joinSpans_161 rfl rfl ?_
                      refine A_getR (r := 11) hG dX10_joinSpans_162 fl_X10_9 (by decide) k10 (by decide) rfl ?_
                      refine A_iload hG 7 dX10_joinSpans_165 rfl ?_
                      refine A_iload hG 11 dX10_joinSpans_167 rfl ?_
                      refine A_iadd hG dX10_joinSpans_169 ?_
                      refine M_lald (v := f ((r + (g 6 j) * 4) + m)) hG dX10_joinSpans_170 k11 n11 (by omega) rfl ?_
                      refine A_lmul hG dX10_joinSpans_171 ?_
                      refine A_ladd hG dX10_joinSpans_172 ?_
                      refine M_last (ll' := [(11, up f ((b + (g 4 j) * 4) + m) ((f ((b + (g 4 j) * 4) + m)) + (z55 * (f ((r + (g 6 j) * 4) + m)))))]) hG dX10_joinSpans_173 k11 n11 (by omega) rfl ?_
                      refine A_goto hG 203 dX10_joinSpans_174 (by decide) ?_
                      refine A_iinc (L' := [(13, vI (m + 1)), (0, .ref 10), (1, .ref gn), (2, vI l), (3, vI r), (4, vI b), (5, vI (j : Int)), (6, vI (l + (g 5 j) * 4)), (7, vI (r + (g 6 j) * 4)), (8, vI (b + (g 4 j) * 4)), (9, .long z55), (11, .long z63)]) hG 11 dX10_joinSpans_203 rfl (by decide) rfl ?_
                      refine A_goto hG 71 dX10_joinSpans_206 (by decide) ?_
                      refine A_sub hG [1, 2, 3, 4, 5, 6, 7, 8, 9, 10, 11, 0] rfl ?_
                      exact ih_m (m + 1) (up f ((b + (g 4 j) * 4) + m) ((f ((b + (g 4 j) * 4) + m)) + (z55 * (f ((r + (g 6 j) * 4) + m))))) (by omega) (fun i hi => by rw [up_ne _ _ (by omega)]; exact hO i hi) (fun k m' k0 k1 m0 m1 => by
                          have e0 := hI k m' k0 k1 m0 m1
                          by_cases hq : k = g 4 j ∧ m' = m
                          · obtain ⟨rfl, rfl⟩ := hq
                            rw [show b + (4 * g 4 j + m') = b + (g 4 j) * 4 + m' by omega] at e0 ⊢
                            rw [up_eq, e0, if_neg (by omega), if_pos (by omega), hT2, Nat.add_zero, Int64.add_assoc, ← Int64.ofNat_add]
                          · rw [up_ne _ _ (by omega), e0]
                            by_cases hm3 : m' < m
                            · rw [if_pos hm3, if_pos (by omega)]
                            · rw [if_neg hm3]
                              by_cases hm4 : m' < m + 1
                              · rw [if_pos hm4, show tm g j k m' (A (g 5 j)) (B (g 6 j)) = 0 from (if_neg (fun e => hq ⟨e.symm, by omega⟩))]
                              · rw [if_neg hm4]) (by omega)
                  ·
                    have hT1 : f (l + (g 5 j) * 4 + m) * f (r + (g 6 j) * 4 + m) = Int64.ofNat (tm g j (g 4 j) m (A (g 5 j)) (B (g 6 j))) := by
                        rw [fA m (by omega) (by omega), fB m (by omega) (by omega), ← Int64.ofNat_mul]; unfold tm; rw [if_pos rfl, if_neg (by omega)]
                    refine A_aload_n hG 0 dX10_joinSpans_101 rfl rfl ?_
                    refine A_getR (r := 11) hG dX10_joinSpans_102 fl_X10_9 (by decide) k10 (by decide) rfl ?_
                    refine A_iload hG 8 dX10_joinSpans_105 rfl ?_
                    refine A_iload hG 11 dX10_joinSpans_107 rfl ?_
                    refine A_iadd hG dX10_joinSpans_109 ?_
                    refine A_dup2 hG dX10_joinSpans_110 rfl rfl ?_
                    refine M_lald (v := f ((b + (g 4 j) * 4) + m)) hG dX10_joinSpans_111 k11 n11 (by omega) rfl ?_
                    refine A_aload_n hG 0 dX10_joinSpans_112 rfl rfl ?_
                    refine A_getR (r := 11) hG dX10_joinSpans_113 fl_X10_9 (by decide) k10 (by decide) rfl ?_
                    refine A_iload hG 6 dX10_joinSpans_116 rfl ?_
                    refine A_iload hG 11 dX10_joinSpans_118 rfl ?_
                    refine A_iadd hG dX10_joinSpans_120 ?_
                    refine M_lald (v := f ((l + (g 5 j) * 4) + m)) hG dX10_joinSpans_121 k11 n11 (by omega) rfl ?_
                    refine A_aload_n hG 0 dX10_joinSpans_122 rfl rfl ?_
                    refine A_getR (r := 11) hG dX10_joinSpans_123 fl_X10_9 (by decide) k10 (by decide) rfl ?_
                    refine A_iload hG 7 dX10_joinSpans_126 rfl ?_
                    refine A_iload hG 11 dX10_joinSpans_128 rfl ?_
                    refine A_iadd hG dX10_joinSpans_130 ?_
                    refine M_lald (v := f ((r + (g 6 j) * 4) + m)) hG dX10_joinSpans_131 k11 n11 (by omega) rfl ?_
                    refine A_lmul hG dX10_joinSpans_132 ?_
                    refine A_ladd hG dX10_joinSpans_133 ?_
                    refine M_last (ll' := [(11, up f ((b + (g 4 j) * 4) + m) ((f ((b + (g 4 j) * 4) + m)) + ((f ((l + (g 5 j) * 4) + m)) * (f ((r + (g 6 j) * 4) + m)))))]) hG dX10_joinSpans_134 k11 n11 (by omega) rfl ?_
                    refine A_goto hG 203 dX10_joinSpans_135 (by decide) ?_
                    refine A_iinc (L' := [(13, vI (m + 1)), (0, .ref 10), (1, .ref gn), (2, vI l), (3, vI r), (4, vI b), (5, vI (j : Int)), (6, vI (l + (g 5 j) * 4)), (7, vI (r + (g 6 j) * 4)), (8, vI (b + (g 4 j) * 4)), (9, .long z55), (11, .long z63)]) hG 11 dX10_joinSpans_203 rfl (by decide) rfl ?_
                    refine A_goto hG 71 dX10_joinSpans_206 (by decide) ?_
                    refine A_sub hG [1, 2, 3, 4, 5, 6, 7, 8, 9, 10, 11, 0] rfl ?_
                    exact ih_m (m + 1) (up f ((b + (g 4 j) * 4) + m) ((f ((b + (g 4 j) * 4) + m)) + ((f ((l + (g 5 j) * 4) + m)) * (f ((r + (g 6 j) * 4) + m))))) (by omega) (fun i hi => by rw [up_ne _ _ (by omega)]; exact hO i hi) (fun k m' k0 k1 m0 m1 => by
                        have e0 := hI k m' k0 k1 m0 m1
                        by_cases hq : k = g 4 j ∧ m' = m
                        · obtain ⟨rfl, rfl⟩ := hq
                          rw [show b + (4 * g 4 j + m') = b + (g 4 j) * 4 + m' by omega] at e0 ⊢
                          rw [up_eq, e0, if_neg (by omega), if_pos (by omega), hT1, Nat.add_zero, Int64.add_assoc, ← Int64.ofNat_add]
                        · rw [up_ne _ _ (by omega), e0]
                          by_cases hm3 : m' < m
                          · rw [if_pos hm3, if_pos (by omega)]
                          · rw [if_neg hm3]
                            by_cases hm4 : m' < m + 1
                            · rw [if_pos hm4, show tm g j k m' (A (g 5 j)) (B (g 6 j)) = 0 from (if_neg (fun e => hq ⟨e.symm, by omega⟩))]
                            · rw [if_neg hm4]) (by omega)
        refine A_sub hG [6, 7, 8, 9, 10, 11, 5, 4, 3, 2, 1, 0] rfl ?_
        exact m_4 _ 0 f (by omega) hO (fun k m' k0 k1 m0 m1 => by rw [if_neg (by omega), Nat.add_zero]; exact hI k m' k0 k1 m0 m1) (Nat.lt_succ_self _)
  refine A_sub hG [1, 2, 3, 4, 5, 0] rfl ?_
  exact r_0 _ 0 (h.2.1 11) (by omega) (fun _ _ => rfl) (fun k m _ _ _ _ => by simp [nsum]) (Nat.lt_succ_self _)

set_option maxHeartbeats 2000000 in
set_option maxRecDepth 20000 in
theorem x_joinAll10 (h : AH) {gn : Nat} (hg : gn = 20 ∨ gn = 40) {g : Gm} (hgx : gX h gn = g) (hOk : okG g) {N : Int} {w : Int → Int} (hN : 0 ≤ N ∧ N ≤ 8) (hF : ∀ n' f', 1 ≤ n' → 0 ≤ f' → f' + n' ≤ N → ∀ k m, 0 ≤ k → k ≤ 9 → 0 ≤ m → m < 4 → h.2.1 11 (40 * (8 * f' + n' - 1) + (4 * k + m)) = Int64.ofNat (if n' = 1 then cnt g w n' f' k m else 0)) : AMet yX8_joinAll cX8_joinAll 6 none 2 60 [.ref 10, .ref gn, vI N] h (Qv (fun h' => ∃ f : Int → Int64, (∀ n' f', 1 ≤ n' → 0 ≤ f' → f' + n' ≤ N → ∀ k m, 0 ≤ k → k ≤ 9 → 0 ≤ m → m < 4 → f (40 * (8 * f' + n' - 1) + (4 * k + m)) = Int64.ofNat (cnt g w n' f' k m)) ∧ h' = hm h [] [(11, f)] [])) := by
  refine AMet.of (by decide) (Nat.le_of_ble_eq_true rfl) (fun G hM => ?_)
  have hG := hM.cx
  refine A_hm0 (G := G) (L := [(0, .ref 10), (1, .ref gn), (2, vI N)]) ?_
  refine A_iconst (n := 2) hG dX8_joinAll_0 ?_
  refine A_istore_n (L' := [(3, vI 2), (0, .ref 10), (1, .ref gn), (2, vI N)]) hG dX8_joinAll_1 rfl (by decide) rfl ?_
  refine A_insL 11 (ll' := [(11, h.2.1 11)]) rfl ?_
  have n_0 : ∀ fu : Nat, ∀ (n : Int) (f : Int → Int64), (2 ≤ n ∧ n ≤ 9) → (∀ n' f', 1 ≤ n' → 0 ≤ f' → f' + n' ≤ N → ∀ k m, 0 ≤ k → k ≤ 9 → 0 ≤ m → m < 4 → f (40 * (8 * f' + n' - 1) + (4 * k + m)) = Int64.ofNat (if n' < n then cnt g w n' f' k m else 0)) → ((9 - n).toNat) < fu → G 2 [(0, .ref 10), (1, .ref gn), (2, vI N), (3, vI n)] [] (hm h [] [(11, f)] []) := by
    intro fu
    induction fu with
    | zero => intro n f hn hI hfu; exact absurd hfu (Nat.not_lt_zero _)
    | succ fu ih_n =>
      intro n f hn hI hfu
      refine A_iload_n hG 3 dX8_joinAll_2 rfl rfl ?_
      refine A_iload_n hG 2 dX8_joinAll_3 rfl rfl ?_
      refine A_icmp_gt hG 75 dX8_joinAll_4 (by decide) (by constructor <;> omega) (by constructor <;> omega) (fun c_4 => ?_) (fun c_4 => ?_)
      ·
        exact Ret_v hM dX8_joinAll_75 (⟨f, fun n' f' h1 h2 h3 k m k0 k1 m0 m1 => by rw [hI n' f' h1 h2 h3 k m k0 k1 m0 m1, if_pos (by omega)], rfl⟩)
      ·
        refine A_iconst (n := 0) hG dX8_joinAll_7 ?_
        refine A_istore (L' := [(4, vI 0), (0, .ref 10), (1, .ref gn), (2, vI N), (3, vI n)]) hG dX8_joinAll_8 (by decide) rfl ?_
        have p_1 : ∀ fu : Nat, ∀ (p : Int) (f : Int → Int64), (0 ≤ p ∧ p + n ≤ N + 1) → (∀ n' f', 1 ≤ n' → 0 ≤ f' → f' + n' ≤ N → ∀ k m, 0 ≤ k → k ≤ 9 → 0 ≤ m → m < 4 → f (40 * (8 * f' + n' - 1) + (4 * k + m)) = Int64.ofNat (if n' < n ∨ (n' = n ∧ f' < p) then cnt g w n' f' k m else 0)) → ((9 - p).toNat) < fu → G 10 [(0, .ref 10), (1, .ref gn), (2, vI N), (3, vI n), (4, vI p)] [] (hm h [] [(11, f)] []) := by
          intro fu
          induction fu with
          | zero => intro p f hp hI hfu; exact absurd hfu (Nat.not_lt_zero _)
          | succ fu ih_p =>
            intro p f hp hI hfu
            refine A_iload hG 4 dX8_joinAll_10 rfl ?_
            refine A_iload_n hG 3 dX8_joinAll_12 rfl rfl ?_
            refine A_iadd hG dX8_joinAll_13 ?_
            refine A_iload_n hG 2 dX8_joinAll_14 rfl rfl ?_
            refine A_icmp_gt hG 69 dX8_joinAll_15 (by decide) (by constructor <;> omega) (by constructor <;> omega) (fun c_15 => ?_) (fun c_15 => ?_)
            ·
              refine A_iinc (L' := [(3, vI (n + 1)), (0, .ref 10), (1, .ref gn), (2, vI N), (4, vI p)]) hG 3 dX8_joinAll_69 rfl (by decide) rfl ?_
              refine A_goto hG 2 dX8_joinAll_72 (by decide) ?_
              refine A_sub hG [1, 2, 3, 0] rfl ?_
              exact ih_n (n + 1) f (by omega) (fun n' f' h1 h2 h3 k m k0 k1 m0 m1 => by
                  rw [hI n' f' h1 h2 h3 k m k0 k1 m0 m1]
                  by_cases c : n' < n + 1
                  · rw [if_pos c, if_pos (by omega)]
                  · rw [if_neg c, if_neg (by omega)]) (by omega)
            ·
              refine A_iconst (n := 1) hG dX8_joinAll_18 ?_
              refine A_istore (L' := [(5, vI 1), (0, .ref 10), (1, .ref gn), (2, vI N), (3, vI n), (4, vI p)]) hG dX8_joinAll_19 (by decide) rfl ?_
              have a_2 : ∀ fu : Nat, ∀ (a : Int) (f : Int → Int64), (1 ≤ a ∧ a ≤ n) → (∀ n' f', 1 ≤ n' → 0 ≤ f' → f' + n' ≤ N → ∀ k m, 0 ≤ k → k ≤ 9 → 0 ≤ m → m < 4 → f (40 * (8 * f' + n' - 1) + (4 * k + m)) = Int64.ofNat (if n' < n ∨ (n' = n ∧ f' < p) then cnt g w n' f' k m else if n' = n ∧ f' = p then cP g w n p (a - 1).toNat 0 k m else 0)) → ((9 - a).toNat) < fu → G 21 [(0, .ref 10), (1, .ref gn), (2, vI N), (3, vI n), (4, vI p), (5, vI a)] [] (hm h [] [(11, f)] []) := by
                intro fu
                induction fu with
                | zero => intro a f ha hI hfu; exact absurd hfu (Nat.not_lt_zero _)
                | succ fu ih_a =>
                  intro a f ha hI hfu
                  refine A_iload hG 5 dX8_joinAll_21 rfl ?_
                  refine A_iload_n hG 3 dX8_joinAll_23 rfl rfl ?_
                  refine A_icmp_ge hG 63 dX8_joinAll_24 (by decide) (by constructor <;> omega) (by constructor <;> omega) (fun c_24 => ?_) (fun c_24 => ?_)
                  ·
                    refine A_iinc (L' := [(4, vI (p + 1)), (0, .ref 10), (1, .ref gn), (2, vI N), (3, vI n), (5, vI a)]) hG 4 dX8_joinAll_63 rfl (by decide) rfl ?_
                    refine A_goto hG 10 dX8_joinAll_66 (by decide) ?_
                    refine A_sub hG [1, 2, 3, 4, 0] rfl ?_
                    exact ih_p (p + 1) f (by omega) (fun n' f' h1 h2 h3 k m k0 k1 m0 m1 => by
                        rw [hI n' f' h1 h2 h3 k m k0 k1 m0 m1]
                        by_cases c1 : n' < n ∨ (n' = n ∧ f' < p)
                        · rw [if_pos c1, if_pos (by omega)]
                        · rw [if_neg c1]
                          by_cases c2 : n' = n ∧ f' = p
                          · obtain ⟨rfl, rfl⟩ := c2
                            rw [if_pos ⟨rfl, rfl⟩, if_pos (by omega), show a = n' by omega, show (n' - 1).toNat = n'.toNat - 1 by omega, cP_end (by omega)]
                          · rw [if_neg c2, if_neg (by omega)]) (by omega)
                  ·
                    refine A_aload_n hG 0 dX8_joinAll_27 rfl rfl ?_
                    refine A_aload_n hG 1 dX8_joinAll_28 rfl rfl ?_
                    refine A_iload hG 4 dX8_joinAll_29 rfl ?_
                    refine A_iload hG 5 dX8_joinAll_31 rfl ?_
                    refine C_Si (as := [vI p, vI a]) (st := [.ref gn, .ref 10]) hG dX8_joinAll_33 ml_X8_15 mf_X8_span ms_X8_span (x_span (hm h [] [(11, f)] []) (a := p) (b := a) (by omega) (by omega)) (by decide) (by decide) rfl rfl (Nat.le_of_ble_eq_true rfl) (fun z33 g33 ri_33 hp_33 => ?_)
                    obtain ⟨ra_33, rb_33⟩ := ri_33
                    obtain ⟨rfl, rfl⟩ := hp_33
                    refine A_iload hG 4 dX8_joinAll_36 rfl ?_
                    refine A_iload hG 5 dX8_joinAll_38 rfl ?_
                    refine A_iadd hG dX8_joinAll_40 ?_
                    refine A_iload_n hG 3 dX8_joinAll_41 rfl rfl ?_
                    refine A_iload hG 5 dX8_joinAll_42 rfl ?_
                    refine A_isub hG dX8_joinAll_44 ?_
                    refine C_Si (as := [vI (p + a), vI (n - a)]) (st := [vI (40 * (8 * p + a - 1)), .ref gn, .ref 10]) hG dX8_joinAll_45 ml_X8_15 mf_X8_span ms_X8_span (x_span (hm h [] [(11, f)] []) (a := p + a) (b := n - a) (by omega) (by omega)) (by decide) (by decide) rfl rfl (Nat.le_of_ble_eq_true rfl) (fun z45 g45 ri_45 hp_45 => ?_)
                    obtain ⟨ra_45, rb_45⟩ := ri_45
                    obtain ⟨rfl, rfl⟩ := hp_45
                    refine A_iload hG 4 dX8_joinAll_48 rfl ?_
                    refine A_iload_n hG 3 dX8_joinAll_50 rfl rfl ?_
                    refine C_Si (as := [vI p, vI n]) (st := [vI (40 * (8 * (p + a) + (n - a) - 1)), vI (40 * (8 * p + a - 1)), .ref gn, .ref 10]) hG dX8_joinAll_51 ml_X8_15 mf_X8_span ms_X8_span (x_span (hm h [] [(11, f)] []) (a := p) (b := n) (by omega) (by omega)) (by decide) (by decide) rfl rfl (Nat.le_of_ble_eq_true rfl) (fun z51 g51 ri_51 hp_51 => ?_)
                    obtain ⟨ra_51, rb_51⟩ := ri_51
                    obtain ⟨rfl, rfl⟩ := hp_51
                    refine C_Uv (as := [.ref gn, vI (40 * (8 * p + a - 1)), vI (40 * (8 * (p + a) + (n - a) - 1)), vI (40 * (8 * p + n - 1))]) (st := []) (k := 10) (c := 9) (owner := RX8) (x := ⟨RX8, yX10_joinSpans.name, yX10_joinSpans.desc⟩) (y := yX10_joinSpans) hG dX8_joinAll_54 lw_X8_19 sm_X8_X8_joinSpans de_X8_joinSpans (by decide) rfl mf_X10_joinSpans mi_X10_joinSpans su_X10_X10_joinSpans rfl (by decide) k10 (x_joinSpans10 (hm h [] [(11, f)] []) hg (g := g) hgx hOk (l := (40 * (8 * p + a - 1))) (r := (40 * (8 * (p + a) + (n - a) - 1))) (b := (40 * (8 * p + n - 1))) (A := (fun kd => cnt g w a p kd)) (B := (fun kd => cnt g w (n - a) (p + a) kd)) (by omega) (by omega) (by omega) (by omega) (by omega) (fun kd m k0 k1 m0 m1 => (hI a p (by omega) (by omega) (by omega) kd m k0 k1 m0 m1).trans (by rw [if_pos (by omega)])) (fun kd m k0 k1 m0 m1 => (hI (n - a) (p + a) (by omega) (by omega) (by omega) kd m k0 k1 m0 m1).trans (by rw [if_pos (by omega)])) (fun kd _ _ => cnt_top hOk (by omega) p kd) (fun kd _ _ => cnt_top hOk (by omega) (p + a) kd)) (by decide) (by decide) rfl rfl (Nat.le_of_ble_eq_true rfl) (fun g54 hp_54 => ?_)
                    have hq_54 : ∃ fx : Int → Int64, ((∀ i, (i < (40 * (8 * p + n - 1)) ∨ (40 * (8 * p + n - 1)) + 40 ≤ i) → fx i = f i) ∧ ∀ k m, 0 ≤ k → k ≤ 9 → 0 ≤ m → m < 4 → fx ((40 * (8 * p + n - 1)) + (4 * k + m)) = f ((40 * (8 * p + n - 1)) + (4 * k + m)) + Int64.ofNat (nsum (fun q => tm g q k m (cnt g w a p (g 5 q)) (cnt g w (n - a) (p + a) (g 6 q))) (g 10 1).toNat)) ∧ g54 = hm (hm h [] [(11, f)] []) [] [(11, fx)] [] := hp_54
                    clear hp_54
                    obtain ⟨f54, ⟨hO54, hJ54⟩, rfl⟩ := hq_54
                    refine A_hm (la := []) (lb := [(11, f54)]) (lc := []) rfl rfl rfl ?_
                    refine A_iinc (L' := [(5, vI (a + 1)), (0, .ref 10), (1, .ref gn), (2, vI N), (3, vI n), (4, vI p)]) hG 5 dX8_joinAll_57 rfl (by decide) rfl ?_
                    refine A_goto hG 21 dX8_joinAll_60 (by decide) ?_
                    refine A_sub hG [1, 2, 3, 4, 5, 0] rfl ?_
                    exact ih_a (a + 1) f54 (by omega) (fun n' f' h1 h2 h3 k m k0 k1 m0 m1 => by
                        by_cases hq : n' = n ∧ f' = p
                        · obtain ⟨rfl, rfl⟩ := hq
                          rw [hJ54 k m k0 k1 m0 m1, hI n' f' h1 h2 h3 k m k0 k1 m0 m1, if_neg (by omega), if_pos ⟨rfl, rfl⟩, if_neg (by omega), if_pos ⟨rfl, rfl⟩, cP_k (by omega), Int64.ofNat_add]
                        · rw [hO54 _ (by omega), hI n' f' h1 h2 h3 k m k0 k1 m0 m1]
                          by_cases c1 : n' < n ∨ (n' = n ∧ f' < p)
                          · rw [if_pos c1, if_pos c1]
                          · rw [if_neg c1, if_neg c1, if_neg hq, if_neg hq]) (by omega)
              refine A_sub hG [1, 2, 3, 4, 5, 0] rfl ?_
              exact a_2 _ 1 f (by omega) (fun n' f' h1 h2 h3 k m k0 k1 m0 m1 => by
                  rw [hI n' f' h1 h2 h3 k m k0 k1 m0 m1]
                  by_cases c1 : n' < n ∨ (n' = n ∧ f' < p)
                  · rw [if_pos c1, if_pos c1]
                  · rw [if_neg c1, if_neg c1]
                    by_cases c2 : n' = n ∧ f' = p
                    · rw [if_pos c2, show ((1 : Int) - 1).toNat = 0 from rfl, cP_0, if_neg (by omega)]
                    · rw [if_neg c2]) (Nat.lt_succ_self _)
        refine A_sub hG [1, 2, 3, 4, 0] rfl ?_
        exact p_1 _ 0 f (by omega) (fun n' f' h1 h2 h3 k m k0 k1 m0 m1 => by
            rw [hI n' f' h1 h2 h3 k m k0 k1 m0 m1]
            by_cases c : n' < n
            · rw [if_pos c, if_pos (by omega)]
            · rw [if_neg c, if_neg (by omega)]) (Nat.lt_succ_self _)
  refine A_sub hG [1, 2, 3, 0] rfl ?_
  exact n_0 _ 2 (h.2.1 11) (by omega) (fun n' f' h1 h2 h3 k m k0 k1 m0 m1 => by
      rw [hF n' f' h1 h2 h3 k m k0 k1 m0 m1]
      by_cases c : n' = 1
      · rw [if_pos c, if_pos (by omega)]
      · rw [if_neg c, if_neg (by omega)]) (Nat.lt_succ_self _)

set_option maxHeartbeats 2000000 in
set_option maxRecDepth 20000 in
theorem x_stateOf (h : AH) {gn : Nat} (hg : gn = 20 ∨ gn = 40) {g : Gm} (hgx : gX h gn = g) (hOk : okG g) {v : Int} (hv : 0 ≤ v ∧ v < g 10 0) : AMet yX1_stateOf cX1_stateOf 2 (some .int) 0 0 [.ref gn, vI v] h (Qi (fun z h' => z = 4 * g 0 v + g 1 v ∧ h' = h)) := by
  have hx := gx_w hgx hv
  have o := hOk.2.2.1 v hv.1 hv.2
  have hn := hOk.1
  refine AMet.of (by decide) (Nat.le_of_ble_eq_true rfl) (fun G hM => ?_)
  have hG := hM.cx
  refine A_hm0 (G := G) (L := [(0, .ref gn), (1, vI v)]) ?_
  refine A_aload_n hG 0 dX1_stateOf_0 rfl rfl ?_
  refine A_getR (r := (gn + 1)) hG dX1_stateOf_1 fl_X1_9 (by decide) (kg0 hg) (by decide) rfl ?_
  refine A_iload_n hG 1 dX1_stateOf_4 rfl rfl ?_
  refine M_iald (v := g 0 v) hG dX1_stateOf_5 (kg1 hg) (ng1 hg) (by omega) hx.1 (fun ⟨ra_5, rb_5⟩ => ?_)
  refine A_iconst (n := 4) hG dX1_stateOf_6 ?_
  refine A_imul hG dX1_stateOf_7 ?_
  refine A_aload_n hG 0 dX1_stateOf_8 rfl rfl ?_
  refine A_getR (r := (gn + 2)) hG dX1_stateOf_9 fl_X1_15 (by decide) (kg0 hg) (by decide) rfl ?_
  refine A_iload_n hG 1 dX1_stateOf_12 rfl rfl ?_
  refine M_iald (v := g 1 v) hG dX1_stateOf_13 (kg2 hg) (ng2 hg) (by omega) hx.2.1 (fun ⟨ra_13, rb_13⟩ => ?_)
  refine A_iadd hG dX1_stateOf_14 ?_
  exact Ret_i hM dX1_stateOf_15 (by constructor <;> omega) (⟨by omega, rfl⟩)

set_option maxHeartbeats 2000000 in
set_option maxRecDepth 20000 in
theorem x_fill (h : AH) {gn : Nat} (hg : gn = 20 ∨ gn = 40) {g : Gm} (hgx : gX h gn = g) {r : Nat} (hr : 100 ≤ r ∧ r < 212) (hOk : okG g) {n : Int} {w : Int → Int} (hwr : rowX h r n w) (hW : okW g w n) : AMet yX10_fill cX10_fill 4 none 3 85 [.ref 10, .ref gn, .ref r] h (Qv (fun h' => ∃ f : Int → Int64, (∀ n' f', 1 ≤ n' → 0 ≤ f' → f' + n' ≤ n → ∀ k m, 0 ≤ k → k ≤ 9 → 0 ≤ m → m < 4 → f (40 * (8 * f' + n' - 1) + (4 * k + m)) = Int64.ofNat (cnt g w n' f' k m)) ∧ h' = hm h [] [(11, f)] [])) := by
  have hn := hW.1
  refine AMet.of (by decide) (Nat.le_of_ble_eq_true rfl) (fun G hM => ?_)
  have hG := hM.cx
  refine A_hm0 (G := G) (L := [(0, .ref 10), (1, .ref gn), (2, .ref r)]) ?_
  refine A_aload_n hG 0 dX10_fill_0 rfl rfl ?_
  refine A_getR (r := 11) hG dX10_fill_1 fl_X10_9 (by decide) k10 (by decide) rfl ?_
  refine A_lconst (v := i2l 0) hG dX10_fill_4 (by decide) ?_
  refine C_Sv (as := [.ref 11, .long (i2l 0)]) (st := []) hG dX10_fill_5 ml_X10_15 mf_J7_fill_d0a16 ms_J7_fill_d0a16 (j_fill11 (hm h [] [] []) (i2l 0)) (by decide) (by decide) rfl rfl (Nat.le_of_ble_eq_true rfl) (fun g5 hp_5 => ?_)
  have hq_5 : ∃ fx : Int → Int64, (∀ j, 0 ≤ j → j < 2560 → fx j = (i2l 0)) ∧ g5 = hm (hm h [] [] []) [] [(11, fx)] [] := hp_5
  clear hp_5
  obtain ⟨f5, hf5, rfl⟩ := hq_5
  refine A_hm (la := []) (lb := [(11, f5)]) (lc := []) rfl rfl rfl ?_
  refine A_iconst (n := 0) hG dX10_fill_8 ?_
  refine A_istore_n (L' := [(3, vI 0), (0, .ref 10), (1, .ref gn), (2, .ref r)]) hG dX10_fill_9 rfl (by decide) rfl ?_
  have p_1 : ∀ fu : Nat, ∀ (p : Int) (f : Int → Int64), (0 ≤ p ∧ p ≤ n) → (∀ n' f', 1 ≤ n' → 0 ≤ f' → f' + n' ≤ n → ∀ k m, 0 ≤ k → k ≤ 9 → 0 ≤ m → m < 4 → f (40 * (8 * f' + n' - 1) + (4 * k + m)) = Int64.ofNat (if n' = 1 ∧ f' < p then cnt g w n' f' k m else 0)) → ((9 - p).toNat) < fu → G 10 [(0, .ref 10), (1, .ref gn), (2, .ref r), (3, vI p)] [] (hm h [] [(11, f)] []) := by
    intro fu
    induction fu with
    | zero => intro p f hp hI hfu; exact absurd hfu (Nat.not_lt_zero _)
    | succ fu ih_p =>
      intro p f hp hI hfu
      refine A_iload_n hG 3 dX10_fill_10 rfl rfl ?_
      refine A_aload_n hG 2 dX10_fill_11 rfl rfl ?_
      refine M_getI (z := 1) (v := n) hG dX10_fill_12 fl_X10_21 (by decide) (obk_row hr) rfl rfl hwr.1 (fun ⟨ra_12, rb_12⟩ => ?_)
      refine A_icmp_ge hG 46 dX10_fill_15 (by decide) (by constructor <;> omega) (by constructor <;> omega) (fun c_15 => ?_) (fun c_15 => ?_)
      ·
        have hF : ∀ n' f', 1 ≤ n' → 0 ≤ f' → f' + n' ≤ n → ∀ k m, 0 ≤ k → k ≤ 9 → 0 ≤ m → m < 4 → f (40 * (8 * f' + n' - 1) + (4 * k + m)) = Int64.ofNat (if n' = 1 then cnt g w n' f' k m else 0) := fun n' f' h1 h2 h3 k m k0 k1 m0 m1 => by
            rw [hI n' f' h1 h2 h3 k m k0 k1 m0 m1]
            by_cases c : n' = 1
            · rw [if_pos c, if_pos (by omega)]
            · rw [if_neg c, if_neg (by omega)]
        refine A_aload_n hG 0 dX10_fill_46 rfl rfl ?_
        refine A_aload_n hG 1 dX10_fill_47 rfl rfl ?_
        refine A_aload_n hG 2 dX10_fill_48 rfl rfl ?_
        refine M_getI (z := 1) (v := n) hG dX10_fill_49 fl_X10_21 (by decide) (obk_row hr) rfl rfl hwr.1 (fun ⟨ra_49, rb_49⟩ => ?_)
        refine C_Uv (as := [.ref gn, vI n]) (st := []) (k := 10) (c := 9) (owner := RX8) (x := ⟨RX10, yX8_joinAll.name, yX8_joinAll.desc⟩) (y := yX8_joinAll) hG dX10_fill_52 lw_X10_41 sm_X10_X8_joinAll de_X8_joinAll (by decide) rfl mf_X8_joinAll mi_X8_joinAll su_X10_X8_joinAll rfl (by decide) k10 (x_joinAll10 (hm h [] [(11, f)] []) hg (g := g) hgx hOk (N := n) (w := w) hn hF) (by decide) (by decide) rfl rfl (Nat.le_of_ble_eq_true rfl) (fun g52 hp_52 => ?_)
        have hq_52 : ∃ fx : Int → Int64, (∀ n' f', 1 ≤ n' → 0 ≤ f' → f' + n' ≤ n → ∀ k m, 0 ≤ k → k ≤ 9 → 0 ≤ m → m < 4 → fx (40 * (8 * f' + n' - 1) + (4 * k + m)) = Int64.ofNat (cnt g w n' f' k m)) ∧ g52 = hm (hm h [] [(11, f)] []) [] [(11, fx)] [] := hp_52
        clear hp_52
        obtain ⟨f52, hf52, rfl⟩ := hq_52
        refine A_hm (la := []) (lb := [(11, f52)]) (lc := []) rfl rfl rfl ?_
        exact Ret_v hM dX10_fill_55 (⟨f52, hf52, rfl⟩)
      ·
        have ho := hW.2 p (by omega) (by omega)
        have o := hOk.2.2.1 (w p) ho.1 ho.2
        refine A_aload_n hG 0 dX10_fill_18 rfl rfl ?_
        refine A_getR (r := 11) hG dX10_fill_19 fl_X10_9 (by decide) k10 (by decide) rfl ?_
        refine A_iload_n hG 3 dX10_fill_22 rfl rfl ?_
        refine A_iconst (n := 1) hG dX10_fill_23 ?_
        refine C_SUi (as := [vI p, vI 1]) (st := [.ref 11]) (owner := RX8) (x := ⟨RX10, yX8_span.name, yX8_span.desc⟩) hG dX10_fill_24 lw_X10_27 sm_X10_X8_span rfl (by decide) mf_X8_span ms_X8_span (x_span (hm h [] [(11, f)] []) (a := p) (b := 1) (by omega) (by omega)) (by decide) (by decide) rfl rfl (Nat.le_of_ble_eq_true rfl) (fun z24 g24 ri_24 hp_24 => ?_)
        obtain ⟨ra_24, rb_24⟩ := ri_24
        obtain ⟨rfl, rfl⟩ := hp_24
        refine A_aload_n hG 1 dX10_fill_27 rfl rfl ?_
        refine A_aload_n hG 2 dX10_fill_28 rfl rfl ?_
        refine A_getR (r := (r + 200)) hG dX10_fill_29 fl_X10_31 (by decide) (obk_row hr) (by decide) rfl ?_
        refine A_iload_n hG 3 dX10_fill_32 rfl rfl ?_
        refine M_iald (v := w p) hG dX10_fill_33 (obk_rw hr) (obn_rw hr) (by omega) (hwr.2 p (by omega) (by omega)) (fun ⟨ra_33, rb_33⟩ => ?_)
        refine C_Vi (as := [vI (w p)]) (st := [vI (40 * (8 * p + 1 - 1)), .ref 11]) (k := gn) (c := 1) hG dX10_fill_34 ml_X10_35 mf_X1_stateOf mi_X1_stateOf se_X1_stateOf rfl (by decide) (kg0 hg) (x_stateOf (hm h [] [(11, f)] []) hg (g := g) hgx hOk (v := w p) ho) (by decide) (by decide) rfl rfl (Nat.le_of_ble_eq_true rfl) (fun z34 g34 ri_34 hp_34 => ?_)
        obtain ⟨ra_34, rb_34⟩ := ri_34
        obtain ⟨rfl, rfl⟩ := hp_34
        refine A_iadd hG dX10_fill_37 ?_
        refine A_lconst (v := i2l 1) hG dX10_fill_38 (by decide) ?_
        refine M_last (ll' := [(11, up f ((40 * (8 * p + 1 - 1)) + (4 * g 0 (w p) + g 1 (w p))) (i2l 1))]) hG dX10_fill_39 k11 n11 (by omega) rfl ?_
        refine A_iinc (L' := [(3, vI (p + 1)), (0, .ref 10), (1, .ref gn), (2, .ref r)]) hG 3 dX10_fill_40 rfl (by decide) rfl ?_
        refine A_goto hG 10 dX10_fill_43 (by decide) ?_
        refine A_sub hG [1, 2, 3, 0] rfl ?_
        exact ih_p (p + 1) (up f ((40 * (8 * p + 1 - 1)) + (4 * g 0 (w p) + g 1 (w p))) (i2l 1)) (by omega) (fun n' f' h1 h2 h3 k m k0 k1 m0 m1 => by
            by_cases hq : n' = 1 ∧ f' = p
            · obtain ⟨rfl, rfl⟩ := hq
              rw [if_pos (by omega), cnt_1]
              by_cases hc : g 0 (w f') = k ∧ g 1 (w f') = m
              · obtain ⟨rfl, rfl⟩ := hc
                rw [if_pos ⟨rfl, rfl⟩, show 40 * (8 * f' + 1 - 1) + (4 * g 0 (w f') + g 1 (w f')) = 40 * (8 * f' + 1 - 1) + (4 * g 0 (w f') + g 1 (w f')) from rfl, up_eq]; decide
              · rw [if_neg hc, up_ne _ _ (by omega), hI 1 f' h1 h2 h3 k m k0 k1 m0 m1, if_neg (by omega)]
            · rw [up_ne _ _ (by omega), hI n' f' h1 h2 h3 k m k0 k1 m0 m1]
              by_cases c : n' = 1 ∧ f' < p
              · rw [if_pos c, if_pos (by omega)]
              · rw [if_neg c, if_neg (by omega)]) (by omega)
  refine A_sub hG [1, 2, 3, 0] rfl ?_
  exact p_1 _ 0 f5 (by omega) (fun n' f' h1 h2 h3 k m k0 k1 m0 m1 => by
      rw [if_neg (by omega)]; exact hf5 _ (by omega) (by omega)) (Nat.lt_succ_self _)

end
