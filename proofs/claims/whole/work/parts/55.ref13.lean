/-! the reference: fault, lay (printed by gen) -/
section
set_option maxHeartbeats 2000000 in
set_option maxRecDepth 20000 in
theorem r_fault (h : AH) (hlen : 0 ≤ h.1 500 0 ∧ h.1 500 0 ≤ 400) : AMet yX12_fault cX12_fault 1 (some .int) 4 93 [.ref 500] h (Qi (fun z h' => ∃ e nm f3 f4 f5 f6 f7 : Int → Int, ∃ (N : Nat) (g : Gm), (prs (h.1 502) (h.1 500 0) N 0 g00 z g ∧ (∀ q, q ≠ 15 → e q = h.1 500 q) ∧ (f3 0 = h.1 503 0 ∧ f5 0 = h.1 505 0) ∧ (∀ i, i < 64 → f4 i = h.1 504 i) ∧ (∀ i, i < 120 → f6 i = h.1 506 i) ∧ (∀ i, i < 5 → f7 i = h.1 507 i)) ∧ h' = hm h [(506, f6), (504, f4), (517, nm), (500, e), (507, f7), (505, f5), (503, f3)] [] [])) := by
  refine AMet.of (by decide) (Nat.le_of_ble_eq_true rfl) (fun G hM => ?_)
  have hG := hM.cx
  refine A_hm0 (G := G) (L := [(0, .ref 500)]) ?_
  refine A_aload_n hG 0 dX12_fault_0 rfl rfl ?_
  refine C_Vi (as := []) (st := []) (k := 500) (c := 11) hG dX12_fault_1 ml_X12_113 mf_X12_readAll mi_X12_readAll se_X12_readAll rfl (by decide) k500 (r_readAll (hm h [] [] []) hlen) (by decide) (by decide) rfl rfl (Nat.le_of_ble_eq_true rfl) (fun z1 g1 ri_1 hp_1 => ?_)
  obtain ⟨ra_1, rb_1⟩ := ri_1
  have hq_1 : ∃ e nm f3 f4 f5 f6 f7 : Int → Int, ∃ (N : Nat) (g : Gm), (prs (h.1 502) (h.1 500 0) N 0 g00 z1 g ∧ (z1 = -4 → okG g ∧ trC f3 f4 f5 f6 f7 g) ∧ (∀ q, q ≠ 15 → e q = h.1 500 q) ∧ (f3 0 = h.1 503 0 ∧ f5 0 = h.1 505 0) ∧ (∀ i, i < 64 → f4 i = h.1 504 i) ∧ (∀ i, i < 120 → f6 i = h.1 506 i) ∧ (∀ i, i < 5 → f7 i = h.1 507 i)) ∧ g1 = hm (hm h [] [] []) [(503, f3), (505, f5), (507, f7), (500, e), (517, nm), (504, f4), (506, f6)] [] [] := hp_1
  obtain ⟨e, nm, f3, f4, f5, f6, f7, N, g, ⟨hprs, htr, he, hu⟩, rfl⟩ := hq_1
  refine A_hm (la := [(506, f6), (504, f4), (517, nm), (500, e), (507, f7), (505, f5), (503, f3)]) (lb := []) (lc := []) rfl rfl rfl ?_
  exact Ret_i hM dX12_fault_4 (by constructor <;> omega) (⟨e, nm, f3, f4, f5, f6, f7, N, g, ⟨hprs, he, hu⟩, rfl⟩)

/-- the reference's laid grammar -/
def lyC (f3 f4 f5 f6 f7 : Int → Int) (g : Gm) : Prop := f3 0 = g 10 0 ∧ f5 0 = g 10 1 ∧ (∀ w, 0 ≤ w → w < g 10 0 → f4 (4 * w) = g 0 w ∧ f4 (4 * w + 1) = g 1 w ∧ f4 (4 * w + 2) = g 2 w ∧ f4 (4 * w + 3) = g 3 w) ∧
  (∀ r, 0 ≤ r → r < g 10 1 → f6 (5 * r) = g 4 r ∧ f6 (5 * r + 1) = g 5 r ∧ f6 (5 * r + 2) = g 6 r ∧ f6 (5 * r + 3) = g 7 r ∧ f6 (5 * r + 4) = g 8 r) ∧ (∀ c, 0 ≤ c → c < 5 → f7 c = g 9 c)
theorem lyC_of {f3 f4 f5 f6 f7 w3 w4 w5 w6 w7 : Int → Int} {g : Gm} (h : trC f3 f4 f5 f6 f7 g) (hG : okG g) (h3 : w3 0 = f3 1) (h5 : w5 0 = f5 1) (h4 : ∀ i, 0 ≤ i → i < 64 → w4 i = f4 (64 + i)) (h6 : ∀ i, 0 ≤ i → i < 120 → w6 i = f6 (120 + i)) (h7 : ∀ i, 0 ≤ i → i < 5 → w7 i = f7 (5 + i)) : lyC w3 w4 w5 w6 w7 g := by
  obtain ⟨c1, c2, c3, c4, c5⟩ := h
  have n1 := hG.1
  have n2 := hG.2.1
  refine ⟨h3.trans c1, h5.trans c2, fun w w1 w2 => ?_, fun w w1 w2 => ?_, fun c d1 d2 => (h7 c d1 d2).trans (c5 c d1 d2)⟩
  · obtain ⟨a0, a1, a2, a3⟩ := c3 w w1 w2
    rw [h4 _ (by omega) (by omega), h4 _ (by omega) (by omega), h4 _ (by omega) (by omega), h4 _ (by omega) (by omega)]
    simp only [← Int.add_assoc]
    exact ⟨a0, a1, a2, a3⟩
  · obtain ⟨a0, a1, a2, a3, a4⟩ := c4 w w1 w2
    rw [h6 _ (by omega) (by omega), h6 _ (by omega) (by omega), h6 _ (by omega) (by omega), h6 _ (by omega) (by omega), h6 _ (by omega) (by omega)]
    simp only [← Int.add_assoc]
    exact ⟨a0, a1, a2, a3, a4⟩
set_option maxHeartbeats 2000000 in
set_option maxRecDepth 20000 in
theorem r_lay (h : AH) (hlen : 0 ≤ h.1 500 0 ∧ h.1 500 0 ≤ 400) : AMet yX12_lay cX12_lay 2 (some .int) 4 93 [.ref 500] h (Qi (fun z h' => (∃ e nm f3 f4 f5 f6 f7 : Int → Int, ∃ (N : Nat) (g : Gm) (zf : Int), (z = -2 ∧ zf ≠ -4 ∧ prs (h.1 502) (h.1 500 0) N 0 g00 zf g ∧ (∀ q, q ≠ 15 → e q = h.1 500 q) ∧ (f3 0 = h.1 503 0 ∧ f5 0 = h.1 505 0) ∧ (∀ i, i < 64 → f4 i = h.1 504 i) ∧ (∀ i, i < 120 → f6 i = h.1 506 i) ∧ (∀ i, i < 5 → f7 i = h.1 507 i)) ∧ h' = hm h [(506, f6), (504, f4), (517, nm), (500, e), (507, f7), (505, f5), (503, f3)] [] []) ∨ (∃ w6 w4 nm e w7 w5 w3 l8 q8 : Int → Int, ∃ (N : Nat) (g : Gm), (z = g 10 0 ∧ prs (h.1 502) (h.1 500 0) N 0 g00 (-4) g ∧ okG g ∧ lyC w3 w4 w5 w6 w7 g ∧ (e 10 = 0 ∧ e 13 = 0 ∧ ∀ q, q ≠ 15 → q ≠ 10 → q ≠ 13 → e q = h.1 500 q) ∧ (∀ j, 0 ≤ j → j < 8 → l8 j = 0 ∧ q8 j = 0) ∧ (∀ j, 8 ≤ j → l8 j = h.1 508 j ∧ q8 j = h.1 510 j)) ∧ h' = hm h [(506, w6), (504, w4), (517, nm), (500, e), (507, w7), (505, w5), (503, w3), (508, l8), (510, q8)] [] []))) := by
  refine AMet.of (by decide) (Nat.le_of_ble_eq_true rfl) (fun G hM => ?_)
  have hG := hM.cx
  refine A_hm0 (G := G) (L := [(0, .ref 500)]) ?_
  refine A_aload_n hG 0 dX12_lay_0 rfl rfl ?_
  refine C_Vi (as := []) (st := []) (k := 500) (c := 11) hG dX12_lay_1 ml_X12_113 mf_X12_readAll mi_X12_readAll se_X12_readAll rfl (by decide) k500 (r_readAll (hm h [] [] []) hlen) (by decide) (by decide) rfl rfl (Nat.le_of_ble_eq_true rfl) (fun z1 g1 ri_1 hp_1 => ?_)
  obtain ⟨ra_1, rb_1⟩ := ri_1
  have hq_1 : ∃ e nm f3 f4 f5 f6 f7 : Int → Int, ∃ (N : Nat) (g : Gm), (prs (h.1 502) (h.1 500 0) N 0 g00 z1 g ∧ (z1 = -4 → okG g ∧ trC f3 f4 f5 f6 f7 g) ∧ (∀ q, q ≠ 15 → e q = h.1 500 q) ∧ (f3 0 = h.1 503 0 ∧ f5 0 = h.1 505 0) ∧ (∀ i, i < 64 → f4 i = h.1 504 i) ∧ (∀ i, i < 120 → f6 i = h.1 506 i) ∧ (∀ i, i < 5 → f7 i = h.1 507 i)) ∧ g1 = hm (hm h [] [] []) [(503, f3), (505, f5), (507, f7), (500, e), (517, nm), (504, f4), (506, f6)] [] [] := hp_1
  obtain ⟨e, nm, f3, f4, f5, f6, f7, N, g, ⟨hprs, htr, he, hu⟩, rfl⟩ := hq_1
  refine A_hm (la := [(506, f6), (504, f4), (517, nm), (500, e), (507, f7), (505, f5), (503, f3)]) (lb := []) (lc := []) rfl rfl rfl ?_
  refine A_bipush (n := -4) hG dX12_lay_4 (by decide) ?_
  refine A_icmp_eq hG 12 dX12_lay_6 (by decide) (by constructor <;> omega) (by constructor <;> omega) (fun c_6 => ?_) (fun c_6 => ?_)
  ·
    obtain ⟨hOk, htr⟩ := htr c_6
    refine A_aload_n hG 0 dX12_lay_12 rfl rfl ?_
    refine A_getR (r := 503) hG dX12_lay_13 fl_X12_13 (by decide) k500 (by decide) rfl ?_
    refine A_iconst (n := 0) hG dX12_lay_16 ?_
    refine A_aload_n hG 0 dX12_lay_17 rfl rfl ?_
    refine A_getR (r := 503) hG dX12_lay_18 fl_X12_13 (by decide) k500 (by decide) rfl ?_
    refine A_iconst (n := 1) hG dX12_lay_21 ?_
    refine M_iald (v := f3 1) hG dX12_lay_22 k503 n503 (by omega) rfl (fun ⟨ra_22, rb_22⟩ => ?_)
    refine M_iast (li' := [(506, f6), (504, f4), (517, nm), (500, e), (507, f7), (505, f5), (503, up f3 0 (f3 1))]) hG dX12_lay_23 k503 n503 (by omega) (by constructor <;> omega) rfl ?_
    refine A_aload_n hG 0 dX12_lay_24 rfl rfl ?_
    refine A_getR (r := 505) hG dX12_lay_25 fl_X12_19 (by decide) k500 (by decide) rfl ?_
    refine A_iconst (n := 0) hG dX12_lay_28 ?_
    refine A_aload_n hG 0 dX12_lay_29 rfl rfl ?_
    refine A_getR (r := 505) hG dX12_lay_30 fl_X12_19 (by decide) k500 (by decide) rfl ?_
    refine A_iconst (n := 1) hG dX12_lay_33 ?_
    refine M_iald (v := f5 1) hG dX12_lay_34 k505 n505 (by omega) rfl (fun ⟨ra_34, rb_34⟩ => ?_)
    refine M_iast (li' := [(506, f6), (504, f4), (517, nm), (500, e), (507, f7), (505, up f5 0 (f5 1)), (503, up f3 0 (f3 1))]) hG dX12_lay_35 k505 n505 (by omega) (by constructor <;> omega) rfl ?_
    refine A_iconst (n := 0) hG dX12_lay_36 ?_
    refine A_istore_n (L' := [(1, vI 0), (0, .ref 500)]) hG dX12_lay_37 rfl (by decide) rfl ?_
    have a_1 : ∀ fu : Nat, ∀ (i : Int) (w4 : Int → Int), (0 ≤ i ∧ i ≤ 64) → (∀ j, 0 ≤ j → j < i → w4 j = f4 (64 + j)) → (∀ j, 64 ≤ j → w4 j = f4 j) → ((64 - i).toNat) < fu → G 38 [(0, .ref 500), (1, vI i)] [] (hm h [(506, f6), (504, w4), (517, nm), (500, e), (507, f7), (505, up f5 0 (f5 1)), (503, up f3 0 (f3 1))] [] []) := by
      intro fu
      induction fu with
      | zero => intro i w4 hi ha1 ha2 hfu; exact absurd hfu (Nat.not_lt_zero _)
      | succ fu ih_a =>
        intro i w4 hi ha1 ha2 hfu
        refine A_iload_n hG 1 dX12_lay_38 rfl rfl ?_
        refine A_bipush (n := 64) hG dX12_lay_39 (by decide) ?_
        refine A_icmp_ge hG 65 dX12_lay_41 (by decide) (by constructor <;> omega) (by constructor <;> omega) (fun c_41 => ?_) (fun c_41 => ?_)
        ·
          refine A_iconst (n := 0) hG dX12_lay_65 ?_
          refine A_istore_n (L' := [(1, vI 0), (0, .ref 500)]) hG dX12_lay_66 rfl (by decide) rfl ?_
          have b_2 : ∀ fu : Nat, ∀ (i : Int) (w6 : Int → Int), (0 ≤ i ∧ i ≤ 120) → (∀ j, 0 ≤ j → j < i → w6 j = f6 (120 + j)) → (∀ j, 120 ≤ j → w6 j = f6 j) → ((120 - i).toNat) < fu → G 67 [(0, .ref 500), (1, vI i)] [] (hm h [(506, w6), (504, w4), (517, nm), (500, e), (507, f7), (505, up f5 0 (f5 1)), (503, up f3 0 (f3 1))] [] []) := by
            intro fu
            induction fu with
            | zero => intro i w6 hi hb1 hb2 hfu; exact absurd hfu (Nat.not_lt_zero _)
            | succ fu ih_b =>
              intro i w6 hi hb1 hb2 hfu
              refine A_iload_n hG 1 dX12_lay_67 rfl rfl ?_
              refine A_bipush (n := 120) hG dX12_lay_68 (by decide) ?_
              refine A_icmp_ge hG 94 dX12_lay_70 (by decide) (by constructor <;> omega) (by constructor <;> omega) (fun c_70 => ?_) (fun c_70 => ?_)
              ·
                refine A_iconst (n := 0) hG dX12_lay_94 ?_
                refine A_istore_n (L' := [(1, vI 0), (0, .ref 500)]) hG dX12_lay_95 rfl (by decide) rfl ?_
                have c_3 : ∀ fu : Nat, ∀ (i : Int) (w7 : Int → Int), (0 ≤ i ∧ i ≤ 5) → (∀ j, 0 ≤ j → j < i → w7 j = f7 (5 + j)) → (∀ j, 5 ≤ j → w7 j = f7 j) → ((5 - i).toNat) < fu → G 96 [(0, .ref 500), (1, vI i)] [] (hm h [(506, w6), (504, w4), (517, nm), (500, e), (507, w7), (505, up f5 0 (f5 1)), (503, up f3 0 (f3 1))] [] []) := by
                  intro fu
                  induction fu with
                  | zero => intro i w7 hi hc1 hc2 hfu; exact absurd hfu (Nat.not_lt_zero _)
                  | succ fu ih_c =>
                    intro i w7 hi hc1 hc2 hfu
                    refine A_iload_n hG 1 dX12_lay_96 rfl rfl ?_
                    refine A_iconst (n := 5) hG dX12_lay_97 ?_
                    refine A_icmp_ge hG 121 dX12_lay_98 (by decide) (by constructor <;> omega) (by constructor <;> omega) (fun c_98 => ?_) (fun c_98 => ?_)
                    ·
                      refine A_iconst (n := 0) hG dX12_lay_121 ?_
                      refine A_istore_n (L' := [(1, vI 0), (0, .ref 500)]) hG dX12_lay_122 rfl (by decide) rfl ?_
                      refine A_insI 508 (li' := [(506, w6), (504, w4), (517, nm), (500, e), (507, w7), (505, up f5 0 (f5 1)), (503, up f3 0 (f3 1)), (508, h.1 508)]) rfl ?_
                      refine A_insI 510 (li' := [(506, w6), (504, w4), (517, nm), (500, e), (507, w7), (505, up f5 0 (f5 1)), (503, up f3 0 (f3 1)), (508, h.1 508), (510, h.1 510)]) rfl ?_
                      have s_4 : ∀ fu : Nat, ∀ (i : Int) (l8 : Int → Int) (q8 : Int → Int), (0 ≤ i ∧ i ≤ 8) → (∀ j, 0 ≤ j → j < i → l8 j = 0) → (∀ j, 0 ≤ j → j < i → q8 j = 0) → (∀ j, 8 ≤ j → l8 j = h.1 508 j ∧ q8 j = h.1 510 j) → ((8 - i).toNat) < fu → G 123 [(0, .ref 500), (1, vI i)] [] (hm h [(506, w6), (504, w4), (517, nm), (500, e), (507, w7), (505, up f5 0 (f5 1)), (503, up f3 0 (f3 1)), (508, l8), (510, q8)] [] []) := by
                        intro fu
                        induction fu with
                        | zero => intro i l8 q8 hi hl8 hq8 hx8 hfu; exact absurd hfu (Nat.not_lt_zero _)
                        | succ fu ih_s =>
                          intro i l8 q8 hi hl8 hq8 hx8 hfu
                          refine A_iload_n hG 1 dX12_lay_123 rfl rfl ?_
                          refine A_bipush (n := 8) hG dX12_lay_124 (by decide) ?_
                          refine A_icmp_ge hG 149 dX12_lay_126 (by decide) (by constructor <;> omega) (by constructor <;> omega) (fun c_126 => ?_) (fun c_126 => ?_)
                          ·
                            refine A_aload_n hG 0 dX12_lay_149 rfl rfl ?_
                            refine A_iconst (n := 0) hG dX12_lay_150 ?_
                            refine M_putI (z := 10) (li' := [(506, w6), (504, w4), (517, nm), (500, up e 10 0), (507, w7), (505, up f5 0 (f5 1)), (503, up f3 0 (f3 1)), (508, l8), (510, q8)]) hG dX12_lay_151 fl_X12_117 (by decide) k500 nf_11_10 rfl rfl (by constructor <;> omega) (Or.inl rfl) rfl ?_
                            refine A_aload_n hG 0 dX12_lay_154 rfl rfl ?_
                            refine A_iconst (n := 0) hG dX12_lay_155 ?_
                            refine M_putI (z := 13) (li' := [(506, w6), (504, w4), (517, nm), (500, up (up e 10 0) 13 0), (507, w7), (505, up f5 0 (f5 1)), (503, up f3 0 (f3 1)), (508, l8), (510, q8)]) hG dX12_lay_156 fl_X12_120 (by decide) k500 nf_11_13 rfl rfl (by constructor <;> omega) (Or.inl rfl) rfl ?_
                            refine A_aload_n hG 0 dX12_lay_159 rfl rfl ?_
                            refine A_getR (r := 503) hG dX12_lay_160 fl_X12_13 (by decide) k500 (by decide) rfl ?_
                            refine A_iconst (n := 0) hG dX12_lay_163 ?_
                            refine M_iald (v := f3 1) hG dX12_lay_164 k503 n503 (by omega) (up_eq f3 0 (f3 1)) (fun ⟨ra_164, rb_164⟩ => ?_)
                            exact Ret_i hM dX12_lay_165 (by have := hOk.1; rw [← htr.1] at this; constructor <;> omega) (by
                                have hly := lyC_of (w3 := up f3 0 (f3 1)) (w5 := up f5 0 (f5 1)) htr hOk (up_eq _ _ _) (up_eq _ _ _) (fun j j1 j2 => ha1 j j1 (by omega)) (fun j j1 j2 => hb1 j j1 (by omega)) (fun j j1 j2 => hc1 j j1 (by omega))
                                rw [c_6] at hprs
                                refine Or.inr ⟨_, _, _, _, _, _, _, _, _, N, g, ⟨?_, hprs, hOk, hly, ⟨?_, up_eq _ _ _, fun q q1 q2 q3 => ?_⟩, fun j j1 j2 => ⟨hl8 j j1 (by omega), hq8 j j1 (by omega)⟩, hx8⟩, rfl⟩
                                · exact htr.1
                                · rw [up_ne _ _ (by decide), up_eq]
                                · rw [up_ne _ _ q3, up_ne _ _ q2]; exact he q q1)
                          ·
                            refine A_aload_n hG 0 dX12_lay_129 rfl rfl ?_
                            refine A_getR (r := 508) hG dX12_lay_130 fl_X12_28 (by decide) k500 (by decide) rfl ?_
                            refine A_iload_n hG 1 dX12_lay_133 rfl rfl ?_
                            refine A_iconst (n := 0) hG dX12_lay_134 ?_
                            refine M_iast (li' := [(506, w6), (504, w4), (517, nm), (500, e), (507, w7), (505, up f5 0 (f5 1)), (503, up f3 0 (f3 1)), (508, up l8 i 0), (510, q8)]) hG dX12_lay_135 k508 n508 (by omega) (by constructor <;> omega) rfl ?_
                            refine A_aload_n hG 0 dX12_lay_136 rfl rfl ?_
                            refine A_getR (r := 510) hG dX12_lay_137 fl_X12_34 (by decide) k500 (by decide) rfl ?_
                            refine A_iload_n hG 1 dX12_lay_140 rfl rfl ?_
                            refine A_iconst (n := 0) hG dX12_lay_141 ?_
                            refine M_iast (li' := [(506, w6), (504, w4), (517, nm), (500, e), (507, w7), (505, up f5 0 (f5 1)), (503, up f3 0 (f3 1)), (508, up l8 i 0), (510, up q8 i 0)]) hG dX12_lay_142 k510 n510 (by omega) (by constructor <;> omega) rfl ?_
                            refine A_iinc (L' := [(1, vI (i + 1)), (0, .ref 500)]) hG 1 dX12_lay_143 rfl (by decide) rfl ?_
                            refine A_goto hG 123 dX12_lay_146 (by decide) ?_
                            refine A_sub hG [1, 0] rfl ?_
                            exact ih_s (i + 1) (up l8 i 0) (up q8 i 0) (by omega) (fun j j1 j2 => by
                                by_cases hq : j = i
                                · rw [hq, up_eq]
                                · rw [up_ne _ _ hq]; exact hl8 j j1 (by omega)) (fun j j1 j2 => by
                                by_cases hq : j = i
                                · rw [hq, up_eq]
                                · rw [up_ne _ _ hq]; exact hq8 j j1 (by omega)) (fun j hj => by rw [up_ne _ _ (by omega), up_ne _ _ (by omega)]; exact hx8 j hj) (by omega)
                      refine A_sub hG [1, 0] rfl ?_
                      exact s_4 _ 0 (h.1 508) (h.1 510) (by omega) (fun j j1 j2 => by omega) (fun j j1 j2 => by omega) (fun j hj => ⟨rfl, rfl⟩) (Nat.lt_succ_self _)
                    ·
                      refine A_aload_n hG 0 dX12_lay_101 rfl rfl ?_
                      refine A_getR (r := 507) hG dX12_lay_102 fl_X12_25 (by decide) k500 (by decide) rfl ?_
                      refine A_iload_n hG 1 dX12_lay_105 rfl rfl ?_
                      refine A_aload_n hG 0 dX12_lay_106 rfl rfl ?_
                      refine A_getR (r := 507) hG dX12_lay_107 fl_X12_25 (by decide) k500 (by decide) rfl ?_
                      refine A_iconst (n := 5) hG dX12_lay_110 ?_
                      refine A_iload_n hG 1 dX12_lay_111 rfl rfl ?_
                      refine A_iadd hG dX12_lay_112 ?_
                      refine M_iald (v := w7 (5 + i)) hG dX12_lay_113 k507 n507 (by omega) rfl (fun ⟨ra_113, rb_113⟩ => ?_)
                      refine M_iast (li' := [(506, w6), (504, w4), (517, nm), (500, e), (507, up w7 i (w7 (5 + i))), (505, up f5 0 (f5 1)), (503, up f3 0 (f3 1))]) hG dX12_lay_114 k507 n507 (by omega) (by constructor <;> omega) rfl ?_
                      refine A_iinc (L' := [(1, vI (i + 1)), (0, .ref 500)]) hG 1 dX12_lay_115 rfl (by decide) rfl ?_
                      refine A_goto hG 96 dX12_lay_118 (by decide) ?_
                      refine A_sub hG [1, 0] rfl ?_
                      exact ih_c (i + 1) (up w7 i (w7 (5 + i))) (by omega) (fun j j1 j2 => by
                          by_cases hq : j = i
                          · subst hq; rw [up_eq]; exact hc2 _ (by omega)
                          · rw [up_ne _ _ hq]; exact hc1 j j1 (by omega)) (fun j hj => by rw [up_ne _ _ (by omega)]; exact hc2 j hj) (by omega)
                refine A_sub hG [1, 0] rfl ?_
                exact c_3 _ 0 f7 (by omega) (fun j j1 j2 => by omega) (fun _ _ => rfl) (Nat.lt_succ_self _)
              ·
                refine A_aload_n hG 0 dX12_lay_73 rfl rfl ?_
                refine A_getR (r := 506) hG dX12_lay_74 fl_X12_22 (by decide) k500 (by decide) rfl ?_
                refine A_iload_n hG 1 dX12_lay_77 rfl rfl ?_
                refine A_aload_n hG 0 dX12_lay_78 rfl rfl ?_
                refine A_getR (r := 506) hG dX12_lay_79 fl_X12_22 (by decide) k500 (by decide) rfl ?_
                refine A_bipush (n := 120) hG dX12_lay_82 (by decide) ?_
                refine A_iload_n hG 1 dX12_lay_84 rfl rfl ?_
                refine A_iadd hG dX12_lay_85 ?_
                refine M_iald (v := w6 (120 + i)) hG dX12_lay_86 k506 n506 (by omega) rfl (fun ⟨ra_86, rb_86⟩ => ?_)
                refine M_iast (li' := [(506, up w6 i (w6 (120 + i))), (504, w4), (517, nm), (500, e), (507, f7), (505, up f5 0 (f5 1)), (503, up f3 0 (f3 1))]) hG dX12_lay_87 k506 n506 (by omega) (by constructor <;> omega) rfl ?_
                refine A_iinc (L' := [(1, vI (i + 1)), (0, .ref 500)]) hG 1 dX12_lay_88 rfl (by decide) rfl ?_
                refine A_goto hG 67 dX12_lay_91 (by decide) ?_
                refine A_sub hG [1, 0] rfl ?_
                exact ih_b (i + 1) (up w6 i (w6 (120 + i))) (by omega) (fun j j1 j2 => by
                    by_cases hq : j = i
                    · subst hq; rw [up_eq]; exact hb2 _ (by omega)
                    · rw [up_ne _ _ hq]; exact hb1 j j1 (by omega)) (fun j hj => by rw [up_ne _ _ (by omega)]; exact hb2 j hj) (by omega)
          refine A_sub hG [1, 0] rfl ?_
          exact b_2 _ 0 f6 (by omega) (fun j j1 j2 => by omega) (fun _ _ => rfl) (Nat.lt_succ_self _)
        ·
          refine A_aload_n hG 0 dX12_lay_44 rfl rfl ?_
          refine A_getR (r := 504) hG dX12_lay_45 fl_X12_16 (by decide) k500 (by decide) rfl ?_
          refine A_iload_n hG 1 dX12_lay_48 rfl rfl ?_
          refine A_aload_n hG 0 dX12_lay_49 rfl rfl ?_
          refine A_getR (r := 504) hG dX12_lay_50 fl_X12_16 (by decide) k500 (by decide) rfl ?_
          refine A_bipush (n := 64) hG dX12_lay_53 (by decide) ?_
          refine A_iload_n hG 1 dX12_lay_55 rfl rfl ?_
          refine A_iadd hG dX12_lay_56 ?_
          refine M_iald (v := w4 (64 + i)) hG dX12_lay_57 k504 n504 (by omega) rfl (fun ⟨ra_57, rb_57⟩ => ?_)
          refine M_iast (li' := [(506, f6), (504, up w4 i (w4 (64 + i))), (517, nm), (500, e), (507, f7), (505, up f5 0 (f5 1)), (503, up f3 0 (f3 1))]) hG dX12_lay_58 k504 n504 (by omega) (by constructor <;> omega) rfl ?_
          refine A_iinc (L' := [(1, vI (i + 1)), (0, .ref 500)]) hG 1 dX12_lay_59 rfl (by decide) rfl ?_
          refine A_goto hG 38 dX12_lay_62 (by decide) ?_
          refine A_sub hG [1, 0] rfl ?_
          exact ih_a (i + 1) (up w4 i (w4 (64 + i))) (by omega) (fun j j1 j2 => by
              by_cases hq : j = i
              · subst hq; rw [up_eq]; exact ha2 _ (by omega)
              · rw [up_ne _ _ hq]; exact ha1 j j1 (by omega)) (fun j hj => by rw [up_ne _ _ (by omega)]; exact ha2 j hj) (by omega)
    refine A_sub hG [1, 0] rfl ?_
    exact a_1 _ 0 f4 (by omega) (fun j j1 j2 => by omega) (fun _ _ => rfl) (Nat.lt_succ_self _)
  ·
    refine A_bipush (n := -2) hG dX12_lay_9 (by decide) ?_
    exact Ret_i hM dX12_lay_11 (by constructor <;> omega) (Or.inl ⟨e, nm, f3, f4, f5, f6, f7, N, g, _, ⟨rfl, c_6, hprs, he, hu⟩, rfl⟩)

end
