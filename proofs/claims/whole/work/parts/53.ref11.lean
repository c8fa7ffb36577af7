/-! the reference: ITEMS (printed by gen) -/
section
set_option maxHeartbeats 2000000 in
set_option maxRecDepth 20000 in
theorem r_noPrices (h : AH) {b : Int} (hb : 0 ≤ b ∧ b ≤ 1) : AMet yX12_noPrices cX12_noPrices 2 none 0 0 [.ref 500, vI b] h (Qv (fun h' => ∃ f : Int → Int, ((∀ c, 0 ≤ c → c < 5 → f (5 * b + c) = tb 600 c) ∧ ∀ i, (i < 5 * b ∨ 5 * b + 5 ≤ i) → f i = h.1 507 i) ∧ h' = hm h [(507, f)] [] [])) := by
  refine AMet.of (by decide) (Nat.le_of_ble_eq_true rfl) (fun G hM => ?_)
  have hG := hM.cx
  refine A_hm0 (G := G) (L := [(0, .ref 500), (1, vI b)]) ?_
  refine A_aload_n hG 0 dX12_noPrices_0 rfl rfl ?_
  refine A_getR (r := 507) hG dX12_noPrices_1 fl_X12_25 (by decide) k500 (by decide) rfl ?_
  refine A_iconst (n := 5) hG dX12_noPrices_4 ?_
  refine A_iload_n hG 1 dX12_noPrices_5 rfl rfl ?_
  refine A_imul hG dX12_noPrices_6 ?_
  refine A_iconst (n := 3) hG dX12_noPrices_7 ?_
  refine M_iast (li' := [(507, up (h.1 507) (5 * b) 3)]) hG dX12_noPrices_8 k507 n507 (by omega) (by constructor <;> omega) rfl ?_
  refine A_aload_n hG 0 dX12_noPrices_9 rfl rfl ?_
  refine A_getR (r := 507) hG dX12_noPrices_10 fl_X12_25 (by decide) k500 (by decide) rfl ?_
  refine A_iconst (n := 5) hG dX12_noPrices_13 ?_
  refine A_iload_n hG 1 dX12_noPrices_14 rfl rfl ?_
  refine A_imul hG dX12_noPrices_15 ?_
  refine A_iconst (n := 1) hG dX12_noPrices_16 ?_
  refine A_iadd hG dX12_noPrices_17 ?_
  refine A_iconst (n := 4) hG dX12_noPrices_18 ?_
  refine M_iast (li' := [(507, up (up (h.1 507) (5 * b) 3) ((5 * b) + 1) 4)]) hG dX12_noPrices_19 k507 n507 (by omega) (by constructor <;> omega) rfl ?_
  refine A_aload_n hG 0 dX12_noPrices_20 rfl rfl ?_
  refine A_getR (r := 507) hG dX12_noPrices_21 fl_X12_25 (by decide) k500 (by decide) rfl ?_
  refine A_iconst (n := 5) hG dX12_noPrices_24 ?_
  refine A_iload_n hG 1 dX12_noPrices_25 rfl rfl ?_
  refine A_imul hG dX12_noPrices_26 ?_
  refine A_iconst (n := 2) hG dX12_noPrices_27 ?_
  refine A_iadd hG dX12_noPrices_28 ?_
  refine A_bipush (n := 6) hG dX12_noPrices_29 (by decide) ?_
  refine M_iast (li' := [(507, up (up (up (h.1 507) (5 * b) 3) ((5 * b) + 1) 4) ((5 * b) + 2) 6)]) hG dX12_noPrices_31 k507 n507 (by omega) (by constructor <;> omega) rfl ?_
  refine A_aload_n hG 0 dX12_noPrices_32 rfl rfl ?_
  refine A_getR (r := 507) hG dX12_noPrices_33 fl_X12_25 (by decide) k500 (by decide) rfl ?_
  refine A_iconst (n := 5) hG dX12_noPrices_36 ?_
  refine A_iload_n hG 1 dX12_noPrices_37 rfl rfl ?_
  refine A_imul hG dX12_noPrices_38 ?_
  refine A_iconst (n := 3) hG dX12_noPrices_39 ?_
  refine A_iadd hG dX12_noPrices_40 ?_
  refine A_iconst (n := 5) hG dX12_noPrices_41 ?_
  refine M_iast (li' := [(507, up (up (up (up (h.1 507) (5 * b) 3) ((5 * b) + 1) 4) ((5 * b) + 2) 6) ((5 * b) + 3) 5)]) hG dX12_noPrices_42 k507 n507 (by omega) (by constructor <;> omega) rfl ?_
  refine A_aload_n hG 0 dX12_noPrices_43 rfl rfl ?_
  refine A_getR (r := 507) hG dX12_noPrices_44 fl_X12_25 (by decide) k500 (by decide) rfl ?_
  refine A_iconst (n := 5) hG dX12_noPrices_47 ?_
  refine A_iload_n hG 1 dX12_noPrices_48 rfl rfl ?_
  refine A_imul hG dX12_noPrices_49 ?_
  refine A_iconst (n := 4) hG dX12_noPrices_50 ?_
  refine A_iadd hG dX12_noPrices_51 ?_
  refine A_iconst (n := 5) hG dX12_noPrices_52 ?_
  refine M_iast (li' := [(507, up (up (up (up (up (h.1 507) (5 * b) 3) ((5 * b) + 1) 4) ((5 * b) + 2) 6) ((5 * b) + 3) 5) ((5 * b) + 4) 5)]) hG dX12_noPrices_53 k507 n507 (by omega) (by constructor <;> omega) rfl ?_
  exact Ret_v hM dX12_noPrices_54 (⟨_, ⟨fun c c1 c2 => by
      rcases (show c = 0 ∨ c = 1 ∨ c = 2 ∨ c = 3 ∨ c = 4 by omega) with rfl | rfl | rfl | rfl | rfl <;> (try simp only [Int.add_zero]) <;> (repeat first | (rw [up_eq]; decide) | rw [up_ne _ _ (by omega)]), fun i hi => by repeat rw [up_ne _ _ (by omega)]⟩, rfl⟩)

set_option maxHeartbeats 2000000 in
set_option maxRecDepth 20000 in
theorem r_wordItem (h : AH) {p : Int} (hlen : 0 ≤ h.1 500 0 ∧ h.1 500 0 ≤ 400) (hp : 0 ≤ p ∧ p ≤ h.1 500 0) (hat : h.1 500 15 = p) (hn : 0 ≤ h.1 503 1 ∧ h.1 503 1 ≤ 16) : AMet yX12_wordItem cX12_wordItem 2 (some .boolean) 2 49 [.ref 500] h (Qi (fun z h' => ∃ nm e f4 f3 : Int → Int, ((∀ q, q ≠ 15 → e q = h.1 500 q) ∧ ((z = 1 ∧ Wok (h.1 502) (h.1 500 0) p (h.1 503 1) ∧ e 15 = np (h.1 502) (h.1 500 0) p 4 ∧ f3 1 = h.1 503 1 + 1 ∧ f3 0 = h.1 503 0 ∧ (∀ i : Nat, i < 4 → f4 (64 + 4 * h.1 503 1 + i) = nv (h.1 502) (h.1 500 0) (np (h.1 502) (h.1 500 0) p i)) ∧ ∀ i, i < 64 + 4 * h.1 503 1 → f4 i = h.1 504 i) ∨ (z = 0 ∧ ¬ Wok (h.1 502) (h.1 500 0) p (h.1 503 1) ∧ f3 0 = h.1 503 0 ∧ ∀ i, i < 64 → f4 i = h.1 504 i))) ∧ h' = hm h [(500, e), (517, nm), (504, f4), (503, f3)] [] [])) := by
  refine AMet.of (by decide) (Nat.le_of_ble_eq_true rfl) (fun G hM => ?_)
  have hG := hM.cx
  refine A_hm0 (G := G) (L := [(0, .ref 500)]) ?_
  refine A_aload_n hG 0 dX12_wordItem_0 rfl rfl ?_
  refine A_iconst (n := 4) hG dX12_wordItem_1 ?_
  refine C_Vi (as := [vI 4]) (st := []) (k := 500) (c := 11) hG dX12_wordItem_2 ml_X12_99 mf_X12_figures mi_X12_figures se_X12_figures rfl (by decide) k500 (r_figures (hm h [] [] []) (p := p) (m := 4) (by omega) hlen hp hat) (by decide) (by decide) rfl rfl (Nat.le_of_ble_eq_true rfl) (fun z2 g2 ri_2 hp_2 => ?_)
  obtain ⟨ra_2, rb_2⟩ := ri_2
  have hq_2 : ∃ nmx ex : Int → Int, ((∀ q, q ≠ 15 → ex q = h.1 500 q) ∧ ((z2 = 1 ∧ okS (h.1 502) (h.1 500 0) p 4 ∧ ex 15 = np (h.1 502) (h.1 500 0) p 4 ∧ ∀ i : Nat, i < 4 → nmx (i : Int) = nv (h.1 502) (h.1 500 0) (np (h.1 502) (h.1 500 0) p i)) ∨ (z2 = 0 ∧ ¬ okS (h.1 502) (h.1 500 0) p 4))) ∧ g2 = hm (hm h [] [] []) [(517, nmx), (500, ex)] [] [] := hp_2
  obtain ⟨nm, e, ⟨he, hz2⟩, rfl⟩ := hq_2
  refine A_hm (la := [(500, e), (517, nm)]) (lb := []) (lc := []) rfl rfl rfl ?_
  refine A_if_eq hG 62 dX12_wordItem_5 (by decide) (by constructor <;> omega) (fun c_5 => ?_) (fun c_5 => ?_)
  ·
    have hno := (hz2.resolve_left (fun q => by omega)).2
    refine A_insI 504 (li' := [(500, e), (517, nm), (504, h.1 504)]) rfl ?_
    refine A_insI 503 (li' := [(500, e), (517, nm), (504, h.1 504), (503, h.1 503)]) rfl ?_
    refine A_iconst (n := 0) hG dX12_wordItem_62 ?_
    exact Ret_z hM dX12_wordItem_63 (by omega) (⟨nm, e, h.1 504, h.1 503, ⟨he, Or.inr ⟨rfl, fun q => by first | exact hno q.1 | (obtain ⟨q0, q1, q2, q3, q4, q5⟩ := q; omega), rfl, fun _ _ => rfl⟩⟩, rfl⟩)
  ·
    have hy := hz2.resolve_right (fun q => c_5 q.1)
    have v0 := hy.2.2.2 0 (by omega)
    have v1 := hy.2.2.2 1 (by omega)
    have v2 := hy.2.2.2 2 (by omega)
    have v3 := hy.2.2.2 3 (by omega)
    have w0 := nv_rng (hy.2.1 0 (by omega))
    have w1 := nv_rng (hy.2.1 1 (by omega))
    have w2 := nv_rng (hy.2.1 2 (by omega))
    have w3 := nv_rng (hy.2.1 3 (by omega))
    have v0 : nm 0 = _ := v0
    have v1 : nm 1 = _ := v1
    have v2 : nm 2 = _ := v2
    have v3 : nm 3 = _ := v3
    refine A_aload_n hG 0 dX12_wordItem_8 rfl rfl ?_
    refine A_getR (r := 517) hG dX12_wordItem_9 fl_X12_46 (by decide) k500 (by decide) rfl ?_
    refine A_iconst (n := 0) hG dX12_wordItem_12 ?_
    refine M_iald (v := nm 0) hG dX12_wordItem_13 k517 n517 (by omega) rfl (fun ⟨ra_13, rb_13⟩ => ?_)
    refine A_bipush (n := 9) hG dX12_wordItem_14 (by decide) ?_
    refine A_icmp_gt hG 62 dX12_wordItem_16 (by decide) (by constructor <;> omega) (by constructor <;> omega) (fun c_16 => ?_) (fun c_16 => ?_)
    ·
      refine A_insI 504 (li' := [(500, e), (517, nm), (504, h.1 504)]) rfl ?_
      refine A_insI 503 (li' := [(500, e), (517, nm), (504, h.1 504), (503, h.1 503)]) rfl ?_
      refine A_iconst (n := 0) hG dX12_wordItem_62 ?_
      exact Ret_z hM dX12_wordItem_63 (by omega) (⟨nm, e, h.1 504, h.1 503, ⟨he, Or.inr ⟨rfl, fun q => by first | exact hno q.1 | (obtain ⟨q0, q1, q2, q3, q4, q5⟩ := q; omega), rfl, fun _ _ => rfl⟩⟩, rfl⟩)
    ·
      refine A_aload_n hG 0 dX12_wordItem_19 rfl rfl ?_
      refine A_getR (r := 517) hG dX12_wordItem_20 fl_X12_46 (by decide) k500 (by decide) rfl ?_
      refine A_iconst (n := 1) hG dX12_wordItem_23 ?_
      refine M_iald (v := nm 1) hG dX12_wordItem_24 k517 n517 (by omega) rfl (fun ⟨ra_24, rb_24⟩ => ?_)
      refine A_iconst (n := 3) hG dX12_wordItem_25 ?_
      refine A_icmp_gt hG 62 dX12_wordItem_26 (by decide) (by constructor <;> omega) (by constructor <;> omega) (fun c_26 => ?_) (fun c_26 => ?_)
      ·
        refine A_insI 504 (li' := [(500, e), (517, nm), (504, h.1 504)]) rfl ?_
        refine A_insI 503 (li' := [(500, e), (517, nm), (504, h.1 504), (503, h.1 503)]) rfl ?_
        refine A_iconst (n := 0) hG dX12_wordItem_62 ?_
        exact Ret_z hM dX12_wordItem_63 (by omega) (⟨nm, e, h.1 504, h.1 503, ⟨he, Or.inr ⟨rfl, fun q => by first | exact hno q.1 | (obtain ⟨q0, q1, q2, q3, q4, q5⟩ := q; omega), rfl, fun _ _ => rfl⟩⟩, rfl⟩)
      ·
        refine A_aload_n hG 0 dX12_wordItem_29 rfl rfl ?_
        refine A_getR (r := 517) hG dX12_wordItem_30 fl_X12_46 (by decide) k500 (by decide) rfl ?_
        refine A_iconst (n := 2) hG dX12_wordItem_33 ?_
        refine M_iald (v := nm 2) hG dX12_wordItem_34 k517 n517 (by omega) rfl (fun ⟨ra_34, rb_34⟩ => ?_)
        refine A_bipush (n := 15) hG dX12_wordItem_35 (by decide) ?_
        refine A_icmp_gt hG 62 dX12_wordItem_37 (by decide) (by constructor <;> omega) (by constructor <;> omega) (fun c_37 => ?_) (fun c_37 => ?_)
        ·
          refine A_insI 504 (li' := [(500, e), (517, nm), (504, h.1 504)]) rfl ?_
          refine A_insI 503 (li' := [(500, e), (517, nm), (504, h.1 504), (503, h.1 503)]) rfl ?_
          refine A_iconst (n := 0) hG dX12_wordItem_62 ?_
          exact Ret_z hM dX12_wordItem_63 (by omega) (⟨nm, e, h.1 504, h.1 503, ⟨he, Or.inr ⟨rfl, fun q => by first | exact hno q.1 | (obtain ⟨q0, q1, q2, q3, q4, q5⟩ := q; omega), rfl, fun _ _ => rfl⟩⟩, rfl⟩)
        ·
          refine A_aload_n hG 0 dX12_wordItem_40 rfl rfl ?_
          refine A_getR (r := 517) hG dX12_wordItem_41 fl_X12_46 (by decide) k500 (by decide) rfl ?_
          refine A_iconst (n := 3) hG dX12_wordItem_44 ?_
          refine M_iald (v := nm 3) hG dX12_wordItem_45 k517 n517 (by omega) rfl (fun ⟨ra_45, rb_45⟩ => ?_)
          refine A_bipush (n := 15) hG dX12_wordItem_46 (by decide) ?_
          refine A_icmp_gt hG 62 dX12_wordItem_48 (by decide) (by constructor <;> omega) (by constructor <;> omega) (fun c_48 => ?_) (fun c_48 => ?_)
          ·
            refine A_insI 504 (li' := [(500, e), (517, nm), (504, h.1 504)]) rfl ?_
            refine A_insI 503 (li' := [(500, e), (517, nm), (504, h.1 504), (503, h.1 503)]) rfl ?_
            refine A_iconst (n := 0) hG dX12_wordItem_62 ?_
            exact Ret_z hM dX12_wordItem_63 (by omega) (⟨nm, e, h.1 504, h.1 503, ⟨he, Or.inr ⟨rfl, fun q => by first | exact hno q.1 | (obtain ⟨q0, q1, q2, q3, q4, q5⟩ := q; omega), rfl, fun _ _ => rfl⟩⟩, rfl⟩)
          ·
            refine A_aload_n hG 0 dX12_wordItem_51 rfl rfl ?_
            refine A_getR (r := 503) hG dX12_wordItem_52 fl_X12_13 (by decide) k500 (by decide) rfl ?_
            refine A_iconst (n := 1) hG dX12_wordItem_55 ?_
            refine M_iald (v := h.1 503 1) hG dX12_wordItem_56 k503 n503 (by omega) rfl (fun ⟨ra_56, rb_56⟩ => ?_)
            refine A_bipush (n := 16) hG dX12_wordItem_57 (by decide) ?_
            refine A_icmp_ne hG 64 dX12_wordItem_59 (by decide) (by constructor <;> omega) (by constructor <;> omega) (fun c_59 => ?_) (fun c_59 => ?_)
            ·
              refine A_iconst (n := 0) hG dX12_wordItem_64 ?_
              refine A_istore_n (L' := [(1, vI 0), (0, .ref 500)]) hG dX12_wordItem_65 rfl (by decide) rfl ?_
              refine A_insI 504 (li' := [(500, e), (517, nm), (504, h.1 504)]) rfl ?_
              have i_1 : ∀ fu : Nat, ∀ (k : Nat) (f : Int → Int), (k ≤ 4) → (∀ i : Nat, i < k → f (64 + 4 * h.1 503 1 + i) = nv (h.1 502) (h.1 500 0) (np (h.1 502) (h.1 500 0) p i)) → (∀ i, i < 64 + 4 * h.1 503 1 → f i = h.1 504 i) → (4 - k) < fu → G 66 [(0, .ref 500), (1, vI (k : Int))] [] (hm h [(500, e), (517, nm), (504, f)] [] []) := by
                intro fu
                induction fu with
                | zero => intro k f hk hf hf2 hfu; exact absurd hfu (Nat.not_lt_zero _)
                | succ fu ih_i =>
                  intro k f hk hf hf2 hfu
                  refine A_iload_n hG 1 dX12_wordItem_66 rfl rfl ?_
                  refine A_iconst (n := 4) hG dX12_wordItem_67 ?_
                  refine A_icmp_ge hG 101 dX12_wordItem_68 (by decide) (by constructor <;> omega) (by constructor <;> omega) (fun c_68 => ?_) (fun c_68 => ?_)
                  ·
                    refine A_aload_n hG 0 dX12_wordItem_101 rfl rfl ?_
                    refine A_getR (r := 503) hG dX12_wordItem_102 fl_X12_13 (by decide) k500 (by decide) rfl ?_
                    refine A_iconst (n := 1) hG dX12_wordItem_105 ?_
                    refine A_dup2 hG dX12_wordItem_106 rfl rfl ?_
                    refine M_iald (v := h.1 503 1) hG dX12_wordItem_107 k503 n503 (by omega) rfl (fun ⟨ra_107, rb_107⟩ => ?_)
                    refine A_iconst (n := 1) hG dX12_wordItem_108 ?_
                    refine A_iadd hG dX12_wordItem_109 ?_
                    refine M_iast (li' := [(500, e), (517, nm), (504, f), (503, up (h.1 503) 1 ((h.1 503 1) + 1))]) hG dX12_wordItem_110 k503 n503 (by omega) (by constructor <;> omega) rfl ?_
                    refine A_iconst (n := 1) hG dX12_wordItem_111 ?_
                    exact Ret_z hM dX12_wordItem_112 (by omega) (⟨nm, e, f, _, ⟨he, Or.inl ⟨rfl, ⟨hy.2.1, by omega, by omega, by omega, by omega, by omega⟩, hy.2.2.1, up_eq _ _ _, up_ne _ _ (by decide), fun i hi => hf i (by omega), hf2⟩⟩, rfl⟩)
                  ·
                    refine A_aload_n hG 0 dX12_wordItem_71 rfl rfl ?_
                    refine A_getR (r := 504) hG dX12_wordItem_72 fl_X12_16 (by decide) k500 (by decide) rfl ?_
                    refine A_bipush (n := 64) hG dX12_wordItem_75 (by decide) ?_
                    refine A_iconst (n := 4) hG dX12_wordItem_77 ?_
                    refine A_aload_n hG 0 dX12_wordItem_78 rfl rfl ?_
                    refine A_getR (r := 503) hG dX12_wordItem_79 fl_X12_13 (by decide) k500 (by decide) rfl ?_
                    refine A_iconst (n := 1) hG dX12_wordItem_82 ?_
                    refine M_iald (v := h.1 503 1) hG dX12_wordItem_83 k503 n503 (by omega) rfl (fun ⟨ra_83, rb_83⟩ => ?_)
                    refine A_imul hG dX12_wordItem_84 ?_
                    refine A_iadd hG dX12_wordItem_85 ?_
                    refine A_iload_n hG 1 dX12_wordItem_86 rfl rfl ?_
                    refine A_iadd hG dX12_wordItem_87 ?_
                    refine A_aload_n hG 0 dX12_wordItem_88 rfl rfl ?_
                    refine A_getR (r := 517) hG dX12_wordItem_89 fl_X12_46 (by decide) k500 (by decide) rfl ?_
                    refine A_iload_n hG 1 dX12_wordItem_92 rfl rfl ?_
                    have hv : 0 ≤ nm (k : Int) ∧ nm (k : Int) ≤ 99 := by rw [hy.2.2.2 k (by omega)]; exact nv_rng (hy.2.1 k (by omega))
                    refine M_iald (v := nm (k : Int)) hG dX12_wordItem_93 k517 n517 (by omega) rfl (fun ⟨ra_93, rb_93⟩ => ?_)
                    refine M_iast (li' := [(500, e), (517, nm), (504, up f ((64 + (4 * (h.1 503 1))) + (k : Int)) (nm (k : Int)))]) hG dX12_wordItem_94 k504 n504 (by omega) (by constructor <;> omega) rfl ?_
                    refine A_iinc (L' := [(1, vI ((k : Int) + 1)), (0, .ref 500)]) hG 1 dX12_wordItem_95 rfl (by decide) rfl ?_
                    refine A_goto hG 66 dX12_wordItem_98 (by decide) ?_
                    refine A_sub hG [1, 0] rfl ?_
                    exact ih_i (k + 1) (up f ((64 + (4 * (h.1 503 1))) + (k : Int)) (nm (k : Int))) (by omega) (fun i hi => by
                        by_cases hq : i = k
                        · subst hq; rw [up_eq]; exact hy.2.2.2 i (by omega)
                        · rw [up_ne _ _ (by omega)]; exact hf i (by omega)) (fun i hi => by rw [up_ne _ _ (by omega)]; exact hf2 i hi) (by omega)
              refine A_sub hG [1, 0] rfl ?_
              exact i_1 _ 0 (h.1 504) (by omega) (fun i hi => by omega) (fun _ _ => rfl) (Nat.lt_succ_self _)
            ·
              refine A_insI 504 (li' := [(500, e), (517, nm), (504, h.1 504)]) rfl ?_
              refine A_insI 503 (li' := [(500, e), (517, nm), (504, h.1 504), (503, h.1 503)]) rfl ?_
              refine A_iconst (n := 0) hG dX12_wordItem_62 ?_
              exact Ret_z hM dX12_wordItem_63 (by omega) (⟨nm, e, h.1 504, h.1 503, ⟨he, Or.inr ⟨rfl, fun q => by first | exact hno q.1 | (obtain ⟨q0, q1, q2, q3, q4, q5⟩ := q; omega), rfl, fun _ _ => rfl⟩⟩, rfl⟩)

set_option maxHeartbeats 2000000 in
set_option maxRecDepth 20000 in
theorem r_ruleItem (h : AH) {p : Int} (hlen : 0 ≤ h.1 500 0 ∧ h.1 500 0 ≤ 400) (hp : 0 ≤ p ∧ p ≤ h.1 500 0) (hat : h.1 500 15 = p) (hn : 0 ≤ h.1 505 1 ∧ h.1 505 1 ≤ 24) : AMet yX12_ruleItem cX12_ruleItem 2 (some .boolean) 2 49 [.ref 500] h (Qi (fun z h' => ∃ nm e f6 f5 : Int → Int, ((∀ q, q ≠ 15 → e q = h.1 500 q) ∧ ((z = 1 ∧ Rok (h.1 502) (h.1 500 0) p (h.1 505 1) ∧ e 15 = np (h.1 502) (h.1 500 0) p 5 ∧ f5 1 = h.1 505 1 + 1 ∧ f5 0 = h.1 505 0 ∧ (∀ i : Nat, i < 5 → f6 (120 + 5 * h.1 505 1 + i) = nv (h.1 502) (h.1 500 0) (np (h.1 502) (h.1 500 0) p i)) ∧ ∀ i, i < 120 + 5 * h.1 505 1 → f6 i = h.1 506 i) ∨ (z = 0 ∧ ¬ Rok (h.1 502) (h.1 500 0) p (h.1 505 1) ∧ f5 0 = h.1 505 0 ∧ ∀ i, i < 120 → f6 i = h.1 506 i))) ∧ h' = hm h [(500, e), (517, nm), (506, f6), (505, f5)] [] [])) := by
  refine AMet.of (by decide) (Nat.le_of_ble_eq_true rfl) (fun G hM => ?_)
  have hG := hM.cx
  refine A_hm0 (G := G) (L := [(0, .ref 500)]) ?_
  refine A_aload_n hG 0 dX12_ruleItem_0 rfl rfl ?_
  refine A_iconst (n := 5) hG dX12_ruleItem_1 ?_
  refine C_Vi (as := [vI 5]) (st := []) (k := 500) (c := 11) hG dX12_ruleItem_2 ml_X12_99 mf_X12_figures mi_X12_figures se_X12_figures rfl (by decide) k500 (r_figures (hm h [] [] []) (p := p) (m := 5) (by omega) hlen hp hat) (by decide) (by decide) rfl rfl (Nat.le_of_ble_eq_true rfl) (fun z2 g2 ri_2 hp_2 => ?_)
  obtain ⟨ra_2, rb_2⟩ := ri_2
  have hq_2 : ∃ nmx ex : Int → Int, ((∀ q, q ≠ 15 → ex q = h.1 500 q) ∧ ((z2 = 1 ∧ okS (h.1 502) (h.1 500 0) p 5 ∧ ex 15 = np (h.1 502) (h.1 500 0) p 5 ∧ ∀ i : Nat, i < 5 → nmx (i : Int) = nv (h.1 502) (h.1 500 0) (np (h.1 502) (h.1 500 0) p i)) ∨ (z2 = 0 ∧ ¬ okS (h.1 502) (h.1 500 0) p 5))) ∧ g2 = hm (hm h [] [] []) [(517, nmx), (500, ex)] [] [] := hp_2
  obtain ⟨nm, e, ⟨he, hz2⟩, rfl⟩ := hq_2
  refine A_hm (la := [(500, e), (517, nm)]) (lb := []) (lc := []) rfl rfl rfl ?_
  refine A_if_eq hG 72 dX12_ruleItem_5 (by decide) (by constructor <;> omega) (fun c_5 => ?_) (fun c_5 => ?_)
  ·
    have hno := (hz2.resolve_left (fun q => by omega)).2
    refine A_insI 506 (li' := [(500, e), (517, nm), (506, h.1 506)]) rfl ?_
    refine A_insI 505 (li' := [(500, e), (517, nm), (506, h.1 506), (505, h.1 505)]) rfl ?_
    refine A_iconst (n := 0) hG dX12_ruleItem_72 ?_
    exact Ret_z hM dX12_ruleItem_73 (by omega) (⟨nm, e, h.1 506, h.1 505, ⟨he, Or.inr ⟨rfl, fun q => by first | exact hno q.1 | (obtain ⟨q0, q1, q2, q3, q4, q5, q6⟩ := q; omega), rfl, fun _ _ => rfl⟩⟩, rfl⟩)
  ·
    have hy := hz2.resolve_right (fun q => c_5 q.1)
    have v0 : nm 0 = _ := hy.2.2.2 0 (by omega)
    have v1 : nm 1 = _ := hy.2.2.2 1 (by omega)
    have v2 : nm 2 = _ := hy.2.2.2 2 (by omega)
    have v3 : nm 3 = _ := hy.2.2.2 3 (by omega)
    have v4 : nm 4 = _ := hy.2.2.2 4 (by omega)
    have w0 := nv_rng (hy.2.1 0 (by omega))
    have w1 := nv_rng (hy.2.1 1 (by omega))
    have w2 := nv_rng (hy.2.1 2 (by omega))
    have w3 := nv_rng (hy.2.1 3 (by omega))
    have w4 := nv_rng (hy.2.1 4 (by omega))
    refine A_aload_n hG 0 dX12_ruleItem_8 rfl rfl ?_
    refine A_getR (r := 517) hG dX12_ruleItem_9 fl_X12_46 (by decide) k500 (by decide) rfl ?_
    refine A_iconst (n := 0) hG dX12_ruleItem_12 ?_
    refine M_iald (v := nm 0) hG dX12_ruleItem_13 k517 n517 (by omega) rfl (fun ⟨ra_13, rb_13⟩ => ?_)
    refine A_bipush (n := 9) hG dX12_ruleItem_14 (by decide) ?_
    refine A_icmp_gt hG 72 dX12_ruleItem_16 (by decide) (by constructor <;> omega) (by constructor <;> omega) (fun c_16 => ?_) (fun c_16 => ?_)
    ·
      refine A_insI 506 (li' := [(500, e), (517, nm), (506, h.1 506)]) rfl ?_
      refine A_insI 505 (li' := [(500, e), (517, nm), (506, h.1 506), (505, h.1 505)]) rfl ?_
      refine A_iconst (n := 0) hG dX12_ruleItem_72 ?_
      exact Ret_z hM dX12_ruleItem_73 (by omega) (⟨nm, e, h.1 506, h.1 505, ⟨he, Or.inr ⟨rfl, fun q => by first | exact hno q.1 | (obtain ⟨q0, q1, q2, q3, q4, q5, q6⟩ := q; omega), rfl, fun _ _ => rfl⟩⟩, rfl⟩)
    ·
      refine A_aload_n hG 0 dX12_ruleItem_19 rfl rfl ?_
      refine A_getR (r := 517) hG dX12_ruleItem_20 fl_X12_46 (by decide) k500 (by decide) rfl ?_
      refine A_iconst (n := 1) hG dX12_ruleItem_23 ?_
      refine M_iald (v := nm 1) hG dX12_ruleItem_24 k517 n517 (by omega) rfl (fun ⟨ra_24, rb_24⟩ => ?_)
      refine A_bipush (n := 9) hG dX12_ruleItem_25 (by decide) ?_
      refine A_icmp_gt hG 72 dX12_ruleItem_27 (by decide) (by constructor <;> omega) (by constructor <;> omega) (fun c_27 => ?_) (fun c_27 => ?_)
      ·
        refine A_insI 506 (li' := [(500, e), (517, nm), (506, h.1 506)]) rfl ?_
        refine A_insI 505 (li' := [(500, e), (517, nm), (506, h.1 506), (505, h.1 505)]) rfl ?_
        refine A_iconst (n := 0) hG dX12_ruleItem_72 ?_
        exact Ret_z hM dX12_ruleItem_73 (by omega) (⟨nm, e, h.1 506, h.1 505, ⟨he, Or.inr ⟨rfl, fun q => by first | exact hno q.1 | (obtain ⟨q0, q1, q2, q3, q4, q5, q6⟩ := q; omega), rfl, fun _ _ => rfl⟩⟩, rfl⟩)
      ·
        refine A_aload_n hG 0 dX12_ruleItem_30 rfl rfl ?_
        refine A_getR (r := 517) hG dX12_ruleItem_31 fl_X12_46 (by decide) k500 (by decide) rfl ?_
        refine A_iconst (n := 2) hG dX12_ruleItem_34 ?_
        refine M_iald (v := nm 2) hG dX12_ruleItem_35 k517 n517 (by omega) rfl (fun ⟨ra_35, rb_35⟩ => ?_)
        refine A_bipush (n := 9) hG dX12_ruleItem_36 (by decide) ?_
        refine A_icmp_gt hG 72 dX12_ruleItem_38 (by decide) (by constructor <;> omega) (by constructor <;> omega) (fun c_38 => ?_) (fun c_38 => ?_)
        ·
          refine A_insI 506 (li' := [(500, e), (517, nm), (506, h.1 506)]) rfl ?_
          refine A_insI 505 (li' := [(500, e), (517, nm), (506, h.1 506), (505, h.1 505)]) rfl ?_
          refine A_iconst (n := 0) hG dX12_ruleItem_72 ?_
          exact Ret_z hM dX12_ruleItem_73 (by omega) (⟨nm, e, h.1 506, h.1 505, ⟨he, Or.inr ⟨rfl, fun q => by first | exact hno q.1 | (obtain ⟨q0, q1, q2, q3, q4, q5, q6⟩ := q; omega), rfl, fun _ _ => rfl⟩⟩, rfl⟩)
        ·
          refine A_aload_n hG 0 dX12_ruleItem_41 rfl rfl ?_
          refine A_getR (r := 517) hG dX12_ruleItem_42 fl_X12_46 (by decide) k500 (by decide) rfl ?_
          refine A_iconst (n := 3) hG dX12_ruleItem_45 ?_
          refine M_iald (v := nm 3) hG dX12_ruleItem_46 k517 n517 (by omega) rfl (fun ⟨ra_46, rb_46⟩ => ?_)
          refine A_iconst (n := 1) hG dX12_ruleItem_47 ?_
          refine A_icmp_gt hG 72 dX12_ruleItem_48 (by decide) (by constructor <;> omega) (by constructor <;> omega) (fun c_48 => ?_) (fun c_48 => ?_)
          ·
            refine A_insI 506 (li' := [(500, e), (517, nm), (506, h.1 506)]) rfl ?_
            refine A_insI 505 (li' := [(500, e), (517, nm), (506, h.1 506), (505, h.1 505)]) rfl ?_
            refine A_iconst (n := 0) hG dX12_ruleItem_72 ?_
            exact Ret_z hM dX12_ruleItem_73 (by omega) (⟨nm, e, h.1 506, h.1 505, ⟨he, Or.inr ⟨rfl, fun q => by first | exact hno q.1 | (obtain ⟨q0, q1, q2, q3, q4, q5, q6⟩ := q; omega), rfl, fun _ _ => rfl⟩⟩, rfl⟩)
          ·
            refine A_aload_n hG 0 dX12_ruleItem_51 rfl rfl ?_
            refine A_getR (r := 517) hG dX12_ruleItem_52 fl_X12_46 (by decide) k500 (by decide) rfl ?_
            refine A_iconst (n := 4) hG dX12_ruleItem_55 ?_
            refine M_iald (v := nm 4) hG dX12_ruleItem_56 k517 n517 (by omega) rfl (fun ⟨ra_56, rb_56⟩ => ?_)
            refine A_iconst (n := 1) hG dX12_ruleItem_57 ?_
            refine A_icmp_gt hG 72 dX12_ruleItem_58 (by decide) (by constructor <;> omega) (by constructor <;> omega) (fun c_58 => ?_) (fun c_58 => ?_)
            ·
              refine A_insI 506 (li' := [(500, e), (517, nm), (506, h.1 506)]) rfl ?_
              refine A_insI 505 (li' := [(500, e), (517, nm), (506, h.1 506), (505, h.1 505)]) rfl ?_
              refine A_iconst (n := 0) hG dX12_ruleItem_72 ?_
              exact Ret_z hM dX12_ruleItem_73 (by omega) (⟨nm, e, h.1 506, h.1 505, ⟨he, Or.inr ⟨rfl, fun q => by first | exact hno q.1 | (obtain ⟨q0, q1, q2, q3, q4, q5, q6⟩ := q; omega), rfl, fun _ _ => rfl⟩⟩, rfl⟩)
            ·
              refine A_aload_n hG 0 dX12_ruleItem_61 rfl rfl ?_
              refine A_getR (r := 505) hG dX12_ruleItem_62 fl_X12_19 (by decide) k500 (by decide) rfl ?_
              refine A_iconst (n := 1) hG dX12_ruleItem_65 ?_
              refine M_iald (v := h.1 505 1) hG dX12_ruleItem_66 k505 n505 (by omega) rfl (fun ⟨ra_66, rb_66⟩ => ?_)
              refine A_bipush (n := 24) hG dX12_ruleItem_67 (by decide) ?_
              refine A_icmp_ne hG 74 dX12_ruleItem_69 (by decide) (by constructor <;> omega) (by constructor <;> omega) (fun c_69 => ?_) (fun c_69 => ?_)
              ·
                refine A_iconst (n := 0) hG dX12_ruleItem_74 ?_
                refine A_istore_n (L' := [(1, vI 0), (0, .ref 500)]) hG dX12_ruleItem_75 rfl (by decide) rfl ?_
                refine A_insI 506 (li' := [(500, e), (517, nm), (506, h.1 506)]) rfl ?_
                have i_1 : ∀ fu : Nat, ∀ (k : Nat) (f : Int → Int), (k ≤ 5) → (∀ i : Nat, i < k → f (120 + 5 * h.1 505 1 + i) = nv (h.1 502) (h.1 500 0) (np (h.1 502) (h.1 500 0) p i)) → (∀ i, i < 120 + 5 * h.1 505 1 → f i = h.1 506 i) → (5 - k) < fu → G 76 [(0, .ref 500), (1, vI (k : Int))] [] (hm h [(500, e), (517, nm), (506, f)] [] []) := by
                  intro fu
                  induction fu with
                  | zero => intro k f hk hf hf2 hfu; exact absurd hfu (Nat.not_lt_zero _)
                  | succ fu ih_i =>
                    intro k f hk hf hf2 hfu
                    refine A_iload_n hG 1 dX12_ruleItem_76 rfl rfl ?_
                    refine A_iconst (n := 5) hG dX12_ruleItem_77 ?_
                    refine A_icmp_ge hG 111 dX12_ruleItem_78 (by decide) (by constructor <;> omega) (by constructor <;> omega) (fun c_78 => ?_) (fun c_78 => ?_)
                    ·
                      refine A_aload_n hG 0 dX12_ruleItem_111 rfl rfl ?_
                      refine A_getR (r := 505) hG dX12_ruleItem_112 fl_X12_19 (by decide) k500 (by decide) rfl ?_
                      refine A_iconst (n := 1) hG dX12_ruleItem_115 ?_
                      refine A_dup2 hG dX12_ruleItem_116 rfl rfl ?_
                      refine M_iald (v := h.1 505 1) hG dX12_ruleItem_117 k505 n505 (by omega) rfl (fun ⟨ra_117, rb_117⟩ => ?_)
                      refine A_iconst (n := 1) hG dX12_ruleItem_118 ?_
                      refine A_iadd hG dX12_ruleItem_119 ?_
                      refine M_iast (li' := [(500, e), (517, nm), (506, f), (505, up (h.1 505) 1 ((h.1 505 1) + 1))]) hG dX12_ruleItem_120 k505 n505 (by omega) (by constructor <;> omega) rfl ?_
                      refine A_iconst (n := 1) hG dX12_ruleItem_121 ?_
                      exact Ret_z hM dX12_ruleItem_122 (by omega) (⟨nm, e, f, _, ⟨he, Or.inl ⟨rfl, ⟨hy.2.1, by omega, by omega, by omega, by omega, by omega, by omega⟩, hy.2.2.1, up_eq _ _ _, up_ne _ _ (by decide), fun i hi => hf i (by omega), hf2⟩⟩, rfl⟩)
                    ·
                      refine A_aload_n hG 0 dX12_ruleItem_81 rfl rfl ?_
                      refine A_getR (r := 506) hG dX12_ruleItem_82 fl_X12_22 (by decide) k500 (by decide) rfl ?_
                      refine A_bipush (n := 120) hG dX12_ruleItem_85 (by decide) ?_
                      refine A_iconst (n := 5) hG dX12_ruleItem_87 ?_
                      refine A_aload_n hG 0 dX12_ruleItem_88 rfl rfl ?_
                      refine A_getR (r := 505) hG dX12_ruleItem_89 fl_X12_19 (by decide) k500 (by decide) rfl ?_
                      refine A_iconst (n := 1) hG dX12_ruleItem_92 ?_
                      refine M_iald (v := h.1 505 1) hG dX12_ruleItem_93 k505 n505 (by omega) rfl (fun ⟨ra_93, rb_93⟩ => ?_)
                      refine A_imul hG dX12_ruleItem_94 ?_
                      refine A_iadd hG dX12_ruleItem_95 ?_
                      refine A_iload_n hG 1 dX12_ruleItem_96 rfl rfl ?_
                      refine A_iadd hG dX12_ruleItem_97 ?_
                      refine A_aload_n hG 0 dX12_ruleItem_98 rfl rfl ?_
                      refine A_getR (r := 517) hG dX12_ruleItem_99 fl_X12_46 (by decide) k500 (by decide) rfl ?_
                      refine A_iload_n hG 1 dX12_ruleItem_102 rfl rfl ?_
                      have hv : 0 ≤ nm (k : Int) ∧ nm (k : Int) ≤ 99 := by rw [hy.2.2.2 k (by omega)]; exact nv_rng (hy.2.1 k (by omega))
                      refine M_iald (v := nm (k : Int)) hG dX12_ruleItem_103 k517 n517 (by omega) rfl (fun ⟨ra_103, rb_103⟩ => ?_)
                      refine M_iast (li' := [(500, e), (517, nm), (506, up f ((120 + (5 * (h.1 505 1))) + (k : Int)) (nm (k : Int)))]) hG dX12_ruleItem_104 k506 n506 (by omega) (by constructor <;> omega) rfl ?_
                      refine A_iinc (L' := [(1, vI ((k : Int) + 1)), (0, .ref 500)]) hG 1 dX12_ruleItem_105 rfl (by decide) rfl ?_
                      refine A_goto hG 76 dX12_ruleItem_108 (by decide) ?_
                      refine A_sub hG [1, 0] rfl ?_
                      exact ih_i (k + 1) (up f ((120 + (5 * (h.1 505 1))) + (k : Int)) (nm (k : Int))) (by omega) (fun i hi => by
                          by_cases hq : i = k
                          · subst hq; rw [up_eq]; exact hy.2.2.2 i (by omega)
                          · rw [up_ne _ _ (by omega)]; exact hf i (by omega)) (fun i hi => by rw [up_ne _ _ (by omega)]; exact hf2 i hi) (by omega)
                refine A_sub hG [1, 0] rfl ?_
                exact i_1 _ 0 (h.1 506) (by omega) (fun i hi => by omega) (fun _ _ => rfl) (Nat.lt_succ_self _)
              ·
                refine A_insI 506 (li' := [(500, e), (517, nm), (506, h.1 506)]) rfl ?_
                refine A_insI 505 (li' := [(500, e), (517, nm), (506, h.1 506), (505, h.1 505)]) rfl ?_
                refine A_iconst (n := 0) hG dX12_ruleItem_72 ?_
                exact Ret_z hM dX12_ruleItem_73 (by omega) (⟨nm, e, h.1 506, h.1 505, ⟨he, Or.inr ⟨rfl, fun q => by first | exact hno q.1 | (obtain ⟨q0, q1, q2, q3, q4, q5, q6⟩ := q; omega), rfl, fun _ _ => rfl⟩⟩, rfl⟩)

set_option maxHeartbeats 2000000 in
set_option maxRecDepth 20000 in
theorem r_priceItem (h : AH) {p : Int} (hlen : 0 ≤ h.1 500 0 ∧ h.1 500 0 ≤ 400) (hp : 0 ≤ p ∧ p ≤ h.1 500 0) (hat : h.1 500 15 = p)  : AMet yX12_priceItem cX12_priceItem 1 (some .boolean) 2 49 [.ref 500] h (Qi (fun z h' => ∃ nm e f7 : Int → Int, ((∀ q, q ≠ 15 → e q = h.1 500 q) ∧ ((z = 1 ∧ Pok (h.1 502) (h.1 500 0) p ∧ e 15 = np (h.1 502) (h.1 500 0) p 2 ∧ (∀ c, 0 ≤ c → c < 5 → f7 (5 + c) = if c = nv (h.1 502) (h.1 500 0) (np (h.1 502) (h.1 500 0) p 0) then nv (h.1 502) (h.1 500 0) (np (h.1 502) (h.1 500 0) p 1) else h.1 507 (5 + c)) ∧ ∀ i, i < 5 → f7 i = h.1 507 i) ∨ (z = 0 ∧ ¬ Pok (h.1 502) (h.1 500 0) p ∧ ∀ i, i < 5 → f7 i = h.1 507 i))) ∧ h' = hm h [(500, e), (517, nm), (507, f7)] [] [])) := by
  refine AMet.of (by decide) (Nat.le_of_ble_eq_true rfl) (fun G hM => ?_)
  have hG := hM.cx
  refine A_hm0 (G := G) (L := [(0, .ref 500)]) ?_
  refine A_aload_n hG 0 dX12_priceItem_0 rfl rfl ?_
  refine A_iconst (n := 2) hG dX12_priceItem_1 ?_
  refine C_Vi (as := [vI 2]) (st := []) (k := 500) (c := 11) hG dX12_priceItem_2 ml_X12_99 mf_X12_figures mi_X12_figures se_X12_figures rfl (by decide) k500 (r_figures (hm h [] [] []) (p := p) (m := 2) (by omega) hlen hp hat) (by decide) (by decide) rfl rfl (Nat.le_of_ble_eq_true rfl) (fun z2 g2 ri_2 hp_2 => ?_)
  obtain ⟨ra_2, rb_2⟩ := ri_2
  have hq_2 : ∃ nmx ex : Int → Int, ((∀ q, q ≠ 15 → ex q = h.1 500 q) ∧ ((z2 = 1 ∧ okS (h.1 502) (h.1 500 0) p 2 ∧ ex 15 = np (h.1 502) (h.1 500 0) p 2 ∧ ∀ i : Nat, i < 2 → nmx (i : Int) = nv (h.1 502) (h.1 500 0) (np (h.1 502) (h.1 500 0) p i)) ∨ (z2 = 0 ∧ ¬ okS (h.1 502) (h.1 500 0) p 2))) ∧ g2 = hm (hm h [] [] []) [(517, nmx), (500, ex)] [] [] := hp_2
  obtain ⟨nm, e, ⟨he, hz2⟩, rfl⟩ := hq_2
  refine A_hm (la := [(500, e), (517, nm)]) (lb := []) (lc := []) rfl rfl rfl ?_
  refine A_if_eq hG 18 dX12_priceItem_5 (by decide) (by constructor <;> omega) (fun c_5 => ?_) (fun c_5 => ?_)
  ·
    have hno := (hz2.resolve_left (fun q => by omega)).2
    refine A_insI 507 (li' := [(500, e), (517, nm), (507, h.1 507)]) rfl ?_
    refine A_iconst (n := 0) hG dX12_priceItem_18 ?_
    exact Ret_z hM dX12_priceItem_19 (by omega) (⟨nm, e, h.1 507, ⟨he, Or.inr ⟨rfl, fun q => by first | exact hno q.1 | (obtain ⟨q0, q1⟩ := q; omega), fun _ _ => rfl⟩⟩, rfl⟩)
  ·
    have hy := hz2.resolve_right (fun q => c_5 q.1)
    have v0 : nm 0 = _ := hy.2.2.2 0 (by omega)
    have v1 : nm 1 = _ := hy.2.2.2 1 (by omega)
    have w0 := nv_rng (hy.2.1 0 (by omega))
    have w1 := nv_rng (hy.2.1 1 (by omega))
    refine A_aload_n hG 0 dX12_priceItem_8 rfl rfl ?_
    refine A_getR (r := 517) hG dX12_priceItem_9 fl_X12_46 (by decide) k500 (by decide) rfl ?_
    refine A_iconst (n := 0) hG dX12_priceItem_12 ?_
    refine M_iald (v := nm 0) hG dX12_priceItem_13 k517 n517 (by omega) rfl (fun ⟨ra_13, rb_13⟩ => ?_)
    refine A_iconst (n := 4) hG dX12_priceItem_14 ?_
    refine A_icmp_le hG 20 dX12_priceItem_15 (by decide) (by constructor <;> omega) (by constructor <;> omega) (fun c_15 => ?_) (fun c_15 => ?_)
    ·
      refine A_aload_n hG 0 dX12_priceItem_20 rfl rfl ?_
      refine A_getR (r := 507) hG dX12_priceItem_21 fl_X12_25 (by decide) k500 (by decide) rfl ?_
      refine A_iconst (n := 5) hG dX12_priceItem_24 ?_
      refine A_aload_n hG 0 dX12_priceItem_25 rfl rfl ?_
      refine A_getR (r := 517) hG dX12_priceItem_26 fl_X12_46 (by decide) k500 (by decide) rfl ?_
      refine A_iconst (n := 0) hG dX12_priceItem_29 ?_
      refine M_iald (v := nm 0) hG dX12_priceItem_30 k517 n517 (by omega) rfl (fun ⟨ra_30, rb_30⟩ => ?_)
      refine A_iadd hG dX12_priceItem_31 ?_
      refine A_aload_n hG 0 dX12_priceItem_32 rfl rfl ?_
      refine A_getR (r := 517) hG dX12_priceItem_33 fl_X12_46 (by decide) k500 (by decide) rfl ?_
      refine A_iconst (n := 1) hG dX12_priceItem_36 ?_
      refine M_iald (v := nm 1) hG dX12_priceItem_37 k517 n517 (by omega) rfl (fun ⟨ra_37, rb_37⟩ => ?_)
      refine M_iast (li' := [(500, e), (517, nm), (507, up (h.1 507) (5 + (nm 0)) (nm 1))]) hG dX12_priceItem_38 k507 n507 (by omega) (by constructor <;> omega) rfl ?_
      refine A_iconst (n := 1) hG dX12_priceItem_39 ?_
      exact Ret_z hM dX12_priceItem_40 (by omega) (⟨nm, e, _, ⟨he, Or.inl ⟨rfl, ⟨hy.2.1, by omega⟩, hy.2.2.1, fun c c1 c2 => by
          by_cases hq : c = nm 0
          · rw [hq, up_eq, if_pos v0, v1]
          · rw [up_ne _ _ (by omega), if_neg (by omega)], fun i hi => up_ne _ _ (by omega)⟩⟩, rfl⟩)
    ·
      refine A_insI 507 (li' := [(500, e), (517, nm), (507, h.1 507)]) rfl ?_
      refine A_iconst (n := 0) hG dX12_priceItem_18 ?_
      exact Ret_z hM dX12_priceItem_19 (by omega) (⟨nm, e, h.1 507, ⟨he, Or.inr ⟨rfl, fun q => by first | exact hno q.1 | (obtain ⟨q0, q1⟩ := q; omega), fun _ _ => rfl⟩⟩, rfl⟩)

end
