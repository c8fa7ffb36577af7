/-! the reference: readAll (printed by gen) -/
section
theorem np_le {t : Int → Int} {L p : Int} {m : Nat} (h : okS t L p m) (hm : 1 ≤ m) : np t L p m ≤ L := by
  obtain ⟨k, rfl⟩ : ∃ k, m = k + 1 := ⟨m - 1, by omega⟩
  have := (h k (by omega)).2.1
  simp only [np]
  omega
set_option maxHeartbeats 2000000 in
set_option maxRecDepth 20000 in
theorem r_readAll (h : AH) (hlen : 0 ≤ h.1 500 0 ∧ h.1 500 0 ≤ 400) : AMet yX12_readAll cX12_readAll 4 (some .int) 3 70 [.ref 500] h (Qi (fun z h' => ∃ e nm f3 f4 f5 f6 f7 : Int → Int, ∃ (N : Nat) (g : Gm), (prs (h.1 502) (h.1 500 0) N 0 g00 z g ∧ (z = -4 → okG g ∧ trC f3 f4 f5 f6 f7 g) ∧ (∀ q, q ≠ 15 → e q = h.1 500 q) ∧ (f3 0 = h.1 503 0 ∧ f5 0 = h.1 505 0) ∧ (∀ i, i < 64 → f4 i = h.1 504 i) ∧ (∀ i, i < 120 → f6 i = h.1 506 i) ∧ (∀ i, i < 5 → f7 i = h.1 507 i)) ∧ h' = hm h [(503, f3), (505, f5), (507, f7), (500, e), (517, nm), (504, f4), (506, f6)] [] [])) := by
  refine AMet.of (by decide) (Nat.le_of_ble_eq_true rfl) (fun G hM => ?_)
  have hG := hM.cx
  refine A_hm0 (G := G) (L := [(0, .ref 500)]) ?_
  refine A_aload_n hG 0 dX12_readAll_0 rfl rfl ?_
  refine A_getR (r := 503) hG dX12_readAll_1 fl_X12_13 (by decide) k500 (by decide) rfl ?_
  refine A_iconst (n := 1) hG dX12_readAll_4 ?_
  refine A_iconst (n := 0) hG dX12_readAll_5 ?_
  refine M_iast (li' := [(503, up (h.1 503) 1 0)]) hG dX12_readAll_6 k503 n503 (by omega) (by constructor <;> omega) rfl ?_
  refine A_aload_n hG 0 dX12_readAll_7 rfl rfl ?_
  refine A_getR (r := 505) hG dX12_readAll_8 fl_X12_19 (by decide) k500 (by decide) rfl ?_
  refine A_iconst (n := 1) hG dX12_readAll_11 ?_
  refine A_iconst (n := 0) hG dX12_readAll_12 ?_
  refine M_iast (li' := [(503, up (h.1 503) 1 0), (505, up (h.1 505) 1 0)]) hG dX12_readAll_13 k505 n505 (by omega) (by constructor <;> omega) rfl ?_
  refine A_aload_n hG 0 dX12_readAll_14 rfl rfl ?_
  refine A_iconst (n := 1) hG dX12_readAll_15 ?_
  refine C_Vv (as := [vI 1]) (st := []) (k := 500) (c := 11) hG dX12_readAll_16 ml_X12_74 mf_X12_noPrices mi_X12_noPrices se_X12_noPrices rfl (by decide) k500 (r_noPrices (hm h [(503, up (h.1 503) 1 0), (505, up (h.1 505) 1 0)] [] []) (b := 1) (by omega)) (by decide) (by decide) rfl rfl (Nat.le_of_ble_eq_true rfl) (fun g16 hp_16 => ?_)
  have hq_16 : ∃ fx : Int → Int, ((∀ c, 0 ≤ c → c < 5 → fx (5 * 1 + c) = tb 600 c) ∧ ∀ i, (i < 5 * 1 ∨ 5 * 1 + 5 ≤ i) → fx i = h.1 507 i) ∧ g16 = hm (hm h [(503, up (h.1 503) 1 0), (505, up (h.1 505) 1 0)] [] []) [(507, fx)] [] [] := hp_16
  obtain ⟨f16, hf16, rfl⟩ := hq_16
  refine A_hm (la := [(503, up (h.1 503) 1 0), (505, up (h.1 505) 1 0), (507, f16)]) (lb := []) (lc := []) rfl rfl rfl ?_
  refine A_aload_n hG 0 dX12_readAll_19 rfl rfl ?_
  refine A_iconst (n := 0) hG dX12_readAll_20 ?_
  refine M_putI (z := 15) (li' := [(503, up (h.1 503) 1 0), (505, up (h.1 505) 1 0), (507, f16), (500, up (h.1 500) 15 0)]) hG dX12_readAll_21 fl_X12_90 (by decide) k500 nf_11_15 rfl rfl (by constructor <;> omega) (Or.inl rfl) rfl ?_
  refine A_insI 517 (li' := [(503, up (h.1 503) 1 0), (505, up (h.1 505) 1 0), (507, f16), (500, up (h.1 500) 15 0), (517, h.1 517)]) rfl ?_
  refine A_insI 504 (li' := [(503, up (h.1 503) 1 0), (505, up (h.1 505) 1 0), (507, f16), (500, up (h.1 500) 15 0), (517, h.1 517), (504, h.1 504)]) rfl ?_
  refine A_insI 506 (li' := [(503, up (h.1 503) 1 0), (505, up (h.1 505) 1 0), (507, f16), (500, up (h.1 500) 15 0), (517, h.1 517), (504, h.1 504), (506, h.1 506)]) rfl ?_
  have r_1 : ∀ fu : Nat, ∀ (x : Int) (e : Int → Int) (nm : Int → Int) (f3 : Int → Int) (f4 : Int → Int) (f5 : Int → Int) (f6 : Int → Int) (f7 : Int → Int) (g : Gm), (e 15 = x) → (∀ q, q ≠ 15 → e q = h.1 500 q) → (0 ≤ x ∧ x ≤ h.1 500 0) → (trC f3 f4 f5 f6 f7 g) → (okG g) → ((f3 0 = h.1 503 0 ∧ f5 0 = h.1 505 0) ∧ (∀ i, i < 64 → f4 i = h.1 504 i) ∧ (∀ i, i < 120 → f6 i = h.1 506 i) ∧ (∀ i, i < 5 → f7 i = h.1 507 i)) → (∀ N z g', prs (h.1 502) (h.1 500 0) N x g z g' → ∃ N', prs (h.1 502) (h.1 500 0) N' 0 g00 z g') → ((h.1 500 0 - x).toNat) < fu → G 24 [(0, .ref 500)] [] (hm h [(503, f3), (505, f5), (507, f7), (500, e), (517, nm), (504, f4), (506, f6)] [] []) := by
    intro fu
    induction fu with
    | zero => intro x e nm f3 f4 f5 f6 f7 g hx he hxr htr hOk hu hrem hfu; exact absurd hfu (Nat.not_lt_zero _)
    | succ fu ih_r =>
      intro x e nm f3 f4 f5 f6 f7 g hx he hxr htr hOk hu hrem hfu
      have hL0 : up e 15 (e 15 + 1) 0 = h.1 500 0 := by rw [up_ne _ _ (by decide)]; exact he 0 (by decide)
      have hL1 := he 0 (by decide)
      have hn3 : 0 ≤ f3 1 ∧ f3 1 ≤ 16 := by rw [htr.1]; exact hOk.1
      have hn5 : 0 ≤ f5 1 ∧ f5 1 ≤ 24 := by rw [htr.2.1]; exact hOk.2.1
      refine A_aload_n hG 0 dX12_readAll_24 rfl rfl ?_
      refine M_getI (z := 15) (v := e 15) hG dX12_readAll_25 fl_X12_90 (by decide) k500 rfl rfl rfl (fun ⟨ra_25, rb_25⟩ => ?_)
      refine A_aload_n hG 0 dX12_readAll_28 rfl rfl ?_
      refine M_getI (z := 0) (v := e 0) hG dX12_readAll_29 fl_X12_84 (by decide) k500 rfl rfl rfl (fun ⟨ra_29, rb_29⟩ => ?_)
      refine A_icmp_ge hG 114 dX12_readAll_32 (by decide) (by constructor <;> omega) (by constructor <;> omega) (fun c_32 => ?_) (fun c_32 => ?_)
      ·
        refine A_bipush (n := -4) hG dX12_readAll_114 (by decide) ?_
        exact Ret_i hM dX12_readAll_116 (by constructor <;> omega) (by
            obtain ⟨N, hN⟩ := hrem 1 (-4) g (Or.inl ⟨by omega, rfl, rfl⟩)
            exact ⟨e, nm, f3, f4, f5, f6, f7, N, g, ⟨hN, fun _ => ⟨hOk, htr⟩, he, hu⟩, rfl⟩)
      ·
        refine A_aload_n hG 0 dX12_readAll_35 rfl rfl ?_
        refine M_getI (z := 15) (v := e 15) hG dX12_readAll_36 fl_X12_90 (by decide) k500 rfl rfl rfl (fun ⟨ra_36, rb_36⟩ => ?_)
        refine A_istore_n (L' := [(1, vI (e 15)), (0, .ref 500)]) hG dX12_readAll_39 rfl (by decide) rfl ?_
        refine A_aload_n hG 1 dX12_readAll_40 rfl rfl ?_
        refine A_getR (r := 502) hG dX12_readAll_41 fl_X12_7 (by decide) k500 (by decide) rfl ?_
        refine A_aload_n hG 1 dX12_readAll_44 rfl rfl ?_
        refine M_getI (z := 15) (v := e 15) hG dX12_readAll_45 fl_X12_90 (by decide) k500 rfl rfl rfl (fun ⟨ra_45, rb_45⟩ => ?_)
        refine M_iald (v := h.1 502 (e 15)) hG dX12_readAll_48 k502 n502 (by omega) rfl (fun ⟨ra_48, rb_48⟩ => ?_)
        refine A_istore_n (L' := [(2, vI (h.1 502 (e 15))), (1, vI (e 15)), (0, .ref 500)]) hG dX12_readAll_49 rfl (by decide) rfl ?_
        refine A_aload_n hG 2 dX12_readAll_50 rfl rfl ?_
        refine A_dup hG dX12_readAll_51 rfl ?_
        refine M_getI (z := 15) (v := e 15) hG dX12_readAll_52 fl_X12_90 (by decide) k500 rfl rfl rfl (fun ⟨ra_52, rb_52⟩ => ?_)
        refine A_iconst (n := 1) hG dX12_readAll_55 ?_
        refine A_iadd hG dX12_readAll_56 ?_
        refine M_putI (z := 15) (li' := [(503, f3), (505, f5), (507, f7), (500, up e 15 ((e 15) + 1)), (517, nm), (504, f4), (506, f6)]) hG dX12_readAll_57 fl_X12_90 (by decide) k500 nf_11_15 rfl rfl (by constructor <;> omega) (Or.inl rfl) rfl ?_
        have ht0 : h.1 502 (e 15) = h.1 502 x := by rw [hx]
        refine A_iload_n hG 0 dX12_readAll_60 rfl rfl ?_
        refine A_bipush (n := 119) hG dX12_readAll_61 (by decide) ?_
        refine A_icmp_ne hG 73 dX12_readAll_63 (by decide) (by constructor <;> omega) (by constructor <;> omega) (fun c_63 => ?_) (fun c_63 => ?_)
        ·
          refine A_iload_n hG 0 dX12_readAll_73 rfl rfl ?_
          refine A_bipush (n := 114) hG dX12_readAll_74 (by decide) ?_
          refine A_icmp_ne hG 86 dX12_readAll_76 (by decide) (by constructor <;> omega) (by constructor <;> omega) (fun c_76 => ?_) (fun c_76 => ?_)
          ·
            refine A_iload_n hG 0 dX12_readAll_86 rfl rfl ?_
            refine A_bipush (n := 112) hG dX12_readAll_87 (by decide) ?_
            refine A_icmp_ne hG 103 dX12_readAll_89 (by decide) (by constructor <;> omega) (by constructor <;> omega) (fun c_89 => ?_) (fun c_89 => ?_)
            ·
              refine A_iconst (n := 0) hG dX12_readAll_103 ?_
              refine A_istore_n (L' := [(3, vI 0), (2, vI (h.1 502 (e 15))), (1, vI (e 15)), (0, .ref 500)]) hG dX12_readAll_104 rfl (by decide) rfl ?_
              refine A_iload_n hG 0 dX12_readAll_105 rfl rfl ?_
              refine A_if_ne hG 111 dX12_readAll_106 (by decide) (by constructor <;> omega) (fun c_106 => ?_) (fun c_106 => ?_)
              ·
                exact absurd c_106 (by decide)
              ·
                refine A_iload_n hG 2 dX12_readAll_109 rfl rfl ?_
                exact Ret_i hM dX12_readAll_110 (by constructor <;> omega) (by
                    obtain ⟨N, hN⟩ := hrem 1 x g (Or.inr (Or.inr (Or.inr (Or.inr ⟨(by omega), (fun q => by have := q.1; omega), (fun q => by have := q.1; omega), (fun q => by have := q.1; omega), rfl, rfl⟩))))
                    rw [← hx] at hN
                    exact ⟨_, _, _, _, _, _, _, N, g, ⟨hN, fun q => by omega, fun q hq => by rw [up_ne _ _ hq]; exact he q hq, hu⟩, rfl⟩)
            ·
              refine A_aload_n hG 2 dX12_readAll_92 rfl rfl ?_
              refine C_Vi (as := []) (st := []) (k := 500) (c := 11) hG dX12_readAll_93 ml_X12_110 mf_X12_priceItem mi_X12_priceItem se_X12_priceItem rfl (by decide) k500 (r_priceItem (hm h [(503, f3), (505, f5), (507, f7), (500, up e 15 ((e 15) + 1)), (517, nm), (504, f4), (506, f6)] [] []) (p := x + 1) (show 0 ≤ up e 15 (e 15 + 1) 0 ∧ up e 15 (e 15 + 1) 0 ≤ 400 by rw [hL0]; exact hlen) (show 0 ≤ x + 1 ∧ x + 1 ≤ up e 15 (e 15 + 1) 0 by rw [hL0]; omega) (show up e 15 (e 15 + 1) 15 = x + 1 by rw [up_eq, hx])) (by decide) (by decide) rfl rfl (Nat.le_of_ble_eq_true rfl) (fun z93 g93 ri_93 hp_93 => ?_)
              obtain ⟨ra_93, rb_93⟩ := ri_93
              have hq_93 : ∃ nx ex y507 : Int → Int, ((∀ q, q ≠ 15 → ex q = up e 15 (e 15 + 1) q) ∧ ((z93 = 1 ∧ Pok (h.1 502) (up e 15 (e 15 + 1) 0) (x + 1) ∧ ex 15 = np (h.1 502) (up e 15 (e 15 + 1) 0) (x + 1) 2 ∧ (∀ c, 0 ≤ c → c < 5 → y507 (5 + c) = if c = nv (h.1 502) (up e 15 (e 15 + 1) 0) (np (h.1 502) (up e 15 (e 15 + 1) 0) (x + 1) 0) then nv (h.1 502) (up e 15 (e 15 + 1) 0) (np (h.1 502) (up e 15 (e 15 + 1) 0) (x + 1) 1) else f7 (5 + c)) ∧ ∀ i, i < 5 → y507 i = f7 i) ∨ (z93 = 0 ∧ ¬ Pok (h.1 502) (up e 15 (e 15 + 1) 0) (x + 1) ∧ ∀ i, i < 5 → y507 i = f7 i))) ∧ g93 = hm (hm h [(503, f3), (505, f5), (507, f7), (500, up e 15 ((e 15) + 1)), (517, nm), (504, f4), (506, f6)] [] []) [(500, ex), (517, nx), (507, y507)] [] [] := hp_93
              obtain ⟨nm93, e93, f507_93, ⟨he93, hz93⟩, rfl⟩ := hq_93
              rw [hL0] at hz93
              refine A_hm (la := [(503, f3), (505, f5), (507, f507_93), (500, e93), (517, nm93), (504, f4), (506, f6)]) (lb := []) (lc := []) rfl rfl rfl ?_
              refine A_if_eq hG 103 dX12_readAll_96 (by decide) (by constructor <;> omega) (fun c_96 => ?_) (fun c_96 => ?_)
              ·
                have hn93 := (hz93.resolve_left (fun q => by omega)).2
                have hno93 := hn93.1
                have hk93 := hn93.2
                refine A_iconst (n := 0) hG dX12_readAll_103 ?_
                refine A_istore_n (L' := [(3, vI 0), (2, vI (h.1 502 (e 15))), (1, vI (e 15)), (0, .ref 500)]) hG dX12_readAll_104 rfl (by decide) rfl ?_
                refine A_iload_n hG 0 dX12_readAll_105 rfl rfl ?_
                refine A_if_ne hG 111 dX12_readAll_106 (by decide) (by constructor <;> omega) (fun c_106 => ?_) (fun c_106 => ?_)
                ·
                  exact absurd c_106 (by decide)
                ·
                  refine A_iload_n hG 2 dX12_readAll_109 rfl rfl ?_
                  exact Ret_i hM dX12_readAll_110 (by constructor <;> omega) (by
                      obtain ⟨N, hN⟩ := hrem 1 x g (Or.inr (Or.inr (Or.inr (Or.inr ⟨(by omega), (fun q => by have := q.1; omega), (fun q => by have := q.1; omega), (fun q => hno93 q.2), rfl, rfl⟩))))
                      rw [← hx] at hN
                      exact ⟨_, _, _, _, _, _, _, N, g, ⟨hN, fun q => by omega, fun q hq => by rw [he93 q hq, up_ne _ _ hq]; exact he q hq, ⟨hu.1, hu.2.1, hu.2.2.1, fun i hi => by rw [hk93 i hi]; exact hu.2.2.2 i hi⟩⟩, rfl⟩)
              ·
                have hy93 := hz93.resolve_right (fun q => c_96 q.1)
                refine A_iconst (n := 1) hG dX12_readAll_99 ?_
                refine A_goto hG 104 dX12_readAll_100 (by decide) ?_
                refine A_istore_n (L' := [(3, vI 1), (2, vI (h.1 502 (e 15))), (1, vI (e 15)), (0, .ref 500)]) hG dX12_readAll_104 rfl (by decide) rfl ?_
                refine A_iload_n hG 0 dX12_readAll_105 rfl rfl ?_
                refine A_if_ne hG 111 dX12_readAll_106 (by decide) (by constructor <;> omega) (fun c_106 => ?_) (fun c_106 => ?_)
                ·
                  refine A_goto hG 24 dX12_readAll_111 (by decide) ?_
                  refine A_sub hG [3] rfl ?_
                  exact ih_r (np (h.1 502) (h.1 500 0) (x + 1) 2) e93 nm93 f3 f4 f5 f6 f507_93 (gP (h.1 502) (h.1 500 0) x g) hy93.2.2.1 (fun q hq => by rw [he93 q hq, up_ne _ _ hq]; exact he q hq) (⟨by have := np_lt (h.1 502) (h.1 500 0) (x + 1) 2; omega, np_le (hy93).2.1.1 (by omega)⟩) (trC_P htr hy93.2.2.2.1) (okG_P hOk (show isP (h.1 502) (h.1 500 0) x from ⟨by omega, hy93.2.1⟩)) (⟨hu.1, hu.2.1, hu.2.2.1, fun i hi => by rw [hy93.2.2.2.2 i hi]; exact hu.2.2.2 i hi⟩) (fun N z g' hpr => hrem (N + 1) z g' (Or.inr (Or.inr (Or.inr (Or.inl ⟨(by omega), (show isP (h.1 502) (h.1 500 0) x from ⟨by omega, hy93.2.1⟩), hpr⟩))))) (by have := np_lt (h.1 502) (h.1 500 0) (x + 1) 0; have h5 := np_lt (h.1 502) (h.1 500 0) (x + 1) 2; have h6 := np_lt (h.1 502) (h.1 500 0) (x + 1) 4; have h7 := np_lt (h.1 502) (h.1 500 0) (x + 1) 5; omega)
                ·
                  exact absurd c_106 (by decide)
          ·
            refine A_aload_n hG 2 dX12_readAll_79 rfl rfl ?_
            refine C_Vi (as := []) (st := []) (k := 500) (c := 11) hG dX12_readAll_80 ml_X12_107 mf_X12_ruleItem mi_X12_ruleItem se_X12_ruleItem rfl (by decide) k500 (r_ruleItem (hm h [(503, f3), (505, f5), (507, f7), (500, up e 15 ((e 15) + 1)), (517, nm), (504, f4), (506, f6)] [] []) (p := x + 1) (show 0 ≤ up e 15 (e 15 + 1) 0 ∧ up e 15 (e 15 + 1) 0 ≤ 400 by rw [hL0]; exact hlen) (show 0 ≤ x + 1 ∧ x + 1 ≤ up e 15 (e 15 + 1) 0 by rw [hL0]; omega) (show up e 15 (e 15 + 1) 15 = x + 1 by rw [up_eq, hx]) hn5) (by decide) (by decide) rfl rfl (Nat.le_of_ble_eq_true rfl) (fun z80 g80 ri_80 hp_80 => ?_)
            obtain ⟨ra_80, rb_80⟩ := ri_80
            have hq_80 : ∃ nx ex y506 y505 : Int → Int, ((∀ q, q ≠ 15 → ex q = up e 15 (e 15 + 1) q) ∧ ((z80 = 1 ∧ Rok (h.1 502) (up e 15 (e 15 + 1) 0) (x + 1) (f5 1) ∧ ex 15 = np (h.1 502) (up e 15 (e 15 + 1) 0) (x + 1) 5 ∧ y505 1 = f5 1 + 1 ∧ y505 0 = f5 0 ∧ (∀ i : Nat, i < 5 → y506 (120 + 5 * f5 1 + i) = nv (h.1 502) (up e 15 (e 15 + 1) 0) (np (h.1 502) (up e 15 (e 15 + 1) 0) (x + 1) i)) ∧ ∀ i, i < 120 + 5 * f5 1 → y506 i = f6 i) ∨ (z80 = 0 ∧ ¬ Rok (h.1 502) (up e 15 (e 15 + 1) 0) (x + 1) (f5 1) ∧ y505 0 = f5 0 ∧ ∀ i, i < 120 → y506 i = f6 i))) ∧ g80 = hm (hm h [(503, f3), (505, f5), (507, f7), (500, up e 15 ((e 15) + 1)), (517, nm), (504, f4), (506, f6)] [] []) [(500, ex), (517, nx), (506, y506), (505, y505)] [] [] := hp_80
            obtain ⟨nm80, e80, f506_80, f505_80, ⟨he80, hz80⟩, rfl⟩ := hq_80
            rw [hL0] at hz80
            refine A_hm (la := [(503, f3), (505, f505_80), (507, f7), (500, e80), (517, nm80), (504, f4), (506, f506_80)]) (lb := []) (lc := []) rfl rfl rfl ?_
            refine A_goto hG 104 dX12_readAll_83 (by decide) ?_
            refine A_istore_n (L' := [(3, vI z80), (2, vI (h.1 502 (e 15))), (1, vI (e 15)), (0, .ref 500)]) hG dX12_readAll_104 rfl (by decide) rfl ?_
            refine A_iload_n hG 0 dX12_readAll_105 rfl rfl ?_
            refine A_if_ne hG 111 dX12_readAll_106 (by decide) (by constructor <;> omega) (fun c_106 => ?_) (fun c_106 => ?_)
            ·
              have hy80 := hz80.resolve_right (fun q => c_106 q.1)
              refine A_goto hG 24 dX12_readAll_111 (by decide) ?_
              refine A_sub hG [3] rfl ?_
              exact ih_r (np (h.1 502) (h.1 500 0) (x + 1) 5) e80 nm80 f3 f4 f505_80 f506_80 f7 (gRu (h.1 502) (h.1 500 0) x g) hy80.2.2.1 (fun q hq => by rw [he80 q hq, up_ne _ _ hq]; exact he q hq) (⟨by have := np_lt (h.1 502) (h.1 500 0) (x + 1) 5; omega, np_le (hy80).2.1.1 (by omega)⟩) (trC_R htr hOk hy80.2.2.2.1 hy80.2.2.2.2.2.1 hy80.2.2.2.2.2.2) (okG_R hOk (show isR (h.1 502) (h.1 500 0) x g from ⟨by omega, by rw [← htr.2.1]; exact hy80.2.1⟩)) (⟨⟨hu.1.1, by rw [hy80.2.2.2.2.1]; exact hu.1.2⟩, hu.2.1, fun i hi => by rw [hy80.2.2.2.2.2.2 i (by omega)]; exact hu.2.2.1 i hi, hu.2.2.2⟩) (fun N z g' hpr => hrem (N + 1) z g' (Or.inr (Or.inr (Or.inl ⟨(by omega), (show isR (h.1 502) (h.1 500 0) x g from ⟨by omega, by rw [← htr.2.1]; exact hy80.2.1⟩), hpr⟩)))) (by have := np_lt (h.1 502) (h.1 500 0) (x + 1) 0; have h5 := np_lt (h.1 502) (h.1 500 0) (x + 1) 2; have h6 := np_lt (h.1 502) (h.1 500 0) (x + 1) 4; have h7 := np_lt (h.1 502) (h.1 500 0) (x + 1) 5; omega)
            ·
              have hn80 := (hz80.resolve_left (fun q => by omega)).2
              have hno80 := hn80.1
              have hk80 := hn80.2
              refine A_iload_n hG 2 dX12_readAll_109 rfl rfl ?_
              exact Ret_i hM dX12_readAll_110 (by constructor <;> omega) (by
                  obtain ⟨N, hN⟩ := hrem 1 x g (Or.inr (Or.inr (Or.inr (Or.inr ⟨(by omega), (fun q => by have := q.1; omega), (fun q => hno80 (by rw [htr.2.1]; exact q.2)), (fun q => by have := q.1; omega), rfl, rfl⟩))))
                  rw [← hx] at hN
                  exact ⟨_, _, _, _, _, _, _, N, g, ⟨hN, fun q => by omega, fun q hq => by rw [he80 q hq, up_ne _ _ hq]; exact he q hq, ⟨⟨hu.1.1, by rw [hk80.1]; exact hu.1.2⟩, hu.2.1, fun i hi => by rw [hk80.2 i hi]; exact hu.2.2.1 i hi, hu.2.2.2⟩⟩, rfl⟩)
        ·
          refine A_aload_n hG 2 dX12_readAll_66 rfl rfl ?_
          refine C_Vi (as := []) (st := []) (k := 500) (c := 11) hG dX12_readAll_67 ml_X12_103 mf_X12_wordItem mi_X12_wordItem se_X12_wordItem rfl (by decide) k500 (r_wordItem (hm h [(503, f3), (505, f5), (507, f7), (500, up e 15 ((e 15) + 1)), (517, nm), (504, f4), (506, f6)] [] []) (p := x + 1) (show 0 ≤ up e 15 (e 15 + 1) 0 ∧ up e 15 (e 15 + 1) 0 ≤ 400 by rw [hL0]; exact hlen) (show 0 ≤ x + 1 ∧ x + 1 ≤ up e 15 (e 15 + 1) 0 by rw [hL0]; omega) (show up e 15 (e 15 + 1) 15 = x + 1 by rw [up_eq, hx]) hn3) (by decide) (by decide) rfl rfl (Nat.le_of_ble_eq_true rfl) (fun z67 g67 ri_67 hp_67 => ?_)
          obtain ⟨ra_67, rb_67⟩ := ri_67
          have hq_67 : ∃ nx ex y504 y503 : Int → Int, ((∀ q, q ≠ 15 → ex q = up e 15 (e 15 + 1) q) ∧ ((z67 = 1 ∧ Wok (h.1 502) (up e 15 (e 15 + 1) 0) (x + 1) (f3 1) ∧ ex 15 = np (h.1 502) (up e 15 (e 15 + 1) 0) (x + 1) 4 ∧ y503 1 = f3 1 + 1 ∧ y503 0 = f3 0 ∧ (∀ i : Nat, i < 4 → y504 (64 + 4 * f3 1 + i) = nv (h.1 502) (up e 15 (e 15 + 1) 0) (np (h.1 502) (up e 15 (e 15 + 1) 0) (x + 1) i)) ∧ ∀ i, i < 64 + 4 * f3 1 → y504 i = f4 i) ∨ (z67 = 0 ∧ ¬ Wok (h.1 502) (up e 15 (e 15 + 1) 0) (x + 1) (f3 1) ∧ y503 0 = f3 0 ∧ ∀ i, i < 64 → y504 i = f4 i))) ∧ g67 = hm (hm h [(503, f3), (505, f5), (507, f7), (500, up e 15 ((e 15) + 1)), (517, nm), (504, f4), (506, f6)] [] []) [(500, ex), (517, nx), (504, y504), (503, y503)] [] [] := hp_67
          obtain ⟨nm67, e67, f504_67, f503_67, ⟨he67, hz67⟩, rfl⟩ := hq_67
          rw [hL0] at hz67
          refine A_hm (la := [(503, f503_67), (505, f5), (507, f7), (500, e67), (517, nm67), (504, f504_67), (506, f6)]) (lb := []) (lc := []) rfl rfl rfl ?_
          refine A_goto hG 104 dX12_readAll_70 (by decide) ?_
          refine A_istore_n (L' := [(3, vI z67), (2, vI (h.1 502 (e 15))), (1, vI (e 15)), (0, .ref 500)]) hG dX12_readAll_104 rfl (by decide) rfl ?_
          refine A_iload_n hG 0 dX12_readAll_105 rfl rfl ?_
          refine A_if_ne hG 111 dX12_readAll_106 (by decide) (by constructor <;> omega) (fun c_106 => ?_) (fun c_106 => ?_)
          ·
            have hy67 := hz67.resolve_right (fun q => c_106 q.1)
            refine A_goto hG 24 dX12_readAll_111 (by decide) ?_
            refine A_sub hG [3] rfl ?_
            exact ih_r (np (h.1 502) (h.1 500 0) (x + 1) 4) e67 nm67 f503_67 f504_67 f5 f6 f7 (gW (h.1 502) (h.1 500 0) x g) hy67.2.2.1 (fun q hq => by rw [he67 q hq, up_ne _ _ hq]; exact he q hq) (⟨by have := np_lt (h.1 502) (h.1 500 0) (x + 1) 4; omega, np_le (hy67).2.1.1 (by omega)⟩) (trC_W htr hOk hy67.2.2.2.1 hy67.2.2.2.2.2.1 hy67.2.2.2.2.2.2) (okG_W hOk (show isW (h.1 502) (h.1 500 0) x g from ⟨by omega, by rw [← htr.1]; exact hy67.2.1⟩)) (⟨⟨by rw [hy67.2.2.2.2.1]; exact hu.1.1, hu.1.2⟩, fun i hi => by rw [hy67.2.2.2.2.2.2 i (by omega)]; exact hu.2.1 i hi, hu.2.2⟩) (fun N z g' hpr => hrem (N + 1) z g' (Or.inr (Or.inl ⟨(by omega), (show isW (h.1 502) (h.1 500 0) x g from ⟨by omega, by rw [← htr.1]; exact hy67.2.1⟩), hpr⟩))) (by have := np_lt (h.1 502) (h.1 500 0) (x + 1) 0; have h5 := np_lt (h.1 502) (h.1 500 0) (x + 1) 2; have h6 := np_lt (h.1 502) (h.1 500 0) (x + 1) 4; have h7 := np_lt (h.1 502) (h.1 500 0) (x + 1) 5; omega)
          ·
            have hn67 := (hz67.resolve_left (fun q => by omega)).2
            have hno67 := hn67.1
            have hk67 := hn67.2
            refine A_iload_n hG 2 dX12_readAll_109 rfl rfl ?_
            exact Ret_i hM dX12_readAll_110 (by constructor <;> omega) (by
                obtain ⟨N, hN⟩ := hrem 1 x g (Or.inr (Or.inr (Or.inr (Or.inr ⟨(by omega), (fun q => hno67 (by rw [htr.1]; exact q.2)), (fun q => by have := q.1; omega), (fun q => by have := q.1; omega), rfl, rfl⟩))))
                rw [← hx] at hN
                exact ⟨_, _, _, _, _, _, _, N, g, ⟨hN, fun q => by omega, fun q hq => by rw [he67 q hq, up_ne _ _ hq]; exact he q hq, ⟨⟨by rw [hk67.1]; exact hu.1.1, hu.1.2⟩, fun i hi => by rw [hk67.2 i hi]; exact hu.2.1 i hi, hu.2.2⟩⟩, rfl⟩)
  refine A_sub hG [0] rfl ?_
  exact r_1 _ 0 (up (h.1 500) 15 0) (h.1 517) (up (h.1 503) 1 0) (h.1 504) (up (h.1 505) 1 0) (h.1 506) f16 g00 (up_eq _ _ _) (fun q hq => up_ne _ _ hq) (⟨by omega, hlen.1⟩) (trC_00 (up_eq _ _ _) (up_eq _ _ _) (fun c c1 c2 => hf16.1 c c1 c2)) okG_00 (⟨⟨up_ne _ _ (by decide), up_ne _ _ (by decide)⟩, fun _ _ => rfl, fun _ _ => rfl, fun i hi => hf16.2 i (by omega)⟩) (fun N z g' q => ⟨N, q⟩) (Nat.lt_succ_self _)

end
