/-! the reference: mend, placeOf (printed by gen) -/
section
theorem mT_dec {nw many k : Int} {f3 f4 f5 ms : Int → Int} (h : mT nw many f3 f4 f5 ms) (hw : nw ≤ 16) (hk : 0 ≤ k ∧ k < many) : prK (ms k) = f3 k ∧ lnK (ms k) = f4 k ∧ ∀ i, 0 ≤ i → i < f4 k → wdK (ms k) i = f5 (8 * k + i) := by
  obtain ⟨e1, e2, e3, e4, e5⟩ := h k hk.1 hk.2
  rw [e5]
  exact kK_dec (w := fun i => f5 (8 * k + i)) ⟨e2, fun i i0 i1 => ⟨(e3 i i0 i1).1, Int.lt_of_lt_of_le (e3 i i0 i1).2 hw⟩⟩
theorem mT_row {nw many k l : Int} {f3 f4 f5 ms w : Int → Int} (h : mT nw many f3 f4 f5 ms) (hw : nw ≤ 16) (hk : 0 ≤ k ∧ k < many) : rowK l w (ms k) ↔ (f4 k = l ∧ ∀ i, 0 ≤ i → i < f4 k → f5 (8 * k + i) = w i) := by
  obtain ⟨-, d2, d3⟩ := mT_dec h hw hk
  unfold rowK
  rw [d2]
  constructor
  · rintro ⟨a, b⟩; exact ⟨a, fun i i0 i1 => by rw [← d3 i i0 i1]; exact b i i0 (by omega)⟩
  · rintro ⟨a, b⟩; exact ⟨a, fun i i0 i1 => by rw [d3 i i0 (by omega)]; exact b i i0 (by omega)⟩
set_option maxHeartbeats 2000000 in
set_option maxRecDepth 20000 in
theorem r_mend (h : AH) {s i a : Int} (hs : ir s) (hi : ir i) (ha : ir a) (hG0 : okG (gR h)) (hW : ∀ s, 0 ≤ s → s ≤ 7 → okW (gR h) (rowR h s) (h.1 508 s)) : AMet yX12_mend cX12_mend 4 (some .int) 5 126 [.ref 500, vI s, vI i, vI a] h (Qi (fun z h' => (z = -1 ∧ (s < 0 ∨ 7 < s ∨ i < -1 ∨ a < 0 ∨ 9 < a) ∧ h' = h) ∨ (∃ fl, (z = -2 ∧ (0 ≤ s ∧ s ≤ 7 ∧ -1 ≤ i ∧ 0 ≤ a ∧ a ≤ 9) ∧ (h.1 508 s = 0 ∨ READ (gR h) (hasb 0) (rowR h s) (h.1 508 s))) ∧ h' = hm h [] [(518, fl)] []) ∨ (∃ e f o f3 f4 f5 pv : Int → Int, ∃ fl : Int → Int64, ((0 ≤ s ∧ s ≤ 7 ∧ -1 ≤ i ∧ 0 ≤ a ∧ a ≤ 9) ∧ h.1 508 s ≠ 0 ∧ ¬ READ (gR h) (hasb 0) (rowR h s) (h.1 508 s) ∧ mendA (cnd (gR h) (rowR h s) (h.1 508 s) (hasb (h.1 510 s)) (fun _ _ _ => True)) i a z ∧ ((∀ q, q ≠ 9 → e q = h.1 508 q) ∧ (∀ j, j < 90 → f j = h.1 509 j) ∧ (∀ q, q ≠ 21 → o q = h.1 500 q))) ∧ h' = hm h [(525, f5), (524, f4), (523, f3), (509, f), (508, e), (521, pv), (500, o)] [(518, fl)] []))) := by
  obtain ⟨hs1, hs2⟩ := hs
  obtain ⟨hi1, hi2⟩ := hi
  obtain ⟨ha1, ha2⟩ := ha
  have hnw := hG0.1
  rw [(gR_n h).1] at hnw
  refine AMet.of (by decide) (Nat.le_of_ble_eq_true rfl) (fun G hM => ?_)
  have hG := hM.cx
  refine A_hm0 (G := G) (L := [(0, .ref 500), (1, vI s), (2, vI i), (3, vI a)]) ?_
  refine A_iload_n hG 1 dX12_mend_0 rfl rfl ?_
  refine C_Si (as := [vI s]) (st := []) hG dX12_mend_1 ml_X12_134 mf_X12_isSentence ms_X12_isSentence (r_isSentence (hm h [] [] []) (by constructor <;> omega)) (by decide) (by decide) rfl rfl (Nat.le_of_ble_eq_true rfl) (fun z1 g1 ri_1 hp_1 => ?_)
  obtain ⟨ra_1, rb_1⟩ := ri_1
  obtain ⟨hz1, rfl⟩ := hp_1
  refine A_if_eq hG 24 dX12_mend_4 (by decide) (by constructor <;> omega) (fun c_4 => ?_) (fun c_4 => ?_)
  ·
    refine A_iconst (n := -1) hG dX12_mend_24 ?_
    exact Ret_i hM dX12_mend_25 (by constructor <;> omega) (Or.inl ⟨rfl, by omega, rfl⟩)
  ·
    refine A_iload_n hG 2 dX12_mend_7 rfl rfl ?_
    refine A_iconst (n := -1) hG dX12_mend_8 ?_
    refine A_icmp_lt hG 24 dX12_mend_9 (by decide) (by constructor <;> omega) (by constructor <;> omega) (fun c_9 => ?_) (fun c_9 => ?_)
    ·
      refine A_iconst (n := -1) hG dX12_mend_24 ?_
      exact Ret_i hM dX12_mend_25 (by constructor <;> omega) (Or.inl ⟨rfl, by omega, rfl⟩)
    ·
      refine A_iload_n hG 3 dX12_mend_12 rfl rfl ?_
      refine A_i2l hG dX12_mend_13 ?_
      refine A_lconst (v := i2l 0) hG dX12_mend_14 (by decide) ?_
      refine A_ldc2 (v := i2l 9) hG dX12_mend_15 (by rw [show i2l 9 = (9 : Int64) by decide]; exact kl_X12_164) ?_
      refine C_Si (as := [.long (i2l a), .long (i2l 0), .long (i2l 9)]) (st := []) hG dX12_mend_18 ml_X12_80 mf_X12_in ms_X12_in (r_in (hm h [] [] []) (by constructor <;> omega) (by constructor <;> omega) (by constructor <;> omega)) (by decide) (by decide) rfl rfl (Nat.le_of_ble_eq_true rfl) (fun z18 g18 ri_18 hp_18 => ?_)
      obtain ⟨ra_18, rb_18⟩ := ri_18
      obtain ⟨hz18, rfl⟩ := hp_18
      refine A_if_ne hG 26 dX12_mend_21 (by decide) (by constructor <;> omega) (fun c_21 => ?_) (fun c_21 => ?_)
      ·
        have hW0 := hW s (by omega) (by omega)
        have hlen := hW0.1
        refine A_aload_n hG 0 dX12_mend_26 rfl rfl ?_
        refine A_getR (r := 508) hG dX12_mend_27 fl_X12_28 (by decide) k500 (by decide) rfl ?_
        refine A_iload_n hG 1 dX12_mend_30 rfl rfl ?_
        refine M_iald (v := h.1 508 s) hG dX12_mend_31 k508 n508 (by omega) rfl (fun ⟨ra_31, rb_31⟩ => ?_)
        refine A_if_eq hG 44 dX12_mend_32 (by decide) (by constructor <;> omega) (fun c_32 => ?_) (fun c_32 => ?_)
        ·
          refine A_bipush (n := -2) hG dX12_mend_44 (by decide) ?_
          exact Ret_i hM dX12_mend_46 (by constructor <;> omega) (Or.inr (Or.inl ⟨h.2.1 518, ⟨rfl, by omega, Or.inl c_32⟩, (hm_selfL h 518).symm⟩))
        ·
          refine A_aload_n hG 0 dX12_mend_35 rfl rfl ?_
          refine A_iload_n hG 1 dX12_mend_36 rfl rfl ?_
          refine A_iconst (n := 0) hG dX12_mend_37 ?_
          refine C_Vi (as := [vI s, vI 0]) (st := []) (k := 500) (c := 11) hG dX12_mend_38 ml_X12_185 mf_X12_isRead mi_X12_isRead se_X12_isRead rfl (by decide) k500 (r_isRead (hm h [] [] []) (fr := 0) (by omega) hG0 hW0) (by decide) (by decide) rfl rfl (Nat.le_of_ble_eq_true rfl) (fun z38 g38 ri_38 hp_38 => ?_)
          obtain ⟨ra_38, rb_38⟩ := ri_38
          have hq_38 : ∃ fx, ((z38 = 1 ∧ 0 < h.1 508 s ∧ READ (gR h) (hasb 0) (rowR h s) (h.1 508 s)) ∨ (z38 = 0 ∧ (h.1 508 s = 0 ∨ ¬ READ (gR h) (hasb 0) (rowR h s) (h.1 508 s)))) ∧ g38 = hm (hm h [] [] []) [] [(518, fx)] [] := hp_38
          obtain ⟨f38, hz38, rfl⟩ := hq_38
          refine A_hm (la := []) (lb := [(518, f38)]) (lc := []) rfl rfl rfl ?_
          refine A_if_eq hG 47 dX12_mend_41 (by decide) (by constructor <;> omega) (fun c_41 => ?_) (fun c_41 => ?_)
          ·
            have hnR : ¬ READ (gR h) (hasb 0) (rowR h s) (h.1 508 s) := (hz38.resolve_left (fun q => by omega)).2.resolve_left c_32
            refine A_aload_n hG 0 dX12_mend_47 rfl rfl ?_
            refine A_iload_n hG 1 dX12_mend_48 rfl rfl ?_
            refine C_Vv (as := [vI s]) (st := []) (k := 500) (c := 11) hG dX12_mend_49 ml_X12_201 mf_X12_layMends mi_X12_layMends se_X12_layMends rfl (by decide) k500 (r_layMends (hm h [] [(518, f38)] []) (s := s) (by omega) hG0 hW0 (show 1 ≤ h.1 508 s by omega)) (by decide) (by decide) rfl rfl (Nat.le_of_ble_eq_true rfl) (fun g49 hp_49 => ?_)
            have hq_49 : ∃ ex fx ox fx3 fx4 fx5 px : Int → Int, ∃ fx8 : Int → Int64, (mQ (cnd (gR h) (rowR h s) (h.1 508 s) (hasb (h.1 510 s)) (fun _ _ _ => True)) (h.1 503 0) ox fx3 fx4 fx5 ∧ (∀ q, q ≠ 9 → ex q = h.1 508 q) ∧ (∀ j, j < 90 → fx j = h.1 509 j) ∧ (∀ q, q ≠ 21 → ox q = h.1 500 q)) ∧ g49 = hm (hm h [] [(518, f38)] []) [(500, ox), (521, px), (508, ex), (509, fx), (523, fx3), (524, fx4), (525, fx5)] [(518, fx8)] [] := hp_49
            obtain ⟨e, f, o, f3, f4, f5, pv, fl, ⟨⟨ms, hC, hT⟩, hE, hF, hO⟩, rfl⟩ := hq_49
            have hmn := hC.1
            refine A_hm (la := [(525, f5), (524, f4), (523, f3), (509, f), (508, e), (521, pv), (500, o)]) (lb := [(518, fl)]) (lc := []) rfl rfl rfl ?_
            refine A_iload_n hG 2 dX12_mend_52 rfl rfl ?_
            refine A_if_lt hG 64 dX12_mend_53 (by decide) (by constructor <;> omega) (fun c_53 => ?_) (fun c_53 => ?_)
            ·
              refine A_iload_n hG 2 dX12_mend_64 rfl rfl ?_
              refine A_if_ge hG 75 dX12_mend_65 (by decide) (by constructor <;> omega) (fun c_65 => ?_) (fun c_65 => ?_)
              ·
                refine A_bipush (n := -4) hG dX12_mend_75 (by decide) ?_
                exact Ret_i hM dX12_mend_77 (by constructor <;> omega) (Or.inr (Or.inr ⟨e, f, o, f3, f4, f5, pv, fl, ⟨by omega, c_32, hnR, ⟨_, ms, hC, by rw [mdF, if_neg (by omega), if_pos (by omega)]⟩, hE, hF, hO⟩, rfl⟩))
              ·
                refine A_aload_n hG 0 dX12_mend_68 rfl rfl ?_
                refine M_getI (z := 21) (v := o 21) hG dX12_mend_69 fl_X12_188 (by decide) k500 rfl rfl rfl (fun ⟨ra_69, rb_69⟩ => ?_)
                refine A_goto hG 77 dX12_mend_72 (by decide) ?_
                exact Ret_i hM dX12_mend_77 (by constructor <;> omega) (Or.inr (Or.inr ⟨e, f, o, f3, f4, f5, pv, fl, ⟨by omega, c_32, hnR, ⟨_, ms, hC, by rw [mdF, if_pos (by omega)]⟩, hE, hF, hO⟩, rfl⟩))
            ·
              refine A_iload_n hG 2 dX12_mend_56 rfl rfl ?_
              refine A_aload_n hG 0 dX12_mend_57 rfl rfl ?_
              refine M_getI (z := 21) (v := o 21) hG dX12_mend_58 fl_X12_188 (by decide) k500 rfl rfl rfl (fun ⟨ra_58, rb_58⟩ => ?_)
              refine A_icmp_lt hG 78 dX12_mend_61 (by decide) (by constructor <;> omega) (by constructor <;> omega) (fun c_61 => ?_) (fun c_61 => ?_)
              ·
                obtain ⟨d1, d2, d3⟩ := mT_dec hT hnw.2 (k := i) (by omega)
                obtain ⟨t1, t2, t3, t4, -⟩ := hT i (by omega) (by omega)
                refine A_iload_n hG 3 dX12_mend_78 rfl rfl ?_
                refine A_if_ne hG 91 dX12_mend_79 (by decide) (by constructor <;> omega) (fun c_79 => ?_) (fun c_79 => ?_)
                ·
                  refine A_iload_n hG 3 dX12_mend_91 rfl rfl ?_
                  refine A_iconst (n := 1) hG dX12_mend_92 ?_
                  refine A_icmp_ne hG 105 dX12_mend_93 (by decide) (by constructor <;> omega) (by constructor <;> omega) (fun c_93 => ?_) (fun c_93 => ?_)
                  ·
                    have hw2 : f5 (8 * i + a - 2) = if a - 2 < f4 i then wdK (ms i) (a - 2) else -4 := by
                        rw [show 8 * i + a - 2 = 8 * i + (a - 2) by omega]
                        by_cases q : a - 2 < f4 i
                        · rw [if_pos q, d3 _ (by omega) q]
                        · rw [if_neg q, t4 _ (by omega) (by omega)]
                    refine A_aload_n hG 0 dX12_mend_105 rfl rfl ?_
                    refine A_getR (r := 525) hG dX12_mend_106 fl_X12_68 (by decide) k500 (by decide) rfl ?_
                    refine A_bipush (n := 8) hG dX12_mend_109 (by decide) ?_
                    refine A_iload_n hG 2 dX12_mend_111 rfl rfl ?_
                    refine A_imul hG dX12_mend_112 ?_
                    refine A_iload_n hG 3 dX12_mend_113 rfl rfl ?_
                    refine A_iadd hG dX12_mend_114 ?_
                    refine A_iconst (n := 2) hG dX12_mend_115 ?_
                    refine A_isub hG dX12_mend_116 ?_
                    refine M_iald (v := f5 (((8 * i) + a) - 2)) hG dX12_mend_117 k525 n525 (by omega) rfl (fun ⟨ra_117, rb_117⟩ => ?_)
                    exact Ret_i hM dX12_mend_118 (by constructor <;> omega) (Or.inr (Or.inr ⟨e, f, o, f3, f4, f5, pv, fl, ⟨by omega, c_32, hnR, ⟨_, ms, hC, by rw [mdF, if_neg (by omega), if_neg (by omega), if_neg (by omega), if_neg (by omega), d2, ← hw2]⟩, hE, hF, hO⟩, rfl⟩))
                  ·
                    refine A_aload_n hG 0 dX12_mend_96 rfl rfl ?_
                    refine A_getR (r := 524) hG dX12_mend_97 fl_X12_65 (by decide) k500 (by decide) rfl ?_
                    refine A_iload_n hG 2 dX12_mend_100 rfl rfl ?_
                    refine M_iald (v := f4 i) hG dX12_mend_101 k524 n524 (by omega) rfl (fun ⟨ra_101, rb_101⟩ => ?_)
                    refine A_goto hG 118 dX12_mend_102 (by decide) ?_
                    exact Ret_i hM dX12_mend_118 (by constructor <;> omega) (Or.inr (Or.inr ⟨e, f, o, f3, f4, f5, pv, fl, ⟨by omega, c_32, hnR, ⟨_, ms, hC, by rw [mdF, if_neg (by omega), if_neg (by omega), if_neg (by omega), if_pos (by omega), d2]⟩, hE, hF, hO⟩, rfl⟩))
                ·
                  refine A_aload_n hG 0 dX12_mend_82 rfl rfl ?_
                  refine A_getR (r := 523) hG dX12_mend_83 fl_X12_62 (by decide) k500 (by decide) rfl ?_
                  refine A_iload_n hG 2 dX12_mend_86 rfl rfl ?_
                  refine M_iald (v := f3 i) hG dX12_mend_87 k523 n523 (by omega) rfl (fun ⟨ra_87, rb_87⟩ => ?_)
                  refine A_goto hG 118 dX12_mend_88 (by decide) ?_
                  exact Ret_i hM dX12_mend_118 (by constructor <;> omega) (Or.inr (Or.inr ⟨e, f, o, f3, f4, f5, pv, fl, ⟨by omega, c_32, hnR, ⟨_, ms, hC, by rw [mdF, if_neg (by omega), if_neg (by omega), if_pos (by omega), d1]⟩, hE, hF, hO⟩, rfl⟩))
              ·
                refine A_iload_n hG 2 dX12_mend_64 rfl rfl ?_
                refine A_if_ge hG 75 dX12_mend_65 (by decide) (by constructor <;> omega) (fun c_65 => ?_) (fun c_65 => ?_)
                ·
                  refine A_bipush (n := -4) hG dX12_mend_75 (by decide) ?_
                  exact Ret_i hM dX12_mend_77 (by constructor <;> omega) (Or.inr (Or.inr ⟨e, f, o, f3, f4, f5, pv, fl, ⟨by omega, c_32, hnR, ⟨_, ms, hC, by rw [mdF, if_neg (by omega), if_pos (by omega)]⟩, hE, hF, hO⟩, rfl⟩))
                ·
                  refine A_aload_n hG 0 dX12_mend_68 rfl rfl ?_
                  refine M_getI (z := 21) (v := o 21) hG dX12_mend_69 fl_X12_188 (by decide) k500 rfl rfl rfl (fun ⟨ra_69, rb_69⟩ => ?_)
                  refine A_goto hG 77 dX12_mend_72 (by decide) ?_
                  exact Ret_i hM dX12_mend_77 (by constructor <;> omega) (Or.inr (Or.inr ⟨e, f, o, f3, f4, f5, pv, fl, ⟨by omega, c_32, hnR, ⟨_, ms, hC, by rw [mdF, if_pos (by omega)]⟩, hE, hF, hO⟩, rfl⟩))
          ·
            refine A_bipush (n := -2) hG dX12_mend_44 (by decide) ?_
            exact Ret_i hM dX12_mend_46 (by constructor <;> omega) (Or.inr (Or.inl ⟨f38, ⟨rfl, by omega, Or.inr (hz38.resolve_right (fun q => by omega)).2.2⟩, rfl⟩))
      ·
        refine A_iconst (n := -1) hG dX12_mend_24 ?_
        exact Ret_i hM dX12_mend_25 (by constructor <;> omega) (Or.inl ⟨rfl, by omega, rfl⟩)

def pref (h : AH) (k m n : Int) : Prop := h.1 524 m = h.1 512 (2 * k + 1) ∧ ∀ i, 0 ≤ i → i < n → h.1 525 (8 * m + i) = h.1 513 (16 * k + 8 + i)
set_option maxHeartbeats 2000000 in
set_option maxRecDepth 20000 in
theorem r_placeOf (h : AH) {k nw : Int} {C : Int → Prop} {ms : Int → Int} (hk : 0 ≤ k ∧ k < 12) (hC : topk C (h.1 500 21) ms) (hw : nw ≤ 16) (hT : mT nw (h.1 500 21) (h.1 523) (h.1 524) (h.1 525) ms) : AMet yX12_placeOf cX12_placeOf 5 (some .int) 0 0 [.ref 500, vI k] h (Qi (fun z h' => plA C (h.1 512 (2 * k + 1)) (fun i => h.1 513 (16 * k + 8 + i)) z ∧ h' = h)) := by
  have hn := hC.1
  refine AMet.of (by decide) (Nat.le_of_ble_eq_true rfl) (fun G hM => ?_)
  have hG := hM.cx
  refine A_hm0 (G := G) (L := [(0, .ref 500), (1, vI k)]) ?_
  refine A_iconst (n := 0) hG dX12_placeOf_0 ?_
  refine A_istore_n (L' := [(2, vI 0), (0, .ref 500), (1, vI k)]) hG dX12_placeOf_1 rfl (by decide) rfl ?_
  have m_0 : ∀ fu : Nat, ∀ (m : Int), (0 ≤ m ∧ m ≤ h.1 500 21) → (∀ j, 0 ≤ j → j < m → ¬ rowK (h.1 512 (2 * k + 1)) (fun i => h.1 513 (16 * k + 8 + i)) (ms j)) → ((41 - m).toNat) < fu → G 2 [(0, .ref 500), (1, vI k), (2, vI m)] [] (hm h [] [] []) := by
    intro fu
    induction fu with
    | zero => intro m hm0 hno hfu; exact absurd hfu (Nat.not_lt_zero _)
    | succ fu ih_m =>
      intro m hm0 hno hfu
      refine A_iload_n hG 2 dX12_placeOf_2 rfl rfl ?_
      refine A_aload_n hG 0 dX12_placeOf_3 rfl rfl ?_
      refine M_getI (z := 21) (v := h.1 500 21) hG dX12_placeOf_4 fl_X12_188 (by decide) k500 rfl rfl rfl (fun ⟨ra_4, rb_4⟩ => ?_)
      refine A_icmp_ge hG 107 dX12_placeOf_7 (by decide) (by constructor <;> omega) (by constructor <;> omega) (fun c_7 => ?_) (fun c_7 => ?_)
      ·
        refine A_bipush (n := -4) hG dX12_placeOf_107 (by decide) ?_
        exact Ret_i hM dX12_placeOf_109 (by constructor <;> omega) (⟨⟨_, ms, hC, Or.inr ⟨rfl, fun j j0 j1 => hno j j0 (by omega)⟩⟩, rfl⟩)
      ·
        obtain ⟨t1, t2, -⟩ := hT m (by omega) (by omega)
        refine A_aload_n hG 0 dX12_placeOf_10 rfl rfl ?_
        refine A_getR (r := 524) hG dX12_placeOf_11 fl_X12_65 (by decide) k500 (by decide) rfl ?_
        refine A_iload_n hG 2 dX12_placeOf_14 rfl rfl ?_
        refine M_iald (v := h.1 524 m) hG dX12_placeOf_15 k524 n524 (by omega) rfl (fun ⟨ra_15, rb_15⟩ => ?_)
        refine A_aload_n hG 0 dX12_placeOf_16 rfl rfl ?_
        refine A_getR (r := 512) hG dX12_placeOf_17 fl_X12_37 (by decide) k500 (by decide) rfl ?_
        refine A_iconst (n := 2) hG dX12_placeOf_20 ?_
        refine A_iload_n hG 1 dX12_placeOf_21 rfl rfl ?_
        refine A_imul hG dX12_placeOf_22 ?_
        refine A_iconst (n := 1) hG dX12_placeOf_23 ?_
        refine A_iadd hG dX12_placeOf_24 ?_
        refine M_iald (v := h.1 512 ((2 * k) + 1)) hG dX12_placeOf_25 k512 n512 (by omega) rfl (fun ⟨ra_25, rb_25⟩ => ?_)
        refine A_icmp_ne hG 33 dX12_placeOf_26 (by decide) (by constructor <;> omega) (by constructor <;> omega) (fun c_26 => ?_) (fun c_26 => ?_)
        ·
          refine A_iconst (n := 0) hG dX12_placeOf_33 ?_
          refine A_istore_n (L' := [(3, vI 0), (0, .ref 500), (1, vI k), (2, vI m)]) hG dX12_placeOf_34 rfl (by decide) rfl ?_
          refine A_iconst (n := 0) hG dX12_placeOf_35 ?_
          refine A_istore (L' := [(4, vI 0), (3, vI 0), (0, .ref 500), (1, vI k), (2, vI m)]) hG dX12_placeOf_36 (by decide) rfl ?_
          have i_1 : ∀ fu : Nat, ∀ (x : Int) (i : Int), (0 ≤ i ∧ i ≤ 9) → (x = 1 → i ≤ h.1 524 m) → ((x = 1 ∧ pref h k m i) ∨ (x = 0 ∧ ¬ (h.1 524 m = (h.1 512 (2 * k + 1)) ∧ ∀ i, 0 ≤ i → i < h.1 524 m → h.1 525 (8 * m + i) = h.1 513 (16 * k + 8 + i)))) → ((9 - i).toNat) < fu → G 38 [(0, .ref 500), (1, vI k), (2, vI m), (3, vI x), (4, vI i)] [] (hm h [] [] []) := by
            intro fu
            induction fu with
            | zero => intro x i hi hi2 hx hfu; exact absurd hfu (Nat.not_lt_zero _)
            | succ fu ih_i =>
              intro x i hi hi2 hx hfu
              have hx01 : x = 0 ∨ x = 1 := hx.elim (fun q => Or.inr q.1) (fun q => Or.inl q.1)
              refine A_iload hG 4 dX12_placeOf_38 rfl ?_
              refine A_aload_n hG 0 dX12_placeOf_40 rfl rfl ?_
              refine A_getR (r := 524) hG dX12_placeOf_41 fl_X12_65 (by decide) k500 (by decide) rfl ?_
              refine A_iload_n hG 2 dX12_placeOf_44 rfl rfl ?_
              refine M_iald (v := h.1 524 m) hG dX12_placeOf_45 k524 n524 (by omega) rfl (fun ⟨ra_45, rb_45⟩ => ?_)
              refine A_icmp_ge hG 95 dX12_placeOf_46 (by decide) (by constructor <;> omega) (by constructor <;> omega) (fun c_46 => ?_) (fun c_46 => ?_)
              ·
                refine A_iload_n hG 3 dX12_placeOf_95 rfl rfl ?_
                refine A_if_eq hG 101 dX12_placeOf_96 (by decide) (by constructor <;> omega) (fun c_96 => ?_) (fun c_96 => ?_)
                ·
                  refine A_iinc (L' := [(2, vI (m + 1)), (0, .ref 500), (1, vI k), (3, vI x), (4, vI i)]) hG 2 dX12_placeOf_101 rfl (by decide) rfl ?_
                  refine A_goto hG 2 dX12_placeOf_104 (by decide) ?_
                  refine A_sub hG [1, 2, 0] rfl ?_
                  exact ih_m (m + 1) (by omega) (fun j j0 j1 => by
                      by_cases hq : j = m
                      · rw [hq, mT_row hT hw (by omega)]; exact fun q => (hx.resolve_left (fun q => by omega)).2 q
                      · exact hno j j0 (by omega)) (by omega)
                ·
                  refine A_iload_n hG 2 dX12_placeOf_99 rfl rfl ?_
                  exact Ret_i hM dX12_placeOf_100 (by constructor <;> omega) (⟨⟨_, ms, hC, Or.inl ⟨by omega, by omega, by
                      rw [mT_row hT hw (by omega)]
                      have hp := (hx.resolve_right (fun q => by omega)).2
                      exact ⟨hp.1, fun j j0 j1 => hp.2 j j0 (by omega)⟩, hno⟩⟩, rfl⟩)
              ·
                refine A_iload_n hG 3 dX12_placeOf_49 rfl rfl ?_
                refine A_if_eq hG 95 dX12_placeOf_50 (by decide) (by constructor <;> omega) (fun c_50 => ?_) (fun c_50 => ?_)
                ·
                  refine A_iload_n hG 3 dX12_placeOf_95 rfl rfl ?_
                  refine A_if_eq hG 101 dX12_placeOf_96 (by decide) (by constructor <;> omega) (fun c_96 => ?_) (fun c_96 => ?_)
                  ·
                    refine A_iinc (L' := [(2, vI (m + 1)), (0, .ref 500), (1, vI k), (3, vI x), (4, vI i)]) hG 2 dX12_placeOf_101 rfl (by decide) rfl ?_
                    refine A_goto hG 2 dX12_placeOf_104 (by decide) ?_
                    refine A_sub hG [1, 2, 0] rfl ?_
                    exact ih_m (m + 1) (by omega) (fun j j0 j1 => by
                        by_cases hq : j = m
                        · rw [hq, mT_row hT hw (by omega)]; exact fun q => (hx.resolve_left (fun q => by omega)).2 q
                        · exact hno j j0 (by omega)) (by omega)
                  ·
                    refine A_iload_n hG 2 dX12_placeOf_99 rfl rfl ?_
                    exact Ret_i hM dX12_placeOf_100 (by constructor <;> omega) (⟨⟨_, ms, hC, Or.inl ⟨by omega, by omega, by
                        rw [mT_row hT hw (by omega)]
                        have hp := (hx.resolve_right (fun q => by omega)).2
                        exact ⟨hp.1, fun j j0 j1 => hp.2 j j0 (by omega)⟩, hno⟩⟩, rfl⟩)
                ·
                  refine A_aload_n hG 0 dX12_placeOf_53 rfl rfl ?_
                  refine A_getR (r := 525) hG dX12_placeOf_54 fl_X12_68 (by decide) k500 (by decide) rfl ?_
                  refine A_bipush (n := 8) hG dX12_placeOf_57 (by decide) ?_
                  refine A_iload_n hG 2 dX12_placeOf_59 rfl rfl ?_
                  refine A_imul hG dX12_placeOf_60 ?_
                  refine A_iload hG 4 dX12_placeOf_61 rfl ?_
                  refine A_iadd hG dX12_placeOf_63 ?_
                  refine M_iald (v := h.1 525 ((8 * m) + i)) hG dX12_placeOf_64 k525 n525 (by omega) rfl (fun ⟨ra_64, rb_64⟩ => ?_)
                  refine A_aload_n hG 0 dX12_placeOf_65 rfl rfl ?_
                  refine A_getR (r := 513) hG dX12_placeOf_66 fl_X12_40 (by decide) k500 (by decide) rfl ?_
                  refine A_bipush (n := 16) hG dX12_placeOf_69 (by decide) ?_
                  refine A_iload_n hG 1 dX12_placeOf_71 rfl rfl ?_
                  refine A_imul hG dX12_placeOf_72 ?_
                  refine A_bipush (n := 8) hG dX12_placeOf_73 (by decide) ?_
                  refine A_iadd hG dX12_placeOf_75 ?_
                  refine A_iload hG 4 dX12_placeOf_76 rfl ?_
                  refine A_iadd hG dX12_placeOf_78 ?_
                  refine M_iald (v := h.1 513 (((16 * k) + 8) + i)) hG dX12_placeOf_79 k513 n513 (by omega) rfl (fun ⟨ra_79, rb_79⟩ => ?_)
                  refine A_icmp_ne hG 87 dX12_placeOf_80 (by decide) (by constructor <;> omega) (by constructor <;> omega) (fun c_80 => ?_) (fun c_80 => ?_)
                  ·
                    refine A_iconst (n := 0) hG dX12_placeOf_87 ?_
                    refine A_istore_n (L' := [(3, vI 0), (0, .ref 500), (1, vI k), (2, vI m), (4, vI i)]) hG dX12_placeOf_88 rfl (by decide) rfl ?_
                    refine A_iinc (L' := [(4, vI (i + 1)), (3, vI 0), (0, .ref 500), (1, vI k), (2, vI m)]) hG 4 dX12_placeOf_89 rfl (by decide) rfl ?_
                    refine A_goto hG 38 dX12_placeOf_92 (by decide) ?_
                    refine A_sub hG [2, 3, 4, 1, 0] rfl ?_
                    exact ih_i 0 (i + 1) (by omega) (by omega) (Or.inr ⟨rfl, fun q => c_80 (q.2 i (by omega) (by omega))⟩) (by omega)
                  ·
                    refine A_iconst (n := 1) hG dX12_placeOf_83 ?_
                    refine A_goto hG 88 dX12_placeOf_84 (by decide) ?_
                    refine A_istore_n (L' := [(3, vI 1), (0, .ref 500), (1, vI k), (2, vI m), (4, vI i)]) hG dX12_placeOf_88 rfl (by decide) rfl ?_
                    refine A_iinc (L' := [(4, vI (i + 1)), (3, vI 1), (0, .ref 500), (1, vI k), (2, vI m)]) hG 4 dX12_placeOf_89 rfl (by decide) rfl ?_
                    refine A_goto hG 38 dX12_placeOf_92 (by decide) ?_
                    refine A_sub hG [2, 3, 4, 1, 0] rfl ?_
                    exact ih_i 1 (i + 1) (by omega) (by omega) (Or.inl ⟨rfl, (hx.resolve_right (fun q => by omega)).2.1, fun j j0 j1 => by
                        by_cases hq : j = i
                        · rw [hq]; exact c_80
                        · exact (hx.resolve_right (fun q => by omega)).2.2 j j0 (by omega)⟩) (by omega)
          refine A_sub hG [2, 3, 4, 1, 0] rfl ?_
          exact i_1 _ 0 0 (by omega) (by omega) (Or.inr ⟨rfl, fun q => c_26 q.1⟩) (Nat.lt_succ_self _)
        ·
          refine A_iconst (n := 1) hG dX12_placeOf_29 ?_
          refine A_goto hG 34 dX12_placeOf_30 (by decide) ?_
          refine A_istore_n (L' := [(3, vI 1), (0, .ref 500), (1, vI k), (2, vI m)]) hG dX12_placeOf_34 rfl (by decide) rfl ?_
          refine A_iconst (n := 0) hG dX12_placeOf_35 ?_
          refine A_istore (L' := [(4, vI 0), (3, vI 1), (0, .ref 500), (1, vI k), (2, vI m)]) hG dX12_placeOf_36 (by decide) rfl ?_
          have i_2 : ∀ fu : Nat, ∀ (x : Int) (i : Int), (0 ≤ i ∧ i ≤ 9) → (x = 1 → i ≤ h.1 524 m) → ((x = 1 ∧ pref h k m i) ∨ (x = 0 ∧ ¬ (h.1 524 m = (h.1 512 (2 * k + 1)) ∧ ∀ i, 0 ≤ i → i < h.1 524 m → h.1 525 (8 * m + i) = h.1 513 (16 * k + 8 + i)))) → ((9 - i).toNat) < fu → G 38 [(0, .ref 500), (1, vI k), (2, vI m), (3, vI x), (4, vI i)] [] (hm h [] [] []) := by
            intro fu
            induction fu with
            | zero => intro x i hi hi2 hx hfu; exact absurd hfu (Nat.not_lt_zero _)
            | succ fu ih_i =>
              intro x i hi hi2 hx hfu
              have hx01 : x = 0 ∨ x = 1 := hx.elim (fun q => Or.inr q.1) (fun q => Or.inl q.1)
              refine A_iload hG 4 dX12_placeOf_38 rfl ?_
              refine A_aload_n hG 0 dX12_placeOf_40 rfl rfl ?_
              refine A_getR (r := 524) hG dX12_placeOf_41 fl_X12_65 (by decide) k500 (by decide) rfl ?_
              refine A_iload_n hG 2 dX12_placeOf_44 rfl rfl ?_
              refine M_iald (v := h.1 524 m) hG dX12_placeOf_45 k524 n524 (by omega) rfl (fun ⟨ra_45, rb_45⟩ => ?_)
              refine A_icmp_ge hG 95 dX12_placeOf_46 (by decide) (by constructor <;> omega) (by constructor <;> omega) (fun c_46 => ?_) (fun c_46 => ?_)
              ·
                refine A_iload_n hG 3 dX12_placeOf_95 rfl rfl ?_
                refine A_if_eq hG 101 dX12_placeOf_96 (by decide) (by constructor <;> omega) (fun c_96 => ?_) (fun c_96 => ?_)
                ·
                  refine A_iinc (L' := [(2, vI (m + 1)), (0, .ref 500), (1, vI k), (3, vI x), (4, vI i)]) hG 2 dX12_placeOf_101 rfl (by decide) rfl ?_
                  refine A_goto hG 2 dX12_placeOf_104 (by decide) ?_
                  refine A_sub hG [1, 2, 0] rfl ?_
                  exact ih_m (m + 1) (by omega) (fun j j0 j1 => by
                      by_cases hq : j = m
                      · rw [hq, mT_row hT hw (by omega)]; exact fun q => (hx.resolve_left (fun q => by omega)).2 q
                      · exact hno j j0 (by omega)) (by omega)
                ·
                  refine A_iload_n hG 2 dX12_placeOf_99 rfl rfl ?_
                  exact Ret_i hM dX12_placeOf_100 (by constructor <;> omega) (⟨⟨_, ms, hC, Or.inl ⟨by omega, by omega, by
                      rw [mT_row hT hw (by omega)]
                      have hp := (hx.resolve_right (fun q => by omega)).2
                      exact ⟨hp.1, fun j j0 j1 => hp.2 j j0 (by omega)⟩, hno⟩⟩, rfl⟩)
              ·
                refine A_iload_n hG 3 dX12_placeOf_49 rfl rfl ?_
                refine A_if_eq hG 95 dX12_placeOf_50 (by decide) (by constructor <;> omega) (fun c_50 => ?_) (fun c_50 => ?_)
                ·
                  refine A_iload_n hG 3 dX12_placeOf_95 rfl rfl ?_
                  refine A_if_eq hG 101 dX12_placeOf_96 (by decide) (by constructor <;> omega) (fun c_96 => ?_) (fun c_96 => ?_)
                  ·
                    refine A_iinc (L' := [(2, vI (m + 1)), (0, .ref 500), (1, vI k), (3, vI x), (4, vI i)]) hG 2 dX12_placeOf_101 rfl (by decide) rfl ?_
                    refine A_goto hG 2 dX12_placeOf_104 (by decide) ?_
                    refine A_sub hG [1, 2, 0] rfl ?_
                    exact ih_m (m + 1) (by omega) (fun j j0 j1 => by
                        by_cases hq : j = m
                        · rw [hq, mT_row hT hw (by omega)]; exact fun q => (hx.resolve_left (fun q => by omega)).2 q
                        · exact hno j j0 (by omega)) (by omega)
                  ·
                    refine A_iload_n hG 2 dX12_placeOf_99 rfl rfl ?_
                    exact Ret_i hM dX12_placeOf_100 (by constructor <;> omega) (⟨⟨_, ms, hC, Or.inl ⟨by omega, by omega, by
                        rw [mT_row hT hw (by omega)]
                        have hp := (hx.resolve_right (fun q => by omega)).2
                        exact ⟨hp.1, fun j j0 j1 => hp.2 j j0 (by omega)⟩, hno⟩⟩, rfl⟩)
                ·
                  refine A_aload_n hG 0 dX12_placeOf_53 rfl rfl ?_
                  refine A_getR (r := 525) hG dX12_placeOf_54 fl_X12_68 (by decide) k500 (by decide) rfl ?_
                  refine A_bipush (n := 8) hG dX12_placeOf_57 (by decide) ?_
                  refine A_iload_n hG 2 dX12_placeOf_59 rfl rfl ?_
                  refine A_imul hG dX12_placeOf_60 ?_
                  refine A_iload hG 4 dX12_placeOf_61 rfl ?_
                  refine A_iadd hG dX12_placeOf_63 ?_
                  refine M_iald (v := h.1 525 ((8 * m) + i)) hG dX12_placeOf_64 k525 n525 (by omega) rfl (fun ⟨ra_64, rb_64⟩ => ?_)
                  refine A_aload_n hG 0 dX12_placeOf_65 rfl rfl ?_
                  refine A_getR (r := 513) hG dX12_placeOf_66 fl_X12_40 (by decide) k500 (by decide) rfl ?_
                  refine A_bipush (n := 16) hG dX12_placeOf_69 (by decide) ?_
                  refine A_iload_n hG 1 dX12_placeOf_71 rfl rfl ?_
                  refine A_imul hG dX12_placeOf_72 ?_
                  refine A_bipush (n := 8) hG dX12_placeOf_73 (by decide) ?_
                  refine A_iadd hG dX12_placeOf_75 ?_
                  refine A_iload hG 4 dX12_placeOf_76 rfl ?_
                  refine A_iadd hG dX12_placeOf_78 ?_
                  refine M_iald (v := h.1 513 (((16 * k) + 8) + i)) hG dX12_placeOf_79 k513 n513 (by omega) rfl (fun ⟨ra_79, rb_79⟩ => ?_)
                  refine A_icmp_ne hG 87 dX12_placeOf_80 (by decide) (by constructor <;> omega) (by constructor <;> omega) (fun c_80 => ?_) (fun c_80 => ?_)
                  ·
                    refine A_iconst (n := 0) hG dX12_placeOf_87 ?_
                    refine A_istore_n (L' := [(3, vI 0), (0, .ref 500), (1, vI k), (2, vI m), (4, vI i)]) hG dX12_placeOf_88 rfl (by decide) rfl ?_
                    refine A_iinc (L' := [(4, vI (i + 1)), (3, vI 0), (0, .ref 500), (1, vI k), (2, vI m)]) hG 4 dX12_placeOf_89 rfl (by decide) rfl ?_
                    refine A_goto hG 38 dX12_placeOf_92 (by decide) ?_
                    refine A_sub hG [2, 3, 4, 1, 0] rfl ?_
                    exact ih_i 0 (i + 1) (by omega) (by omega) (Or.inr ⟨rfl, fun q => c_80 (q.2 i (by omega) (by omega))⟩) (by omega)
                  ·
                    refine A_iconst (n := 1) hG dX12_placeOf_83 ?_
                    refine A_goto hG 88 dX12_placeOf_84 (by decide) ?_
                    refine A_istore_n (L' := [(3, vI 1), (0, .ref 500), (1, vI k), (2, vI m), (4, vI i)]) hG dX12_placeOf_88 rfl (by decide) rfl ?_
                    refine A_iinc (L' := [(4, vI (i + 1)), (3, vI 1), (0, .ref 500), (1, vI k), (2, vI m)]) hG 4 dX12_placeOf_89 rfl (by decide) rfl ?_
                    refine A_goto hG 38 dX12_placeOf_92 (by decide) ?_
                    refine A_sub hG [2, 3, 4, 1, 0] rfl ?_
                    exact ih_i 1 (i + 1) (by omega) (by omega) (Or.inl ⟨rfl, (hx.resolve_right (fun q => by omega)).2.1, fun j j0 j1 => by
                        by_cases hq : j = i
                        · rw [hq]; exact c_80
                        · exact (hx.resolve_right (fun q => by omega)).2.2 j j0 (by omega)⟩) (by omega)
          refine A_sub hG [2, 3, 4, 1, 0] rfl ?_
          exact i_2 _ 1 0 (by omega) (by omega) (Or.inl ⟨rfl, c_26, fun j j0 j1 => by omega⟩) (Nat.lt_succ_self _)
  refine A_sub hG [1, 2, 0] rfl ?_
  exact m_0 _ 0 (by omega) (fun j j0 j1 => by omega) (Nat.lt_succ_self _)

end
