/-! the reference: heaps (printed by gen) -/
section
set_option maxHeartbeats 2000000 in
set_option maxRecDepth 20000 in
theorem r_heaps (h : AH) {s d a : Int} (hs : ir s) (hd : ir d) (ha : ir a) (hG0 : okG (gR h)) (hW : ∀ s, 0 ≤ s → s ≤ 7 → okW (gR h) (rowR h s) (h.1 508 s)) : AMet yX12_heaps cX12_heaps 4 (some .int) 5 126 [.ref 500, vI s, vI d, vI a] h (Qi (fun z h' => (z = -1 ∧ (s < 0 ∨ 7 < s ∨ d < 0 ∨ 99 < d ∨ a < 0 ∨ 2 < a) ∧ h' = h) ∨ (∃ fl, (z = -2 ∧ (0 ≤ s ∧ s ≤ 7 ∧ 0 ≤ d ∧ d ≤ 99 ∧ 0 ≤ a ∧ a ≤ 2) ∧ (h.1 508 s = 0 ∨ READ (gR h) (hasb 0) (rowR h s) (h.1 508 s))) ∧ h' = hm h [] [(518, fl)] []) ∨ (∃ e f o2 f3 f4 f5 pv hf : Int → Int, ∃ fl : Int → Int64, ((0 ≤ s ∧ s ≤ 7 ∧ 0 ≤ d ∧ d ≤ 99 ∧ 0 ≤ a ∧ a ≤ 2) ∧ h.1 508 s ≠ 0 ∧ ¬ READ (gR h) (hasb 0) (rowR h s) (h.1 508 s) ∧ hpA (gR h) (cnd (gR h) (rowR h s) (h.1 508 s) (hasb (h.1 510 s)) (fun _ _ _ => True)) d a z ∧ (∀ q, q ≠ 9 → e q = h.1 508 q) ∧ (∀ j, j < 90 → f j = h.1 509 j) ∧ (∀ q, q ≠ 21 → q ≠ 25 → o2 q = h.1 500 q)) ∧ h' = hm h [(525, f5), (524, f4), (523, f3), (509, f), (508, e), (521, pv), (500, o2), (527, hf)] [(518, fl)] []))) := by
  obtain ⟨hs1, hs2⟩ := hs
  obtain ⟨hd1, hd2⟩ := hd
  obtain ⟨ha1, ha2⟩ := ha
  have hnw := hG0.1
  rw [(gR_n h).1] at hnw
  refine AMet.of (by decide) (Nat.le_of_ble_eq_true rfl) (fun G hM => ?_)
  have hG := hM.cx
  refine A_hm0 (G := G) (L := [(0, .ref 500), (1, vI s), (2, vI d), (3, vI a)]) ?_
  refine A_iload_n hG 1 dX12_heaps_0 rfl rfl ?_
  refine C_Si (as := [vI s]) (st := []) hG dX12_heaps_1 ml_X12_134 mf_X12_isSentence ms_X12_isSentence (r_isSentence (hm h [] [] []) (by constructor <;> omega)) (by decide) (by decide) rfl rfl (Nat.le_of_ble_eq_true rfl) (fun z1 g1 ri_1 hp_1 => ?_)
  obtain ⟨ra_1, rb_1⟩ := ri_1
  obtain ⟨hz1, rfl⟩ := hp_1
  refine A_if_eq hG 31 dX12_heaps_4 (by decide) (by constructor <;> omega) (fun c_4 => ?_) (fun c_4 => ?_)
  ·
    refine A_iconst (n := -1) hG dX12_heaps_31 ?_
    exact Ret_i hM dX12_heaps_32 (by constructor <;> omega) (Or.inl ⟨rfl, by omega, rfl⟩)
  ·
    refine A_iload_n hG 2 dX12_heaps_7 rfl rfl ?_
    refine A_i2l hG dX12_heaps_8 ?_
    refine A_lconst (v := i2l 0) hG dX12_heaps_9 (by decide) ?_
    refine A_ldc2 (v := i2l 99) hG dX12_heaps_10 (by rw [show i2l 99 = (99 : Int64) by decide]; exact kl_X12_210) ?_
    refine C_Si (as := [.long (i2l d), .long (i2l 0), .long (i2l 99)]) (st := []) hG dX12_heaps_13 ml_X12_80 mf_X12_in ms_X12_in (r_in (hm h [] [] []) (by constructor <;> omega) (by constructor <;> omega) (by constructor <;> omega)) (by decide) (by decide) rfl rfl (Nat.le_of_ble_eq_true rfl) (fun z13 g13 ri_13 hp_13 => ?_)
    obtain ⟨ra_13, rb_13⟩ := ri_13
    obtain ⟨hz13, rfl⟩ := hp_13
    refine A_if_eq hG 31 dX12_heaps_16 (by decide) (by constructor <;> omega) (fun c_16 => ?_) (fun c_16 => ?_)
    ·
      refine A_iconst (n := -1) hG dX12_heaps_31 ?_
      exact Ret_i hM dX12_heaps_32 (by constructor <;> omega) (Or.inl ⟨rfl, by omega, rfl⟩)
    ·
      refine A_iload_n hG 3 dX12_heaps_19 rfl rfl ?_
      refine A_i2l hG dX12_heaps_20 ?_
      refine A_lconst (v := i2l 0) hG dX12_heaps_21 (by decide) ?_
      refine A_ldc2 (v := i2l 2) hG dX12_heaps_22 (by rw [show i2l 2 = (2 : Int64) by decide]; exact kl_X12_97) ?_
      refine C_Si (as := [.long (i2l a), .long (i2l 0), .long (i2l 2)]) (st := []) hG dX12_heaps_25 ml_X12_80 mf_X12_in ms_X12_in (r_in (hm h [] [] []) (by constructor <;> omega) (by constructor <;> omega) (by constructor <;> omega)) (by decide) (by decide) rfl rfl (Nat.le_of_ble_eq_true rfl) (fun z25 g25 ri_25 hp_25 => ?_)
      obtain ⟨ra_25, rb_25⟩ := ri_25
      obtain ⟨hz25, rfl⟩ := hp_25
      refine A_if_ne hG 33 dX12_heaps_28 (by decide) (by constructor <;> omega) (fun c_28 => ?_) (fun c_28 => ?_)
      ·
        have hW0 := hW s (by omega) (by omega)
        have hlen := hW0.1
        refine A_aload_n hG 0 dX12_heaps_33 rfl rfl ?_
        refine A_getR (r := 508) hG dX12_heaps_34 fl_X12_28 (by decide) k500 (by decide) rfl ?_
        refine A_iload_n hG 1 dX12_heaps_37 rfl rfl ?_
        refine M_iald (v := h.1 508 s) hG dX12_heaps_38 k508 n508 (by omega) rfl (fun ⟨ra_38, rb_38⟩ => ?_)
        refine A_if_eq hG 51 dX12_heaps_39 (by decide) (by constructor <;> omega) (fun c_39 => ?_) (fun c_39 => ?_)
        ·
          refine A_bipush (n := -2) hG dX12_heaps_51 (by decide) ?_
          exact Ret_i hM dX12_heaps_53 (by constructor <;> omega) (Or.inr (Or.inl ⟨h.2.1 518, ⟨rfl, by omega, Or.inl c_39⟩, (hm_selfL h 518).symm⟩))
        ·
          refine A_aload_n hG 0 dX12_heaps_42 rfl rfl ?_
          refine A_iload_n hG 1 dX12_heaps_43 rfl rfl ?_
          refine A_iconst (n := 0) hG dX12_heaps_44 ?_
          refine C_Vi (as := [vI s, vI 0]) (st := []) (k := 500) (c := 11) hG dX12_heaps_45 ml_X12_185 mf_X12_isRead mi_X12_isRead se_X12_isRead rfl (by decide) k500 (r_isRead (hm h [] [] []) (fr := 0) (by omega) hG0 hW0) (by decide) (by decide) rfl rfl (Nat.le_of_ble_eq_true rfl) (fun z45 g45 ri_45 hp_45 => ?_)
          obtain ⟨ra_45, rb_45⟩ := ri_45
          have hq_45 : ∃ fx, ((z45 = 1 ∧ 0 < h.1 508 s ∧ READ (gR h) (hasb 0) (rowR h s) (h.1 508 s)) ∨ (z45 = 0 ∧ (h.1 508 s = 0 ∨ ¬ READ (gR h) (hasb 0) (rowR h s) (h.1 508 s)))) ∧ g45 = hm (hm h [] [] []) [] [(518, fx)] [] := hp_45
          obtain ⟨f45, hz45, rfl⟩ := hq_45
          refine A_hm (la := []) (lb := [(518, f45)]) (lc := []) rfl rfl rfl ?_
          refine A_if_eq hG 54 dX12_heaps_48 (by decide) (by constructor <;> omega) (fun c_48 => ?_) (fun c_48 => ?_)
          ·
            have hnR : ¬ READ (gR h) (hasb 0) (rowR h s) (h.1 508 s) := (hz45.resolve_left (fun q => by omega)).2.resolve_left c_39
            refine A_aload_n hG 0 dX12_heaps_54 rfl rfl ?_
            refine A_iload_n hG 1 dX12_heaps_55 rfl rfl ?_
            refine C_Vv (as := [vI s]) (st := []) (k := 500) (c := 11) hG dX12_heaps_56 ml_X12_201 mf_X12_layMends mi_X12_layMends se_X12_layMends rfl (by decide) k500 (r_layMends (hm h [] [(518, f45)] []) (s := s) (by omega) hG0 hW0 (show 1 ≤ h.1 508 s by omega)) (by decide) (by decide) rfl rfl (Nat.le_of_ble_eq_true rfl) (fun g56 hp_56 => ?_)
            have hq_56 : ∃ ex fx ox fx3 fx4 fx5 px : Int → Int, ∃ fx8 : Int → Int64, (mQ (cnd (gR h) (rowR h s) (h.1 508 s) (hasb (h.1 510 s)) (fun _ _ _ => True)) (h.1 503 0) ox fx3 fx4 fx5 ∧ (∀ q, q ≠ 9 → ex q = h.1 508 q) ∧ (∀ j, j < 90 → fx j = h.1 509 j) ∧ (∀ q, q ≠ 21 → ox q = h.1 500 q)) ∧ g56 = hm (hm h [] [(518, f45)] []) [(500, ox), (521, px), (508, ex), (509, fx), (523, fx3), (524, fx4), (525, fx5)] [(518, fx8)] [] := hp_56
            obtain ⟨e, f, o, f3, f4, f5, pv, fl, ⟨⟨ms, hC, hT⟩, hE, hF, hO⟩, rfl⟩ := hq_56
            have hmn := hC.1
            refine A_hm (la := [(525, f5), (524, f4), (523, f3), (509, f), (508, e), (521, pv), (500, o)]) (lb := [(518, fl)]) (lc := []) rfl rfl rfl ?_
            refine A_aload_n hG 0 dX12_heaps_59 rfl rfl ?_
            refine C_Vv (as := []) (st := []) (k := 500) (c := 11) hG dX12_heaps_60 ml_X12_212 mf_X12_layHeaps mi_X12_layHeaps se_X12_layHeaps rfl (by decide) k500 (r_layHeaps (hm h [(525, f5), (524, f4), (523, f3), (509, f), (508, e), (521, pv), (500, o)] [(518, fl)] []) (ms := ms) hG0 hmn hT) (by decide) (by decide) rfl rfl (Nat.le_of_ble_eq_true rfl) (fun g60 hp_60 => ?_)
            have hq_60 : ∃ ox fx : Int → Int, ((∀ q, q ≠ 25 → ox q = o q) ∧ hpK (gR h) (o 21) ms (ox 25) fx) ∧ g60 = hm (hm h [(525, f5), (524, f4), (523, f3), (509, f), (508, e), (521, pv), (500, o)] [(518, fl)] []) [(500, ox), (527, fx)] [] [] := hp_60
            obtain ⟨o2, hf, ⟨hO2, hK⟩, rfl⟩ := hq_60
            have hKn := hK.1
            have ho21 : o2 21 = o 21 := hO2 21 (by decide)
            refine A_hm (la := [(525, f5), (524, f4), (523, f3), (509, f), (508, e), (521, pv), (500, o2), (527, hf)]) (lb := [(518, fl)]) (lc := []) rfl rfl rfl ?_
            refine A_iload_n hG 3 dX12_heaps_63 rfl rfl ?_
            refine A_if_ne hG 72 dX12_heaps_64 (by decide) (by constructor <;> omega) (fun c_64 => ?_) (fun c_64 => ?_)
            ·
              refine A_aload_n hG 0 dX12_heaps_72 rfl rfl ?_
              refine M_getI (z := 25) (v := o2 25) hG dX12_heaps_73 fl_X12_204 (by decide) k500 rfl rfl rfl (fun ⟨ra_73, rb_73⟩ => ?_)
              refine A_if_eq hG 92 dX12_heaps_76 (by decide) (by constructor <;> omega) (fun c_76 => ?_) (fun c_76 => ?_)
              ·
                refine A_bipush (n := -4) hG dX12_heaps_92 (by decide) ?_
                exact Ret_i hM dX12_heaps_94 (by constructor <;> omega) (Or.inr (Or.inr ⟨e, f, o2, f3, f4, f5, pv, hf, fl, ⟨by omega, c_39, hnR, ⟨_, ms, _, hf, hC, hK, by first | exact Or.inr (Or.inl ⟨by omega, by omega, rfl⟩) | exact Or.inr (Or.inr (Or.inl ⟨by omega, by omega, rfl⟩))⟩, hE, hF, fun q q1 q2 => (hO2 q q2).trans (hO q q1)⟩, rfl⟩))
              ·
                refine A_iload_n hG 3 dX12_heaps_79 rfl rfl ?_
                refine A_iconst (n := 2) hG dX12_heaps_80 ?_
                refine A_icmp_ne hG 95 dX12_heaps_81 (by decide) (by constructor <;> omega) (by constructor <;> omega) (fun c_81 => ?_) (fun c_81 => ?_)
                ·
                  refine A_iload_n hG 3 dX12_heaps_95 rfl rfl ?_
                  refine A_iconst (n := 2) hG dX12_heaps_96 ?_
                  refine A_icmp_ne hG 105 dX12_heaps_97 (by decide) (by constructor <;> omega) (by constructor <;> omega) (fun c_97 => ?_) (fun c_97 => ?_)
                  ·
                    refine A_aload_n hG 0 dX12_heaps_105 rfl rfl ?_
                    refine M_getI (z := 25) (v := o2 25) hG dX12_heaps_106 fl_X12_204 (by decide) k500 rfl rfl rfl (fun ⟨ra_106, rb_106⟩ => ?_)
                    refine A_iconst (n := 1) hG dX12_heaps_109 ?_
                    refine A_icmp_eq hG 140 dX12_heaps_110 (by decide) (by constructor <;> omega) (by constructor <;> omega) (fun c_110 => ?_) (fun c_110 => ?_)
                    ·
                      refine A_iconst (n := 1) hG dX12_heaps_140 ?_
                      refine A_goto hG 145 dX12_heaps_141 (by decide) ?_
                      exact Ret_i hM dX12_heaps_145 (by constructor <;> omega) (Or.inr (Or.inr ⟨e, f, o2, f3, f4, f5, pv, hf, fl, ⟨by omega, c_39, hnR, ⟨_, ms, _, hf, hC, hK, Or.inr (Or.inr (Or.inr (Or.inr ⟨by omega, by omega, Or.inl ⟨rfl, by first | exact Or.inl (by omega) | exact Or.inr (by omega)⟩⟩)))⟩, hE, hF, fun q q1 q2 => (hO2 q q2).trans (hO q q1)⟩, rfl⟩))
                    ·
                      have k1 := (hK.2.2.1 1 (by omega) (by omega)).1
                      have k0 := (hK.2.2.1 0 (by omega) (by omega)).1
                      have d1 := (mT_dec hT hnw.2 (k := hf 1) k1).1
                      have d0 := (mT_dec hT hnw.2 (k := hf 0) k0).1
                      have t1 := (hT (hf 1) k1.1 k1.2).1
                      have t0 := (hT (hf 0) k0.1 k0.2).1
                      refine A_aload_n hG 0 dX12_heaps_113 rfl rfl ?_
                      refine A_getR (r := 523) hG dX12_heaps_114 fl_X12_62 (by decide) k500 (by decide) rfl ?_
                      refine A_aload_n hG 0 dX12_heaps_117 rfl rfl ?_
                      refine A_getR (r := 527) hG dX12_heaps_118 fl_X12_71 (by decide) k500 (by decide) rfl ?_
                      refine A_iconst (n := 1) hG dX12_heaps_121 ?_
                      refine M_iald (v := hf 1) hG dX12_heaps_122 k527 n527 (by omega) rfl (fun ⟨ra_122, rb_122⟩ => ?_)
                      refine M_iald (v := f3 (hf 1)) hG dX12_heaps_123 k523 n523 (by omega) rfl (fun ⟨ra_123, rb_123⟩ => ?_)
                      refine A_aload_n hG 0 dX12_heaps_124 rfl rfl ?_
                      refine A_getR (r := 523) hG dX12_heaps_125 fl_X12_62 (by decide) k500 (by decide) rfl ?_
                      refine A_aload_n hG 0 dX12_heaps_128 rfl rfl ?_
                      refine A_getR (r := 527) hG dX12_heaps_129 fl_X12_71 (by decide) k500 (by decide) rfl ?_
                      refine A_iconst (n := 0) hG dX12_heaps_132 ?_
                      refine M_iald (v := hf 0) hG dX12_heaps_133 k527 n527 (by omega) rfl (fun ⟨ra_133, rb_133⟩ => ?_)
                      refine M_iald (v := f3 (hf 0)) hG dX12_heaps_134 k523 n523 (by omega) rfl (fun ⟨ra_134, rb_134⟩ => ?_)
                      refine A_isub hG dX12_heaps_135 ?_
                      refine A_iload_n hG 2 dX12_heaps_136 rfl rfl ?_
                      refine A_icmp_lt hG 144 dX12_heaps_137 (by decide) (by constructor <;> omega) (by constructor <;> omega) (fun c_137 => ?_) (fun c_137 => ?_)
                      ·
                        refine A_iconst (n := 0) hG dX12_heaps_144 ?_
                        exact Ret_i hM dX12_heaps_145 (by constructor <;> omega) (Or.inr (Or.inr ⟨e, f, o2, f3, f4, f5, pv, hf, fl, ⟨by omega, c_39, hnR, ⟨_, ms, _, hf, hC, hK, Or.inr (Or.inr (Or.inr (Or.inr ⟨by omega, by omega, Or.inr ⟨rfl, by omega, by omega⟩⟩)))⟩, hE, hF, fun q q1 q2 => (hO2 q q2).trans (hO q q1)⟩, rfl⟩))
                      ·
                        refine A_iconst (n := 1) hG dX12_heaps_140 ?_
                        refine A_goto hG 145 dX12_heaps_141 (by decide) ?_
                        exact Ret_i hM dX12_heaps_145 (by constructor <;> omega) (Or.inr (Or.inr ⟨e, f, o2, f3, f4, f5, pv, hf, fl, ⟨by omega, c_39, hnR, ⟨_, ms, _, hf, hC, hK, Or.inr (Or.inr (Or.inr (Or.inr ⟨by omega, by omega, Or.inl ⟨rfl, by first | exact Or.inl (by omega) | exact Or.inr (by omega)⟩⟩)))⟩, hE, hF, fun q q1 q2 => (hO2 q q2).trans (hO q q1)⟩, rfl⟩))
                  ·
                    refine A_aload_n hG 0 dX12_heaps_100 rfl rfl ?_
                    refine C_Vi (as := []) (st := []) (k := 500) (c := 11) hG dX12_heaps_101 ml_X12_215 mf_X12_asked mi_X12_asked se_X12_asked rfl (by decide) k500 (r_asked (hm h [(525, f5), (524, f4), (523, f3), (509, f), (508, e), (521, pv), (500, o2), (527, hf)] [(518, fl)] []) (ms := ms) hG0 (show 0 ≤ o2 21 ∧ o2 21 ≤ 40 by omega) (show mT (h.1 503 0) (o2 21) f3 f4 f5 ms by rw [ho21]; exact hT) (show hpK (gR h) (o2 21) ms (o2 25) hf by rw [ho21]; exact hK)) (by decide) (by decide) rfl rfl (Nat.le_of_ble_eq_true rfl) (fun z101 g101 ri_101 hp_101 => ?_)
                    obtain ⟨ra_101, rb_101⟩ := ri_101
                    have hq_101 : askP (fun p k => famK (gR h) (ms (hf k)) p) (o2 25).toNat z101 ∧ g101 = hm h [(525, f5), (524, f4), (523, f3), (509, f), (508, e), (521, pv), (500, o2), (527, hf)] [(518, fl)] [] := hp_101
                    obtain ⟨hz101, rfl⟩ := hq_101
                    exact Ret_i hM dX12_heaps_104 (by constructor <;> omega) (Or.inr (Or.inr ⟨e, f, o2, f3, f4, f5, pv, hf, fl, ⟨by omega, c_39, hnR, ⟨_, ms, _, hf, hC, hK, Or.inr (Or.inr (Or.inr (Or.inl ⟨by omega, by omega, hz101⟩)))⟩, hE, hF, fun q q1 q2 => (hO2 q q2).trans (hO q q1)⟩, rfl⟩))
                ·
                  refine A_aload_n hG 0 dX12_heaps_84 rfl rfl ?_
                  refine M_getI (z := 25) (v := o2 25) hG dX12_heaps_85 fl_X12_204 (by decide) k500 rfl rfl rfl (fun ⟨ra_85, rb_85⟩ => ?_)
                  refine A_iconst (n := 2) hG dX12_heaps_88 ?_
                  refine A_icmp_ge hG 95 dX12_heaps_89 (by decide) (by constructor <;> omega) (by constructor <;> omega) (fun c_89 => ?_) (fun c_89 => ?_)
                  ·
                    refine A_iload_n hG 3 dX12_heaps_95 rfl rfl ?_
                    refine A_iconst (n := 2) hG dX12_heaps_96 ?_
                    refine A_icmp_ne hG 105 dX12_heaps_97 (by decide) (by constructor <;> omega) (by constructor <;> omega) (fun c_97 => ?_) (fun c_97 => ?_)
                    ·
                      refine A_aload_n hG 0 dX12_heaps_105 rfl rfl ?_
                      refine M_getI (z := 25) (v := o2 25) hG dX12_heaps_106 fl_X12_204 (by decide) k500 rfl rfl rfl (fun ⟨ra_106, rb_106⟩ => ?_)
                      refine A_iconst (n := 1) hG dX12_heaps_109 ?_
                      refine A_icmp_eq hG 140 dX12_heaps_110 (by decide) (by constructor <;> omega) (by constructor <;> omega) (fun c_110 => ?_) (fun c_110 => ?_)
                      ·
                        refine A_iconst (n := 1) hG dX12_heaps_140 ?_
                        refine A_goto hG 145 dX12_heaps_141 (by decide) ?_
                        exact Ret_i hM dX12_heaps_145 (by constructor <;> omega) (Or.inr (Or.inr ⟨e, f, o2, f3, f4, f5, pv, hf, fl, ⟨by omega, c_39, hnR, ⟨_, ms, _, hf, hC, hK, Or.inr (Or.inr (Or.inr (Or.inr ⟨by omega, by omega, Or.inl ⟨rfl, by first | exact Or.inl (by omega) | exact Or.inr (by omega)⟩⟩)))⟩, hE, hF, fun q q1 q2 => (hO2 q q2).trans (hO q q1)⟩, rfl⟩))
                      ·
                        have k1 := (hK.2.2.1 1 (by omega) (by omega)).1
                        have k0 := (hK.2.2.1 0 (by omega) (by omega)).1
                        have d1 := (mT_dec hT hnw.2 (k := hf 1) k1).1
                        have d0 := (mT_dec hT hnw.2 (k := hf 0) k0).1
                        have t1 := (hT (hf 1) k1.1 k1.2).1
                        have t0 := (hT (hf 0) k0.1 k0.2).1
                        refine A_aload_n hG 0 dX12_heaps_113 rfl rfl ?_
                        refine A_getR (r := 523) hG dX12_heaps_114 fl_X12_62 (by decide) k500 (by decide) rfl ?_
                        refine A_aload_n hG 0 dX12_heaps_117 rfl rfl ?_
                        refine A_getR (r := 527) hG dX12_heaps_118 fl_X12_71 (by decide) k500 (by decide) rfl ?_
                        refine A_iconst (n := 1) hG dX12_heaps_121 ?_
                        refine M_iald (v := hf 1) hG dX12_heaps_122 k527 n527 (by omega) rfl (fun ⟨ra_122, rb_122⟩ => ?_)
                        refine M_iald (v := f3 (hf 1)) hG dX12_heaps_123 k523 n523 (by omega) rfl (fun ⟨ra_123, rb_123⟩ => ?_)
                        refine A_aload_n hG 0 dX12_heaps_124 rfl rfl ?_
                        refine A_getR (r := 523) hG dX12_heaps_125 fl_X12_62 (by decide) k500 (by decide) rfl ?_
                        refine A_aload_n hG 0 dX12_heaps_128 rfl rfl ?_
                        refine A_getR (r := 527) hG dX12_heaps_129 fl_X12_71 (by decide) k500 (by decide) rfl ?_
                        refine A_iconst (n := 0) hG dX12_heaps_132 ?_
                        refine M_iald (v := hf 0) hG dX12_heaps_133 k527 n527 (by omega) rfl (fun ⟨ra_133, rb_133⟩ => ?_)
                        refine M_iald (v := f3 (hf 0)) hG dX12_heaps_134 k523 n523 (by omega) rfl (fun ⟨ra_134, rb_134⟩ => ?_)
                        refine A_isub hG dX12_heaps_135 ?_
                        refine A_iload_n hG 2 dX12_heaps_136 rfl rfl ?_
                        refine A_icmp_lt hG 144 dX12_heaps_137 (by decide) (by constructor <;> omega) (by constructor <;> omega) (fun c_137 => ?_) (fun c_137 => ?_)
                        ·
                          refine A_iconst (n := 0) hG dX12_heaps_144 ?_
                          exact Ret_i hM dX12_heaps_145 (by constructor <;> omega) (Or.inr (Or.inr ⟨e, f, o2, f3, f4, f5, pv, hf, fl, ⟨by omega, c_39, hnR, ⟨_, ms, _, hf, hC, hK, Or.inr (Or.inr (Or.inr (Or.inr ⟨by omega, by omega, Or.inr ⟨rfl, by omega, by omega⟩⟩)))⟩, hE, hF, fun q q1 q2 => (hO2 q q2).trans (hO q q1)⟩, rfl⟩))
                        ·
                          refine A_iconst (n := 1) hG dX12_heaps_140 ?_
                          refine A_goto hG 145 dX12_heaps_141 (by decide) ?_
                          exact Ret_i hM dX12_heaps_145 (by constructor <;> omega) (Or.inr (Or.inr ⟨e, f, o2, f3, f4, f5, pv, hf, fl, ⟨by omega, c_39, hnR, ⟨_, ms, _, hf, hC, hK, Or.inr (Or.inr (Or.inr (Or.inr ⟨by omega, by omega, Or.inl ⟨rfl, by first | exact Or.inl (by omega) | exact Or.inr (by omega)⟩⟩)))⟩, hE, hF, fun q q1 q2 => (hO2 q q2).trans (hO q q1)⟩, rfl⟩))
                    ·
                      refine A_aload_n hG 0 dX12_heaps_100 rfl rfl ?_
                      refine C_Vi (as := []) (st := []) (k := 500) (c := 11) hG dX12_heaps_101 ml_X12_215 mf_X12_asked mi_X12_asked se_X12_asked rfl (by decide) k500 (r_asked (hm h [(525, f5), (524, f4), (523, f3), (509, f), (508, e), (521, pv), (500, o2), (527, hf)] [(518, fl)] []) (ms := ms) hG0 (show 0 ≤ o2 21 ∧ o2 21 ≤ 40 by omega) (show mT (h.1 503 0) (o2 21) f3 f4 f5 ms by rw [ho21]; exact hT) (show hpK (gR h) (o2 21) ms (o2 25) hf by rw [ho21]; exact hK)) (by decide) (by decide) rfl rfl (Nat.le_of_ble_eq_true rfl) (fun z101 g101 ri_101 hp_101 => ?_)
                      obtain ⟨ra_101, rb_101⟩ := ri_101
                      have hq_101 : askP (fun p k => famK (gR h) (ms (hf k)) p) (o2 25).toNat z101 ∧ g101 = hm h [(525, f5), (524, f4), (523, f3), (509, f), (508, e), (521, pv), (500, o2), (527, hf)] [(518, fl)] [] := hp_101
                      obtain ⟨hz101, rfl⟩ := hq_101
                      exact Ret_i hM dX12_heaps_104 (by constructor <;> omega) (Or.inr (Or.inr ⟨e, f, o2, f3, f4, f5, pv, hf, fl, ⟨by omega, c_39, hnR, ⟨_, ms, _, hf, hC, hK, Or.inr (Or.inr (Or.inr (Or.inl ⟨by omega, by omega, hz101⟩)))⟩, hE, hF, fun q q1 q2 => (hO2 q q2).trans (hO q q1)⟩, rfl⟩))
                  ·
                    refine A_bipush (n := -4) hG dX12_heaps_92 (by decide) ?_
                    exact Ret_i hM dX12_heaps_94 (by constructor <;> omega) (Or.inr (Or.inr ⟨e, f, o2, f3, f4, f5, pv, hf, fl, ⟨by omega, c_39, hnR, ⟨_, ms, _, hf, hC, hK, by first | exact Or.inr (Or.inl ⟨by omega, by omega, rfl⟩) | exact Or.inr (Or.inr (Or.inl ⟨by omega, by omega, rfl⟩))⟩, hE, hF, fun q q1 q2 => (hO2 q q2).trans (hO q q1)⟩, rfl⟩))
            ·
              refine A_aload_n hG 0 dX12_heaps_67 rfl rfl ?_
              refine M_getI (z := 25) (v := o2 25) hG dX12_heaps_68 fl_X12_204 (by decide) k500 rfl rfl rfl (fun ⟨ra_68, rb_68⟩ => ?_)
              exact Ret_i hM dX12_heaps_71 (by constructor <;> omega) (Or.inr (Or.inr ⟨e, f, o2, f3, f4, f5, pv, hf, fl, ⟨by omega, c_39, hnR, ⟨_, ms, _, hf, hC, hK, Or.inl ⟨by omega, rfl⟩⟩, hE, hF, fun q q1 q2 => (hO2 q q2).trans (hO q q1)⟩, rfl⟩))
          ·
            refine A_bipush (n := -2) hG dX12_heaps_51 (by decide) ?_
            exact Ret_i hM dX12_heaps_53 (by constructor <;> omega) (Or.inr (Or.inl ⟨f45, ⟨rfl, by omega, Or.inr (hz45.resolve_right (fun q => by omega)).2.2⟩, rfl⟩))
      ·
        refine A_iconst (n := -1) hG dX12_heaps_31 ?_
        exact Ret_i hM dX12_heaps_32 (by constructor <;> omega) (Or.inl ⟨rfl, by omega, rfl⟩)

def kRi (h : AH) (k : Int) : Prop := h.1 512 (2 * k) = h.1 512 (2 * k + 1) ∧ eqT (h.1 513) k (h.1 512 (2 * k))
/-- kept row k, and what was made of it -/
def kS (h : AH) (k : Int) : Int → Int := fun i => h.1 513 (16 * k + i)
def kM (h : AH) (k : Int) : Int → Int := fun i => h.1 513 (16 * k + 8 + i)
theorem kRi_iff (h : AH) (k : Int) : kRi h k ↔ kRt (h.1 512 (2 * k)) (h.1 512 (2 * k + 1)) (kS h k) (kM h k) := Iff.rfl
theorem okW_congr {g : Gm} {w w' : Int → Int} {n : Int} (h : okW g w n) (e : ∀ i, 0 ≤ i → i < n → w i = w' i) : okW g w' n := ⟨h.1, fun i i0 i1 => by rw [← e i i0 i1]; exact h.2 i i0 i1⟩
theorem mayC_congr {g : Gm} {w w' : Int → Int} {n c p v : Int} {q q' : Int → Prop} (e : ∀ i, 0 ≤ i → i < n → w i = w' i) (eq : ∀ i, 0 ≤ i → i < n → (q i ↔ q' i)) (hm : mayC g w n q c p v) : mayC g w' n q' c p v := by
  obtain ⟨h0, h1⟩ := hm
  refine ⟨h0, ?_⟩
  rcases h1 with ⟨a1, a2, a3, a4, a5, a6, a7⟩ | ⟨a1, a2, a3, a4⟩ | h1
  · rw [e p h0 a2] at a6 a7
    exact Or.inl ⟨a1, a2, fun r => a3 ((eq p h0 a2).mpr r), a4, a5, a6, a7⟩
  · exact Or.inr (Or.inl ⟨a1, a2, fun r => a3 ((eq p h0 a2).mpr r), a4⟩)
  · exact Or.inr (Or.inr h1)
theorem cnd_congr {g : Gm} {w w' : Int → Int} {n : Int} {q q' : Int → Prop} {D : Int → Int → Int → Prop} (e : ∀ i, 0 ≤ i → i < n → w i = w' i) (eq : ∀ i, 0 ≤ i → i < n → (q i ↔ q' i)) (x : Int) (h : cnd g w n q D x) : cnd g w' n q' D x := by
  obtain ⟨c, p, v, h1, h2, h3, h4⟩ := h
  have hm := mayC_congr (w' := w') (q' := q') e eq h2
  have hc : (c = 0 ∧ p < n) ∨ (c = 1 ∧ p < n) ∨ (c = 2 ∧ p ≤ n) := by have := h2.2; omega
  have hr := rowC_congr (v := v) e h2.1 hc
  have hl : 1 ≤ lenC n c := by
    have e3 := lenC_e (n := n) (c := c) (by omega)
    have h0 := h2.1
    have h5 := h2.2
    omega
  refine ⟨c, p, v, h1, hm, (READ_congr (fun _ _ _ => Iff.rfl) hl hr).mp h3, ?_⟩
  rw [h4, kK_congr hr]
  have : prC g w c p v = prC g w' c p v := by
    unfold prC
    by_cases c0 : c = 0
    · rw [if_pos c0, if_pos c0, e p h2.1 (by omega)]
    · rw [if_neg c0, if_neg c0]
  rw [this]
theorem cnd_iff {g : Gm} {w w' : Int → Int} {n : Int} {q q' : Int → Prop} {D : Int → Int → Int → Prop} (e : ∀ i, 0 ≤ i → i < n → w i = w' i) (eq : ∀ i, 0 ≤ i → i < n → (q i ↔ q' i)) : cnd g w n q D = cnd g w' n q' D :=
  funext fun x => propext ⟨cnd_congr e eq x, cnd_congr (fun i i0 i1 => (e i i0 i1).symm) (fun i i0 i1 => (eq i i0 i1).symm) x⟩
theorem row8 {h : AH} {k : Int} {r0 l8 : Int → Int} (hr : ∀ j, 0 ≤ j → j < 8 → r0 (80 + j) = h.1 513 (16 * k + j)) (hl : l8 8 = h.1 512 (2 * k)) (hb : h.1 512 (2 * k) ≤ 8) : ∀ i, 0 ≤ i → i < l8 8 → clip (l8 8) (fun i => r0 (10 * 8 + i)) i = kS h k i := fun i i0 i1 => by
  rw [clip_in ⟨i0, i1⟩]; exact hr i i0 (by omega)
/-- the kept ones' rows are rows of words -/
def okK (h : AH) : Prop := ∀ k, 0 ≤ k → k < h.1 500 10 → (okW (gR h) (kS h k) (h.1 512 (2 * k)) ∧ 1 ≤ h.1 512 (2 * k)) ∧ okW (gR h) (kM h k) (h.1 512 (2 * k + 1)) ∧ 1 ≤ h.1 512 (2 * k + 1)
end
