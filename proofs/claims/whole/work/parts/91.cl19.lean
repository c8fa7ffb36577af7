/-! the class's face: mends, heaps (printed by gen) -/
section
def hm_1 (h : AH) (s : Int) : AH := hm h [(1, up (h.1 1) 13 s)] [] []
theorem sd_put {h h1 : AH} {g : Gm} {s : Int} (hM : frM h h1) (q : sd h g) (hs : 0 ≤ s ∧ s < 8) (hm : mHas h1 g (cndX h g s)) : frC h (hm_1 h1 s) ∧ sd (hm_1 h1 s) g ∧ mHas (hm_1 h1 s) g (cndX h g s) := by
  have a : frC h (hm_1 h1 s) := by
    have b := frM_C hM
    refine ⟨fun k k1 => ?_, fun q hq => ?_, b.2.2.1, b.2.2.2⟩
    · show alk [(1, up (h1.1 1) 13 s)] k (h1.1 k) = _
      simp (disch := omega) only [alk, if_neg]
      exact b.1 k k1
    · show up (h1.1 1) 13 s q = _
      rw [up_ne _ _ hq]; exact b.2.1 q hq
  have hm2 : mHas (hm_1 h1 s) g (cndX h g s) := mHas_eq (h := h1) rfl rfl rfl (fun k k1 k2 => ⟨by show alk [(1, up (h1.1 1) 13 s)] k (h1.1 k) = _; simp (disch := omega) only [alk, if_neg], by show alk [(1, up (h1.1 1) 13 s)] (k + 200) (h1.1 (k + 200)) = _; simp (disch := omega) only [alk, if_neg]⟩) hm
  refine ⟨a, ?_, hm2⟩
  obtain ⟨q1, q2, q3, q4, q5, q6⟩ := q
  refine ⟨fun s s0 s1 => ?_, fun k k0 k1 => ?_, ?_, fun l l0 l1 => ?_, fun i i0 i1 => ?_, fun s' s0 s1 he => ?_⟩
  · rw [a.2.2.2 5 (by omega)]; exact q1 s s0 s1
  · rw [a.2.2.2 6 (by omega)]; exact q2 k k0 k1
  · obtain ⟨many, ms, m1, m2⟩ := hm2
    exact m2.2.1
  · rw [a.2.2.2 63 (by omega)]; exact q4 l l0 l1
  · show 0 ≤ h1.1 13 i ∧ h1.1 13 i ≤ 100
    rw [hM.1 13 (by omega) (by omega) (by omega) (by omega) (by omega)]; exact q5 i i0 i1
  · have e : s' = s := by
      have : up (h1.1 1) 13 s 13 = s' := he
      rw [up_eq] at this; exact this.symm
    subst e
    rw [cndX_eq a ⟨s0, s1⟩]; exact hm2
set_option maxHeartbeats 2000000 in
set_option maxRecDepth 20000 in
theorem x_findMends (h : AH) {gn : Nat} {g : Gm} (hCI : CI h gn g) {s : Int} (hs : 0 ≤ s ∧ s ≤ 7) (hn1 : 1 ≤ lenX h s) : AMet yX11_findMends cX11_findMends 2 none 5 138 [.ref 1, vI s] h (Qv (fun h' => frC h h' ∧ sd h' g ∧ mHas h' g (cndX h g s))) := by
  have hCI0 := hCI
  obtain ⟨hg, ⟨hLd, hTl⟩, hgx, hOk, hL0, hE0, hK0, hWs, hKb, hS, hKr, hPer, hTf, hV13, hCc⟩ := hCI
  have hgw := hOk.1
  have hgr := hOk.2.1
  obtain ⟨r, hre⟩ : ∃ r : Nat, r = 100 + (s).toNat := ⟨_, rfl⟩
  have hr0 : 100 ≤ r ∧ r < 108 := by omega
  have hr : 100 ≤ r ∧ r < 212 := by omega
  have hwr : rowX h r (lenX h s) (rwX h s) := by rw [hre]; exact rowX_s
  have hqr : h.1 r 2 = qdX h s := by rw [hre]; rfl
  have hW := hWs s (by omega) (by omega)
  have hn8 := hW.1
  refine AMet.of (by decide) (Nat.le_of_ble_eq_true rfl) (fun G hM => ?_)
  have hG := hM.cx
  refine A_hm0 (G := G) (L := [(0, .ref 1), (1, vI s)]) ?_
  refine A_aload_n hG 0 dX11_findMends_0 rfl rfl ?_
  refine M_getI (z := 13) (v := h.1 1 13) hG dX11_findMends_1 fl_X11_88 (by decide) k1 rfl rfl rfl (fun ⟨ra_1, rb_1⟩ => ?_)
  refine A_iload_n hG 1 dX11_findMends_4 rfl rfl ?_
  refine A_icmp_eq hG 43 dX11_findMends_5 (by decide) (by constructor <;> omega) (by constructor <;> omega) (fun c_5 => ?_) (fun c_5 => ?_)
  ·
    exact Ret_v hM dX11_findMends_43 (⟨frC_rf _, hCI0.2.2.2.2.2.2.2.2.2, hCc s (by omega) (by omega) c_5⟩)
  ·
    refine A_aload_n hG 0 dX11_findMends_8 rfl rfl ?_
    refine A_getR (r := 60) hG dX11_findMends_9 fl_X11_84 (by decide) k1 (by decide) rfl ?_
    refine A_aload_n hG 0 dX11_findMends_12 rfl rfl ?_
    refine A_getR (r := gn) hG dX11_findMends_13 fl_X11_19 (by decide) k1 (by decide) hLd ?_
    refine A_aload_n hG 0 dX11_findMends_16 rfl rfl ?_
    refine A_getR (r := 5) hG dX11_findMends_17 fl_X11_28 (by decide) k1 (by decide) rfl ?_
    refine A_iload_n hG 1 dX11_findMends_20 rfl rfl ?_
    refine M_aald (r := r) hG dX11_findMends_21 (Or.inl k5) n5 (by omega) ((hS s (by omega) (by omega)).trans hre.symm) ?_
    refine A_aload_n hG 0 dX11_findMends_22 rfl rfl ?_
    refine A_getR (r := 5) hG dX11_findMends_23 fl_X11_28 (by decide) k1 (by decide) rfl ?_
    refine A_iload_n hG 1 dX11_findMends_26 rfl rfl ?_
    refine M_aald (r := r) hG dX11_findMends_27 (Or.inl k5) n5 (by omega) ((hS s (by omega) (by omega)).trans hre.symm) ?_
    refine M_getI (z := 2) (v := (qdX h s)) hG dX11_findMends_28 fl_X11_125 (by decide) (obk_row hr) rfl rfl hqr (fun ⟨ra_28, rb_28⟩ => ?_)
    refine A_aload_n hG 0 dX11_findMends_31 rfl rfl ?_
    refine A_getR (r := 14) hG dX11_findMends_32 fl_X11_70 (by decide) k1 (by decide) rfl ?_
    refine C_Vv (as := [.ref gn, .ref r, vI (qdX h s), .ref 14]) (st := []) (k := 60) (c := 5) hG dX11_findMends_35 ml_X11_204 mf_X5_find mi_X5_find se_X5_find rfl (by decide) k60 (x_find (hm h [] [] []) hg (g := g) hgx hOk hr0 (n := (lenX h s)) (qd := (qdX h s)) (w := (rwX h s)) hwr hW hn1 hPer hTf) (by decide) (by decide) rfl rfl (Nat.le_of_ble_eq_true rfl) (fun g35 hp_35 => ?_)
    have hq_35 : frM (h) g35 ∧ mHas g35 g (cnd g (rwX h s) (lenX h s) (hasb (qdX h s)) (fun _ _ _ => True)) := hp_35
    clear hp_35
    obtain ⟨hF35, hH35⟩ := hq_35
    refine A_hm0 ?_
    refine A_aload_n hG 0 dX11_findMends_38 rfl rfl ?_
    refine A_iload_n hG 1 dX11_findMends_39 rfl rfl ?_
    refine M_putI (z := 13) (li' := [(1, up (g35.1 1) 13 s)]) hG dX11_findMends_40 fl_X11_88 (by decide) k1 nf_10_13 rfl rfl (by constructor <;> omega) (Or.inl rfl) rfl ?_
    exact Ret_v hM dX11_findMends_43 (sd_put hF35 hCI0.2.2.2.2.2.2.2.2.2 (by omega) hH35)

set_option maxHeartbeats 2000000 in
set_option maxRecDepth 20000 in
theorem x_mend (h : AH) {gn : Nat} {g : Gm} (hCI : CI h gn g) {s i a : Int} (hs : ir s) (hi : ir i) (ha : ir a) : AMet yX11_mend cX11_mend 5 (some .int) 6 159 [.ref 1, vI s, vI i, vI a] h (Qi (fun z h' => ((z = -1 ∧ (s < 0 ∨ 7 < s ∨ i < -1 ∨ a < 0 ∨ 9 < a)) ∨ (z = -2 ∧ (0 ≤ s ∧ s ≤ 7 ∧ -1 ≤ i ∧ 0 ≤ a ∧ a ≤ 9) ∧ (lenX h s = 0 ∨ READ g (hasb 0) (rwX h s) (lenX h s))) ∨ ((0 ≤ s ∧ s ≤ 7 ∧ -1 ≤ i ∧ 0 ≤ a ∧ a ≤ 9) ∧ lenX h s ≠ 0 ∧ ¬ READ g (hasb 0) (rwX h s) (lenX h s) ∧ mendA (cndX h g s) i a z)) ∧ frC h h' ∧ sd h' g)) := by
  have hCI0 := hCI
  obtain ⟨hg, ⟨hLd, hTl⟩, hgx, hOk, hL0, hE0, hK0, hWs, hKb, hS, hKr, hPer, hTf, hV13, hCc⟩ := hCI
  have hgw := hOk.1
  have hgr := hOk.2.1
  obtain ⟨hs1, hs2⟩ := hs
  obtain ⟨hi1, hi2⟩ := hi
  obtain ⟨ha1, ha2⟩ := ha
  refine AMet.of (by decide) (Nat.le_of_ble_eq_true rfl) (fun G hM => ?_)
  have hG := hM.cx
  refine A_hm0 (G := G) (L := [(0, .ref 1), (1, vI s), (2, vI i), (3, vI a)]) ?_
  refine A_iload_n hG 1 dX11_mend_0 rfl rfl ?_
  refine C_Si (as := [vI s]) (st := []) hG dX11_mend_1 ml_X11_119 mf_X11_isSentence ms_X11_isSentence (x_isSentence (hm h [] [] []) (by constructor <;> omega)) (by decide) (by decide) rfl rfl (Nat.le_of_ble_eq_true rfl) (fun z1 g1 ri_1 hp_1 => ?_)
  obtain ⟨ra_1, rb_1⟩ := ri_1
  obtain ⟨hz1, rfl⟩ := hp_1
  refine A_if_eq hG 22 dX11_mend_4 (by decide) (by constructor <;> omega) (fun c_4 => ?_) (fun c_4 => ?_)
  ·
    refine A_iconst (n := -1) hG dX11_mend_22 ?_
    exact Ret_i hM dX11_mend_23 (by constructor <;> omega) (⟨Or.inl ⟨rfl, by omega⟩, ⟨frC_rf _, hCI0.2.2.2.2.2.2.2.2.2⟩⟩)
  ·
    refine A_iload_n hG 2 dX11_mend_7 rfl rfl ?_
    refine A_iconst (n := -1) hG dX11_mend_8 ?_
    refine A_icmp_lt hG 22 dX11_mend_9 (by decide) (by constructor <;> omega) (by constructor <;> omega) (fun c_9 => ?_) (fun c_9 => ?_)
    ·
      refine A_iconst (n := -1) hG dX11_mend_22 ?_
      exact Ret_i hM dX11_mend_23 (by constructor <;> omega) (⟨Or.inl ⟨rfl, by omega⟩, ⟨frC_rf _, hCI0.2.2.2.2.2.2.2.2.2⟩⟩)
    ·
      refine A_iload_n hG 3 dX11_mend_12 rfl rfl ?_
      refine A_iconst (n := 0) hG dX11_mend_13 ?_
      refine A_bipush (n := 9) hG dX11_mend_14 (by decide) ?_
      refine C_Si (as := [vI a, vI 0, vI 9]) (st := []) hG dX11_mend_16 ml_X11_93 mf_X11_isWithin ms_X11_isWithin (x_isWithin (hm h [] [] []) (by constructor <;> omega) (by constructor <;> omega) (by constructor <;> omega)) (by decide) (by decide) rfl rfl (Nat.le_of_ble_eq_true rfl) (fun z16 g16 ri_16 hp_16 => ?_)
      obtain ⟨ra_16, rb_16⟩ := ri_16
      obtain ⟨hz16, rfl⟩ := hp_16
      refine A_if_ne hG 24 dX11_mend_19 (by decide) (by constructor <;> omega) (fun c_19 => ?_) (fun c_19 => ?_)
      ·
        obtain ⟨r, hre⟩ : ∃ r : Nat, r = 100 + (s).toNat := ⟨_, rfl⟩
        have hr0 : 100 ≤ r ∧ r < 108 := by omega
        have hr : 100 ≤ r ∧ r < 212 := by omega
        have hwr : rowX h r (lenX h s) (rwX h s) := by rw [hre]; exact rowX_s
        have hqr : h.1 r 2 = qdX h s := by rw [hre]; rfl
        have hW := hWs s (by omega) (by omega)
        have hn8 := hW.1
        refine A_aload_n hG 0 dX11_mend_24 rfl rfl ?_
        refine A_aload_n hG 0 dX11_mend_25 rfl rfl ?_
        refine A_getR (r := 5) hG dX11_mend_26 fl_X11_28 (by decide) k1 (by decide) rfl ?_
        refine A_iload_n hG 1 dX11_mend_29 rfl rfl ?_
        refine M_aald (r := r) hG dX11_mend_30 (Or.inl k5) n5 (by omega) ((hS s (by omega) (by omega)).trans hre.symm) ?_
        refine C_Vi (as := [.ref r]) (st := []) (k := 1) (c := 10) hG dX11_mend_31 ml_X11_148 mf_X11_canBeMended mi_X11_canBeMended se_X11_canBeMended rfl (by decide) k1 (x_canBeMended (hm h [] [] []) hg (g := g) hgx hLd hr hOk (n := (lenX h s)) (w := (rwX h s)) hwr hW) (by decide) (by decide) rfl rfl (Nat.le_of_ble_eq_true rfl) (fun z31 g31 ri_31 hp_31 => ?_)
        obtain ⟨ra_31, rb_31⟩ := ri_31
        have hq_31 : ∃ fx : Int → Int64, ((z31 = 1 ∧ 1 ≤ (lenX h s) ∧ ¬ READ g (hasb 0) (rwX h s) (lenX h s)) ∨ (z31 = 0 ∧ ((lenX h s) = 0 ∨ READ g (hasb 0) (rwX h s) (lenX h s)))) ∧ g31 = hm (hm h [] [] []) [] [(11, fx)] [] := hp_31
        clear hp_31
        obtain ⟨f31, hz31, rfl⟩ := hq_31
        refine A_hm (la := []) (lb := [(11, f31)]) (lc := []) rfl rfl rfl ?_
        refine A_if_ne hG 40 dX11_mend_34 (by decide) (by constructor <;> omega) (fun c_34 => ?_) (fun c_34 => ?_)
        ·
          have hbm : 1 ≤ lenX h s ∧ ¬ READ g (hasb 0) (rwX h s) (lenX h s) := hz31.elim (fun q => q.2) (fun q => absurd q.1 c_34)
          refine A_aload_n hG 0 dX11_mend_40 rfl rfl ?_
          refine A_iload_n hG 1 dX11_mend_41 rfl rfl ?_
          refine C_Vv (as := [vI s]) (st := []) (k := 1) (c := 10) hG dX11_mend_42 ml_X11_152 mf_X11_findMends mi_X11_findMends se_X11_findMends rfl (by decide) k1 (x_findMends (hm h [] [(11, f31)] []) (gn := gn) (g := g) hCI0 (s := s) (by omega) (show 1 ≤ lenX h s from hbm.1)) (by decide) (by decide) rfl rfl (Nat.le_of_ble_eq_true rfl) (fun g42 hp_42 => ?_)
          have hq_42 : frC (hm h [] [(11, f31)] []) g42 ∧ sd g42 g ∧ mHas g42 g (cndX h g s) := hp_42
          clear hp_42
          obtain ⟨hF42, hs42, many, ms, hC, hX⟩ := hq_42
          have hm4 := hC.1
          have hFx := frC_tr (show frC h (hm h [] [(11, f31)] []) ∧ sd (hm h [] [(11, f31)] []) g from ⟨⟨fun _ _ => rfl, fun _ _ => rfl, fun k k1 => by simp (disch := omega) only [hm, alk, if_neg], fun _ _ => rfl⟩, hCI0.2.2.2.2.2.2.2.2.2⟩).1 hF42
          refine A_hm0 ?_
          refine A_iload_n hG 2 dX11_mend_45 rfl rfl ?_
          refine A_iconst (n := -1) hG dX11_mend_46 ?_
          refine A_icmp_ne hG 58 dX11_mend_47 (by decide) (by constructor <;> omega) (by constructor <;> omega) (fun c_47 => ?_) (fun c_47 => ?_)
          ·
            refine A_iload_n hG 2 dX11_mend_58 rfl rfl ?_
            refine A_aload_n hG 0 dX11_mend_59 rfl rfl ?_
            refine A_getR (r := 60) hG dX11_mend_60 fl_X11_84 (by decide) k1 (by decide) rfl ?_
            refine M_getI (z := 2) (v := many) hG dX11_mend_63 fl_X11_155 (by decide) k60 rfl rfl hX.1 (fun ⟨ra_63, rb_63⟩ => ?_)
            refine A_icmp_lt hG 72 dX11_mend_66 (by decide) (by constructor <;> omega) (by constructor <;> omega) (fun c_66 => ?_) (fun c_66 => ?_)
            ·
              obtain ⟨n1, w1, hx1, hW1, hn1, hK1, hms1⟩ := hX.2.2 i (by omega) (by omega)
              have hp1 := hX.2.1.1 i (by omega) (by omega)
              obtain ⟨ρ, hρ⟩ : ∃ ρ : Nat, g42.2.2 61 i = ρ := ⟨_, rfl⟩
              rw [hρ] at hx1 hp1
              have hρr : 100 ≤ ρ ∧ ρ < 212 := by omega
              have hdec := kK_dec (p := g42.1 62 i) (okD_W hOk hW1 hn1)
              have hn18 := hW1.1
              refine A_aload_n hG 0 dX11_mend_72 rfl rfl ?_
              refine A_getR (r := 60) hG dX11_mend_73 fl_X11_84 (by decide) k1 (by decide) rfl ?_
              refine A_getR (r := 61) hG dX11_mend_76 fl_X11_156 (by decide) k60 (by decide) rfl ?_
              refine A_iload_n hG 2 dX11_mend_79 rfl rfl ?_
              refine M_aald (r := ρ) hG dX11_mend_80 (Or.inl k61) n61 (by omega) hρ ?_
              refine A_astore (L' := [(4, .ref ρ), (0, .ref 1), (1, vI s), (2, vI i), (3, vI a)]) hG dX11_mend_81 (by decide) rfl ?_
              refine A_iload_n hG 4 dX11_mend_83 rfl rfl ?_
              refine A_if_ne hG 97 dX11_mend_84 (by decide) (by constructor <;> omega) (fun c_84 => ?_) (fun c_84 => ?_)
              ·
                refine A_iload_n hG 4 dX11_mend_97 rfl rfl ?_
                refine A_iconst (n := 1) hG dX11_mend_98 ?_
                refine A_icmp_ne hG 108 dX11_mend_99 (by decide) (by constructor <;> omega) (by constructor <;> omega) (fun c_99 => ?_) (fun c_99 => ?_)
                ·
                  refine A_iload_n hG 4 dX11_mend_108 rfl rfl ?_
                  refine A_iconst (n := 2) hG dX11_mend_109 ?_
                  refine A_isub hG dX11_mend_110 ?_
                  refine A_aload hG 0 dX11_mend_111 rfl ?_
                  refine M_getI (z := 1) (v := n1) hG dX11_mend_113 fl_X11_123 (by decide) (obk_row hρr) rfl rfl hx1.1 (fun ⟨ra_113, rb_113⟩ => ?_)
                  refine A_icmp_ge hG 131 dX11_mend_116 (by decide) (by constructor <;> omega) (by constructor <;> omega) (fun c_116 => ?_) (fun c_116 => ?_)
                  ·
                    refine A_bipush (n := -4) hG dX11_mend_131 (by decide) ?_
                    exact Ret_i hM dX11_mend_133 (by constructor <;> omega) (⟨Or.inr (Or.inr ⟨by omega, by omega, hbm.2, many, ms, hC, by unfold mdF; rw [if_neg (by omega), if_neg (by omega), if_neg (by omega), if_neg (by omega), hms1, hdec.2.1, if_neg (by omega)]⟩), hFx, hs42⟩)
                  ·
                    have hww := hW1.2 (a - 2) (by omega) (by omega)
                    refine A_aload hG 0 dX11_mend_119 rfl ?_
                    refine A_getR (r := (ρ + 200)) hG dX11_mend_121 fl_X11_162 (by decide) (obk_row hρr) (by decide) rfl ?_
                    refine A_iload_n hG 4 dX11_mend_124 rfl rfl ?_
                    refine A_iconst (n := 2) hG dX11_mend_125 ?_
                    refine A_isub hG dX11_mend_126 ?_
                    refine M_iald (v := (w1 (a - 2))) hG dX11_mend_127 (obk_rw hρr) (obn_rw hρr) (by omega) (hx1.2 (a - 2) (by omega) (by omega)) (fun ⟨ra_127, rb_127⟩ => ?_)
                    refine A_goto hG 133 dX11_mend_128 (by decide) ?_
                    exact Ret_i hM dX11_mend_133 (by constructor <;> omega) (⟨Or.inr (Or.inr ⟨by omega, by omega, hbm.2, many, ms, hC, by unfold mdF; rw [if_neg (by omega), if_neg (by omega), if_neg (by omega), if_neg (by omega), hms1, hdec.2.1, if_pos (by omega), hdec.2.2 (a - 2) (by omega) (by omega)]⟩), hFx, hs42⟩)
                ·
                  refine A_aload hG 0 dX11_mend_102 rfl ?_
                  refine M_getI (z := 1) (v := n1) hG dX11_mend_104 fl_X11_123 (by decide) (obk_row hρr) rfl rfl hx1.1 (fun ⟨ra_104, rb_104⟩ => ?_)
                  exact Ret_i hM dX11_mend_107 (by constructor <;> omega) (⟨Or.inr (Or.inr ⟨by omega, by omega, hbm.2, many, ms, hC, by unfold mdF; rw [if_neg (by omega), if_neg (by omega), if_neg (by omega), if_pos (by omega), hms1, hdec.2.1]⟩), hFx, hs42⟩)
              ·
                refine A_aload_n hG 1 dX11_mend_87 rfl rfl ?_
                refine A_getR (r := 60) hG dX11_mend_88 fl_X11_84 (by decide) k1 (by decide) rfl ?_
                refine A_getR (r := 62) hG dX11_mend_91 fl_X11_159 (by decide) k60 (by decide) rfl ?_
                refine A_iload_n hG 3 dX11_mend_94 rfl rfl ?_
                refine M_iald (v := g42.1 62 i) hG dX11_mend_95 k62 n62 (by omega) rfl (fun ⟨ra_95, rb_95⟩ => ?_)
                exact Ret_i hM dX11_mend_96 (by constructor <;> omega) (⟨Or.inr (Or.inr ⟨by omega, by omega, hbm.2, many, ms, hC, by unfold mdF; rw [if_neg (by omega), if_neg (by omega), if_pos (by omega), hms1, hdec.1]⟩), hFx, hs42⟩)
            ·
              refine A_bipush (n := -4) hG dX11_mend_69 (by decide) ?_
              exact Ret_i hM dX11_mend_71 (by constructor <;> omega) (⟨Or.inr (Or.inr ⟨by omega, by omega, hbm.2, many, ms, hC, by unfold mdF; rw [if_neg (by omega), if_pos (by omega)]⟩), hFx, hs42⟩)
          ·
            refine A_aload_n hG 0 dX11_mend_50 rfl rfl ?_
            refine A_getR (r := 60) hG dX11_mend_51 fl_X11_84 (by decide) k1 (by decide) rfl ?_
            refine M_getI (z := 2) (v := many) hG dX11_mend_54 fl_X11_155 (by decide) k60 rfl rfl hX.1 (fun ⟨ra_54, rb_54⟩ => ?_)
            exact Ret_i hM dX11_mend_57 (by constructor <;> omega) (⟨Or.inr (Or.inr ⟨by omega, by omega, hbm.2, many, ms, hC, by unfold mdF; rw [if_pos (by omega)]⟩), hFx, hs42⟩)
        ·
          have hbm : lenX h s = 0 ∨ READ g (hasb 0) (rwX h s) (lenX h s) := hz31.elim (fun q => by omega) (fun q => q.2)
          refine A_bipush (n := -2) hG dX11_mend_37 (by decide) ?_
          exact Ret_i hM dX11_mend_39 (by constructor <;> omega) (⟨Or.inr (Or.inl ⟨rfl, by omega, hbm⟩), ⟨⟨fun _ _ => rfl, fun _ _ => rfl, fun k k1 => by simp (disch := omega) only [hm, alk, if_neg], fun _ _ => rfl⟩, hCI0.2.2.2.2.2.2.2.2.2⟩⟩)
      ·
        refine A_iconst (n := -1) hG dX11_mend_22 ?_
        exact Ret_i hM dX11_mend_23 (by constructor <;> omega) (⟨Or.inl ⟨rfl, by omega⟩, ⟨frC_rf _, hCI0.2.2.2.2.2.2.2.2.2⟩⟩)

set_option maxHeartbeats 2000000 in
set_option maxRecDepth 20000 in
theorem x_heaps (h : AH) {gn : Nat} {g : Gm} (hCI : CI h gn g) {s d a : Int} (hs : ir s) (hd : ir d) (ha : ir a) : AMet yX11_heaps cX11_heaps 4 (some .int) 6 159 [.ref 1, vI s, vI d, vI a] h (Qi (fun z h' => ((z = -1 ∧ (s < 0 ∨ 7 < s ∨ d < 0 ∨ 99 < d ∨ a < 0 ∨ 2 < a)) ∨ (z = -2 ∧ (0 ≤ s ∧ s ≤ 7 ∧ 0 ≤ d ∧ d ≤ 99 ∧ 0 ≤ a ∧ a ≤ 2) ∧ (lenX h s = 0 ∨ READ g (hasb 0) (rwX h s) (lenX h s))) ∨ ((0 ≤ s ∧ s ≤ 7 ∧ 0 ≤ d ∧ d ≤ 99 ∧ 0 ≤ a ∧ a ≤ 2) ∧ lenX h s ≠ 0 ∧ ¬ READ g (hasb 0) (rwX h s) (lenX h s) ∧ hpA g (cndX h g s) d a z)) ∧ frC h h' ∧ sd h' g)) := by
  have hCI0 := hCI
  obtain ⟨hg, ⟨hLd, hTl⟩, hgx, hOk, hL0, hE0, hK0, hWs, hKb, hS, hKr, hPer, hTf, hV13, hCc⟩ := hCI
  have hgw := hOk.1
  have hgr := hOk.2.1
  obtain ⟨hs1, hs2⟩ := hs
  obtain ⟨hd1, hd2⟩ := hd
  obtain ⟨ha1, ha2⟩ := ha
  refine AMet.of (by decide) (Nat.le_of_ble_eq_true rfl) (fun G hM => ?_)
  have hG := hM.cx
  refine A_hm0 (G := G) (L := [(0, .ref 1), (1, vI s), (2, vI d), (3, vI a)]) ?_
  refine A_iload_n hG 1 dX11_heaps_0 rfl rfl ?_
  refine C_Si (as := [vI s]) (st := []) hG dX11_heaps_1 ml_X11_119 mf_X11_isSentence ms_X11_isSentence (x_isSentence (hm h [] [] []) (by constructor <;> omega)) (by decide) (by decide) rfl rfl (Nat.le_of_ble_eq_true rfl) (fun z1 g1 ri_1 hp_1 => ?_)
  obtain ⟨ra_1, rb_1⟩ := ri_1
  obtain ⟨hz1, rfl⟩ := hp_1
  refine A_if_eq hG 26 dX11_heaps_4 (by decide) (by constructor <;> omega) (fun c_4 => ?_) (fun c_4 => ?_)
  ·
    refine A_iconst (n := -1) hG dX11_heaps_26 ?_
    exact Ret_i hM dX11_heaps_27 (by constructor <;> omega) (⟨Or.inl ⟨rfl, by omega⟩, ⟨frC_rf _, hCI0.2.2.2.2.2.2.2.2.2⟩⟩)
  ·
    refine A_iload_n hG 2 dX11_heaps_7 rfl rfl ?_
    refine A_iconst (n := 0) hG dX11_heaps_8 ?_
    refine A_bipush (n := 99) hG dX11_heaps_9 (by decide) ?_
    refine C_Si (as := [vI d, vI 0, vI 99]) (st := []) hG dX11_heaps_11 ml_X11_93 mf_X11_isWithin ms_X11_isWithin (x_isWithin (hm h [] [] []) (by constructor <;> omega) (by constructor <;> omega) (by constructor <;> omega)) (by decide) (by decide) rfl rfl (Nat.le_of_ble_eq_true rfl) (fun z11 g11 ri_11 hp_11 => ?_)
    obtain ⟨ra_11, rb_11⟩ := ri_11
    obtain ⟨hz11, rfl⟩ := hp_11
    refine A_if_eq hG 26 dX11_heaps_14 (by decide) (by constructor <;> omega) (fun c_14 => ?_) (fun c_14 => ?_)
    ·
      refine A_iconst (n := -1) hG dX11_heaps_26 ?_
      exact Ret_i hM dX11_heaps_27 (by constructor <;> omega) (⟨Or.inl ⟨rfl, by omega⟩, ⟨frC_rf _, hCI0.2.2.2.2.2.2.2.2.2⟩⟩)
    ·
      refine A_iload_n hG 3 dX11_heaps_17 rfl rfl ?_
      refine A_iconst (n := 0) hG dX11_heaps_18 ?_
      refine A_iconst (n := 2) hG dX11_heaps_19 ?_
      refine C_Si (as := [vI a, vI 0, vI 2]) (st := []) hG dX11_heaps_20 ml_X11_93 mf_X11_isWithin ms_X11_isWithin (x_isWithin (hm h [] [] []) (by constructor <;> omega) (by constructor <;> omega) (by constructor <;> omega)) (by decide) (by decide) rfl rfl (Nat.le_of_ble_eq_true rfl) (fun z20 g20 ri_20 hp_20 => ?_)
      obtain ⟨ra_20, rb_20⟩ := ri_20
      obtain ⟨hz20, rfl⟩ := hp_20
      refine A_if_ne hG 28 dX11_heaps_23 (by decide) (by constructor <;> omega) (fun c_23 => ?_) (fun c_23 => ?_)
      ·
        obtain ⟨r, hre⟩ : ∃ r : Nat, r = 100 + (s).toNat := ⟨_, rfl⟩
        have hr0 : 100 ≤ r ∧ r < 108 := by omega
        have hr : 100 ≤ r ∧ r < 212 := by omega
        have hwr : rowX h r (lenX h s) (rwX h s) := by rw [hre]; exact rowX_s
        have hqr : h.1 r 2 = qdX h s := by rw [hre]; rfl
        have hW := hWs s (by omega) (by omega)
        have hn8 := hW.1
        refine A_aload_n hG 0 dX11_heaps_28 rfl rfl ?_
        refine A_aload_n hG 0 dX11_heaps_29 rfl rfl ?_
        refine A_getR (r := 5) hG dX11_heaps_30 fl_X11_28 (by decide) k1 (by decide) rfl ?_
        refine A_iload_n hG 1 dX11_heaps_33 rfl rfl ?_
        refine M_aald (r := r) hG dX11_heaps_34 (Or.inl k5) n5 (by omega) ((hS s (by omega) (by omega)).trans hre.symm) ?_
        refine C_Vi (as := [.ref r]) (st := []) (k := 1) (c := 10) hG dX11_heaps_35 ml_X11_148 mf_X11_canBeMended mi_X11_canBeMended se_X11_canBeMended rfl (by decide) k1 (x_canBeMended (hm h [] [] []) hg (g := g) hgx hLd hr hOk (n := (lenX h s)) (w := (rwX h s)) hwr hW) (by decide) (by decide) rfl rfl (Nat.le_of_ble_eq_true rfl) (fun z35 g35 ri_35 hp_35 => ?_)
        obtain ⟨ra_35, rb_35⟩ := ri_35
        have hq_35 : ∃ fx : Int → Int64, ((z35 = 1 ∧ 1 ≤ (lenX h s) ∧ ¬ READ g (hasb 0) (rwX h s) (lenX h s)) ∨ (z35 = 0 ∧ ((lenX h s) = 0 ∨ READ g (hasb 0) (rwX h s) (lenX h s)))) ∧ g35 = hm (hm h [] [] []) [] [(11, fx)] [] := hp_35
        clear hp_35
        obtain ⟨f35, hz35, rfl⟩ := hq_35
        refine A_hm (la := []) (lb := [(11, f35)]) (lc := []) rfl rfl rfl ?_
        refine A_if_ne hG 44 dX11_heaps_38 (by decide) (by constructor <;> omega) (fun c_38 => ?_) (fun c_38 => ?_)
        ·
          have hbm : 1 ≤ lenX h s ∧ ¬ READ g (hasb 0) (rwX h s) (lenX h s) := hz35.elim (fun q => q.2) (fun q => absurd q.1 c_38)
          refine A_aload_n hG 0 dX11_heaps_44 rfl rfl ?_
          refine A_iload_n hG 1 dX11_heaps_45 rfl rfl ?_
          refine C_Vv (as := [vI s]) (st := []) (k := 1) (c := 10) hG dX11_heaps_46 ml_X11_152 mf_X11_findMends mi_X11_findMends se_X11_findMends rfl (by decide) k1 (x_findMends (hm h [] [(11, f35)] []) (gn := gn) (g := g) hCI0 (s := s) (by omega) (show 1 ≤ lenX h s from hbm.1)) (by decide) (by decide) rfl rfl (Nat.le_of_ble_eq_true rfl) (fun g46 hp_46 => ?_)
          have hq_46 : frC (hm h [] [(11, f35)] []) g46 ∧ sd g46 g ∧ mHas g46 g (cndX h g s) := hp_46
          clear hp_46
          obtain ⟨hF46, hs46, many, ms, hC, hX⟩ := hq_46
          have hm4 := hC.1
          have hFx := frC_tr (show frC h (hm h [] [(11, f35)] []) ∧ sd (hm h [] [(11, f35)] []) g from ⟨⟨fun _ _ => rfl, fun _ _ => rfl, fun k k1 => by simp (disch := omega) only [hm, alk, if_neg], fun _ _ => rfl⟩, hCI0.2.2.2.2.2.2.2.2.2⟩).1 hF46
          refine A_hm0 ?_
          have hgx2 : gX g46 gn = g := (gX_eq (fun k k1 k2 => hFx.1 k (by omega))).trans hgx
          refine A_aload_n hG 0 dX11_heaps_49 rfl rfl ?_
          refine A_getR (r := 60) hG dX11_heaps_50 fl_X11_84 (by decide) k1 (by decide) rfl ?_
          refine A_aload_n hG 0 dX11_heaps_53 rfl rfl ?_
          refine A_getR (r := gn) hG dX11_heaps_54 fl_X11_19 (by decide) k1 (by decide) ((congrFun (hFx.2.2.2 1 (by omega)) 1).trans hLd) ?_
          refine C_Vv (as := [.ref gn]) (st := []) (k := 60) (c := 5) hG dX11_heaps_57 ml_X11_164 mf_X5_gatherHeaps mi_X5_gatherHeaps se_X5_gatherHeaps rfl (by decide) k60 (x_gatherHeaps (hm g46 [] [] []) hg (g := g) hgx2 hOk (many := many) (ms := ms) hX hm4) (by decide) (by decide) rfl rfl (Nat.le_of_ble_eq_true rfl) (fun g57 hp_57 => ?_)
          have hq_57 : ∃ ex hx : Int → Int, (hpK g many ms (ex 7) hx ∧ ∀ q, q ≠ 7 → ex q = g46.1 60 q) ∧ g57 = hm (hm g46 [] [] []) [(60, ex), (65, hx)] [] [] := hp_57
          clear hp_57
          obtain ⟨e, hf, ⟨hH, hEq⟩, rfl⟩ := hq_57
          have hhn := hH.1
          have hX2 : mX (hm g46 [(65, hf), (60, e)] [] []) g many ms := mX_eq (h := g46) hm4.2 (hEq 2 (by omega)) rfl rfl (fun k k1 k2 => ⟨(by simp (disch := omega) only [hm, alk, if_neg, if_pos, ite_true]), (by simp (disch := omega) only [hm, alk, if_neg, if_pos, ite_true])⟩) hX
          refine A_hm (la := [(65, hf), (60, e)]) (lb := []) (lc := []) rfl rfl rfl ?_
          refine A_iload_n hG 3 dX11_heaps_60 rfl rfl ?_
          refine A_if_ne hG 72 dX11_heaps_61 (by decide) (by constructor <;> omega) (fun c_61 => ?_) (fun c_61 => ?_)
          ·
            refine A_aload_n hG 0 dX11_heaps_72 rfl rfl ?_
            refine A_getR (r := 60) hG dX11_heaps_73 fl_X11_84 (by decide) k1 (by decide) rfl ?_
            refine M_getI (z := 7) (v := e 7) hG dX11_heaps_76 fl_X11_168 (by decide) k60 rfl rfl rfl (fun ⟨ra_76, rb_76⟩ => ?_)
            refine A_if_ne hG 85 dX11_heaps_79 (by decide) (by constructor <;> omega) (fun c_79 => ?_) (fun c_79 => ?_)
            ·
              refine A_iload_n hG 3 dX11_heaps_85 rfl rfl ?_
              refine A_iconst (n := 1) hG dX11_heaps_86 ?_
              refine A_icmp_ne hG 107 dX11_heaps_87 (by decide) (by constructor <;> omega) (by constructor <;> omega) (fun c_87 => ?_) (fun c_87 => ?_)
              ·
                refine A_aload_n hG 0 dX11_heaps_107 rfl rfl ?_
                refine A_getR (r := 60) hG dX11_heaps_108 fl_X11_84 (by decide) k1 (by decide) rfl ?_
                refine M_getI (z := 7) (v := e 7) hG dX11_heaps_111 fl_X11_168 (by decide) k60 rfl rfl rfl (fun ⟨ra_111, rb_111⟩ => ?_)
                refine A_iconst (n := 2) hG dX11_heaps_114 ?_
                refine A_icmp_ge hG 123 dX11_heaps_115 (by decide) (by constructor <;> omega) (by constructor <;> omega) (fun c_115 => ?_) (fun c_115 => ?_)
                ·
                  refine A_aload_n hG 0 dX11_heaps_123 rfl rfl ?_
                  refine A_getR (r := 60) hG dX11_heaps_124 fl_X11_84 (by decide) k1 (by decide) rfl ?_
                  refine A_aload_n hG 0 dX11_heaps_127 rfl rfl ?_
                  refine A_getR (r := gn) hG dX11_heaps_128 fl_X11_19 (by decide) k1 (by decide) ((congrFun (hFx.2.2.2 1 (by omega)) 1).trans hLd) ?_
                  refine C_Vi (as := [.ref gn]) (st := []) (k := 60) (c := 5) hG dX11_heaps_131 ml_X11_174 mf_X5_askedPlace mi_X5_askedPlace se_X5_askedPlace rfl (by decide) k60 (x_askedPlace (hm g46 [(65, hf), (60, e)] [] []) hg (g := g) ((gX_li hg rfl).trans hgx2) hOk (many := many) (hn := e 7) (ms := ms) (hf := hf) hX2 hm4 rfl rfl hH) (by decide) (by decide) rfl rfl (Nat.le_of_ble_eq_true rfl) (fun z131 g131 ri_131 hp_131 => ?_)
                  obtain ⟨ra_131, rb_131⟩ := ri_131
                  have hq_131 : ∃ fx : Int → Int, askP (fun p k => famK g (ms (hf k)) p) (e 7).toNat z131 ∧ g131 = hm (hm g46 [(65, hf), (60, e)] [] []) [(66, fx)] [] [] := hp_131
                  clear hp_131
                  obtain ⟨f131, hz131, rfl⟩ := hq_131
                  refine A_hm (la := [(65, hf), (60, e), (66, f131)]) (lb := []) (lc := []) rfl rfl rfl ?_
                  exact Ret_i hM dX11_heaps_134 (by constructor <;> omega) (⟨Or.inr (Or.inr ⟨by omega, by omega, hbm.2, many, ms, e 7, hf, hC, hH, Or.inr (Or.inr (Or.inr (Or.inl ⟨by omega, by omega, hz131⟩)))⟩), ⟨frC_tr hFx (show frC g46 (hm g46 [(65, hf), (60, e), (66, f131)] [] []) from ⟨fun k k1 => by simp (disch := omega) only [hm, alk, if_neg], fun _ _ => rfl, fun _ _ => rfl, fun _ _ => rfl⟩), sd_eq (h := g46) ⟨fun k k1 => by simp (disch := omega) only [hm, alk, if_neg], fun _ _ => rfl, fun _ _ => rfl, fun _ _ => rfl⟩ (Or.inl rfl) (hEq 2 (by omega)) rfl rfl (fun k k1 k2 => ⟨by simp (disch := omega) only [hm, alk, if_neg], by simp (disch := omega) only [hm, alk, if_neg]⟩) (show v13 g46 from hs46.2.2.2.2.1) hs46⟩⟩)
                ·
                  refine A_bipush (n := -4) hG dX11_heaps_118 (by decide) ?_
                  refine A_goto hG 134 dX11_heaps_120 (by decide) ?_
                  exact Ret_i hM dX11_heaps_134 (by constructor <;> omega) (⟨Or.inr (Or.inr ⟨by omega, by omega, hbm.2, many, ms, e 7, hf, hC, hH, Or.inr (Or.inr (Or.inl ⟨by omega, by omega, rfl⟩))⟩), ⟨frC_tr hFx (show frC g46 (hm g46 [(65, hf), (60, e)] [] []) from ⟨fun k k1 => by simp (disch := omega) only [hm, alk, if_neg], fun _ _ => rfl, fun _ _ => rfl, fun _ _ => rfl⟩), sd_eq (h := g46) ⟨fun k k1 => by simp (disch := omega) only [hm, alk, if_neg], fun _ _ => rfl, fun _ _ => rfl, fun _ _ => rfl⟩ (Or.inl rfl) (hEq 2 (by omega)) rfl rfl (fun k k1 k2 => ⟨by simp (disch := omega) only [hm, alk, if_neg], by simp (disch := omega) only [hm, alk, if_neg]⟩) (show v13 g46 from hs46.2.2.2.2.1) hs46⟩⟩)
              ·
                refine A_aload_n hG 0 dX11_heaps_90 rfl rfl ?_
                refine A_getR (r := 60) hG dX11_heaps_91 fl_X11_84 (by decide) k1 (by decide) rfl ?_
                refine A_iload_n hG 2 dX11_heaps_94 rfl rfl ?_
                refine C_Vi (as := [vI d]) (st := []) (k := 60) (c := 5) hG dX11_heaps_95 ml_X11_171 mf_X5_firstStandsOut mi_X5_firstStandsOut se_X5_firstStandsOut rfl (by decide) k60 (x_firstStandsOut (hm g46 [(65, hf), (60, e)] [] []) hOk (many := many) (hn := e 7) (ms := ms) (hf := hf) hX2 hm4 rfl rfl hH (d := d) (by omega)) (by decide) (by decide) rfl rfl (Nat.le_of_ble_eq_true rfl) (fun z95 g95 ri_95 hp_95 => ?_)
                obtain ⟨ra_95, rb_95⟩ := ri_95
                obtain ⟨hz95, rfl⟩ := hp_95
                refine A_if_eq hG 105 dX11_heaps_98 (by decide) (by constructor <;> omega) (fun c_98 => ?_) (fun c_98 => ?_)
                ·
                  refine A_iconst (n := 0) hG dX11_heaps_105 ?_
                  exact Ret_i hM dX11_heaps_106 (by constructor <;> omega) (⟨Or.inr (Or.inr ⟨by omega, by omega, hbm.2, many, ms, e 7, hf, hC, hH, Or.inr (Or.inr (Or.inr (Or.inr ⟨by omega, by omega, Or.inr ⟨rfl, by omega, by omega⟩⟩)))⟩), ⟨frC_tr hFx (show frC g46 (hm g46 [(65, hf), (60, e)] [] []) from ⟨fun k k1 => by simp (disch := omega) only [hm, alk, if_neg], fun _ _ => rfl, fun _ _ => rfl, fun _ _ => rfl⟩), sd_eq (h := g46) ⟨fun k k1 => by simp (disch := omega) only [hm, alk, if_neg], fun _ _ => rfl, fun _ _ => rfl, fun _ _ => rfl⟩ (Or.inl rfl) (hEq 2 (by omega)) rfl rfl (fun k k1 k2 => ⟨by simp (disch := omega) only [hm, alk, if_neg], by simp (disch := omega) only [hm, alk, if_neg]⟩) (show v13 g46 from hs46.2.2.2.2.1) hs46⟩⟩)
                ·
                  refine A_iconst (n := 1) hG dX11_heaps_101 ?_
                  refine A_goto hG 106 dX11_heaps_102 (by decide) ?_
                  exact Ret_i hM dX11_heaps_106 (by constructor <;> omega) (⟨Or.inr (Or.inr ⟨by omega, by omega, hbm.2, many, ms, e 7, hf, hC, hH, Or.inr (Or.inr (Or.inr (Or.inr ⟨by omega, by omega, Or.inl ⟨rfl, by omega⟩⟩)))⟩), ⟨frC_tr hFx (show frC g46 (hm g46 [(65, hf), (60, e)] [] []) from ⟨fun k k1 => by simp (disch := omega) only [hm, alk, if_neg], fun _ _ => rfl, fun _ _ => rfl, fun _ _ => rfl⟩), sd_eq (h := g46) ⟨fun k k1 => by simp (disch := omega) only [hm, alk, if_neg], fun _ _ => rfl, fun _ _ => rfl, fun _ _ => rfl⟩ (Or.inl rfl) (hEq 2 (by omega)) rfl rfl (fun k k1 k2 => ⟨by simp (disch := omega) only [hm, alk, if_neg], by simp (disch := omega) only [hm, alk, if_neg]⟩) (show v13 g46 from hs46.2.2.2.2.1) hs46⟩⟩)
            ·
              refine A_bipush (n := -4) hG dX11_heaps_82 (by decide) ?_
              exact Ret_i hM dX11_heaps_84 (by constructor <;> omega) (⟨Or.inr (Or.inr ⟨by omega, by omega, hbm.2, many, ms, e 7, hf, hC, hH, Or.inr (Or.inl ⟨by omega, by omega, rfl⟩)⟩), ⟨frC_tr hFx (show frC g46 (hm g46 [(65, hf), (60, e)] [] []) from ⟨fun k k1 => by simp (disch := omega) only [hm, alk, if_neg], fun _ _ => rfl, fun _ _ => rfl, fun _ _ => rfl⟩), sd_eq (h := g46) ⟨fun k k1 => by simp (disch := omega) only [hm, alk, if_neg], fun _ _ => rfl, fun _ _ => rfl, fun _ _ => rfl⟩ (Or.inl rfl) (hEq 2 (by omega)) rfl rfl (fun k k1 k2 => ⟨by simp (disch := omega) only [hm, alk, if_neg], by simp (disch := omega) only [hm, alk, if_neg]⟩) (show v13 g46 from hs46.2.2.2.2.1) hs46⟩⟩)
          ·
            refine A_aload_n hG 0 dX11_heaps_64 rfl rfl ?_
            refine A_getR (r := 60) hG dX11_heaps_65 fl_X11_84 (by decide) k1 (by decide) rfl ?_
            refine M_getI (z := 7) (v := e 7) hG dX11_heaps_68 fl_X11_168 (by decide) k60 rfl rfl rfl (fun ⟨ra_68, rb_68⟩ => ?_)
            exact Ret_i hM dX11_heaps_71 (by constructor <;> omega) (⟨Or.inr (Or.inr ⟨by omega, by omega, hbm.2, many, ms, e 7, hf, hC, hH, Or.inl ⟨by omega, rfl⟩⟩), ⟨frC_tr hFx (show frC g46 (hm g46 [(65, hf), (60, e)] [] []) from ⟨fun k k1 => by simp (disch := omega) only [hm, alk, if_neg], fun _ _ => rfl, fun _ _ => rfl, fun _ _ => rfl⟩), sd_eq (h := g46) ⟨fun k k1 => by simp (disch := omega) only [hm, alk, if_neg], fun _ _ => rfl, fun _ _ => rfl, fun _ _ => rfl⟩ (Or.inl rfl) (hEq 2 (by omega)) rfl rfl (fun k k1 k2 => ⟨by simp (disch := omega) only [hm, alk, if_neg], by simp (disch := omega) only [hm, alk, if_neg]⟩) (show v13 g46 from hs46.2.2.2.2.1) hs46⟩⟩)
        ·
          have hbm : lenX h s = 0 ∨ READ g (hasb 0) (rwX h s) (lenX h s) := hz35.elim (fun q => by omega) (fun q => q.2)
          refine A_bipush (n := -2) hG dX11_heaps_41 (by decide) ?_
          exact Ret_i hM dX11_heaps_43 (by constructor <;> omega) (⟨Or.inr (Or.inl ⟨rfl, by omega, hbm⟩), ⟨⟨fun _ _ => rfl, fun _ _ => rfl, fun k k1 => by simp (disch := omega) only [hm, alk, if_neg], fun _ _ => rfl⟩, hCI0.2.2.2.2.2.2.2.2.2⟩⟩)
      ·
        refine A_iconst (n := -1) hG dX11_heaps_26 ?_
        exact Ret_i hM dX11_heaps_27 (by constructor <;> omega) (⟨Or.inl ⟨rfl, by omega⟩, ⟨frC_rf _, hCI0.2.2.2.2.2.2.2.2.2⟩⟩)

end
