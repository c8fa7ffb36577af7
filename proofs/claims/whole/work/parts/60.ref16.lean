/-! the reference: order, tryRow (printed by gen) -/
section
set_option maxHeartbeats 2000000 in
set_option maxRecDepth 20000 in
theorem r_order (h : AH) {p k nw : Int} {ms : Int → Int} (hp : ir p) (hk : 0 ≤ k ∧ k < h.1 500 21) (hn : h.1 500 21 ≤ 40) (hw : nw ≤ 16) (hT : mT nw (h.1 500 21) (h.1 523) (h.1 524) (h.1 525) ms) (hD : okD (h.1 508 9) (fun i => h.1 509 (90 + i))) : AMet yX12_order cX12_order 4 (some .int) 0 0 [.ref 500, vI p, vI k] h (Qi (fun z h' => ((z = 1 ∧ (kK p (h.1 508 9) (fun i => h.1 509 (90 + i))) < ms k) ∨ (z = -1 ∧ ms k < (kK p (h.1 508 9) (fun i => h.1 509 (90 + i)))) ∨ (z = 0 ∧ ms k = (kK p (h.1 508 9) (fun i => h.1 509 (90 + i))))) ∧ h' = h)) := by
  obtain ⟨hp1, hp2⟩ := hp
  obtain ⟨e1, e2, e3, e4, e5⟩ := hT k hk.1 hk.2
  have hD2 : okD (h.1 524 k) (fun i => h.1 525 (8 * k + i)) := ⟨e2, fun i i0 i1 => ⟨(e3 i i0 i1).1, Int.lt_of_lt_of_le (e3 i i0 i1).2 hw⟩⟩
  have hl := hD.1
  refine AMet.of (by decide) (Nat.le_of_ble_eq_true rfl) (fun G hM => ?_)
  have hG := hM.cx
  refine A_hm0 (G := G) (L := [(0, .ref 500), (1, vI p), (2, vI k)]) ?_
  refine A_iload_n hG 1 dX12_order_0 rfl rfl ?_
  refine A_aload_n hG 0 dX12_order_1 rfl rfl ?_
  refine A_getR (r := 523) hG dX12_order_2 fl_X12_62 (by decide) k500 (by decide) rfl ?_
  refine A_iload_n hG 2 dX12_order_5 rfl rfl ?_
  refine M_iald (v := h.1 523 k) hG dX12_order_6 k523 n523 (by omega) rfl (fun ⟨ra_6, rb_6⟩ => ?_)
  refine A_icmp_eq hG 26 dX12_order_7 (by decide) (by constructor <;> omega) (by constructor <;> omega) (fun c_7 => ?_) (fun c_7 => ?_)
  ·
    refine A_aload_n hG 0 dX12_order_26 rfl rfl ?_
    refine A_getR (r := 508) hG dX12_order_27 fl_X12_28 (by decide) k500 (by decide) rfl ?_
    refine A_bipush (n := 9) hG dX12_order_30 (by decide) ?_
    refine M_iald (v := h.1 508 9) hG dX12_order_32 k508 n508 (by omega) rfl (fun ⟨ra_32, rb_32⟩ => ?_)
    refine A_aload_n hG 0 dX12_order_33 rfl rfl ?_
    refine A_getR (r := 524) hG dX12_order_34 fl_X12_65 (by decide) k500 (by decide) rfl ?_
    refine A_iload_n hG 2 dX12_order_37 rfl rfl ?_
    refine M_iald (v := h.1 524 k) hG dX12_order_38 k524 n524 (by omega) rfl (fun ⟨ra_38, rb_38⟩ => ?_)
    refine A_icmp_eq hG 64 dX12_order_39 (by decide) (by constructor <;> omega) (by constructor <;> omega) (fun c_39 => ?_) (fun c_39 => ?_)
    ·
      refine A_iconst (n := 0) hG dX12_order_64 ?_
      refine A_istore_n (L' := [(3, vI 0), (0, .ref 500), (1, vI p), (2, vI k)]) hG dX12_order_65 rfl (by decide) rfl ?_
      have i_0 : ∀ fu : Nat, ∀ (i : Int), (0 ≤ i ∧ i ≤ h.1 508 9) → (∀ j, 0 ≤ j → j < i → h.1 509 (90 + j) = h.1 525 (8 * k + j)) → ((9 - i).toNat) < fu → G 66 [(0, .ref 500), (1, vI p), (2, vI k), (3, vI i)] [] (hm h [] [] []) := by
        intro fu
        induction fu with
        | zero => intro i hi ha hfu; exact absurd hfu (Nat.not_lt_zero _)
        | succ fu ih_i =>
          intro i hi ha hfu
          refine A_iload_n hG 3 dX12_order_66 rfl rfl ?_
          refine A_aload_n hG 0 dX12_order_67 rfl rfl ?_
          refine A_getR (r := 508) hG dX12_order_68 fl_X12_28 (by decide) k500 (by decide) rfl ?_
          refine A_bipush (n := 9) hG dX12_order_71 (by decide) ?_
          refine M_iald (v := h.1 508 9) hG dX12_order_73 k508 n508 (by omega) rfl (fun ⟨ra_73, rb_73⟩ => ?_)
          refine A_icmp_ge hG 135 dX12_order_74 (by decide) (by constructor <;> omega) (by constructor <;> omega) (fun c_74 => ?_) (fun c_74 => ?_)
          ·
            refine A_iconst (n := 0) hG dX12_order_135 ?_
            exact Ret_i hM dX12_order_136 (by constructor <;> omega) (⟨Or.inr (Or.inr ⟨rfl, by rw [e5, ← c_7, ← c_39]; exact kK_congr (fun j j1 j2 => (ha j j1 (by omega)).symm)⟩), rfl⟩)
          ·
            refine A_aload_n hG 0 dX12_order_77 rfl rfl ?_
            refine A_getR (r := 509) hG dX12_order_78 fl_X12_31 (by decide) k500 (by decide) rfl ?_
            refine A_bipush (n := 90) hG dX12_order_81 (by decide) ?_
            refine A_iload_n hG 3 dX12_order_83 rfl rfl ?_
            refine A_iadd hG dX12_order_84 ?_
            refine M_iald (v := h.1 509 (90 + i)) hG dX12_order_85 k509 n509 (by omega) rfl (fun ⟨ra_85, rb_85⟩ => ?_)
            refine A_aload_n hG 0 dX12_order_86 rfl rfl ?_
            refine A_getR (r := 525) hG dX12_order_87 fl_X12_68 (by decide) k500 (by decide) rfl ?_
            refine A_bipush (n := 8) hG dX12_order_90 (by decide) ?_
            refine A_iload_n hG 2 dX12_order_92 rfl rfl ?_
            refine A_imul hG dX12_order_93 ?_
            refine A_iload_n hG 3 dX12_order_94 rfl rfl ?_
            refine A_iadd hG dX12_order_95 ?_
            refine M_iald (v := h.1 525 ((8 * k) + i)) hG dX12_order_96 k525 n525 (by omega) rfl (fun ⟨ra_96, rb_96⟩ => ?_)
            refine A_icmp_eq hG 129 dX12_order_97 (by decide) (by constructor <;> omega) (by constructor <;> omega) (fun c_97 => ?_) (fun c_97 => ?_)
            ·
              refine A_iinc (L' := [(3, vI (i + 1)), (0, .ref 500), (1, vI p), (2, vI k)]) hG 3 dX12_order_129 rfl (by decide) rfl ?_
              refine A_goto hG 66 dX12_order_132 (by decide) ?_
              refine A_sub hG [1, 2, 3, 0] rfl ?_
              exact ih_i (i + 1) (by omega) (fun j j1 j2 => by
                  by_cases hq : j = i
                  · rw [hq]; exact c_97
                  · exact ha j j1 (by omega)) (by omega)
            ·
              refine A_aload_n hG 0 dX12_order_100 rfl rfl ?_
              refine A_getR (r := 509) hG dX12_order_101 fl_X12_31 (by decide) k500 (by decide) rfl ?_
              refine A_bipush (n := 90) hG dX12_order_104 (by decide) ?_
              refine A_iload_n hG 3 dX12_order_106 rfl rfl ?_
              refine A_iadd hG dX12_order_107 ?_
              refine M_iald (v := h.1 509 (90 + i)) hG dX12_order_108 k509 n509 (by omega) rfl (fun ⟨ra_108, rb_108⟩ => ?_)
              refine A_aload_n hG 0 dX12_order_109 rfl rfl ?_
              refine A_getR (r := 525) hG dX12_order_110 fl_X12_68 (by decide) k500 (by decide) rfl ?_
              refine A_bipush (n := 8) hG dX12_order_113 (by decide) ?_
              refine A_iload_n hG 2 dX12_order_115 rfl rfl ?_
              refine A_imul hG dX12_order_116 ?_
              refine A_iload_n hG 3 dX12_order_117 rfl rfl ?_
              refine A_iadd hG dX12_order_118 ?_
              refine M_iald (v := h.1 525 ((8 * k) + i)) hG dX12_order_119 k525 n525 (by omega) rfl (fun ⟨ra_119, rb_119⟩ => ?_)
              refine A_icmp_ge hG 127 dX12_order_120 (by decide) (by constructor <;> omega) (by constructor <;> omega) (fun c_120 => ?_) (fun c_120 => ?_)
              ·
                refine A_iconst (n := -1) hG dX12_order_127 ?_
                exact Ret_i hM dX12_order_128 (by constructor <;> omega) (⟨Or.inr (Or.inl ⟨rfl, by rw [e5, ← c_7, ← c_39]; exact kK_w (i := i) (by rw [c_39]; exact hD2) hD (by omega) (fun j j1 j2 => (ha j j1 j2).symm) (by show _ < _; omega)⟩), rfl⟩)
              ·
                refine A_iconst (n := 1) hG dX12_order_123 ?_
                refine A_goto hG 128 dX12_order_124 (by decide) ?_
                exact Ret_i hM dX12_order_128 (by constructor <;> omega) (⟨Or.inl ⟨rfl, by rw [e5, ← c_7, ← c_39]; exact kK_w (i := i) hD (by rw [c_39]; exact hD2) (by omega) ha (by show _ < _; omega)⟩, rfl⟩)
      refine A_sub hG [1, 2, 3, 0] rfl ?_
      exact i_0 _ 0 (by omega) (fun j j1 j2 => by omega) (Nat.lt_succ_self _)
    ·
      refine A_aload_n hG 0 dX12_order_42 rfl rfl ?_
      refine A_getR (r := 508) hG dX12_order_43 fl_X12_28 (by decide) k500 (by decide) rfl ?_
      refine A_bipush (n := 9) hG dX12_order_46 (by decide) ?_
      refine M_iald (v := h.1 508 9) hG dX12_order_48 k508 n508 (by omega) rfl (fun ⟨ra_48, rb_48⟩ => ?_)
      refine A_aload_n hG 0 dX12_order_49 rfl rfl ?_
      refine A_getR (r := 524) hG dX12_order_50 fl_X12_65 (by decide) k500 (by decide) rfl ?_
      refine A_iload_n hG 2 dX12_order_53 rfl rfl ?_
      refine M_iald (v := h.1 524 k) hG dX12_order_54 k524 n524 (by omega) rfl (fun ⟨ra_54, rb_54⟩ => ?_)
      refine A_icmp_ge hG 62 dX12_order_55 (by decide) (by constructor <;> omega) (by constructor <;> omega) (fun c_55 => ?_) (fun c_55 => ?_)
      ·
        refine A_iconst (n := -1) hG dX12_order_62 ?_
        exact Ret_i hM dX12_order_63 (by constructor <;> omega) (⟨Or.inr (Or.inl ⟨rfl, by rw [e5, ← c_7]; exact kK_n hD2 hD (by omega)⟩), rfl⟩)
      ·
        refine A_iconst (n := 1) hG dX12_order_58 ?_
        refine A_goto hG 63 dX12_order_59 (by decide) ?_
        exact Ret_i hM dX12_order_63 (by constructor <;> omega) (⟨Or.inl ⟨rfl, by rw [e5, ← c_7]; exact kK_n hD hD2 (by omega)⟩, rfl⟩)
  ·
    refine A_iload_n hG 1 dX12_order_10 rfl rfl ?_
    refine A_aload_n hG 0 dX12_order_11 rfl rfl ?_
    refine A_getR (r := 523) hG dX12_order_12 fl_X12_62 (by decide) k500 (by decide) rfl ?_
    refine A_iload_n hG 2 dX12_order_15 rfl rfl ?_
    refine M_iald (v := h.1 523 k) hG dX12_order_16 k523 n523 (by omega) rfl (fun ⟨ra_16, rb_16⟩ => ?_)
    refine A_icmp_ge hG 24 dX12_order_17 (by decide) (by constructor <;> omega) (by constructor <;> omega) (fun c_17 => ?_) (fun c_17 => ?_)
    ·
      refine A_iconst (n := -1) hG dX12_order_24 ?_
      exact Ret_i hM dX12_order_25 (by constructor <;> omega) (⟨Or.inr (Or.inl ⟨rfl, by rw [e5]; exact kK_p hD2 hD (by omega)⟩), rfl⟩)
    ·
      refine A_iconst (n := 1) hG dX12_order_20 ?_
      refine A_goto hG 25 dX12_order_21 (by decide) ?_
      exact Ret_i hM dX12_order_25 (by constructor <;> omega) (⟨Or.inl ⟨rfl, by rw [e5]; exact kK_p hD hD2 (by omega)⟩, rfl⟩)

theorem hm_self4 (h : AH) (a b c d : Nat) (ll : List (Nat × (Int → Int64))) : hm h [(a, h.1 a), (b, h.1 b), (c, h.1 c), (d, h.1 d)] ll [] = hm h [] ll [] := by
  have e : (fun r => alk [(a, h.1 a), (b, h.1 b), (c, h.1 c), (d, h.1 d)] r (h.1 r)) = fun r => alk [] r (h.1 r) := by
    funext r
    simp only [alk]
    by_cases h1 : r = a
    · subst h1; simp
    · by_cases h2 : r = b
      · subst h2; simp [h1]
      · by_cases h3 : r = c
        · subst h3; simp [h1, h2]
        · by_cases h4 : r = d
          · subst h4; simp [h1, h2, h3]
          · simp [h1, h2, h3, h4]
  unfold hm
  rw [e]
theorem topk_not {C : Int → Prop} {n x : Int} {ms : Int → Int} {A : Prop} (h : topk C n ms) (hA : ¬ A) : topk (fun y => C y ∨ (A ∧ y = x)) n ms := topk_congr h (fun y => ⟨Or.inl, fun q => q.elim id (fun q => absurd q.1 hA)⟩)
theorem topk_yes {C : Int → Prop} {n x : Int} {ms : Int → Int} {A B : Prop} (h : topk (fun y => C y ∨ y = x) n ms) (hA : A) (hB : B) : topk (fun y => C y ∨ (A ∧ B ∧ y = x)) n ms := topk_congr h (fun y => ⟨fun q => q.imp id (fun q => ⟨hA, hB, q⟩), fun q => q.imp id (fun q => q.2.2)⟩)
theorem topk_no2 {C : Int → Prop} {n x : Int} {ms : Int → Int} {A B : Prop} (h : topk C n ms) (hA : ¬ (A ∧ B)) : topk (fun y => C y ∨ (A ∧ B ∧ y = x)) n ms := topk_congr h (fun y => ⟨Or.inl, fun q => q.elim id (fun q => absurd ⟨q.1, q.2.1⟩ hA)⟩)
set_option maxHeartbeats 2000000 in
set_option maxRecDepth 20000 in
theorem r_tryRow (h : AH) {p : Int} {C : Int → Prop} {ms : Int → Int} (hp : 0 ≤ p ∧ p ≤ 99) (hG0 : okG (gR h)) (hW0 : okW (gR h) (rowR h 9) (h.1 508 9)) (hC : topk C (h.1 500 21) ms) (hT : mT (h.1 503 0) (h.1 500 21) (h.1 523) (h.1 524) (h.1 525) ms) : AMet yX12_tryRow cX12_tryRow 6 none 3 76 [.ref 500, vI p] h (Qv (fun h' => ∃ (many : Int) (f3 f4 f5 ms' e : Int → Int) (f : Int → Int64), (topk (fun y => C y ∨ (READ (gR h) (hasb 0) (rowR h 9) (h.1 508 9) ∧ 1 ≤ h.1 508 9 ∧ y = (kK p (h.1 508 9) (fun i => h.1 509 (90 + i))))) many ms' ∧ mT (h.1 503 0) many f3 f4 f5 ms' ∧ e 21 = many ∧ ∀ q, q ≠ 21 → e q = h.1 500 q) ∧ h' = hm h [(523, f3), (524, f4), (525, f5), (500, e)] [(518, f)] [])) := by
  have hlen := hW0.1
  have hn := hC.1
  have hnw := hG0.1
  rw [(gR_n h).1] at hnw
  have hw : h.1 503 0 ≤ 16 := hnw.2
  have hwr : ∀ i, 0 ≤ i → i < h.1 508 9 → 0 ≤ h.1 509 (90 + i) ∧ h.1 509 (90 + i) < h.1 503 0 := fun i i0 i1 => by have := hW0.2 i i0 i1; rw [rowR_in ⟨i0, i1⟩, (gR_n h).1] at this; exact this
  refine AMet.of (by decide) (Nat.le_of_ble_eq_true rfl) (fun G hM => ?_)
  have hG := hM.cx
  refine A_hm0 (G := G) (L := [(0, .ref 500), (1, vI p)]) ?_
  refine A_aload_n hG 0 dX12_tryRow_0 rfl rfl ?_
  refine A_getR (r := 508) hG dX12_tryRow_1 fl_X12_28 (by decide) k500 (by decide) rfl ?_
  refine A_bipush (n := 9) hG dX12_tryRow_4 (by decide) ?_
  refine M_iald (v := h.1 508 9) hG dX12_tryRow_6 k508 n508 (by omega) rfl (fun ⟨ra_6, rb_6⟩ => ?_)
  refine A_i2l hG dX12_tryRow_7 ?_
  refine A_lconst (v := i2l 1) hG dX12_tryRow_8 (by decide) ?_
  refine A_ldc2 (v := i2l 8) hG dX12_tryRow_9 (by rw [show i2l 8 = (8 : Int64) by decide]; exact kl_X12_78) ?_
  refine C_Si (as := [.long (i2l (h.1 508 9)), .long (i2l 1), .long (i2l 8)]) (st := []) hG dX12_tryRow_12 ml_X12_80 mf_X12_in ms_X12_in (r_in (hm h [] [] []) (by constructor <;> omega) (by constructor <;> omega) (by constructor <;> omega)) (by decide) (by decide) rfl rfl (Nat.le_of_ble_eq_true rfl) (fun z12 g12 ri_12 hp_12 => ?_)
  obtain ⟨ra_12, rb_12⟩ := ri_12
  obtain ⟨hz12, rfl⟩ := hp_12
  refine A_if_eq hG 28 dX12_tryRow_15 (by decide) (by constructor <;> omega) (fun c_15 => ?_) (fun c_15 => ?_)
  ·
    exact Ret_v hM dX12_tryRow_28 (⟨_, _, _, _, ms, h.1 500, h.2.1 518, ⟨topk_no2 hC (fun q => by omega), hT, rfl, fun _ _ => rfl⟩, by rw [hm_self4, hm_selfL]; rfl⟩)
  ·
    refine A_aload_n hG 0 dX12_tryRow_18 rfl rfl ?_
    refine A_bipush (n := 9) hG dX12_tryRow_19 (by decide) ?_
    refine A_iconst (n := 0) hG dX12_tryRow_21 ?_
    refine C_Vi (as := [vI 9, vI 0]) (st := []) (k := 500) (c := 11) hG dX12_tryRow_22 ml_X12_185 mf_X12_isRead mi_X12_isRead se_X12_isRead rfl (by decide) k500 (r_isRead (hm h [] [] []) (fr := 0) (by omega) hG0 hW0) (by decide) (by decide) rfl rfl (Nat.le_of_ble_eq_true rfl) (fun z22 g22 ri_22 hp_22 => ?_)
    obtain ⟨ra_22, rb_22⟩ := ri_22
    have hq_22 : ∃ fx, ((z22 = 1 ∧ 0 < h.1 508 9 ∧ READ (gR h) (hasb 0) (rowR h 9) (h.1 508 9)) ∨ (z22 = 0 ∧ (h.1 508 9 = 0 ∨ ¬ READ (gR h) (hasb 0) (rowR h 9) (h.1 508 9)))) ∧ g22 = hm (hm h [] [] []) [] [(518, fx)] [] := hp_22
    obtain ⟨f22, hz22, rfl⟩ := hq_22
    refine A_hm (la := []) (lb := [(518, f22)]) (lc := []) rfl rfl rfl ?_
    refine A_if_ne hG 29 dX12_tryRow_25 (by decide) (by constructor <;> omega) (fun c_25 => ?_) (fun c_25 => ?_)
    ·
      have hRd := (hz22.resolve_right (fun q => by omega)).2.2
      have hD : okD (h.1 508 9) (fun i => h.1 509 (90 + i)) := ⟨by omega, fun i i0 i1 => ⟨(hwr i i0 i1).1, Int.lt_of_lt_of_le (hwr i i0 i1).2 hw⟩⟩
      obtain ⟨x0, hx0⟩ : ∃ x0, x0 = (kK p (h.1 508 9) (fun i => h.1 509 (90 + i))) := ⟨_, rfl⟩
      refine A_iconst (n := 0) hG dX12_tryRow_29 ?_
      refine A_istore_n (L' := [(2, vI 0), (0, .ref 500), (1, vI p)]) hG dX12_tryRow_30 rfl (by decide) rfl ?_
      have g_2 : ∀ (q : Int), (0 ≤ q ∧ q ≤ h.1 500 21) → (∀ i, 0 ≤ i → i < q → ms i < x0) → (q < h.1 500 21 → x0 ≤ ms q) → G 54 [(0, .ref 500), (1, vI p), (2, vI q)] [] (hm h [] [(518, f22)] []) := by
        intro q hq0 hql hqn
        refine A_iload_n hG 2 dX12_tryRow_54 rfl rfl ?_
        refine A_bipush (n := 40) hG dX12_tryRow_55 (by decide) ?_
        refine A_icmp_eq hG 77 dX12_tryRow_57 (by decide) (by constructor <;> omega) (by constructor <;> omega) (fun c_57 => ?_) (fun c_57 => ?_)
        ·
          exact Ret_v hM dX12_tryRow_77 (by
              subst hx0
              first
              | exact ⟨_, _, _, _, ms, h.1 500, f22, ⟨topk_yes (topk_has (p := q) hC (by omega) (by omega)) hRd (by omega), hT, rfl, fun _ _ => rfl⟩, (hm_self4 h 523 524 525 500 [(518, f22)]).symm⟩
              | exact ⟨_, _, _, _, ms, h.1 500, f22, ⟨topk_yes (topk_full hC (by omega) (fun i i0 i1 => hql i i0 (by omega))) hRd (by omega), hT, rfl, fun _ _ => rfl⟩, (hm_self4 h 523 524 525 500 [(518, f22)]).symm⟩)
        ·
          have z_3 : (∀ i, q ≤ i → i < h.1 500 21 → x0 < ms i) → (q < 40) → G 78 [(0, .ref 500), (1, vI p), (2, vI q)] [] (hm h [] [(518, f22)] []) := by
            intro  hgt hq40
            refine A_aload_n hG 0 dX12_tryRow_78 rfl rfl ?_
            have d_4 : ∀ (d : Int), ((h.1 500 21 < 40 ∧ d = h.1 500 21) ∨ (h.1 500 21 = 40 ∧ d = 39)) → G 96 [(0, .ref 500), (1, vI p), (2, vI q)] [vI d] (hm h [] [(518, f22)] []) := by
              intro d hd
              refine A_istore_n (L' := [(3, vI d), (0, .ref 500), (1, vI p), (2, vI q)]) hG dX12_tryRow_96 rfl (by decide) rfl ?_
              refine A_iload_n hG 0 dX12_tryRow_97 rfl rfl ?_
              refine A_istore (L' := [(4, vI d), (3, vI d), (0, .ref 500), (1, vI p), (2, vI q)]) hG dX12_tryRow_98 (by decide) rfl ?_
              refine A_insI 523 (li' := [(523, h.1 523)]) rfl ?_
              refine A_insI 524 (li' := [(523, h.1 523), (524, h.1 524)]) rfl ?_
              refine A_insI 525 (li' := [(523, h.1 523), (524, h.1 524), (525, h.1 525)]) rfl ?_
              have k_5 : ∀ fu : Nat, ∀ (k : Int) (f3 : Int → Int) (f4 : Int → Int) (f5 : Int → Int), (q ≤ k ∧ k ≤ d) → (∀ j, f3 j = if j ≤ k ∨ d < j then (h.1 523) j else (h.1 523) (j - 1)) → (∀ j, f4 j = if j ≤ k ∨ d < j then (h.1 524) j else (h.1 524) (j - 1)) → (∀ j i, 0 ≤ i → i < 8 → f5 (8 * j + i) = if j ≤ k ∨ d < j then (h.1 525) (8 * j + i) else (h.1 525) (8 * (j - 1) + i)) → ((k + 1).toNat) < fu → G 100 [(0, .ref 500), (1, vI p), (2, vI q), (3, vI d), (4, vI k)] [] (hm h [(523, f3), (524, f4), (525, f5)] [(518, f22)] []) := by
                intro fu
                induction fu with
                | zero => intro k f3 f4 f5 hk h3 h4 h5 hfu; exact absurd hfu (Nat.not_lt_zero _)
                | succ fu ih_k =>
                  intro k f3 f4 f5 hk h3 h4 h5 hfu
                  refine A_iload hG 4 dX12_tryRow_100 rfl ?_
                  refine A_iload_n hG 2 dX12_tryRow_102 rfl rfl ?_
                  refine A_icmp_le hG 189 dX12_tryRow_103 (by decide) (by constructor <;> omega) (by constructor <;> omega) (fun c_103 => ?_) (fun c_103 => ?_)
                  ·
                    refine A_aload_n hG 0 dX12_tryRow_189 rfl rfl ?_
                    refine A_getR (r := 523) hG dX12_tryRow_190 fl_X12_62 (by decide) k500 (by decide) rfl ?_
                    refine A_iload_n hG 2 dX12_tryRow_193 rfl rfl ?_
                    refine A_iload_n hG 1 dX12_tryRow_194 rfl rfl ?_
                    refine M_iast (li' := [(523, up f3 q p), (524, f4), (525, f5)]) hG dX12_tryRow_195 k523 n523 (by omega) (by constructor <;> omega) rfl ?_
                    refine A_aload_n hG 0 dX12_tryRow_196 rfl rfl ?_
                    refine A_getR (r := 524) hG dX12_tryRow_197 fl_X12_65 (by decide) k500 (by decide) rfl ?_
                    refine A_iload_n hG 2 dX12_tryRow_200 rfl rfl ?_
                    refine A_aload_n hG 0 dX12_tryRow_201 rfl rfl ?_
                    refine A_getR (r := 508) hG dX12_tryRow_202 fl_X12_28 (by decide) k500 (by decide) rfl ?_
                    refine A_bipush (n := 9) hG dX12_tryRow_205 (by decide) ?_
                    refine M_iald (v := h.1 508 9) hG dX12_tryRow_207 k508 n508 (by omega) rfl (fun ⟨ra_207, rb_207⟩ => ?_)
                    refine M_iast (li' := [(523, up f3 q p), (524, up f4 q (h.1 508 9)), (525, f5)]) hG dX12_tryRow_208 k524 n524 (by omega) (by constructor <;> omega) rfl ?_
                    refine A_iconst (n := 0) hG dX12_tryRow_209 ?_
                    refine A_istore (L' := [(4, vI 0), (0, .ref 500), (1, vI p), (2, vI q), (3, vI d)]) hG dX12_tryRow_210 (by decide) rfl ?_
                    have j_6 : ∀ fu : Nat, ∀ (i : Int) (f5 : Int → Int), (0 ≤ i ∧ i ≤ 8) → (∀ j i', 0 ≤ i' → i' < 8 → f5 (8 * j + i') = if j = q then (if i' < i then (if i' < h.1 508 9 then h.1 509 (90 + i') else -4) else f5 (8 * j + i')) else if j ≤ q ∨ d < j then (h.1 525) (8 * j + i') else (h.1 525) (8 * (j - 1) + i')) → ((8 - i).toNat) < fu → G 212 [(0, .ref 500), (1, vI p), (2, vI q), (3, vI d), (4, vI i)] [] (hm h [(523, up f3 q p), (524, up f4 q (h.1 508 9)), (525, f5)] [(518, f22)] []) := by
                      intro fu
                      induction fu with
                      | zero => intro i f5 hi hf hfu; exact absurd hfu (Nat.not_lt_zero _)
                      | succ fu ih_j =>
                        intro i f5 hi hf hfu
                        refine A_iload hG 4 dX12_tryRow_212 rfl ?_
                        refine A_bipush (n := 8) hG dX12_tryRow_214 (by decide) ?_
                        refine A_icmp_ge hG 264 dX12_tryRow_216 (by decide) (by constructor <;> omega) (by constructor <;> omega) (fun c_216 => ?_) (fun c_216 => ?_)
                        ·
                          refine A_aload_n hG 0 dX12_tryRow_264 rfl rfl ?_
                          refine A_iload_n hG 3 dX12_tryRow_265 rfl rfl ?_
                          refine A_iconst (n := 1) hG dX12_tryRow_266 ?_
                          refine A_iadd hG dX12_tryRow_267 ?_
                          refine M_putI (z := 21) (li' := [(523, up f3 q p), (524, up f4 q (h.1 508 9)), (525, f5), (500, up (h.1 500) 21 (d + 1))]) hG dX12_tryRow_268 fl_X12_188 (by decide) k500 nf_11_21 rfl rfl (by constructor <;> omega) (Or.inl rfl) rfl ?_
                          exact Ret_v hM dX12_tryRow_271 (by
                              subst hx0
                              refine ⟨d + 1, _, _, _, _, _, f22, ⟨topk_yes (topk_ins (p := q) hC (by omega) hql hgt hd) hRd (by omega), mT_ins (pl := q) (e := d) (row := fun i => h.1 509 (90 + i)) hT (by omega) hp (by omega) hwr (by omega) (fun j j0 j1 => ?_) (fun j j0 j1 => ?_) (fun j i' j0 j1 i0 i1 => ?_), up_eq _ _ _, fun q hq => up_ne _ _ hq⟩, rfl⟩
                              · by_cases hq : j = q
                                · rw [hq, up_eq, if_neg (by omega), if_pos rfl]
                                · rw [up_ne _ _ hq, h3]; split <;> split <;> first | rfl | omega | (rw [if_neg hq])
                              · by_cases hq : j = q
                                · rw [hq, up_eq, if_neg (by omega), if_pos rfl]
                                · rw [up_ne _ _ hq, h4]; split <;> split <;> first | rfl | omega | (rw [if_neg hq])
                              · rw [hf j i' i0 i1]
                                by_cases hq : j = q
                                · have e1 : ¬ j < q := by omega
                                  have e2 : i' < i := by omega
                                  simp only [if_pos hq, if_neg e1, if_pos e2]
                                · rw [if_neg hq, if_neg (c := j = q) hq]; split <;> split <;> first | rfl | omega)
                        ·
                          refine A_aload_n hG 0 dX12_tryRow_219 rfl rfl ?_
                          refine A_getR (r := 525) hG dX12_tryRow_220 fl_X12_68 (by decide) k500 (by decide) rfl ?_
                          refine A_bipush (n := 8) hG dX12_tryRow_223 (by decide) ?_
                          refine A_iload_n hG 2 dX12_tryRow_225 rfl rfl ?_
                          refine A_imul hG dX12_tryRow_226 ?_
                          refine A_iload hG 4 dX12_tryRow_227 rfl ?_
                          refine A_iadd hG dX12_tryRow_229 ?_
                          refine A_iload hG 4 dX12_tryRow_230 rfl ?_
                          refine A_aload_n hG 0 dX12_tryRow_232 rfl rfl ?_
                          refine A_getR (r := 508) hG dX12_tryRow_233 fl_X12_28 (by decide) k500 (by decide) rfl ?_
                          refine A_bipush (n := 9) hG dX12_tryRow_236 (by decide) ?_
                          refine M_iald (v := h.1 508 9) hG dX12_tryRow_238 k508 n508 (by omega) rfl (fun ⟨ra_238, rb_238⟩ => ?_)
                          refine A_icmp_ge hG 255 dX12_tryRow_239 (by decide) (by constructor <;> omega) (by constructor <;> omega) (fun c_239 => ?_) (fun c_239 => ?_)
                          ·
                            refine A_bipush (n := -4) hG dX12_tryRow_255 (by decide) ?_
                            refine M_iast (li' := [(523, up f3 q p), (524, up f4 q (h.1 508 9)), (525, up f5 ((8 * q) + i) (-4))]) hG dX12_tryRow_257 k525 n525 (by omega) (by constructor <;> omega) rfl ?_
                            refine A_iinc (L' := [(4, vI (i + 1)), (0, .ref 500), (1, vI p), (2, vI q), (3, vI d)]) hG 4 dX12_tryRow_258 rfl (by decide) rfl ?_
                            refine A_goto hG 212 dX12_tryRow_261 (by decide) ?_
                            refine A_sub hG [1, 2, 3, 4, 0] rfl ?_
                            exact ih_j (i + 1) (up f5 ((8 * q) + i) (-4)) (by omega) (fun j i' a b => by
                                by_cases hq : j = q
                                · rw [if_pos hq]
                                  by_cases hr : i' = i
                                  · rw [hq, hr, up_eq, if_pos (by omega), if_neg (by omega)]
                                  · rw [up_ne _ _ (by omega)]
                                    by_cases ht : i' < i
                                    · rw [if_pos (by omega), hf j i' a b, if_pos hq, if_pos ht]
                                    · rw [if_neg (by omega)]
                                · rw [if_neg hq, up_ne _ _ (by omega), hf j i' a b, if_neg hq]) (by omega)
                          ·
                            refine A_aload_n hG 0 dX12_tryRow_242 rfl rfl ?_
                            refine A_getR (r := 509) hG dX12_tryRow_243 fl_X12_31 (by decide) k500 (by decide) rfl ?_
                            refine A_bipush (n := 90) hG dX12_tryRow_246 (by decide) ?_
                            refine A_iload hG 4 dX12_tryRow_248 rfl ?_
                            refine A_iadd hG dX12_tryRow_250 ?_
                            refine M_iald (v := h.1 509 (90 + i)) hG dX12_tryRow_251 k509 n509 (by omega) rfl (fun ⟨ra_251, rb_251⟩ => ?_)
                            refine A_goto hG 257 dX12_tryRow_252 (by decide) ?_
                            refine M_iast (li' := [(523, up f3 q p), (524, up f4 q (h.1 508 9)), (525, up f5 ((8 * q) + i) (h.1 509 (90 + i)))]) hG dX12_tryRow_257 k525 n525 (by omega) (by constructor <;> omega) rfl ?_
                            refine A_iinc (L' := [(4, vI (i + 1)), (0, .ref 500), (1, vI p), (2, vI q), (3, vI d)]) hG 4 dX12_tryRow_258 rfl (by decide) rfl ?_
                            refine A_goto hG 212 dX12_tryRow_261 (by decide) ?_
                            refine A_sub hG [1, 2, 3, 4, 0] rfl ?_
                            exact ih_j (i + 1) (up f5 ((8 * q) + i) (h.1 509 (90 + i))) (by omega) (fun j i' a b => by
                                by_cases hq : j = q
                                · rw [if_pos hq]
                                  by_cases hr : i' = i
                                  · rw [hq, hr, up_eq, if_pos (by omega), if_pos (by omega)]
                                  · rw [up_ne _ _ (by omega)]
                                    by_cases ht : i' < i
                                    · rw [if_pos (by omega), hf j i' a b, if_pos hq, if_pos ht]
                                    · rw [if_neg (by omega)]
                                · rw [if_neg hq, up_ne _ _ (by omega), hf j i' a b, if_neg hq]) (by omega)
                    refine A_sub hG [1, 2, 3, 4, 0] rfl ?_
                    exact j_6 _ 0 f5 (by omega) (fun j i' a b => by
                        by_cases hq : j = q
                        · rw [if_pos hq, if_neg (by omega)]
                        · rw [if_neg hq, h5 j i' a b]; split <;> split <;> first | rfl | omega) (Nat.lt_succ_self _)
                  ·
                    refine A_aload_n hG 0 dX12_tryRow_106 rfl rfl ?_
                    refine A_getR (r := 523) hG dX12_tryRow_107 fl_X12_62 (by decide) k500 (by decide) rfl ?_
                    refine A_iload hG 4 dX12_tryRow_110 rfl ?_
                    refine A_aload_n hG 0 dX12_tryRow_112 rfl rfl ?_
                    refine A_getR (r := 523) hG dX12_tryRow_113 fl_X12_62 (by decide) k500 (by decide) rfl ?_
                    refine A_iload hG 4 dX12_tryRow_116 rfl ?_
                    refine A_iconst (n := 1) hG dX12_tryRow_118 ?_
                    refine A_isub hG dX12_tryRow_119 ?_
                    refine M_iald (v := f3 (k - 1)) hG dX12_tryRow_120 k523 n523 (by omega) rfl (fun ⟨ra_120, rb_120⟩ => ?_)
                    refine M_iast (li' := [(523, up f3 k (f3 (k - 1))), (524, f4), (525, f5)]) hG dX12_tryRow_121 k523 n523 (by omega) (by constructor <;> omega) rfl ?_
                    refine A_aload_n hG 0 dX12_tryRow_122 rfl rfl ?_
                    refine A_getR (r := 524) hG dX12_tryRow_123 fl_X12_65 (by decide) k500 (by decide) rfl ?_
                    refine A_iload hG 4 dX12_tryRow_126 rfl ?_
                    refine A_aload_n hG 0 dX12_tryRow_128 rfl rfl ?_
                    refine A_getR (r := 524) hG dX12_tryRow_129 fl_X12_65 (by decide) k500 (by decide) rfl ?_
                    refine A_iload hG 4 dX12_tryRow_132 rfl ?_
                    refine A_iconst (n := 1) hG dX12_tryRow_134 ?_
                    refine A_isub hG dX12_tryRow_135 ?_
                    refine M_iald (v := f4 (k - 1)) hG dX12_tryRow_136 k524 n524 (by omega) rfl (fun ⟨ra_136, rb_136⟩ => ?_)
                    refine M_iast (li' := [(523, up f3 k (f3 (k - 1))), (524, up f4 k (f4 (k - 1))), (525, f5)]) hG dX12_tryRow_137 k524 n524 (by omega) (by constructor <;> omega) rfl ?_
                    refine A_iconst (n := 0) hG dX12_tryRow_138 ?_
                    refine A_istore (L' := [(5, vI 0), (0, .ref 500), (1, vI p), (2, vI q), (3, vI d), (4, vI k)]) hG dX12_tryRow_139 (by decide) rfl ?_
                    have i_7 : ∀ fu : Nat, ∀ (i : Int) (f3 : Int → Int) (f4 : Int → Int) (f5 : Int → Int), (0 ≤ i ∧ i ≤ 8) → (∀ j, f3 j = if j ≤ k - 1 ∨ d < j then (h.1 523) j else (h.1 523) (j - 1)) → (∀ j, f4 j = if j ≤ k - 1 ∨ d < j then (h.1 524) j else (h.1 524) (j - 1)) → (∀ i', 0 ≤ i' → i' < 8 → (i' < i → f5 (8 * k + i') = (h.1 525) (8 * (k - 1) + i')) ∧ (i ≤ i' → f5 (8 * k + i') = (h.1 525) (8 * k + i')) ∧ ∀ j, j ≠ k → f5 (8 * j + i') = if j ≤ k ∨ d < j then (h.1 525) (8 * j + i') else (h.1 525) (8 * (j - 1) + i')) → ((8 - i).toNat) < fu → G 141 [(0, .ref 500), (1, vI p), (2, vI q), (3, vI d), (4, vI k), (5, vI i)] [] (hm h [(523, f3), (524, f4), (525, f5)] [(518, f22)] []) := by
                      intro fu
                      induction fu with
                      | zero => intro i f3 f4 f5 hi h3' h4' h5' hfu; exact absurd hfu (Nat.not_lt_zero _)
                      | succ fu ih_i =>
                        intro i f3 f4 f5 hi h3' h4' h5' hfu
                        refine A_iload hG 5 dX12_tryRow_141 rfl ?_
                        refine A_bipush (n := 8) hG dX12_tryRow_143 (by decide) ?_
                        refine A_icmp_ge hG 183 dX12_tryRow_145 (by decide) (by constructor <;> omega) (by constructor <;> omega) (fun c_145 => ?_) (fun c_145 => ?_)
                        ·
                          refine A_iinc (L' := [(4, vI (k + (-1))), (0, .ref 500), (1, vI p), (2, vI q), (3, vI d), (5, vI i)]) hG 4 dX12_tryRow_183 rfl (by decide) rfl ?_
                          refine A_goto hG 100 dX12_tryRow_186 (by decide) ?_
                          refine A_sub hG [1, 2, 3, 4, 0] rfl ?_
                          exact ih_k (k + (-1)) f3 f4 f5 (by omega) (fun j => h3' j) (fun j => h4' j) (fun j i i0 i1 => by
                              by_cases hq : j = k
                              · rw [hq, (h5' i i0 i1).1 (by omega), if_neg (by omega)]
                              · rw [(h5' i i0 i1).2.2 j hq]; split <;> split <;> first | rfl | omega) (by omega)
                        ·
                          refine A_aload_n hG 0 dX12_tryRow_148 rfl rfl ?_
                          refine A_getR (r := 525) hG dX12_tryRow_149 fl_X12_68 (by decide) k500 (by decide) rfl ?_
                          refine A_bipush (n := 8) hG dX12_tryRow_152 (by decide) ?_
                          refine A_iload hG 4 dX12_tryRow_154 rfl ?_
                          refine A_imul hG dX12_tryRow_156 ?_
                          refine A_iload hG 5 dX12_tryRow_157 rfl ?_
                          refine A_iadd hG dX12_tryRow_159 ?_
                          refine A_aload_n hG 0 dX12_tryRow_160 rfl rfl ?_
                          refine A_getR (r := 525) hG dX12_tryRow_161 fl_X12_68 (by decide) k500 (by decide) rfl ?_
                          refine A_bipush (n := 8) hG dX12_tryRow_164 (by decide) ?_
                          refine A_iload hG 4 dX12_tryRow_166 rfl ?_
                          refine A_imul hG dX12_tryRow_168 ?_
                          refine A_bipush (n := 8) hG dX12_tryRow_169 (by decide) ?_
                          refine A_isub hG dX12_tryRow_171 ?_
                          refine A_iload hG 5 dX12_tryRow_172 rfl ?_
                          refine A_iadd hG dX12_tryRow_174 ?_
                          refine M_iald (v := f5 (((8 * k) - 8) + i)) hG dX12_tryRow_175 k525 n525 (by omega) rfl (fun ⟨ra_175, rb_175⟩ => ?_)
                          refine M_iast (li' := [(523, f3), (524, f4), (525, up f5 ((8 * k) + i) (f5 (((8 * k) - 8) + i)))]) hG dX12_tryRow_176 k525 n525 (by omega) (by constructor <;> omega) rfl ?_
                          refine A_iinc (L' := [(5, vI (i + 1)), (0, .ref 500), (1, vI p), (2, vI q), (3, vI d), (4, vI k)]) hG 5 dX12_tryRow_177 rfl (by decide) rfl ?_
                          refine A_goto hG 141 dX12_tryRow_180 (by decide) ?_
                          refine A_sub hG [1, 2, 3, 4, 5, 0] rfl ?_
                          exact ih_i (i + 1) f3 f4 (up f5 ((8 * k) + i) (f5 (((8 * k) - 8) + i))) (by omega) h3' h4' (fun i' a b => ⟨fun q => by
                              by_cases hq : i' = i
                              · rw [hq, up_eq, show 8 * k - 8 + i = 8 * (k - 1) + i by omega, (h5' i (by omega) (by omega)).2.2 (k - 1) (by omega), if_pos (by omega)]
                              · rw [up_ne _ _ (by omega)]; exact (h5' i' a b).1 (by omega), fun q => by rw [up_ne _ _ (by omega)]; exact (h5' i' a b).2.1 (by omega), fun j hj => by rw [up_ne _ _ (by omega)]; exact (h5' i' a b).2.2 j hj⟩) (by omega)
                    refine A_sub hG [1, 2, 3, 4, 5, 0] rfl ?_
                    exact i_7 _ 0 (up f3 k (f3 (k - 1))) (up f4 k (f4 (k - 1))) f5 (by omega) (fun j => by
                        by_cases hq : j = k
                        · rw [hq, up_eq, h3, if_pos (by omega), if_neg (by omega)]
                        · rw [up_ne _ _ hq, h3]; split <;> split <;> first | rfl | omega) (fun j => by
                        by_cases hq : j = k
                        · rw [hq, up_eq, h4, if_pos (by omega), if_neg (by omega)]
                        · rw [up_ne _ _ hq, h4]; split <;> split <;> first | rfl | omega) (fun i' a b => ⟨fun q => by omega, fun _ => by rw [h5 k i' a b, if_pos (by omega)], fun j _ => h5 j i' a b⟩) (Nat.lt_succ_self _)
              refine A_sub hG [2, 3, 4, 1, 0] rfl ?_
              exact k_5 _ d (h.1 523) (h.1 524) (h.1 525) (by omega) (fun j => by rw [if_pos (by omega)]) (fun j => by rw [if_pos (by omega)]) (fun j i i0 i1 => by rw [if_pos (by omega)]) (Nat.lt_succ_self _)
            refine M_getI (z := 21) (v := h.1 500 21) hG dX12_tryRow_79 fl_X12_188 (by decide) k500 rfl rfl rfl (fun ⟨ra_79, rb_79⟩ => ?_)
            refine A_bipush (n := 40) hG dX12_tryRow_82 (by decide) ?_
            refine A_icmp_ge hG 94 dX12_tryRow_84 (by decide) (by constructor <;> omega) (by constructor <;> omega) (fun c_84 => ?_) (fun c_84 => ?_)
            ·
              refine A_bipush (n := 39) hG dX12_tryRow_94 (by decide) ?_
              refine A_sub hG [0, 1, 2] rfl ?_
              exact d_4 39 (by omega)
            ·
              refine A_aload_n hG 0 dX12_tryRow_87 rfl rfl ?_
              refine M_getI (z := 21) (v := h.1 500 21) hG dX12_tryRow_88 fl_X12_188 (by decide) k500 rfl rfl rfl (fun ⟨ra_88, rb_88⟩ => ?_)
              refine A_goto hG 96 dX12_tryRow_91 (by decide) ?_
              refine A_sub hG [0, 1, 2] rfl ?_
              exact d_4 (h.1 500 21) (by omega)
          refine A_iload_n hG 2 dX12_tryRow_60 rfl rfl ?_
          refine A_aload_n hG 0 dX12_tryRow_61 rfl rfl ?_
          refine M_getI (z := 21) (v := h.1 500 21) hG dX12_tryRow_62 fl_X12_188 (by decide) k500 rfl rfl rfl (fun ⟨ra_62, rb_62⟩ => ?_)
          refine A_icmp_ge hG 78 dX12_tryRow_65 (by decide) (by constructor <;> omega) (by constructor <;> omega) (fun c_65 => ?_) (fun c_65 => ?_)
          ·
            refine A_sub hG [0, 1, 2] rfl ?_
            exact z_3 (fun i i0 i1 => by omega) (by omega)
          ·
            refine A_aload_n hG 0 dX12_tryRow_68 rfl rfl ?_
            refine A_iload_n hG 1 dX12_tryRow_69 rfl rfl ?_
            refine A_iload_n hG 2 dX12_tryRow_70 rfl rfl ?_
            refine C_Vi (as := [vI p, vI q]) (st := []) (k := 500) (c := 11) hG dX12_tryRow_71 ml_X12_191 mf_X12_order mi_X12_order se_X12_order rfl (by decide) k500 (r_order (hm h [] [(518, f22)] []) (p := p) (k := q) (by constructor <;> omega) (show 0 ≤ q ∧ q < h.1 500 21 by omega) hn.2 hw hT hD) (by decide) (by decide) rfl rfl (Nat.le_of_ble_eq_true rfl) (fun z71 g71 ri_71 hp_71 => ?_)
            obtain ⟨ra_71, rb_71⟩ := ri_71
            have hq_71 : ((z71 = 1 ∧ (kK p (h.1 508 9) (fun i => h.1 509 (90 + i))) < ms q) ∨ (z71 = -1 ∧ ms q < (kK p (h.1 508 9) (fun i => h.1 509 (90 + i)))) ∨ (z71 = 0 ∧ ms q = (kK p (h.1 508 9) (fun i => h.1 509 (90 + i))))) ∧ g71 = hm h [] [(518, f22)] [] := hp_71
            obtain ⟨hz71, rfl⟩ := hq_71
            rw [← hx0] at hz71
            refine A_if_ne hG 78 dX12_tryRow_74 (by decide) (by constructor <;> omega) (fun c_74 => ?_) (fun c_74 => ?_)
            ·
              refine A_sub hG [0, 1, 2] rfl ?_
              exact z_3 (fun i i0 i1 => by
                  have e := hqn (by omega)
                  by_cases hq : i = q
                  · rw [hq]; omega
                  · have := hC.2.1 q i (by omega) (by omega) i1; omega) (by omega)
            ·
              exact Ret_v hM dX12_tryRow_77 (by
                  subst hx0
                  first
                  | exact ⟨_, _, _, _, ms, h.1 500, f22, ⟨topk_yes (topk_has (p := q) hC (by omega) (by omega)) hRd (by omega), hT, rfl, fun _ _ => rfl⟩, (hm_self4 h 523 524 525 500 [(518, f22)]).symm⟩
                  | exact ⟨_, _, _, _, ms, h.1 500, f22, ⟨topk_yes (topk_full hC (by omega) (fun i i0 i1 => hql i i0 (by omega))) hRd (by omega), hT, rfl, fun _ _ => rfl⟩, (hm_self4 h 523 524 525 500 [(518, f22)]).symm⟩)
      have q_9 : ∀ fu : Nat, ∀ (q : Int), (0 ≤ q ∧ q ≤ h.1 500 21) → (∀ i, 0 ≤ i → i < q → ms i < x0) → ((41 - q).toNat) < fu → G 31 [(0, .ref 500), (1, vI p), (2, vI q)] [] (hm h [] [(518, f22)] []) := by
        intro fu
        induction fu with
        | zero => intro q hq0 hql hfu; exact absurd hfu (Nat.not_lt_zero _)
        | succ fu ih_q =>
          intro q hq0 hql hfu
          refine A_iload_n hG 2 dX12_tryRow_31 rfl rfl ?_
          refine A_aload_n hG 0 dX12_tryRow_32 rfl rfl ?_
          refine M_getI (z := 21) (v := h.1 500 21) hG dX12_tryRow_33 fl_X12_188 (by decide) k500 rfl rfl rfl (fun ⟨ra_33, rb_33⟩ => ?_)
          refine A_icmp_ge hG 54 dX12_tryRow_36 (by decide) (by constructor <;> omega) (by constructor <;> omega) (fun c_36 => ?_) (fun c_36 => ?_)
          ·
            refine A_sub hG [0, 1, 2] rfl ?_
            exact g_2 q (by omega) hql (by omega)
          ·
            refine A_aload_n hG 0 dX12_tryRow_39 rfl rfl ?_
            refine A_iload_n hG 1 dX12_tryRow_40 rfl rfl ?_
            refine A_iload_n hG 2 dX12_tryRow_41 rfl rfl ?_
            refine C_Vi (as := [vI p, vI q]) (st := []) (k := 500) (c := 11) hG dX12_tryRow_42 ml_X12_191 mf_X12_order mi_X12_order se_X12_order rfl (by decide) k500 (r_order (hm h [] [(518, f22)] []) (p := p) (k := q) (by constructor <;> omega) (show 0 ≤ q ∧ q < h.1 500 21 by omega) hn.2 hw hT hD) (by decide) (by decide) rfl rfl (Nat.le_of_ble_eq_true rfl) (fun z42 g42 ri_42 hp_42 => ?_)
            obtain ⟨ra_42, rb_42⟩ := ri_42
            have hq_42 : ((z42 = 1 ∧ (kK p (h.1 508 9) (fun i => h.1 509 (90 + i))) < ms q) ∨ (z42 = -1 ∧ ms q < (kK p (h.1 508 9) (fun i => h.1 509 (90 + i)))) ∨ (z42 = 0 ∧ ms q = (kK p (h.1 508 9) (fun i => h.1 509 (90 + i))))) ∧ g42 = hm h [] [(518, f22)] [] := hp_42
            obtain ⟨hz42, rfl⟩ := hq_42
            rw [← hx0] at hz42
            refine A_if_ge hG 54 dX12_tryRow_45 (by decide) (by constructor <;> omega) (fun c_45 => ?_) (fun c_45 => ?_)
            ·
              refine A_sub hG [0, 1, 2] rfl ?_
              exact g_2 q (by omega) hql (by omega)
            ·
              refine A_iinc (L' := [(2, vI (q + 1)), (0, .ref 500), (1, vI p)]) hG 2 dX12_tryRow_48 rfl (by decide) rfl ?_
              refine A_goto hG 31 dX12_tryRow_51 (by decide) ?_
              refine A_sub hG [1, 2, 0] rfl ?_
              exact ih_q (q + 1) (by omega) (fun j j1 j2 => by
                  by_cases hq : j = q
                  · rw [hq]; omega
                  · exact hql j j1 (by omega)) (by omega)
      refine A_sub hG [1, 2, 0] rfl ?_
      exact q_9 _ 0 (by omega) (fun j j1 j2 => by omega) (Nat.lt_succ_self _)
    ·
      exact Ret_v hM dX12_tryRow_28 (⟨_, _, _, _, ms, h.1 500, f22, ⟨topk_no2 hC (fun q => (hz22.resolve_left (fun r => by omega)).2.elim (fun r => by omega) (fun r => r q.1)), hT, rfl, fun _ _ => rfl⟩, (hm_self4 h 523 524 525 500 [(518, f22)]).symm⟩)

end
