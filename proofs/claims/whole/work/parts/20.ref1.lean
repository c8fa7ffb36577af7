/-! the reference: small methods (printed by gen) -/
section
set_option maxHeartbeats 2000000 in
set_option maxRecDepth 20000 in
theorem r_in (h : AH) {a b c : Int} (ha : ir a) (hb : ir b) (hc : ir c) : AMet yX12_in cX12_in 6 (some .boolean) 0 0 [.long (i2l a), .long (i2l b), .long (i2l c)] h (Qi (fun z h' => ((z = 1 ∧ b ≤ a ∧ a ≤ c) ∨ (z = 0 ∧ (a < b ∨ c < a))) ∧ h' = h)) := by
  refine AMet.of (by decide) (Nat.le_of_ble_eq_true rfl) (fun G hM => ?_)
  have hG := hM.cx
  refine A_hm0 (G := G) (L := [(0, .long (i2l a)), (2, .long (i2l b)), (4, .long (i2l c))]) ?_
  refine A_lload_n hG 0 dX12_in_0 rfl rfl ?_
  refine A_lload_n hG 1 dX12_in_1 rfl rfl ?_
  refine A_lcmp hG dX12_in_2 ?_
  have e1 := lcmp3 ha hb
  refine A_if_lt hG 17 dX12_in_3 (by decide) (ir_lcmp _ _) (fun c_3 => ?_) (fun c_3 => ?_)
  ·
    refine A_iconst (n := 0) hG dX12_in_17 ?_
    exact Ret_z hM dX12_in_18 (by omega) (⟨by omega, rfl⟩)
  ·
    refine A_lload_n hG 0 dX12_in_6 rfl rfl ?_
    refine A_lload hG 2 dX12_in_7 rfl ?_
    refine A_lcmp hG dX12_in_9 ?_
    have e2 := lcmp3 ha hc
    refine A_if_gt hG 17 dX12_in_10 (by decide) (ir_lcmp _ _) (fun c_10 => ?_) (fun c_10 => ?_)
    ·
      refine A_iconst (n := 0) hG dX12_in_17 ?_
      exact Ret_z hM dX12_in_18 (by omega) (⟨by omega, rfl⟩)
    ·
      refine A_iconst (n := 1) hG dX12_in_13 ?_
      refine A_goto hG 18 dX12_in_14 (by decide) ?_
      exact Ret_z hM dX12_in_18 (by omega) (⟨by omega, rfl⟩)

set_option maxHeartbeats 2000000 in
set_option maxRecDepth 20000 in
theorem r_has (h : AH) (a b : Int) : AMet yX12_has cX12_has 2 (some .boolean) 0 0 [vI a, vI b] h (Qi (fun z h' => ((z = 1 ∧ hasb a b) ∨ (z = 0 ∧ ¬ hasb a b)) ∧ h' = h)) := by
  refine AMet.of (by decide) (Nat.le_of_ble_eq_true rfl) (fun G hM => ?_)
  have hG := hM.cx
  refine A_hm0 (G := G) (L := [(0, vI a), (1, vI b)]) ?_
  refine A_iload_n hG 0 dX12_has_0 rfl rfl ?_
  refine A_iload_n hG 1 dX12_has_1 rfl rfl ?_
  refine A_ishr hG dX12_has_2 ?_
  refine A_iconst (n := 1) hG dX12_has_3 ?_
  refine A_iand hG dX12_has_4 ?_
  refine A_iconst (n := 1) hG dX12_has_5 ?_
  refine A_icmp_ne hG 13 dX12_has_6 (by decide) (ir_iand _ _) (by constructor <;> omega) (fun c_6 => ?_) (fun c_6 => ?_)
  ·
    refine A_iconst (n := 0) hG dX12_has_13 ?_
    exact Ret_z hM dX12_has_14 (by omega) (⟨Or.inr ⟨rfl, c_6⟩, rfl⟩)
  ·
    refine A_iconst (n := 1) hG dX12_has_9 ?_
    refine A_goto hG 14 dX12_has_10 (by decide) ?_
    exact Ret_z hM dX12_has_14 (by omega) (⟨Or.inl ⟨rfl, c_6⟩, rfl⟩)

set_option maxHeartbeats 2000000 in
set_option maxRecDepth 20000 in
theorem r_isChange (h : AH) {c : Int} (hc : ir c) : AMet yX12_isChange cX12_isChange 1 (some .boolean) 1 25 [vI c] h (Qi (fun z h' => ((z = 1 ∧ 0 ≤ c ∧ c ≤ 4) ∨ (z = 0 ∧ (c < 0 ∨ 4 < c))) ∧ h' = h)) := by
  obtain ⟨hc1, hc2⟩ := hc
  refine AMet.of (by decide) (Nat.le_of_ble_eq_true rfl) (fun G hM => ?_)
  have hG := hM.cx
  refine A_hm0 (G := G) (L := [(0, vI c)]) ?_
  refine A_iload_n hG 0 dX12_isChange_0 rfl rfl ?_
  refine A_i2l hG dX12_isChange_1 ?_
  refine A_lconst (v := i2l 0) hG dX12_isChange_2 (by decide) ?_
  refine A_ldc2 (v := i2l 4) hG dX12_isChange_3 (by rw [show i2l 4 = (4 : Int64) by decide]; exact kl_X12_123) ?_
  refine C_Si (as := [.long (i2l c), .long (i2l 0), .long (i2l 4)]) (st := []) hG dX12_isChange_6 ml_X12_80 mf_X12_in ms_X12_in (r_in (hm h [] [] []) (by constructor <;> omega) (by constructor <;> omega) (by constructor <;> omega)) (by decide) (by decide) rfl rfl (by decide) (fun z6 g6 ri_6 hp_6 => ?_)
  obtain ⟨ra_6, rb_6⟩ := ri_6
  obtain ⟨hz6, rfl⟩ := hp_6
  exact Ret_z hM dX12_isChange_9 (by omega) (⟨by omega, rfl⟩)

set_option maxHeartbeats 2000000 in
set_option maxRecDepth 20000 in
theorem r_isSentence (h : AH) {c : Int} (hc : ir c) : AMet yX12_isSentence cX12_isSentence 1 (some .boolean) 1 25 [vI c] h (Qi (fun z h' => ((z = 1 ∧ 0 ≤ c ∧ c ≤ 7) ∨ (z = 0 ∧ (c < 0 ∨ 7 < c))) ∧ h' = h)) := by
  obtain ⟨hc1, hc2⟩ := hc
  refine AMet.of (by decide) (Nat.le_of_ble_eq_true rfl) (fun G hM => ?_)
  have hG := hM.cx
  refine A_hm0 (G := G) (L := [(0, vI c)]) ?_
  refine A_iload_n hG 0 dX12_isSentence_0 rfl rfl ?_
  refine A_i2l hG dX12_isSentence_1 ?_
  refine A_lconst (v := i2l 0) hG dX12_isSentence_2 (by decide) ?_
  refine A_ldc2 (v := i2l 7) hG dX12_isSentence_3 (by rw [show i2l 7 = (7 : Int64) by decide]; exact kl_X12_132) ?_
  refine C_Si (as := [.long (i2l c), .long (i2l 0), .long (i2l 7)]) (st := []) hG dX12_isSentence_6 ml_X12_80 mf_X12_in ms_X12_in (r_in (hm h [] [] []) (by constructor <;> omega) (by constructor <;> omega) (by constructor <;> omega)) (by decide) (by decide) rfl rfl (by decide) (fun z6 g6 ri_6 hp_6 => ?_)
  obtain ⟨ra_6, rb_6⟩ := ri_6
  obtain ⟨hz6, rfl⟩ := hp_6
  exact Ret_z hM dX12_isSentence_9 (by omega) (⟨by omega, rfl⟩)

set_option maxHeartbeats 2000000 in
set_option maxRecDepth 20000 in
theorem r_wipe (h : AH) : AMet yX12_wipe cX12_wipe 2 (some .int) 0 0 [.ref 500] h (Qi (fun z h' => z = h.1 500 0 ∧ h' = hm h [(500, up (h.1 500) 0 0)] [] [])) := by
  refine AMet.of (by decide) (Nat.le_of_ble_eq_true rfl) (fun G hM => ?_)
  have hG := hM.cx
  refine A_hm0 (G := G) (L := [(0, .ref 500)]) ?_
  refine A_aload_n hG 0 dX12_wipe_0 rfl rfl ?_
  refine M_getI (z := 0) (v := h.1 500 0) hG dX12_wipe_1 fl_X12_84 (by decide) k500 rfl rfl rfl (fun ⟨ra_1, rb_1⟩ => ?_)
  refine A_istore_n (L' := [(1, vI (h.1 500 0)), (0, .ref 500)]) hG dX12_wipe_4 rfl (by decide) rfl ?_
  refine A_aload_n hG 1 dX12_wipe_5 rfl rfl ?_
  refine A_iconst (n := 0) hG dX12_wipe_6 ?_
  refine M_putI (z := 0) (li' := [(500, up (h.1 500) 0 0)]) hG dX12_wipe_7 fl_X12_84 (by decide) k500 nf_11_0 rfl rfl (by constructor <;> omega) (Or.inl rfl) rfl ?_
  refine A_iload_n hG 0 dX12_wipe_10 rfl rfl ?_
  exact Ret_i hM dX12_wipe_11 (by constructor <;> omega) (⟨rfl, rfl⟩)

set_option maxHeartbeats 2000000 in
set_option maxRecDepth 20000 in
theorem r_count (h : AH) {w : Int} (hw : ir w) (hl : ∀ s : Int, 0 ≤ s → s < 8 → 0 ≤ h.1 508 s ∧ h.1 508 s ≤ 8) : AMet yX12_count cX12_count 4 (some .int) 0 0 [.ref 500, vI w] h (Qi (fun z h' => ((w = 0 ∧ z = h.1 503 0) ∨ (w = 1 ∧ z = h.1 505 0) ∨ (w = 2 ∧ z = h.1 500 0) ∨ (w = 3 ∧ z = h.1 500 10) ∨ (w = 4 ∧ z = h.1 500 13) ∨ (w = 5 ∧ z = sumN (h.1 508) 8) ∨ ((w < 0 ∨ 5 < w) ∧ z = -1)) ∧ h' = h)) := by
  obtain ⟨hw1, hw2⟩ := hw
  refine AMet.of (by decide) (Nat.le_of_ble_eq_true rfl) (fun G hM => ?_)
  have hG := hM.cx
  refine A_hm0 (G := G) (L := [(0, .ref 500), (1, vI w)]) ?_
  refine A_iconst (n := 0) hG dX12_count_0 ?_
  refine A_istore_n (L' := [(2, vI 0), (0, .ref 500), (1, vI w)]) hG dX12_count_1 rfl (by decide) rfl ?_
  refine A_iload_n hG 2 dX12_count_2 rfl rfl ?_
  rcases (show w = 0 ∨ w = 1 ∨ w = 2 ∨ w = 3 ∨ w = 4 ∨ w = 5 ∨ w < 0 ∨ 5 < w by omega) with hsw | hsw | hsw | hsw | hsw | hsw | hsw
  ·
    refine A_tabIn hG 40 dX12_count_3 (by constructor <;> omega) (by omega) (by rw [hsw]; rfl) (by decide) ?_
    refine A_aload_n hG 1 dX12_count_40 rfl rfl ?_
    refine A_getR (r := 503) hG dX12_count_41 fl_X12_13 (by decide) k500 (by decide) rfl ?_
    refine A_iconst (n := 0) hG dX12_count_44 ?_
    refine M_iald (v := h.1 503 0) hG dX12_count_45 k503 n503 (by omega) rfl (fun ⟨ra_45, rb_45⟩ => ?_)
    exact Ret_i hM dX12_count_46 (by constructor <;> omega) (⟨by omega, rfl⟩)
  ·
    refine A_tabIn hG 47 dX12_count_3 (by constructor <;> omega) (by omega) (by rw [hsw]; rfl) (by decide) ?_
    refine A_aload_n hG 1 dX12_count_47 rfl rfl ?_
    refine A_getR (r := 505) hG dX12_count_48 fl_X12_19 (by decide) k500 (by decide) rfl ?_
    refine A_iconst (n := 0) hG dX12_count_51 ?_
    refine M_iald (v := h.1 505 0) hG dX12_count_52 k505 n505 (by omega) rfl (fun ⟨ra_52, rb_52⟩ => ?_)
    exact Ret_i hM dX12_count_53 (by constructor <;> omega) (⟨by omega, rfl⟩)
  ·
    refine A_tabIn hG 54 dX12_count_3 (by constructor <;> omega) (by omega) (by rw [hsw]; rfl) (by decide) ?_
    refine A_aload_n hG 1 dX12_count_54 rfl rfl ?_
    refine M_getI (z := 0) (v := h.1 500 0) hG dX12_count_55 fl_X12_84 (by decide) k500 rfl rfl rfl (fun ⟨ra_55, rb_55⟩ => ?_)
    exact Ret_i hM dX12_count_58 (by constructor <;> omega) (⟨by omega, rfl⟩)
  ·
    refine A_tabIn hG 59 dX12_count_3 (by constructor <;> omega) (by omega) (by rw [hsw]; rfl) (by decide) ?_
    refine A_aload_n hG 1 dX12_count_59 rfl rfl ?_
    refine M_getI (z := 10) (v := h.1 500 10) hG dX12_count_60 fl_X12_117 (by decide) k500 rfl rfl rfl (fun ⟨ra_60, rb_60⟩ => ?_)
    exact Ret_i hM dX12_count_63 (by constructor <;> omega) (⟨by omega, rfl⟩)
  ·
    refine A_tabIn hG 64 dX12_count_3 (by constructor <;> omega) (by omega) (by rw [hsw]; rfl) (by decide) ?_
    refine A_aload_n hG 1 dX12_count_64 rfl rfl ?_
    refine M_getI (z := 13) (v := h.1 500 13) hG dX12_count_65 fl_X12_120 (by decide) k500 rfl rfl rfl (fun ⟨ra_65, rb_65⟩ => ?_)
    exact Ret_i hM dX12_count_68 (by constructor <;> omega) (⟨by omega, rfl⟩)
  ·
    refine A_tabIn hG 69 dX12_count_3 (by constructor <;> omega) (by omega) (by rw [hsw]; rfl) (by decide) ?_
    refine A_iconst (n := 0) hG dX12_count_69 ?_
    refine A_istore_n (L' := [(3, vI 0), (2, vI 0), (0, .ref 500), (1, vI w)]) hG dX12_count_70 rfl (by decide) rfl ?_
    have a_0 : ∀ fu : Nat, ∀ (x : Int) (k : Int) (j : Nat), (k = j) → (j ≤ 8) → (x = sumN (h.1 508) j) → (8 - j) < fu → G 71 [(0, .ref 500), (2, vI x), (3, vI k)] [] (hm h [] [] []) := by
      intro fu
      induction fu with
      | zero => intro x k j hk hj hx hfu; exact absurd hfu (Nat.not_lt_zero _)
      | succ fu ih_a =>
        intro x k j hk hj hx hfu
        have hb := sumN_le (f := h.1 508) (b := 8) (n := j) (fun i h0 h1 => hl i h0 (by omega))
        refine A_iload_n hG 2 dX12_count_71 rfl rfl ?_
        refine A_bipush (n := 8) hG dX12_count_72 (by decide) ?_
        refine A_icmp_ge hG 92 dX12_count_74 (by decide) (by constructor <;> omega) (by constructor <;> omega) (fun c_74 => ?_) (fun c_74 => ?_)
        ·
          refine A_iload_n hG 1 dX12_count_92 rfl rfl ?_
          exact Ret_i hM dX12_count_93 (by constructor <;> omega) (⟨by (have e : j = 8 := (by omega)); subst e; omega, rfl⟩)
        ·
          refine A_iload_n hG 1 dX12_count_77 rfl rfl ?_
          refine A_aload_n hG 0 dX12_count_78 rfl rfl ?_
          refine A_getR (r := 508) hG dX12_count_79 fl_X12_28 (by decide) k500 (by decide) rfl ?_
          refine A_iload_n hG 2 dX12_count_82 rfl rfl ?_
          refine M_iald (v := h.1 508 k) hG dX12_count_83 k508 n508 (by omega) rfl (fun ⟨ra_83, rb_83⟩ => ?_)
          have hb2 := hl k (by omega) (by omega)
          refine A_iadd hG dX12_count_84 ?_
          refine A_istore_n (L' := [(2, vI (x + (h.1 508 k))), (0, .ref 500), (3, vI k)]) hG dX12_count_85 rfl (by decide) rfl ?_
          refine A_iinc (L' := [(3, vI (k + 1)), (2, vI (x + (h.1 508 k))), (0, .ref 500)]) hG 2 dX12_count_86 rfl (by decide) rfl ?_
          refine A_goto hG 71 dX12_count_89 (by decide) ?_
          refine A_sub hG [2, 1, 0] rfl ?_
          exact ih_a (x + (h.1 508 k)) (k + 1) (j + 1) (by omega) (by omega) (by simp only [sumN]; rw [hx, hk]) (by omega)
    refine A_sub hG [2, 1, 0] rfl ?_
    exact a_0 _ 0 0 0 (by omega) (by omega) rfl (Nat.lt_succ_self _)
  ·
    refine A_tabOut hG 94 dX12_count_3 (by constructor <;> omega) hsw (by decide) ?_
    refine A_iconst (n := -1) hG dX12_count_94 ?_
    exact Ret_i hM dX12_count_95 (by constructor <;> omega) (⟨by omega, rfl⟩)

set_option maxHeartbeats 2000000 in
set_option maxRecDepth 20000 in
theorem r_fitted (h : AH) {c : Int} (hc : 0 ≤ c ∧ c ≤ 4) (hn : 0 ≤ h.1 500 13 ∧ h.1 500 13 ≤ 60) : AMet yX12_fitted cX12_fitted 4 (some .int) 0 0 [.ref 500, vI c] h (Qi (fun z h' => z = fitP (h.1 500 13) (h.1 507) (h.1 515) c 1 ∧ h' = h)) := by
  refine AMet.of (by decide) (Nat.le_of_ble_eq_true rfl) (fun G hM => ?_)
  have hG := hM.cx
  refine A_hm0 (G := G) (L := [(0, .ref 500), (1, vI c)]) ?_
  refine A_aload_n hG 0 dX12_fitted_0 rfl rfl ?_
  refine M_getI (z := 13) (v := h.1 500 13) hG dX12_fitted_1 fl_X12_120 (by decide) k500 rfl rfl rfl (fun ⟨ra_1, rb_1⟩ => ?_)
  refine A_if_ne hG 14 dX12_fitted_4 (by decide) (by constructor <;> omega) (fun c_4 => ?_) (fun c_4 => ?_)
  ·
    refine A_iconst (n := 0) hG dX12_fitted_14 ?_
    refine A_istore_n (L' := [(2, vI 0), (0, .ref 500), (1, vI c)]) hG dX12_fitted_15 rfl (by decide) rfl ?_
    refine A_iconst (n := 0) hG dX12_fitted_16 ?_
    refine A_istore_n (L' := [(3, vI 0), (2, vI 0), (0, .ref 500), (1, vI c)]) hG dX12_fitted_17 rfl (by decide) rfl ?_
    have a_0 : ∀ fu : Nat, ∀ (x : Int) (j : Nat), (j ≤ (h.1 500 13).toNat) → (x = cntE (h.1 515) c j) → (60 - j) < fu → G 18 [(0, .ref 500), (1, vI c), (2, vI x), (3, vI (j : Int))] [] (hm h [] [] []) := by
      intro fu
      induction fu with
      | zero => intro x j hj hx hfu; exact absurd hfu (Nat.not_lt_zero _)
      | succ fu ih_a =>
        intro x j hj hx hfu
        have hb := cntE_le (h.1 515) c j
        refine A_iload_n hG 3 dX12_fitted_18 rfl rfl ?_
        refine A_aload_n hG 0 dX12_fitted_19 rfl rfl ?_
        refine M_getI (z := 13) (v := h.1 500 13) hG dX12_fitted_20 fl_X12_120 (by decide) k500 rfl rfl rfl (fun ⟨ra_20, rb_20⟩ => ?_)
        refine A_icmp_ge hG 50 dX12_fitted_23 (by decide) (by constructor <;> omega) (by constructor <;> omega) (fun c_23 => ?_) (fun c_23 => ?_)
        ·
          refine A_bipush (n := 10) hG dX12_fitted_50 (by decide) ?_
          refine A_bipush (n := 9) hG dX12_fitted_52 (by decide) ?_
          refine A_iload_n hG 2 dX12_fitted_54 rfl rfl ?_
          refine A_imul hG dX12_fitted_55 ?_
          refine A_aload_n hG 0 dX12_fitted_56 rfl rfl ?_
          refine M_getI (z := 13) (v := h.1 500 13) hG dX12_fitted_57 fl_X12_120 (by decide) k500 rfl rfl rfl (fun ⟨ra_57, rb_57⟩ => ?_)
          refine A_idiv hG dX12_fitted_60 (by constructor <;> omega) (by omega) ?_
          refine A_isub hG dX12_fitted_61 ?_
          have hdv := idiv9 (n := h.1 500 13) (x := x) (by omega) (by omega)
          have hiv : ir (10 - idiv (9 * x) (h.1 500 13)) := by constructor <;> omega
          exact Ret_i hM dX12_fitted_62 hiv (⟨by rw [fitP, if_pos ⟨by decide, by omega⟩, hx, show j = (h.1 500 13).toNat from (by omega)], rfl⟩)
        ·
          refine A_iload_n hG 2 dX12_fitted_26 rfl rfl ?_
          refine A_aload_n hG 0 dX12_fitted_27 rfl rfl ?_
          refine A_getR (r := 515) hG dX12_fitted_28 fl_X12_43 (by decide) k500 (by decide) rfl ?_
          refine A_iload_n hG 3 dX12_fitted_31 rfl rfl ?_
          refine M_iald (v := h.1 515 (j : Int)) hG dX12_fitted_32 k515 n515 (by omega) rfl (fun ⟨ra_32, rb_32⟩ => ?_)
          refine A_iload_n hG 1 dX12_fitted_33 rfl rfl ?_
          refine A_icmp_ne hG 41 dX12_fitted_34 (by decide) (by constructor <;> omega) (by constructor <;> omega) (fun c_34 => ?_) (fun c_34 => ?_)
          ·
            refine A_iconst (n := 0) hG dX12_fitted_41 ?_
            refine A_iadd hG dX12_fitted_42 ?_
            refine A_istore_n (L' := [(2, vI (x + 0)), (0, .ref 500), (1, vI c), (3, vI (j : Int))]) hG dX12_fitted_43 rfl (by decide) rfl ?_
            refine A_iinc (L' := [(3, vI ((j : Int) + 1)), (2, vI (x + 0)), (0, .ref 500), (1, vI c)]) hG 3 dX12_fitted_44 rfl (by decide) rfl ?_
            refine A_goto hG 18 dX12_fitted_47 (by decide) ?_
            refine A_sub hG [2, 3, 1, 0] rfl ?_
            exact ih_a (x + 0) (j + 1) (by omega) (by simp only [cntE]; split <;> omega) (by omega)
          ·
            refine A_iconst (n := 1) hG dX12_fitted_37 ?_
            refine A_goto hG 42 dX12_fitted_38 (by decide) ?_
            refine A_iadd hG dX12_fitted_42 ?_
            refine A_istore_n (L' := [(2, vI (x + 1)), (0, .ref 500), (1, vI c), (3, vI (j : Int))]) hG dX12_fitted_43 rfl (by decide) rfl ?_
            refine A_iinc (L' := [(3, vI ((j : Int) + 1)), (2, vI (x + 1)), (0, .ref 500), (1, vI c)]) hG 3 dX12_fitted_44 rfl (by decide) rfl ?_
            refine A_goto hG 18 dX12_fitted_47 (by decide) ?_
            refine A_sub hG [2, 3, 1, 0] rfl ?_
            exact ih_a (x + 1) (j + 1) (by omega) (by simp only [cntE]; split <;> omega) (by omega)
    refine A_sub hG [2, 3, 1, 0] rfl ?_
    exact a_0 _ 0 0 (by omega) rfl (Nat.lt_succ_self _)
  ·
    refine A_aload_n hG 0 dX12_fitted_7 rfl rfl ?_
    refine A_getR (r := 507) hG dX12_fitted_8 fl_X12_25 (by decide) k500 (by decide) rfl ?_
    refine A_iload_n hG 1 dX12_fitted_11 rfl rfl ?_
    refine M_iald (v := h.1 507 c) hG dX12_fitted_12 k507 n507 (by omega) rfl (fun ⟨ra_12, rb_12⟩ => ?_)
    exact Ret_i hM dX12_fitted_13 (by constructor <;> omega) (⟨by rw [fitP, if_neg (by omega)], rfl⟩)

end
