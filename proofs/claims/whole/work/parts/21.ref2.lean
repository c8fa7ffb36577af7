/-! the reference: texts, sentences, hands (printed by gen) -/
section
set_option maxHeartbeats 2000000 in
set_option maxRecDepth 20000 in
theorem r_price (h : AH) {c f : Int} (hc : ir c) (hf : f = 0 ∨ f = 1) (hn : 0 ≤ h.1 500 13 ∧ h.1 500 13 ≤ 60) : AMet yX12_price cX12_price 3 (some .int) 2 45 [.ref 500, vI c, vI f] h (Qi (fun z h' => ((z = -1 ∧ (c < 0 ∨ 4 < c)) ∧ h' = h) ∨ (((0 ≤ c ∧ c ≤ 4) ∧ z = fitP (h.1 500 13) (h.1 507) (h.1 515) c f) ∧ h' = h))) := by
  obtain ⟨hc1, hc2⟩ := hc
  refine AMet.of (by decide) (Nat.le_of_ble_eq_true rfl) (fun G hM => ?_)
  have hG := hM.cx
  refine A_hm0 (G := G) (L := [(0, .ref 500), (1, vI c), (2, vI f)]) ?_
  refine A_iload_n hG 1 dX12_price_0 rfl rfl ?_
  refine C_Si (as := [vI c]) (st := []) hG dX12_price_1 ml_X12_125 mf_X12_isChange ms_X12_isChange (r_isChange (hm h [] [] []) (by constructor <;> omega)) (by decide) (by decide) rfl rfl (by decide) (fun z1 g1 ri_1 hp_1 => ?_)
  obtain ⟨ra_1, rb_1⟩ := ri_1
  obtain ⟨hz1, rfl⟩ := hp_1
  refine A_if_ne hG 11 dX12_price_4 (by decide) (by constructor <;> omega) (fun c_4 => ?_) (fun c_4 => ?_)
  ·
    refine A_iload_n hG 2 dX12_price_11 rfl rfl ?_
    refine A_if_eq hG 23 dX12_price_12 (by decide) (by constructor <;> omega) (fun c_12 => ?_) (fun c_12 => ?_)
    ·
      refine A_aload_n hG 0 dX12_price_23 rfl rfl ?_
      refine A_getR (r := 507) hG dX12_price_24 fl_X12_25 (by decide) k500 (by decide) rfl ?_
      refine A_iload_n hG 1 dX12_price_27 rfl rfl ?_
      refine M_iald (v := h.1 507 c) hG dX12_price_28 k507 n507 (by omega) rfl (fun ⟨ra_28, rb_28⟩ => ?_)
      exact Ret_i hM dX12_price_29 (by constructor <;> omega) (by first | exact Or.inl ⟨by omega, rfl⟩ | exact Or.inr ⟨⟨by omega, by rw [show f = 1 from (by omega)]⟩, rfl⟩ | exact Or.inr ⟨⟨by omega, by rw [fitP, if_neg (by omega)]⟩, rfl⟩)
    ·
      refine A_aload_n hG 0 dX12_price_15 rfl rfl ?_
      refine A_iload_n hG 1 dX12_price_16 rfl rfl ?_
      refine C_Vi (as := [vI c]) (st := []) (k := 500) (c := 11) hG dX12_price_17 ml_X12_128 mf_X12_fitted mi_X12_fitted se_X12_fitted rfl (by decide) k500 (r_fitted (hm h [] [] []) (by omega) hn) (by decide) (by decide) rfl rfl (by decide) (fun z17 g17 ri_17 hp_17 => ?_)
      obtain ⟨ra_17, rb_17⟩ := ri_17
      have hq_17 : z17 = fitP (h.1 500 13) (h.1 507) (h.1 515) c 1 ∧ g17 = hm h [] [] [] := hp_17
      obtain ⟨rfl, rfl⟩ := hq_17
      refine A_goto hG 29 dX12_price_20 (by decide) ?_
      exact Ret_i hM dX12_price_29 (by constructor <;> omega) (by first | exact Or.inl ⟨by omega, rfl⟩ | exact Or.inr ⟨⟨by omega, by rw [show f = 1 from (by omega)]⟩, rfl⟩ | exact Or.inr ⟨⟨by omega, by rw [fitP, if_neg (by omega)]⟩, rfl⟩)
  ·
    refine A_iconst (n := -1) hG dX12_price_7 ?_
    refine A_goto hG 29 dX12_price_8 (by decide) ?_
    exact Ret_i hM dX12_price_29 (by constructor <;> omega) (by first | exact Or.inl ⟨by omega, rfl⟩ | exact Or.inr ⟨⟨by omega, by rw [show f = 1 from (by omega)]⟩, rfl⟩ | exact Or.inr ⟨⟨by omega, by rw [fitP, if_neg (by omega)]⟩, rfl⟩)

set_option maxHeartbeats 2000000 in
set_option maxRecDepth 20000 in
theorem r_clear (h : AH) {s : Int} (hs : ir s) : AMet yX12_clear cX12_clear 3 (some .int) 2 45 [.ref 500, vI s] h (Qi (fun z h' => ((z = -1 ∧ (s < 0 ∨ 7 < s)) ∧ h' = h) ∨ (((0 ≤ s ∧ s ≤ 7) ∧ z = h.1 508 s) ∧ h' = hm h [(508, up (h.1 508) s 0), (510, up (h.1 510) s 0)] [] []))) := by
  obtain ⟨hs1, hs2⟩ := hs
  refine AMet.of (by decide) (Nat.le_of_ble_eq_true rfl) (fun G hM => ?_)
  have hG := hM.cx
  refine A_hm0 (G := G) (L := [(0, .ref 500), (1, vI s)]) ?_
  refine A_iload_n hG 1 dX12_clear_0 rfl rfl ?_
  refine C_Si (as := [vI s]) (st := []) hG dX12_clear_1 ml_X12_134 mf_X12_isSentence ms_X12_isSentence (r_isSentence (hm h [] [] []) (by constructor <;> omega)) (by decide) (by decide) rfl rfl (by decide) (fun z1 g1 ri_1 hp_1 => ?_)
  obtain ⟨ra_1, rb_1⟩ := ri_1
  obtain ⟨hz1, rfl⟩ := hp_1
  refine A_if_ne hG 9 dX12_clear_4 (by decide) (by constructor <;> omega) (fun c_4 => ?_) (fun c_4 => ?_)
  ·
    refine A_aload_n hG 0 dX12_clear_9 rfl rfl ?_
    refine A_getR (r := 508) hG dX12_clear_10 fl_X12_28 (by decide) k500 (by decide) rfl ?_
    refine A_iload_n hG 1 dX12_clear_13 rfl rfl ?_
    refine M_iald (v := h.1 508 s) hG dX12_clear_14 k508 n508 (by omega) rfl (fun ⟨ra_14, rb_14⟩ => ?_)
    refine A_istore_n (L' := [(2, vI (h.1 508 s)), (0, .ref 500), (1, vI s)]) hG dX12_clear_15 rfl (by decide) rfl ?_
    refine A_aload_n hG 1 dX12_clear_16 rfl rfl ?_
    refine A_getR (r := 508) hG dX12_clear_17 fl_X12_28 (by decide) k500 (by decide) rfl ?_
    refine A_iload_n hG 2 dX12_clear_20 rfl rfl ?_
    refine A_iconst (n := 0) hG dX12_clear_21 ?_
    refine M_iast (li' := [(508, up (h.1 508) s 0)]) hG dX12_clear_22 k508 n508 (by omega) (by constructor <;> omega) rfl ?_
    refine A_aload_n hG 1 dX12_clear_23 rfl rfl ?_
    refine A_getR (r := 510) hG dX12_clear_24 fl_X12_34 (by decide) k500 (by decide) rfl ?_
    refine A_iload_n hG 2 dX12_clear_27 rfl rfl ?_
    refine A_iconst (n := 0) hG dX12_clear_28 ?_
    refine M_iast (li' := [(508, up (h.1 508) s 0), (510, up (h.1 510) s 0)]) hG dX12_clear_29 k510 n510 (by omega) (by constructor <;> omega) rfl ?_
    refine A_iload_n hG 0 dX12_clear_30 rfl rfl ?_
    exact Ret_i hM dX12_clear_31 (by constructor <;> omega) (by first | exact Or.inl ⟨by omega, rfl⟩ | exact Or.inr (⟨by omega, rfl⟩))
  ·
    refine A_iconst (n := -1) hG dX12_clear_7 ?_
    exact Ret_i hM dX12_clear_8 (by constructor <;> omega) (by first | exact Or.inl ⟨by omega, rfl⟩ | exact Or.inr (⟨by omega, rfl⟩))

set_option maxHeartbeats 2000000 in
set_option maxRecDepth 20000 in
theorem r_quote (h : AH) {s p : Int} (hs : ir s) (hp : ir p) : AMet yX12_quote cX12_quote 4 (some .int) 2 45 [.ref 500, vI s, vI p] h (Qi (fun z h' => ((z = -1 ∧ (s < 0 ∨ 7 < s ∨ p < 0 ∨ 255 < p)) ∧ h' = h) ∨ (((0 ≤ s ∧ s ≤ 7 ∧ 0 ≤ p ∧ p ≤ 255) ∧ z = h.1 510 s) ∧ h' = hm h [(510, up (h.1 510) s p)] [] []))) := by
  obtain ⟨hs1, hs2⟩ := hs
  obtain ⟨hp1, hp2⟩ := hp
  refine AMet.of (by decide) (Nat.le_of_ble_eq_true rfl) (fun G hM => ?_)
  have hG := hM.cx
  refine A_hm0 (G := G) (L := [(0, .ref 500), (1, vI s), (2, vI p)]) ?_
  refine A_iload_n hG 1 dX12_quote_0 rfl rfl ?_
  refine C_Si (as := [vI s]) (st := []) hG dX12_quote_1 ml_X12_134 mf_X12_isSentence ms_X12_isSentence (r_isSentence (hm h [] [] []) (by constructor <;> omega)) (by decide) (by decide) rfl rfl (by decide) (fun z1 g1 ri_1 hp_1 => ?_)
  obtain ⟨ra_1, rb_1⟩ := ri_1
  obtain ⟨hz1, rfl⟩ := hp_1
  refine A_if_eq hG 19 dX12_quote_4 (by decide) (by constructor <;> omega) (fun c_4 => ?_) (fun c_4 => ?_)
  ·
    refine A_iconst (n := -1) hG dX12_quote_19 ?_
    exact Ret_i hM dX12_quote_20 (by constructor <;> omega) (by first | exact Or.inl ⟨by omega, rfl⟩ | exact Or.inr (⟨by omega, rfl⟩))
  ·
    refine A_iload_n hG 2 dX12_quote_7 rfl rfl ?_
    refine A_i2l hG dX12_quote_8 ?_
    refine A_lconst (v := i2l 0) hG dX12_quote_9 (by decide) ?_
    refine A_ldc2 (v := i2l 255) hG dX12_quote_10 (by rw [show i2l 255 = (255 : Int64) by decide]; exact kl_X12_88) ?_
    refine C_Si (as := [.long (i2l p), .long (i2l 0), .long (i2l 255)]) (st := []) hG dX12_quote_13 ml_X12_80 mf_X12_in ms_X12_in (r_in (hm h [] [] []) (by constructor <;> omega) (by constructor <;> omega) (by constructor <;> omega)) (by decide) (by decide) rfl rfl (by decide) (fun z13 g13 ri_13 hp_13 => ?_)
    obtain ⟨ra_13, rb_13⟩ := ri_13
    obtain ⟨hz13, rfl⟩ := hp_13
    refine A_if_ne hG 21 dX12_quote_16 (by decide) (by constructor <;> omega) (fun c_16 => ?_) (fun c_16 => ?_)
    ·
      refine A_aload_n hG 0 dX12_quote_21 rfl rfl ?_
      refine A_getR (r := 510) hG dX12_quote_22 fl_X12_34 (by decide) k500 (by decide) rfl ?_
      refine A_iload_n hG 1 dX12_quote_25 rfl rfl ?_
      refine M_iald (v := h.1 510 s) hG dX12_quote_26 k510 n510 (by omega) rfl (fun ⟨ra_26, rb_26⟩ => ?_)
      refine A_istore_n (L' := [(3, vI (h.1 510 s)), (0, .ref 500), (1, vI s), (2, vI p)]) hG dX12_quote_27 rfl (by decide) rfl ?_
      refine A_aload_n hG 1 dX12_quote_28 rfl rfl ?_
      refine A_getR (r := 510) hG dX12_quote_29 fl_X12_34 (by decide) k500 (by decide) rfl ?_
      refine A_iload_n hG 2 dX12_quote_32 rfl rfl ?_
      refine A_iload_n hG 3 dX12_quote_33 rfl rfl ?_
      refine M_iast (li' := [(510, up (h.1 510) s p)]) hG dX12_quote_34 k510 n510 (by omega) (by constructor <;> omega) rfl ?_
      refine A_iload_n hG 0 dX12_quote_35 rfl rfl ?_
      exact Ret_i hM dX12_quote_36 (by constructor <;> omega) (by first | exact Or.inl ⟨by omega, rfl⟩ | exact Or.inr (⟨by omega, rfl⟩))
    ·
      refine A_iconst (n := -1) hG dX12_quote_19 ?_
      exact Ret_i hM dX12_quote_20 (by constructor <;> omega) (by first | exact Or.inl ⟨by omega, rfl⟩ | exact Or.inr (⟨by omega, rfl⟩))

set_option maxHeartbeats 2000000 in
set_option maxRecDepth 20000 in
theorem r_err (h : AH) {c : Int} (hc : ir c) (hn : 0 ≤ h.1 500 13 ∧ h.1 500 13 ≤ 60) : AMet yX12_err cX12_err 2 (some .int) 2 45 [.ref 500, vI c] h (Qi (fun z h' => ((z = -1 ∧ (c < 0 ∨ 4 < c)) ∧ h' = h) ∨ ((z = -3 ∧ (0 ≤ c ∧ c ≤ 4) ∧ h.1 500 13 = 60) ∧ h' = h) ∨ (((0 ≤ c ∧ c ≤ 4) ∧ h.1 500 13 ≠ 60 ∧ z = h.1 500 13 + 1) ∧ h' = hm h [(515, up (h.1 515) (h.1 500 13) c), (500, up (h.1 500) 13 (h.1 500 13 + 1))] [] []))) := by
  obtain ⟨hc1, hc2⟩ := hc
  refine AMet.of (by decide) (Nat.le_of_ble_eq_true rfl) (fun G hM => ?_)
  have hG := hM.cx
  refine A_hm0 (G := G) (L := [(0, .ref 500), (1, vI c)]) ?_
  refine A_iload_n hG 1 dX12_err_0 rfl rfl ?_
  refine C_Si (as := [vI c]) (st := []) hG dX12_err_1 ml_X12_125 mf_X12_isChange ms_X12_isChange (r_isChange (hm h [] [] []) (by constructor <;> omega)) (by decide) (by decide) rfl rfl (by decide) (fun z1 g1 ri_1 hp_1 => ?_)
  obtain ⟨ra_1, rb_1⟩ := ri_1
  obtain ⟨hz1, rfl⟩ := hp_1
  refine A_if_ne hG 9 dX12_err_4 (by decide) (by constructor <;> omega) (fun c_4 => ?_) (fun c_4 => ?_)
  ·
    refine A_aload_n hG 0 dX12_err_9 rfl rfl ?_
    refine M_getI (z := 13) (v := h.1 500 13) hG dX12_err_10 fl_X12_120 (by decide) k500 rfl rfl rfl (fun ⟨ra_10, rb_10⟩ => ?_)
    refine A_bipush (n := 60) hG dX12_err_13 (by decide) ?_
    refine A_icmp_ne hG 21 dX12_err_15 (by decide) (by constructor <;> omega) (by constructor <;> omega) (fun c_15 => ?_) (fun c_15 => ?_)
    ·
      refine A_aload_n hG 0 dX12_err_21 rfl rfl ?_
      refine A_getR (r := 515) hG dX12_err_22 fl_X12_43 (by decide) k500 (by decide) rfl ?_
      refine A_aload_n hG 0 dX12_err_25 rfl rfl ?_
      refine M_getI (z := 13) (v := h.1 500 13) hG dX12_err_26 fl_X12_120 (by decide) k500 rfl rfl rfl (fun ⟨ra_26, rb_26⟩ => ?_)
      refine A_iload_n hG 1 dX12_err_29 rfl rfl ?_
      refine M_iast (li' := [(515, up (h.1 515) (h.1 500 13) c)]) hG dX12_err_30 k515 n515 (by omega) (by constructor <;> omega) rfl ?_
      refine A_aload_n hG 0 dX12_err_31 rfl rfl ?_
      refine A_dup hG dX12_err_32 rfl ?_
      refine M_getI (z := 13) (v := h.1 500 13) hG dX12_err_33 fl_X12_120 (by decide) k500 rfl rfl rfl (fun ⟨ra_33, rb_33⟩ => ?_)
      refine A_iconst (n := 1) hG dX12_err_36 ?_
      refine A_iadd hG dX12_err_37 ?_
      refine M_putI (z := 13) (li' := [(515, up (h.1 515) (h.1 500 13) c), (500, up (h.1 500) 13 ((h.1 500 13) + 1))]) hG dX12_err_38 fl_X12_120 (by decide) k500 nf_11_13 rfl rfl (by constructor <;> omega) (Or.inl rfl) rfl ?_
      refine A_aload_n hG 0 dX12_err_41 rfl rfl ?_
      refine M_getI (z := 13) (v := (h.1 500 13) + 1) hG dX12_err_42 fl_X12_120 (by decide) k500 rfl rfl (up_eq (h.1 500) 13 ((h.1 500 13) + 1)) (fun ⟨ra_42, rb_42⟩ => ?_)
      exact Ret_i hM dX12_err_45 (by constructor <;> omega) (by first | exact Or.inl ⟨by omega, rfl⟩ | exact Or.inr (Or.inl ⟨by omega, rfl⟩) | exact Or.inr (Or.inr (⟨by omega, rfl⟩)))
    ·
      refine A_bipush (n := -3) hG dX12_err_18 (by decide) ?_
      exact Ret_i hM dX12_err_20 (by constructor <;> omega) (by first | exact Or.inl ⟨by omega, rfl⟩ | exact Or.inr (Or.inl ⟨by omega, rfl⟩) | exact Or.inr (Or.inr (⟨by omega, rfl⟩)))
  ·
    refine A_iconst (n := -1) hG dX12_err_7 ?_
    exact Ret_i hM dX12_err_8 (by constructor <;> omega) (by first | exact Or.inl ⟨by omega, rfl⟩ | exact Or.inr (Or.inl ⟨by omega, rfl⟩) | exact Or.inr (Or.inr (⟨by omega, rfl⟩)))

set_option maxHeartbeats 2000000 in
set_option maxRecDepth 20000 in
theorem r_word (h : AH) {s w : Int} (hs : ir s) (hw : ir w) (hnw : 0 ≤ h.1 503 0 ∧ h.1 503 0 ≤ 16) (hl : ∀ s : Int, 0 ≤ s → s < 10 → 0 ≤ h.1 508 s ∧ h.1 508 s ≤ 8) : AMet yX12_word cX12_word 3 (some .int) 2 45 [.ref 500, vI s, vI w] h (Qi (fun z h' => ((z = -1 ∧ (s < 0 ∨ 7 < s ∨ w < 0 ∨ h.1 503 0 ≤ w)) ∧ h' = h) ∨ ((z = -3 ∧ (0 ≤ s ∧ s ≤ 7 ∧ 0 ≤ w ∧ w < h.1 503 0) ∧ h.1 508 s = 8) ∧ h' = h) ∨ (((0 ≤ s ∧ s ≤ 7 ∧ 0 ≤ w ∧ w < h.1 503 0) ∧ h.1 508 s ≠ 8 ∧ z = h.1 508 s + 1) ∧ h' = hm h [(509, up (h.1 509) (10 * s + h.1 508 s) w), (508, up (h.1 508) s (h.1 508 s + 1))] [] []))) := by
  obtain ⟨hs1, hs2⟩ := hs
  obtain ⟨hw1, hw2⟩ := hw
  refine AMet.of (by decide) (Nat.le_of_ble_eq_true rfl) (fun G hM => ?_)
  have hG := hM.cx
  refine A_hm0 (G := G) (L := [(0, .ref 500), (1, vI s), (2, vI w)]) ?_
  refine A_iload_n hG 1 dX12_word_0 rfl rfl ?_
  refine C_Si (as := [vI s]) (st := []) hG dX12_word_1 ml_X12_134 mf_X12_isSentence ms_X12_isSentence (r_isSentence (hm h [] [] []) (by constructor <;> omega)) (by decide) (by decide) rfl rfl (by decide) (fun z1 g1 ri_1 hp_1 => ?_)
  obtain ⟨ra_1, rb_1⟩ := ri_1
  obtain ⟨hz1, rfl⟩ := hp_1
  refine A_if_eq hG 25 dX12_word_4 (by decide) (by constructor <;> omega) (fun c_4 => ?_) (fun c_4 => ?_)
  ·
    refine A_iconst (n := -1) hG dX12_word_25 ?_
    exact Ret_i hM dX12_word_26 (by constructor <;> omega) (by first | exact Or.inl ⟨by omega, rfl⟩ | exact Or.inr (Or.inl ⟨by omega, rfl⟩) | exact Or.inr (Or.inr (⟨by omega, rfl⟩)))
  ·
    refine A_iload_n hG 2 dX12_word_7 rfl rfl ?_
    refine A_i2l hG dX12_word_8 ?_
    refine A_lconst (v := i2l 0) hG dX12_word_9 (by decide) ?_
    refine A_aload_n hG 0 dX12_word_10 rfl rfl ?_
    refine A_getR (r := 503) hG dX12_word_11 fl_X12_13 (by decide) k500 (by decide) rfl ?_
    refine A_iconst (n := 0) hG dX12_word_14 ?_
    refine M_iald (v := h.1 503 0) hG dX12_word_15 k503 n503 (by omega) rfl (fun ⟨ra_15, rb_15⟩ => ?_)
    refine A_iconst (n := 1) hG dX12_word_16 ?_
    refine A_isub hG dX12_word_17 ?_
    refine A_i2l hG dX12_word_18 ?_
    refine C_Si (as := [.long (i2l w), .long (i2l 0), .long (i2l ((h.1 503 0) - 1))]) (st := []) hG dX12_word_19 ml_X12_80 mf_X12_in ms_X12_in (r_in (hm h [] [] []) (by constructor <;> omega) (by constructor <;> omega) (by constructor <;> omega)) (by decide) (by decide) rfl rfl (by decide) (fun z19 g19 ri_19 hp_19 => ?_)
    obtain ⟨ra_19, rb_19⟩ := ri_19
    obtain ⟨hz19, rfl⟩ := hp_19
    refine A_if_ne hG 27 dX12_word_22 (by decide) (by constructor <;> omega) (fun c_22 => ?_) (fun c_22 => ?_)
    ·
      refine A_aload_n hG 0 dX12_word_27 rfl rfl ?_
      refine A_getR (r := 508) hG dX12_word_28 fl_X12_28 (by decide) k500 (by decide) rfl ?_
      refine A_iload_n hG 1 dX12_word_31 rfl rfl ?_
      refine M_iald (v := h.1 508 s) hG dX12_word_32 k508 n508 (by omega) rfl (fun ⟨ra_32, rb_32⟩ => ?_)
      have hls := hl s (by omega) (by omega)
      refine A_bipush (n := 8) hG dX12_word_33 (by decide) ?_
      refine A_icmp_ne hG 41 dX12_word_35 (by decide) (by constructor <;> omega) (by constructor <;> omega) (fun c_35 => ?_) (fun c_35 => ?_)
      ·
        refine A_aload_n hG 0 dX12_word_41 rfl rfl ?_
        refine A_getR (r := 509) hG dX12_word_42 fl_X12_31 (by decide) k500 (by decide) rfl ?_
        refine A_bipush (n := 10) hG dX12_word_45 (by decide) ?_
        refine A_iload_n hG 1 dX12_word_47 rfl rfl ?_
        refine A_imul hG dX12_word_48 ?_
        refine A_aload_n hG 0 dX12_word_49 rfl rfl ?_
        refine A_getR (r := 508) hG dX12_word_50 fl_X12_28 (by decide) k500 (by decide) rfl ?_
        refine A_iload_n hG 1 dX12_word_53 rfl rfl ?_
        refine M_iald (v := h.1 508 s) hG dX12_word_54 k508 n508 (by omega) rfl (fun ⟨ra_54, rb_54⟩ => ?_)
        refine A_iadd hG dX12_word_55 ?_
        refine A_iload_n hG 2 dX12_word_56 rfl rfl ?_
        refine M_iast (li' := [(509, up (h.1 509) ((10 * s) + (h.1 508 s)) w)]) hG dX12_word_57 k509 n509 (by omega) (by constructor <;> omega) rfl ?_
        refine A_aload_n hG 0 dX12_word_58 rfl rfl ?_
        refine A_getR (r := 508) hG dX12_word_59 fl_X12_28 (by decide) k500 (by decide) rfl ?_
        refine A_iload_n hG 1 dX12_word_62 rfl rfl ?_
        refine A_dup2 hG dX12_word_63 rfl rfl ?_
        refine M_iald (v := h.1 508 s) hG dX12_word_64 k508 n508 (by omega) rfl (fun ⟨ra_64, rb_64⟩ => ?_)
        refine A_iconst (n := 1) hG dX12_word_65 ?_
        refine A_iadd hG dX12_word_66 ?_
        refine M_iast (li' := [(509, up (h.1 509) ((10 * s) + (h.1 508 s)) w), (508, up (h.1 508) s ((h.1 508 s) + 1))]) hG dX12_word_67 k508 n508 (by omega) (by constructor <;> omega) rfl ?_
        refine A_aload_n hG 0 dX12_word_68 rfl rfl ?_
        refine A_getR (r := 508) hG dX12_word_69 fl_X12_28 (by decide) k500 (by decide) rfl ?_
        refine A_iload_n hG 1 dX12_word_72 rfl rfl ?_
        refine M_iald (v := (h.1 508 s) + 1) hG dX12_word_73 k508 n508 (by omega) (up_eq (h.1 508) s ((h.1 508 s) + 1)) (fun ⟨ra_73, rb_73⟩ => ?_)
        exact Ret_i hM dX12_word_74 (by constructor <;> omega) (by first | exact Or.inl ⟨by omega, rfl⟩ | exact Or.inr (Or.inl ⟨by omega, rfl⟩) | exact Or.inr (Or.inr (⟨by omega, rfl⟩)))
      ·
        refine A_bipush (n := -3) hG dX12_word_38 (by decide) ?_
        exact Ret_i hM dX12_word_40 (by constructor <;> omega) (by first | exact Or.inl ⟨by omega, rfl⟩ | exact Or.inr (Or.inl ⟨by omega, rfl⟩) | exact Or.inr (Or.inr (⟨by omega, rfl⟩)))
    ·
      refine A_iconst (n := -1) hG dX12_word_25 ?_
      exact Ret_i hM dX12_word_26 (by constructor <;> omega) (by first | exact Or.inl ⟨by omega, rfl⟩ | exact Or.inr (Or.inl ⟨by omega, rfl⟩) | exact Or.inr (Or.inr (⟨by omega, rfl⟩)))

set_option maxHeartbeats 2000000 in
set_option maxRecDepth 20000 in
theorem r_gone (h : AH) {c m : Int} (hc : ir c) (hm0 : ir m) (hn : 0 ≤ h.1 500 13 ∧ h.1 500 13 ≤ 60) : AMet yX12_gone cX12_gone 6 (some .int) 2 45 [.ref 500, vI c, vI m] h (Qi (fun z h' => ((z = -1 ∧ (c < 0 ∨ 4 < c ∨ m < 1 ∨ 60 < m)) ∧ h' = h) ∨ (((0 ≤ c ∧ c ≤ 4 ∧ 1 ≤ m ∧ m ≤ 60) ∧ z = (if cmE (h.1 515) c 0 (h.1 500 13).toNat = 1 ∧ cmE (h.1 515) c (h.1 500 13 - m) (h.1 500 13).toNat = 0 then 1 else 0)) ∧ h' = h))) := by
  obtain ⟨hc1, hc2⟩ := hc
  obtain ⟨hm1, hm2⟩ := hm0
  refine AMet.of (by decide) (Nat.le_of_ble_eq_true rfl) (fun G hM => ?_)
  have hG := hM.cx
  refine A_hm0 (G := G) (L := [(0, .ref 500), (1, vI c), (2, vI m)]) ?_
  refine A_iload_n hG 1 dX12_gone_0 rfl rfl ?_
  refine C_Si (as := [vI c]) (st := []) hG dX12_gone_1 ml_X12_125 mf_X12_isChange ms_X12_isChange (r_isChange (hm h [] [] []) (by constructor <;> omega)) (by decide) (by decide) rfl rfl (by decide) (fun z1 g1 ri_1 hp_1 => ?_)
  obtain ⟨ra_1, rb_1⟩ := ri_1
  obtain ⟨hz1, rfl⟩ := hp_1
  refine A_if_eq hG 19 dX12_gone_4 (by decide) (by constructor <;> omega) (fun c_4 => ?_) (fun c_4 => ?_)
  ·
    refine A_iconst (n := -1) hG dX12_gone_19 ?_
    exact Ret_i hM dX12_gone_20 (by constructor <;> omega) (by first | exact Or.inl ⟨by omega, rfl⟩ | exact Or.inr (⟨by omega, rfl⟩))
  ·
    refine A_iload_n hG 2 dX12_gone_7 rfl rfl ?_
    refine A_i2l hG dX12_gone_8 ?_
    refine A_lconst (v := i2l 1) hG dX12_gone_9 (by decide) ?_
    refine A_ldc2 (v := i2l 60) hG dX12_gone_10 (by rw [show i2l 60 = (60 : Int64) by decide]; exact kl_X12_233) ?_
    refine C_Si (as := [.long (i2l m), .long (i2l 1), .long (i2l 60)]) (st := []) hG dX12_gone_13 ml_X12_80 mf_X12_in ms_X12_in (r_in (hm h [] [] []) (by constructor <;> omega) (by constructor <;> omega) (by constructor <;> omega)) (by decide) (by decide) rfl rfl (by decide) (fun z13 g13 ri_13 hp_13 => ?_)
    obtain ⟨ra_13, rb_13⟩ := ri_13
    obtain ⟨hz13, rfl⟩ := hp_13
    refine A_if_ne hG 21 dX12_gone_16 (by decide) (by constructor <;> omega) (fun c_16 => ?_) (fun c_16 => ?_)
    ·
      refine A_iconst (n := 0) hG dX12_gone_21 ?_
      refine A_istore_n (L' := [(3, vI 0), (0, .ref 500), (1, vI c), (2, vI m)]) hG dX12_gone_22 rfl (by decide) rfl ?_
      refine A_iconst (n := 0) hG dX12_gone_23 ?_
      refine A_istore (L' := [(4, vI 0), (3, vI 0), (0, .ref 500), (1, vI c), (2, vI m)]) hG dX12_gone_24 (by decide) rfl ?_
      refine A_iconst (n := 0) hG dX12_gone_26 ?_
      refine A_istore (L' := [(5, vI 0), (4, vI 0), (3, vI 0), (0, .ref 500), (1, vI c), (2, vI m)]) hG dX12_gone_27 (by decide) rfl ?_
      have a_2 : ∀ fu : Nat, ∀ (x : Int) (y : Int) (j : Nat), (j ≤ (h.1 500 13).toNat) → (x = cmE (h.1 515) c 0 j) → (y = cmE (h.1 515) c (h.1 500 13 - m) j) → (60 - j) < fu → G 29 [(0, .ref 500), (1, vI c), (2, vI m), (3, vI x), (4, vI y), (5, vI (j : Int))] [] (hm h [] [] []) := by
        intro fu
        induction fu with
        | zero => intro x y j hj hx hy hfu; exact absurd hfu (Nat.not_lt_zero _)
        | succ fu ih_a =>
          intro x y j hj hx hy hfu
          have hb := cmE_01 (h.1 515) c 0 j
          have hb2 := cmE_01 (h.1 515) c (h.1 500 13 - m) j
          refine A_iload hG 5 dX12_gone_29 rfl ?_
          refine A_aload_n hG 0 dX12_gone_31 rfl rfl ?_
          refine M_getI (z := 13) (v := h.1 500 13) hG dX12_gone_32 fl_X12_120 (by decide) k500 rfl rfl rfl (fun ⟨ra_32, rb_32⟩ => ?_)
          refine A_icmp_ge hG 99 dX12_gone_35 (by decide) (by constructor <;> omega) (by constructor <;> omega) (fun c_35 => ?_) (fun c_35 => ?_)
          ·
            refine A_iload_n hG 3 dX12_gone_99 rfl rfl ?_
            refine A_if_eq hG 112 dX12_gone_100 (by decide) (by constructor <;> omega) (fun c_100 => ?_) (fun c_100 => ?_)
            ·
              refine A_iconst (n := 0) hG dX12_gone_112 ?_
              exact Ret_i hM dX12_gone_113 (by constructor <;> omega) (by (have e : (h.1 500 13).toNat = j := (by omega)); rw [e]; exact Or.inr ⟨⟨by omega, by split <;> omega⟩, rfl⟩)
            ·
              refine A_iload hG 4 dX12_gone_103 rfl ?_
              refine A_if_ne hG 112 dX12_gone_105 (by decide) (by constructor <;> omega) (fun c_105 => ?_) (fun c_105 => ?_)
              ·
                refine A_iconst (n := 0) hG dX12_gone_112 ?_
                exact Ret_i hM dX12_gone_113 (by constructor <;> omega) (by (have e : (h.1 500 13).toNat = j := (by omega)); rw [e]; exact Or.inr ⟨⟨by omega, by split <;> omega⟩, rfl⟩)
              ·
                refine A_iconst (n := 1) hG dX12_gone_108 ?_
                refine A_goto hG 113 dX12_gone_109 (by decide) ?_
                exact Ret_i hM dX12_gone_113 (by constructor <;> omega) (by (have e : (h.1 500 13).toNat = j := (by omega)); rw [e]; exact Or.inr ⟨⟨by omega, by split <;> omega⟩, rfl⟩)
          ·
            refine A_iload_n hG 3 dX12_gone_38 rfl rfl ?_
            refine A_if_ne hG 53 dX12_gone_39 (by decide) (by constructor <;> omega) (fun c_39 => ?_) (fun c_39 => ?_)
            ·
              refine A_iconst (n := 1) hG dX12_gone_53 ?_
              refine A_goto hG 58 dX12_gone_54 (by decide) ?_
              refine A_istore_n (L' := [(3, vI 1), (0, .ref 500), (1, vI c), (2, vI m), (4, vI y), (5, vI (j : Int))]) hG dX12_gone_58 rfl (by decide) rfl ?_
              refine A_iload hG 4 dX12_gone_59 rfl ?_
              refine A_if_ne hG 86 dX12_gone_61 (by decide) (by constructor <;> omega) (fun c_61 => ?_) (fun c_61 => ?_)
              ·
                refine A_iconst (n := 1) hG dX12_gone_86 ?_
                refine A_goto hG 91 dX12_gone_87 (by decide) ?_
                refine A_istore (L' := [(4, vI 1), (3, vI 1), (0, .ref 500), (1, vI c), (2, vI m), (5, vI (j : Int))]) hG dX12_gone_91 (by decide) rfl ?_
                refine A_iinc (L' := [(5, vI ((j : Int) + 1)), (4, vI 1), (3, vI 1), (0, .ref 500), (1, vI c), (2, vI m)]) hG 5 dX12_gone_93 rfl (by decide) rfl ?_
                refine A_goto hG 29 dX12_gone_96 (by decide) ?_
                refine A_sub hG [3, 4, 5, 2, 1, 0] rfl ?_
                exact ih_a 1 1 (j + 1) (by omega) (by simp only [cmE]; split <;> omega) (by simp only [cmE]; split <;> omega) (by omega)
              ·
                refine A_aload_n hG 1 dX12_gone_64 rfl rfl ?_
                refine A_getR (r := 515) hG dX12_gone_65 fl_X12_43 (by decide) k500 (by decide) rfl ?_
                refine A_iload hG 5 dX12_gone_68 rfl ?_
                refine M_iald (v := h.1 515 (j : Int)) hG dX12_gone_70 k515 n515 (by omega) rfl (fun ⟨ra_70, rb_70⟩ => ?_)
                refine A_iload_n hG 2 dX12_gone_71 rfl rfl ?_
                refine A_icmp_ne hG 90 dX12_gone_72 (by decide) (by constructor <;> omega) (by constructor <;> omega) (fun c_72 => ?_) (fun c_72 => ?_)
                ·
                  refine A_iconst (n := 0) hG dX12_gone_90 ?_
                  refine A_istore (L' := [(4, vI 0), (3, vI 1), (0, .ref 500), (1, vI c), (2, vI m), (5, vI (j : Int))]) hG dX12_gone_91 (by decide) rfl ?_
                  refine A_iinc (L' := [(5, vI ((j : Int) + 1)), (4, vI 0), (3, vI 1), (0, .ref 500), (1, vI c), (2, vI m)]) hG 5 dX12_gone_93 rfl (by decide) rfl ?_
                  refine A_goto hG 29 dX12_gone_96 (by decide) ?_
                  refine A_sub hG [3, 4, 5, 2, 1, 0] rfl ?_
                  exact ih_a 1 0 (j + 1) (by omega) (by simp only [cmE]; split <;> omega) (by simp only [cmE]; split <;> omega) (by omega)
                ·
                  refine A_iload hG 5 dX12_gone_75 rfl ?_
                  refine A_aload_n hG 1 dX12_gone_77 rfl rfl ?_
                  refine M_getI (z := 13) (v := h.1 500 13) hG dX12_gone_78 fl_X12_120 (by decide) k500 rfl rfl rfl (fun ⟨ra_78, rb_78⟩ => ?_)
                  refine A_iload_n hG 3 dX12_gone_81 rfl rfl ?_
                  refine A_isub hG dX12_gone_82 ?_
                  refine A_icmp_lt hG 90 dX12_gone_83 (by decide) (by constructor <;> omega) (by constructor <;> omega) (fun c_83 => ?_) (fun c_83 => ?_)
                  ·
                    refine A_iconst (n := 0) hG dX12_gone_90 ?_
                    refine A_istore (L' := [(4, vI 0), (3, vI 1), (0, .ref 500), (1, vI c), (2, vI m), (5, vI (j : Int))]) hG dX12_gone_91 (by decide) rfl ?_
                    refine A_iinc (L' := [(5, vI ((j : Int) + 1)), (4, vI 0), (3, vI 1), (0, .ref 500), (1, vI c), (2, vI m)]) hG 5 dX12_gone_93 rfl (by decide) rfl ?_
                    refine A_goto hG 29 dX12_gone_96 (by decide) ?_
                    refine A_sub hG [3, 4, 5, 2, 1, 0] rfl ?_
                    exact ih_a 1 0 (j + 1) (by omega) (by simp only [cmE]; split <;> omega) (by simp only [cmE]; split <;> omega) (by omega)
                  ·
                    refine A_iconst (n := 1) hG dX12_gone_86 ?_
                    refine A_goto hG 91 dX12_gone_87 (by decide) ?_
                    refine A_istore (L' := [(4, vI 1), (3, vI 1), (0, .ref 500), (1, vI c), (2, vI m), (5, vI (j : Int))]) hG dX12_gone_91 (by decide) rfl ?_
                    refine A_iinc (L' := [(5, vI ((j : Int) + 1)), (4, vI 1), (3, vI 1), (0, .ref 500), (1, vI c), (2, vI m)]) hG 5 dX12_gone_93 rfl (by decide) rfl ?_
                    refine A_goto hG 29 dX12_gone_96 (by decide) ?_
                    refine A_sub hG [3, 4, 5, 2, 1, 0] rfl ?_
                    exact ih_a 1 1 (j + 1) (by omega) (by simp only [cmE]; split <;> omega) (by simp only [cmE]; split <;> omega) (by omega)
            ·
              refine A_aload_n hG 0 dX12_gone_42 rfl rfl ?_
              refine A_getR (r := 515) hG dX12_gone_43 fl_X12_43 (by decide) k500 (by decide) rfl ?_
              refine A_iload hG 5 dX12_gone_46 rfl ?_
              refine M_iald (v := h.1 515 (j : Int)) hG dX12_gone_48 k515 n515 (by omega) rfl (fun ⟨ra_48, rb_48⟩ => ?_)
              refine A_iload_n hG 1 dX12_gone_49 rfl rfl ?_
              refine A_icmp_ne hG 57 dX12_gone_50 (by decide) (by constructor <;> omega) (by constructor <;> omega) (fun c_50 => ?_) (fun c_50 => ?_)
              ·
                refine A_iconst (n := 0) hG dX12_gone_57 ?_
                refine A_istore_n (L' := [(3, vI 0), (0, .ref 500), (1, vI c), (2, vI m), (4, vI y), (5, vI (j : Int))]) hG dX12_gone_58 rfl (by decide) rfl ?_
                refine A_iload hG 4 dX12_gone_59 rfl ?_
                refine A_if_ne hG 86 dX12_gone_61 (by decide) (by constructor <;> omega) (fun c_61 => ?_) (fun c_61 => ?_)
                ·
                  refine A_iconst (n := 1) hG dX12_gone_86 ?_
                  refine A_goto hG 91 dX12_gone_87 (by decide) ?_
                  refine A_istore (L' := [(4, vI 1), (3, vI 0), (0, .ref 500), (1, vI c), (2, vI m), (5, vI (j : Int))]) hG dX12_gone_91 (by decide) rfl ?_
                  refine A_iinc (L' := [(5, vI ((j : Int) + 1)), (4, vI 1), (3, vI 0), (0, .ref 500), (1, vI c), (2, vI m)]) hG 5 dX12_gone_93 rfl (by decide) rfl ?_
                  refine A_goto hG 29 dX12_gone_96 (by decide) ?_
                  refine A_sub hG [3, 4, 5, 2, 1, 0] rfl ?_
                  exact ih_a 0 1 (j + 1) (by omega) (by simp only [cmE]; split <;> omega) (by simp only [cmE]; split <;> omega) (by omega)
                ·
                  refine A_aload_n hG 1 dX12_gone_64 rfl rfl ?_
                  refine A_getR (r := 515) hG dX12_gone_65 fl_X12_43 (by decide) k500 (by decide) rfl ?_
                  refine A_iload hG 5 dX12_gone_68 rfl ?_
                  refine M_iald (v := h.1 515 (j : Int)) hG dX12_gone_70 k515 n515 (by omega) rfl (fun ⟨ra_70, rb_70⟩ => ?_)
                  refine A_iload_n hG 2 dX12_gone_71 rfl rfl ?_
                  refine A_icmp_ne hG 90 dX12_gone_72 (by decide) (by constructor <;> omega) (by constructor <;> omega) (fun c_72 => ?_) (fun c_72 => ?_)
                  ·
                    refine A_iconst (n := 0) hG dX12_gone_90 ?_
                    refine A_istore (L' := [(4, vI 0), (3, vI 0), (0, .ref 500), (1, vI c), (2, vI m), (5, vI (j : Int))]) hG dX12_gone_91 (by decide) rfl ?_
                    refine A_iinc (L' := [(5, vI ((j : Int) + 1)), (4, vI 0), (3, vI 0), (0, .ref 500), (1, vI c), (2, vI m)]) hG 5 dX12_gone_93 rfl (by decide) rfl ?_
                    refine A_goto hG 29 dX12_gone_96 (by decide) ?_
                    refine A_sub hG [3, 4, 5, 2, 1, 0] rfl ?_
                    exact ih_a 0 0 (j + 1) (by omega) (by simp only [cmE]; split <;> omega) (by simp only [cmE]; split <;> omega) (by omega)
                  ·
                    refine A_iload hG 5 dX12_gone_75 rfl ?_
                    refine A_aload_n hG 1 dX12_gone_77 rfl rfl ?_
                    refine M_getI (z := 13) (v := h.1 500 13) hG dX12_gone_78 fl_X12_120 (by decide) k500 rfl rfl rfl (fun ⟨ra_78, rb_78⟩ => ?_)
                    refine A_iload_n hG 3 dX12_gone_81 rfl rfl ?_
                    refine A_isub hG dX12_gone_82 ?_
                    refine A_icmp_lt hG 90 dX12_gone_83 (by decide) (by constructor <;> omega) (by constructor <;> omega) (fun c_83 => ?_) (fun c_83 => ?_)
                    ·
                      refine A_iconst (n := 0) hG dX12_gone_90 ?_
                      refine A_istore (L' := [(4, vI 0), (3, vI 0), (0, .ref 500), (1, vI c), (2, vI m), (5, vI (j : Int))]) hG dX12_gone_91 (by decide) rfl ?_
                      refine A_iinc (L' := [(5, vI ((j : Int) + 1)), (4, vI 0), (3, vI 0), (0, .ref 500), (1, vI c), (2, vI m)]) hG 5 dX12_gone_93 rfl (by decide) rfl ?_
                      refine A_goto hG 29 dX12_gone_96 (by decide) ?_
                      refine A_sub hG [3, 4, 5, 2, 1, 0] rfl ?_
                      exact ih_a 0 0 (j + 1) (by omega) (by simp only [cmE]; split <;> omega) (by simp only [cmE]; split <;> omega) (by omega)
                    ·
                      refine A_iconst (n := 1) hG dX12_gone_86 ?_
                      refine A_goto hG 91 dX12_gone_87 (by decide) ?_
                      refine A_istore (L' := [(4, vI 1), (3, vI 0), (0, .ref 500), (1, vI c), (2, vI m), (5, vI (j : Int))]) hG dX12_gone_91 (by decide) rfl ?_
                      refine A_iinc (L' := [(5, vI ((j : Int) + 1)), (4, vI 1), (3, vI 0), (0, .ref 500), (1, vI c), (2, vI m)]) hG 5 dX12_gone_93 rfl (by decide) rfl ?_
                      refine A_goto hG 29 dX12_gone_96 (by decide) ?_
                      refine A_sub hG [3, 4, 5, 2, 1, 0] rfl ?_
                      exact ih_a 0 1 (j + 1) (by omega) (by simp only [cmE]; split <;> omega) (by simp only [cmE]; split <;> omega) (by omega)
              ·
                refine A_iconst (n := 1) hG dX12_gone_53 ?_
                refine A_goto hG 58 dX12_gone_54 (by decide) ?_
                refine A_istore_n (L' := [(3, vI 1), (0, .ref 500), (1, vI c), (2, vI m), (4, vI y), (5, vI (j : Int))]) hG dX12_gone_58 rfl (by decide) rfl ?_
                refine A_iload hG 4 dX12_gone_59 rfl ?_
                refine A_if_ne hG 86 dX12_gone_61 (by decide) (by constructor <;> omega) (fun c_61 => ?_) (fun c_61 => ?_)
                ·
                  refine A_iconst (n := 1) hG dX12_gone_86 ?_
                  refine A_goto hG 91 dX12_gone_87 (by decide) ?_
                  refine A_istore (L' := [(4, vI 1), (3, vI 1), (0, .ref 500), (1, vI c), (2, vI m), (5, vI (j : Int))]) hG dX12_gone_91 (by decide) rfl ?_
                  refine A_iinc (L' := [(5, vI ((j : Int) + 1)), (4, vI 1), (3, vI 1), (0, .ref 500), (1, vI c), (2, vI m)]) hG 5 dX12_gone_93 rfl (by decide) rfl ?_
                  refine A_goto hG 29 dX12_gone_96 (by decide) ?_
                  refine A_sub hG [3, 4, 5, 2, 1, 0] rfl ?_
                  exact ih_a 1 1 (j + 1) (by omega) (by simp only [cmE]; split <;> omega) (by simp only [cmE]; split <;> omega) (by omega)
                ·
                  refine A_aload_n hG 1 dX12_gone_64 rfl rfl ?_
                  refine A_getR (r := 515) hG dX12_gone_65 fl_X12_43 (by decide) k500 (by decide) rfl ?_
                  refine A_iload hG 5 dX12_gone_68 rfl ?_
                  refine M_iald (v := h.1 515 (j : Int)) hG dX12_gone_70 k515 n515 (by omega) rfl (fun ⟨ra_70, rb_70⟩ => ?_)
                  refine A_iload_n hG 2 dX12_gone_71 rfl rfl ?_
                  refine A_icmp_ne hG 90 dX12_gone_72 (by decide) (by constructor <;> omega) (by constructor <;> omega) (fun c_72 => ?_) (fun c_72 => ?_)
                  ·
                    refine A_iconst (n := 0) hG dX12_gone_90 ?_
                    refine A_istore (L' := [(4, vI 0), (3, vI 1), (0, .ref 500), (1, vI c), (2, vI m), (5, vI (j : Int))]) hG dX12_gone_91 (by decide) rfl ?_
                    refine A_iinc (L' := [(5, vI ((j : Int) + 1)), (4, vI 0), (3, vI 1), (0, .ref 500), (1, vI c), (2, vI m)]) hG 5 dX12_gone_93 rfl (by decide) rfl ?_
                    refine A_goto hG 29 dX12_gone_96 (by decide) ?_
                    refine A_sub hG [3, 4, 5, 2, 1, 0] rfl ?_
                    exact ih_a 1 0 (j + 1) (by omega) (by simp only [cmE]; split <;> omega) (by simp only [cmE]; split <;> omega) (by omega)
                  ·
                    refine A_iload hG 5 dX12_gone_75 rfl ?_
                    refine A_aload_n hG 1 dX12_gone_77 rfl rfl ?_
                    refine M_getI (z := 13) (v := h.1 500 13) hG dX12_gone_78 fl_X12_120 (by decide) k500 rfl rfl rfl (fun ⟨ra_78, rb_78⟩ => ?_)
                    refine A_iload_n hG 3 dX12_gone_81 rfl rfl ?_
                    refine A_isub hG dX12_gone_82 ?_
                    refine A_icmp_lt hG 90 dX12_gone_83 (by decide) (by constructor <;> omega) (by constructor <;> omega) (fun c_83 => ?_) (fun c_83 => ?_)
                    ·
                      refine A_iconst (n := 0) hG dX12_gone_90 ?_
                      refine A_istore (L' := [(4, vI 0), (3, vI 1), (0, .ref 500), (1, vI c), (2, vI m), (5, vI (j : Int))]) hG dX12_gone_91 (by decide) rfl ?_
                      refine A_iinc (L' := [(5, vI ((j : Int) + 1)), (4, vI 0), (3, vI 1), (0, .ref 500), (1, vI c), (2, vI m)]) hG 5 dX12_gone_93 rfl (by decide) rfl ?_
                      refine A_goto hG 29 dX12_gone_96 (by decide) ?_
                      refine A_sub hG [3, 4, 5, 2, 1, 0] rfl ?_
                      exact ih_a 1 0 (j + 1) (by omega) (by simp only [cmE]; split <;> omega) (by simp only [cmE]; split <;> omega) (by omega)
                    ·
                      refine A_iconst (n := 1) hG dX12_gone_86 ?_
                      refine A_goto hG 91 dX12_gone_87 (by decide) ?_
                      refine A_istore (L' := [(4, vI 1), (3, vI 1), (0, .ref 500), (1, vI c), (2, vI m), (5, vI (j : Int))]) hG dX12_gone_91 (by decide) rfl ?_
                      refine A_iinc (L' := [(5, vI ((j : Int) + 1)), (4, vI 1), (3, vI 1), (0, .ref 500), (1, vI c), (2, vI m)]) hG 5 dX12_gone_93 rfl (by decide) rfl ?_
                      refine A_goto hG 29 dX12_gone_96 (by decide) ?_
                      refine A_sub hG [3, 4, 5, 2, 1, 0] rfl ?_
                      exact ih_a 1 1 (j + 1) (by omega) (by simp only [cmE]; split <;> omega) (by simp only [cmE]; split <;> omega) (by omega)
      refine A_sub hG [3, 4, 5, 2, 1, 0] rfl ?_
      exact a_2 _ 0 0 0 (by omega) rfl rfl (Nat.lt_succ_self _)
    ·
      refine A_iconst (n := -1) hG dX12_gone_19 ?_
      exact Ret_i hM dX12_gone_20 (by constructor <;> omega) (by first | exact Or.inl ⟨by omega, rfl⟩ | exact Or.inr (⟨by omega, rfl⟩))

set_option maxHeartbeats 2000000 in
set_option maxRecDepth 20000 in
theorem r_write (h : AH) {n : Int} (v : Int64) (hn : ir n) (hlen : 0 ≤ h.1 500 0 ∧ h.1 500 0 ≤ 400) : AMet yX12_write cX12_write 5 (some .int) 1 25 [.ref 500, vI n, .long v] h (Qi (fun z h' => ((z = -1 ∧ (n < 1 ∨ 8 < n)) ∧ h' = h) ∨ ((z = -3 ∧ (1 ≤ n ∧ n ≤ 8) ∧ 400 < h.1 500 0 + n) ∧ h' = h) ∨ (∃ g e, (((1 ≤ n ∧ n ≤ 8) ∧ h.1 500 0 + n ≤ 400 ∧ z = h.1 500 0 + n) ∧ (∀ p, g p = if h.1 500 0 ≤ p ∧ p < h.1 500 0 + n then byteV v (n - 1 - (p - h.1 500 0)) else h.1 502 p) ∧ e 0 = h.1 500 0 + n ∧ (∀ q, q ≠ 0 → e q = h.1 500 q)) ∧ h' = hm h [(502, g), (500, e)] [] []))) := by
  obtain ⟨hn1, hn2⟩ := hn
  refine AMet.of (by decide) (Nat.le_of_ble_eq_true rfl) (fun G hM => ?_)
  have hG := hM.cx
  refine A_hm0 (G := G) (L := [(0, .ref 500), (1, vI n), (2, .long v)]) ?_
  refine A_iload_n hG 1 dX12_write_0 rfl rfl ?_
  refine A_i2l hG dX12_write_1 ?_
  refine A_lconst (v := i2l 1) hG dX12_write_2 (by decide) ?_
  refine A_ldc2 (v := i2l 8) hG dX12_write_3 (by rw [show i2l 8 = (8 : Int64) by decide]; exact kl_X12_78) ?_
  refine C_Si (as := [.long (i2l n), .long (i2l 1), .long (i2l 8)]) (st := []) hG dX12_write_6 ml_X12_80 mf_X12_in ms_X12_in (r_in (hm h [] [] []) (by constructor <;> omega) (by constructor <;> omega) (by constructor <;> omega)) (by decide) (by decide) rfl rfl (by decide) (fun z6 g6 ri_6 hp_6 => ?_)
  obtain ⟨ra_6, rb_6⟩ := ri_6
  obtain ⟨hz6, rfl⟩ := hp_6
  refine A_if_ne hG 14 dX12_write_9 (by decide) (by constructor <;> omega) (fun c_9 => ?_) (fun c_9 => ?_)
  ·
    refine A_aload_n hG 0 dX12_write_14 rfl rfl ?_
    refine M_getI (z := 0) (v := h.1 500 0) hG dX12_write_15 fl_X12_84 (by decide) k500 rfl rfl rfl (fun ⟨ra_15, rb_15⟩ => ?_)
    refine A_iload_n hG 1 dX12_write_18 rfl rfl ?_
    refine A_iadd hG dX12_write_19 ?_
    refine A_sipush (n := 400) hG dX12_write_20 (by decide) ?_
    refine A_icmp_le hG 29 dX12_write_23 (by decide) (by constructor <;> omega) (by constructor <;> omega) (fun c_23 => ?_) (fun c_23 => ?_)
    ·
      refine A_iload_n hG 1 dX12_write_29 rfl rfl ?_
      refine A_iconst (n := 1) hG dX12_write_30 ?_
      refine A_isub hG dX12_write_31 ?_
      refine A_istore (L' := [(4, vI (n - 1)), (0, .ref 500), (1, vI n), (2, .long v)]) hG dX12_write_32 (by decide) rfl ?_
      refine A_insI 502 (li' := [(502, h.1 502)]) rfl ?_
      refine A_insI 500 (li' := [(502, h.1 502), (500, h.1 500)]) rfl ?_
      have a_1 : ∀ fu : Nat, ∀ (k : Int) (g : Int → Int) (e : Int → Int), (-1 ≤ k ∧ k ≤ n - 1) → (e 0 = h.1 500 0 + (n - 1 - k)) → (∀ q, q ≠ 0 → e q = h.1 500 q) → (∀ p, g p = if h.1 500 0 ≤ p ∧ p < h.1 500 0 + (n - 1 - k) then byteV v (n - 1 - (p - h.1 500 0)) else h.1 502 p) → ((k + 1).toNat) < fu → G 34 [(0, .ref 500), (1, vI n), (2, .long v), (4, vI k)] [] (hm h [(502, g), (500, e)] [] []) := by
        intro fu
        induction fu with
        | zero => intro k g e hk he0 he hg hfu; exact absurd hfu (Nat.not_lt_zero _)
        | succ fu ih_a =>
          intro k g e hk he0 he hg hfu
          refine A_iload hG 3 dX12_write_34 rfl ?_
          refine A_if_lt hG 76 dX12_write_36 (by decide) (by constructor <;> omega) (fun c_36 => ?_) (fun c_36 => ?_)
          ·
            refine A_aload_n hG 0 dX12_write_76 rfl rfl ?_
            refine M_getI (z := 0) (v := e 0) hG dX12_write_77 fl_X12_84 (by decide) k500 rfl rfl rfl (fun ⟨ra_77, rb_77⟩ => ?_)
            exact Ret_i hM dX12_write_80 (by constructor <;> omega) (Or.inr (Or.inr ⟨g, e, ⟨⟨by omega, by omega, by omega⟩, fun p => by rw [hg p, show n - 1 - k = n by omega], by omega, he⟩, rfl⟩))
          ·
            refine A_aload_n hG 0 dX12_write_39 rfl rfl ?_
            refine A_getR (r := 502) hG dX12_write_40 fl_X12_7 (by decide) k500 (by decide) rfl ?_
            refine A_aload_n hG 0 dX12_write_43 rfl rfl ?_
            refine M_getI (z := 0) (v := e 0) hG dX12_write_44 fl_X12_84 (by decide) k500 rfl rfl rfl (fun ⟨ra_44, rb_44⟩ => ?_)
            refine A_lload_n hG 2 dX12_write_47 rfl rfl ?_
            refine A_bipush (n := 8) hG dX12_write_48 (by decide) ?_
            refine A_iload hG 3 dX12_write_50 rfl ?_
            refine A_imul hG dX12_write_52 ?_
            refine A_lshr hG dX12_write_53 ?_
            refine A_ldc2 (v := i2l 255) hG dX12_write_54 (by rw [show i2l 255 = (255 : Int64) by decide]; exact kl_X12_88) ?_
            refine A_land hG dX12_write_57 ?_
            refine A_l2i hG dX12_write_58 ?_
            refine M_iast (li' := [(502, up g (e 0) (l2i ((lshr v (8 * k)) &&& (i2l 255)))), (500, e)]) hG dX12_write_59 k502 n502 (by omega) (ir_l2i _) rfl ?_
            refine A_aload_n hG 0 dX12_write_60 rfl rfl ?_
            refine A_dup hG dX12_write_61 rfl ?_
            refine M_getI (z := 0) (v := e 0) hG dX12_write_62 fl_X12_84 (by decide) k500 rfl rfl rfl (fun ⟨ra_62, rb_62⟩ => ?_)
            refine A_iconst (n := 1) hG dX12_write_65 ?_
            refine A_iadd hG dX12_write_66 ?_
            refine M_putI (z := 0) (li' := [(502, up g (e 0) (l2i ((lshr v (8 * k)) &&& (i2l 255)))), (500, up e 0 ((e 0) + 1))]) hG dX12_write_67 fl_X12_84 (by decide) k500 nf_11_0 rfl rfl (by constructor <;> omega) (Or.inl rfl) rfl ?_
            refine A_iinc (L' := [(4, vI (k + (-1))), (0, .ref 500), (1, vI n), (2, .long v)]) hG 3 dX12_write_70 rfl (by decide) rfl ?_
            refine A_goto hG 34 dX12_write_73 (by decide) ?_
            refine A_sub hG [1, 2, 3, 0] rfl ?_
            exact ih_a (k + (-1)) (up g (e 0) (l2i ((lshr v (8 * k)) &&& (i2l 255)))) (up e 0 ((e 0) + 1)) (by omega) (by rw [up_eq]; omega) (fun q hq => by rw [up_ne _ _ hq]; exact he q hq) (fun p => by
                by_cases hp : p = e 0
                · rw [hp, up_eq, if_pos (by omega), show n - 1 - (e 0 - h.1 500 0) = k by omega]; rfl
                · rw [up_ne _ _ hp, hg p]; split <;> split <;> first | rfl | omega) (by omega)
      refine A_sub hG [1, 2, 3, 0] rfl ?_
      exact a_1 _ (n - 1) (h.1 502) (h.1 500) (by omega) (by omega) (fun _ _ => rfl) (fun p => by rw [if_neg (by omega)]) (Nat.lt_succ_self _)
    ·
      refine A_bipush (n := -3) hG dX12_write_26 (by decide) ?_
      exact Ret_i hM dX12_write_28 (by constructor <;> omega) (by first | exact Or.inl ⟨by omega, rfl⟩ | exact Or.inr (Or.inl ⟨by omega, rfl⟩) | exact Or.inr (Or.inr (⟨by omega, rfl⟩)))
  ·
    refine A_iconst (n := -1) hG dX12_write_12 ?_
    exact Ret_i hM dX12_write_13 (by constructor <;> omega) (by first | exact Or.inl ⟨by omega, rfl⟩ | exact Or.inr (Or.inl ⟨by omega, rfl⟩) | exact Or.inr (Or.inr (⟨by omega, rfl⟩)))

end
