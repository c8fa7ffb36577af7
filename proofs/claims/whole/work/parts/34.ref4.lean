/-! the reference: isRead, part, addTrees (printed by gen) -/
section
theorem hm_selfL (h : AH) (k : Nat) : hm h [] [(k, h.2.1 k)] [] = h := by
  have e : (fun q => alk [(k, h.2.1 k)] q (h.2.1 q)) = h.2.1 := by
    funext q
    simp only [alk]
    by_cases hq : q = k
    · subst hq; simp
    · simp [hq]
  unfold hm
  rw [e]
  rfl
theorem READ_nib {g : Gm} {fs : Int → Prop} {w : Int → Int} {n : Int} {x : Int64} (h : ∀ k m, 0 ≤ k → k ≤ 9 → 0 ≤ m → m < 4 → (bitL x (4 * k + m) ↔ rd g fs w n 0 k m)) : nib x 0 ≠ 0 ↔ READ g fs w n := nibOf_nz (nib_of (A := rd g fs w n 0 0) (by omega) (fun m h1 h2 => h 0 m (by omega) (by omega) h1 h2))
set_option maxHeartbeats 2000000 in
set_option maxRecDepth 20000 in
theorem r_isRead (h : AH) {s fr : Int} (hs : 0 ≤ s ∧ s ≤ 9) (hG0 : okG (gR h)) (hW0 : okW (gR h) (rowR h s) (h.1 508 s)) : AMet yX12_isRead cX12_isRead 3 (some .boolean) 2 54 [.ref 500, vI s, vI fr] h (Qi (fun z h' => ∃ f, ((z = 1 ∧ 0 < h.1 508 s ∧ READ (gR h) (hasb fr) (rowR h s) (h.1 508 s)) ∨ (z = 0 ∧ (h.1 508 s = 0 ∨ ¬ READ (gR h) (hasb fr) (rowR h s) (h.1 508 s)))) ∧ h' = hm h [] [(518, f)] [])) := by
  have hlen := hW0.1
  refine AMet.of (by decide) (Nat.le_of_ble_eq_true rfl) (fun G hM => ?_)
  have hG := hM.cx
  refine A_hm0 (G := G) (L := [(0, .ref 500), (1, vI s), (2, vI fr)]) ?_
  refine A_aload_n hG 0 dX12_isRead_0 rfl rfl ?_
  refine A_getR (r := 508) hG dX12_isRead_1 fl_X12_28 (by decide) k500 (by decide) rfl ?_
  refine A_iload_n hG 1 dX12_isRead_4 rfl rfl ?_
  refine M_iald (v := h.1 508 s) hG dX12_isRead_5 k508 n508 (by omega) rfl (fun ⟨ra_5, rb_5⟩ => ?_)
  refine A_if_ne hG 11 dX12_isRead_6 (by decide) (by constructor <;> omega) (fun c_6 => ?_) (fun c_6 => ?_)
  ·
    refine A_aload_n hG 0 dX12_isRead_11 rfl rfl ?_
    refine A_iload_n hG 1 dX12_isRead_12 rfl rfl ?_
    refine A_iload_n hG 2 dX12_isRead_13 rfl rfl ?_
    refine C_Vv (as := [vI s, vI fr]) (st := []) (k := 500) (c := 11) hG dX12_isRead_14 ml_X12_147 mf_X12_laySpans mi_X12_laySpans se_X12_laySpans rfl (by decide) k500 (r_laySpans (hm h [] [] []) (fr := fr) (by omega) hG0 hW0) (by decide) (by decide) rfl rfl (by decide) (fun g14 hp_14 => ?_)
    have hq_14 : ∃ f : Int → Int64, (∀ n' f' : Int, 1 ≤ n' → 0 ≤ f' → f' + n' ≤ h.1 508 s → ∀ k m, 0 ≤ k → k ≤ 9 → 0 ≤ m → m < 4 → (bitL (f (9 * f' + n')) (4 * k + m) ↔ rd (gR h) (hasb fr) (rowR h s) n' f' k m)) ∧ g14 = hm (hm h [] [] []) [] [(518, f)] [] := hp_14
    obtain ⟨f14, hf14, rfl⟩ := hq_14
    refine A_hm (la := []) (lb := [(518, f14)]) (lc := []) rfl rfl rfl ?_
    refine A_aload_n hG 0 dX12_isRead_17 rfl rfl ?_
    refine A_iconst (n := 0) hG dX12_isRead_18 ?_
    refine A_aload_n hG 0 dX12_isRead_19 rfl rfl ?_
    refine A_getR (r := 508) hG dX12_isRead_20 fl_X12_28 (by decide) k500 (by decide) rfl ?_
    refine A_iload_n hG 1 dX12_isRead_23 rfl rfl ?_
    refine M_iald (v := h.1 508 s) hG dX12_isRead_24 k508 n508 (by omega) rfl (fun ⟨ra_24, rb_24⟩ => ?_)
    refine A_iconst (n := 0) hG dX12_isRead_25 ?_
    refine C_Vi (as := [vI 0, vI (h.1 508 s), vI 0]) (st := []) (k := 500) (c := 11) hG dX12_isRead_26 ml_X12_139 mf_X12_marksOf mi_X12_marksOf se_X12_marksOf rfl (by decide) k500 (r_marksOf (hm h [] [(518, f14)] []) (by omega) (by omega) (by omega)) (by decide) (by decide) rfl rfl (by decide) (fun z26 g26 ri_26 hp_26 => ?_)
    obtain ⟨ra_26, rb_26⟩ := ri_26
    have hq_26 : z26 = nib (f14 (9 * 0 + (h.1 508 s))) 0 ∧ g26 = hm h [] [(518, f14)] [] := hp_26
    obtain ⟨rfl, rfl⟩ := hq_26
    have hx := READ_nib (hf14 (h.1 508 s) 0 (by omega) (by omega) (by omega))
    refine A_if_eq hG 36 dX12_isRead_29 (by decide) (irT _) (fun c_29 => ?_) (fun c_29 => ?_)
    ·
      refine A_iconst (n := 0) hG dX12_isRead_36 ?_
      exact Ret_z hM dX12_isRead_37 (by omega) (⟨f14, Or.inr ⟨rfl, Or.inr (fun q => hx.mpr q c_29)⟩, rfl⟩)
    ·
      refine A_iconst (n := 1) hG dX12_isRead_32 ?_
      refine A_goto hG 37 dX12_isRead_33 (by decide) ?_
      exact Ret_z hM dX12_isRead_37 (by omega) (⟨f14, Or.inl ⟨rfl, by omega, hx.mp c_29⟩, rfl⟩)
  ·
    refine A_iconst (n := 0) hG dX12_isRead_9 ?_
    exact Ret_z hM dX12_isRead_10 (by omega) (⟨h.2.1 518, Or.inr ⟨rfl, Or.inl c_6⟩, (hm_selfL h 518).symm⟩)

theorem part_bit : ∀ (y : Fin 16) (m : Fin 4), iand (ishr ((y.val : Nat) : Int) ((m.val : Nat) : Int)) 1 = if y.val.testBit m.val then 1 else 0 := by decide +kernel
theorem part_nib {y m : Int} {A : Int → Prop} (h : nibOf y A) (hm : 0 ≤ m ∧ m < 4) : (iand (ishr y m) 1 = 1 ∧ A m) ∨ (iand (ishr y m) 1 = 0 ∧ ¬ A m) := by
  obtain ⟨h1, h2⟩ := h
  have h3 := h2 m hm.1 hm.2
  obtain ⟨a, rfl⟩ := Int.eq_ofNat_of_zero_le h1.1
  obtain ⟨b, rfl⟩ := Int.eq_ofNat_of_zero_le hm.1
  have e : iand (ishr (a : Int) (b : Int)) 1 = if a.testBit b then 1 else 0 := part_bit ⟨a, by omega⟩ ⟨b, by omega⟩
  unfold tbit at h3
  by_cases ht : a.testBit b = true
  · rw [if_pos ht] at e; exact Or.inl ⟨e, h3.mp ht⟩
  · rw [if_neg ht] at e; exact Or.inr ⟨e, fun q => ht (h3.mpr q)⟩
set_option maxHeartbeats 2000000 in
set_option maxRecDepth 20000 in
theorem r_part (h : AH) {s f n k m : Int} (hs : ir s) (hf : ir f) (hn : ir n) (hk : ir k) (hm0 : ir m) (hl : ∀ s : Int, 0 ≤ s → s < 10 → 0 ≤ h.1 508 s ∧ h.1 508 s ≤ 8) (hG0 : okG (gR h)) (hW : ∀ s, 0 ≤ s → s ≤ 7 → okW (gR h) (rowR h s) (h.1 508 s)) : AMet yX12_part cX12_part 6 (some .int) 2 54 [.ref 500, vI s, vI f, vI n, vI k, vI m] h (Qi (fun z h' => (z = -1 ∧ (s < 0 ∨ 7 < s ∨ f < 0 ∨ 7 < f ∨ n < 1 ∨ (0 ≤ s ∧ s ≤ 7 ∧ h.1 508 s - f < n) ∨ k < 0 ∨ 9 < k ∨ m < 0 ∨ 3 < m) ∧ h' = h) ∨ ∃ g, ((0 ≤ s ∧ s ≤ 7) ∧ (0 ≤ f ∧ f ≤ 7) ∧ (1 ≤ n ∧ n ≤ h.1 508 s - f) ∧ (0 ≤ k ∧ k ≤ 9) ∧ (0 ≤ m ∧ m ≤ 3)) ∧ ((z = 1 ∧ rd (gR h) (hasb 0) (rowR h s) n f k m) ∨ (z = 0 ∧ ¬ rd (gR h) (hasb 0) (rowR h s) n f k m)) ∧ h' = hm h [] [(518, g)] [])) := by
  obtain ⟨hs1, hs2⟩ := hs
  obtain ⟨hf1, hf2⟩ := hf
  obtain ⟨hn1, hn2⟩ := hn
  obtain ⟨hk1, hk2⟩ := hk
  obtain ⟨hm1, hm2⟩ := hm0
  refine AMet.of (by decide) (Nat.le_of_ble_eq_true rfl) (fun G hM => ?_)
  have hG := hM.cx
  refine A_hm0 (G := G) (L := [(0, .ref 500), (1, vI s), (2, vI f), (3, vI n), (4, vI k), (5, vI m)]) ?_
  refine A_iload_n hG 1 dX12_part_0 rfl rfl ?_
  refine C_Si (as := [vI s]) (st := []) hG dX12_part_1 ml_X12_134 mf_X12_isSentence ms_X12_isSentence (r_isSentence (hm h [] [] []) (by constructor <;> omega)) (by decide) (by decide) rfl rfl (by decide) (fun z1 g1 ri_1 hp_1 => ?_)
  obtain ⟨ra_1, rb_1⟩ := ri_1
  obtain ⟨hz1, rfl⟩ := hp_1
  refine A_if_eq hG 63 dX12_part_4 (by decide) (by constructor <;> omega) (fun c_4 => ?_) (fun c_4 => ?_)
  ·
    refine A_iconst (n := -1) hG dX12_part_63 ?_
    exact Ret_i hM dX12_part_64 (by constructor <;> omega) (Or.inl ⟨rfl, by omega, rfl⟩)
  ·
    refine A_iload_n hG 2 dX12_part_7 rfl rfl ?_
    refine A_i2l hG dX12_part_8 ?_
    refine A_lconst (v := i2l 0) hG dX12_part_9 (by decide) ?_
    refine A_ldc2 (v := i2l 7) hG dX12_part_10 (by rw [show i2l 7 = (7 : Int64) by decide]; exact kl_X12_132) ?_
    refine C_Si (as := [.long (i2l f), .long (i2l 0), .long (i2l 7)]) (st := []) hG dX12_part_13 ml_X12_80 mf_X12_in ms_X12_in (r_in (hm h [] [] []) (by constructor <;> omega) (by constructor <;> omega) (by constructor <;> omega)) (by decide) (by decide) rfl rfl (by decide) (fun z13 g13 ri_13 hp_13 => ?_)
    obtain ⟨ra_13, rb_13⟩ := ri_13
    obtain ⟨hz13, rfl⟩ := hp_13
    refine A_if_eq hG 63 dX12_part_16 (by decide) (by constructor <;> omega) (fun c_16 => ?_) (fun c_16 => ?_)
    ·
      refine A_iconst (n := -1) hG dX12_part_63 ?_
      exact Ret_i hM dX12_part_64 (by constructor <;> omega) (Or.inl ⟨rfl, by omega, rfl⟩)
    ·
      refine A_iload_n hG 3 dX12_part_19 rfl rfl ?_
      refine A_i2l hG dX12_part_20 ?_
      refine A_lconst (v := i2l 1) hG dX12_part_21 (by decide) ?_
      refine A_aload_n hG 0 dX12_part_22 rfl rfl ?_
      refine A_getR (r := 508) hG dX12_part_23 fl_X12_28 (by decide) k500 (by decide) rfl ?_
      have hls := hl s (by omega) (by omega)
      refine A_iload_n hG 1 dX12_part_26 rfl rfl ?_
      refine M_iald (v := h.1 508 s) hG dX12_part_27 k508 n508 (by omega) rfl (fun ⟨ra_27, rb_27⟩ => ?_)
      refine A_iload_n hG 2 dX12_part_28 rfl rfl ?_
      refine A_isub hG dX12_part_29 ?_
      refine A_i2l hG dX12_part_30 ?_
      refine C_Si (as := [.long (i2l n), .long (i2l 1), .long (i2l ((h.1 508 s) - f))]) (st := []) hG dX12_part_31 ml_X12_80 mf_X12_in ms_X12_in (r_in (hm h [] [] []) (by constructor <;> omega) (by constructor <;> omega) (by constructor <;> omega)) (by decide) (by decide) rfl rfl (by decide) (fun z31 g31 ri_31 hp_31 => ?_)
      obtain ⟨ra_31, rb_31⟩ := ri_31
      obtain ⟨hz31, rfl⟩ := hp_31
      refine A_if_eq hG 63 dX12_part_34 (by decide) (by constructor <;> omega) (fun c_34 => ?_) (fun c_34 => ?_)
      ·
        refine A_iconst (n := -1) hG dX12_part_63 ?_
        exact Ret_i hM dX12_part_64 (by constructor <;> omega) (Or.inl ⟨rfl, by omega, rfl⟩)
      ·
        refine A_iload hG 4 dX12_part_37 rfl ?_
        refine A_i2l hG dX12_part_39 ?_
        refine A_lconst (v := i2l 0) hG dX12_part_40 (by decide) ?_
        refine A_ldc2 (v := i2l 9) hG dX12_part_41 (by rw [show i2l 9 = (9 : Int64) by decide]; exact kl_X12_164) ?_
        refine C_Si (as := [.long (i2l k), .long (i2l 0), .long (i2l 9)]) (st := []) hG dX12_part_44 ml_X12_80 mf_X12_in ms_X12_in (r_in (hm h [] [] []) (by constructor <;> omega) (by constructor <;> omega) (by constructor <;> omega)) (by decide) (by decide) rfl rfl (by decide) (fun z44 g44 ri_44 hp_44 => ?_)
        obtain ⟨ra_44, rb_44⟩ := ri_44
        obtain ⟨hz44, rfl⟩ := hp_44
        refine A_if_eq hG 63 dX12_part_47 (by decide) (by constructor <;> omega) (fun c_47 => ?_) (fun c_47 => ?_)
        ·
          refine A_iconst (n := -1) hG dX12_part_63 ?_
          exact Ret_i hM dX12_part_64 (by constructor <;> omega) (Or.inl ⟨rfl, by omega, rfl⟩)
        ·
          refine A_iload hG 5 dX12_part_50 rfl ?_
          refine A_i2l hG dX12_part_52 ?_
          refine A_lconst (v := i2l 0) hG dX12_part_53 (by decide) ?_
          refine A_ldc2 (v := i2l 3) hG dX12_part_54 (by rw [show i2l 3 = (3 : Int64) by decide]; exact kl_X12_157) ?_
          refine C_Si (as := [.long (i2l m), .long (i2l 0), .long (i2l 3)]) (st := []) hG dX12_part_57 ml_X12_80 mf_X12_in ms_X12_in (r_in (hm h [] [] []) (by constructor <;> omega) (by constructor <;> omega) (by constructor <;> omega)) (by decide) (by decide) rfl rfl (by decide) (fun z57 g57 ri_57 hp_57 => ?_)
          obtain ⟨ra_57, rb_57⟩ := ri_57
          obtain ⟨hz57, rfl⟩ := hp_57
          refine A_if_ne hG 65 dX12_part_60 (by decide) (by constructor <;> omega) (fun c_60 => ?_) (fun c_60 => ?_)
          ·
            have hW0 := hW s (by omega) (by omega)
            refine A_aload_n hG 0 dX12_part_65 rfl rfl ?_
            refine A_iload_n hG 1 dX12_part_66 rfl rfl ?_
            refine A_iconst (n := 0) hG dX12_part_67 ?_
            refine C_Vv (as := [vI s, vI 0]) (st := []) (k := 500) (c := 11) hG dX12_part_68 ml_X12_147 mf_X12_laySpans mi_X12_laySpans se_X12_laySpans rfl (by decide) k500 (r_laySpans (hm h [] [] []) (fr := 0) (by omega) hG0 hW0) (by decide) (by decide) rfl rfl (by decide) (fun g68 hp_68 => ?_)
            have hq_68 : ∃ f : Int → Int64, (∀ n' f' : Int, 1 ≤ n' → 0 ≤ f' → f' + n' ≤ h.1 508 s → ∀ k m, 0 ≤ k → k ≤ 9 → 0 ≤ m → m < 4 → (bitL (f (9 * f' + n')) (4 * k + m) ↔ rd (gR h) (hasb 0) (rowR h s) n' f' k m)) ∧ g68 = hm (hm h [] [] []) [] [(518, f)] [] := hp_68
            obtain ⟨f68, hf68, rfl⟩ := hq_68
            refine A_hm (la := []) (lb := [(518, f68)]) (lc := []) rfl rfl rfl ?_
            refine A_aload_n hG 0 dX12_part_71 rfl rfl ?_
            refine A_iload_n hG 2 dX12_part_72 rfl rfl ?_
            refine A_iload_n hG 3 dX12_part_73 rfl rfl ?_
            refine A_iload hG 4 dX12_part_74 rfl ?_
            refine C_Vi (as := [vI f, vI n, vI k]) (st := []) (k := 500) (c := 11) hG dX12_part_76 ml_X12_139 mf_X12_marksOf mi_X12_marksOf se_X12_marksOf rfl (by decide) k500 (r_marksOf (hm h [] [(518, f68)] []) (by omega) (by omega) (by omega)) (by decide) (by decide) rfl rfl (by decide) (fun z76 g76 ri_76 hp_76 => ?_)
            obtain ⟨ra_76, rb_76⟩ := ri_76
            have hq_76 : z76 = nib (f68 (9 * f + n)) k ∧ g76 = hm h [] [(518, f68)] [] := hp_76
            obtain ⟨rfl, rfl⟩ := hq_76
            refine A_iload hG 5 dX12_part_79 rfl ?_
            have hx := part_nib (m := m) (nib_of (x := f68 (9 * f + n)) (k := k) (A := rd (gR h) (hasb 0) (rowR h s) n f k) (by omega) (fun q b3 b4 => hf68 n f (by omega) (by omega) (by omega) k q (by omega) (by omega) b3 b4)) (by omega)
            refine A_ishr hG dX12_part_81 ?_
            refine A_iconst (n := 1) hG dX12_part_82 ?_
            refine A_iand hG dX12_part_83 ?_
            exact Ret_i hM dX12_part_84 (irT _) (Or.inr ⟨f68, by omega, hx, rfl⟩)
          ·
            refine A_iconst (n := -1) hG dX12_part_63 ?_
            exact Ret_i hM dX12_part_64 (by constructor <;> omega) (Or.inl ⟨rfl, by omega, rfl⟩)

theorem tS_no {a0 h0 : Int} {A B : Int → Int64} {m : Int} {y z : Nat} (hz : z < 4) (h : ¬ (a0 = 0 ∨ (y : Int) = z)) : tS a0 h0 A B m (4 * y + (z + 1)) = tS a0 h0 A B m (4 * y + z) := by
  rw [show 4 * y + (z + 1) = (4 * y + z) + 1 by omega, tS, show (4 * y + z) / 4 = y by omega, show (4 * y + z) % 4 = z by omega, if_neg (by omega)]
  simp
theorem tS_yes {a0 h0 : Int} {A B : Int → Int64} {m : Int} {y z : Nat} (hz : z < 4) (h : a0 = 0 ∨ (y : Int) = z) : tS a0 h0 A B m (4 * y + (z + 1)) = tS a0 h0 A B m (4 * y + z) + (if (if h0 = 0 then (y : Int) else (z : Int)) = m then A y * B z else 0) := by
  rw [show 4 * y + (z + 1) = (4 * y + z) + 1 by omega, tS, show (4 * y + z) / 4 = y by omega, show (4 * y + z) % 4 = z by omega]
  congr 1
  by_cases h1 : (if h0 = 0 then (y : Int) else (z : Int)) = m
  · rw [if_pos ⟨by omega, h1⟩, if_pos h1]
  · rw [if_neg (fun q => h1 q.2), if_neg h1]
set_option maxHeartbeats 2000000 in
set_option maxRecDepth 20000 in
theorem r_addTrees (h : AH) {p ys zs u : Int} (hp : 0 ≤ p ∧ p ≤ 2840) (hys : 0 ≤ ys ∧ ys ≤ 2876) (hzs : 0 ≤ zs ∧ zs ≤ 2876) (hu : 0 ≤ u ∧ u ≤ 235) (hx : 0 ≤ h.1 506 u ∧ h.1 506 u ≤ 9) (dy : ys + 3 < p + 4 * h.1 506 u ∨ p + 4 * h.1 506 u + 3 < ys) (dz : zs + 3 < p + 4 * h.1 506 u ∨ p + 4 * h.1 506 u + 3 < zs) : AMet yX12_addTrees cX12_addTrees 7 none 0 0 [.ref 500, vI p, vI ys, vI zs, vI u] h (Qv (fun h' => ∃ f : Int → Int64, (∀ i, f i = if p + 4 * h.1 506 u ≤ i ∧ i < p + 4 * h.1 506 u + 4 then h.2.1 519 i + tS (h.1 506 (u + 3)) (h.1 506 (u + 4)) (fun q => h.2.1 519 (ys + q)) (fun q => h.2.1 519 (zs + q)) (i - (p + 4 * h.1 506 u)) (16) else h.2.1 519 i) ∧ h' = hm h [] [(519, f)] [])) := by
  refine AMet.of (by decide) (Nat.le_of_ble_eq_true rfl) (fun G hM => ?_)
  have hG := hM.cx
  refine A_hm0 (G := G) (L := [(0, .ref 500), (1, vI p), (2, vI ys), (3, vI zs), (4, vI u)]) ?_
  refine A_iconst (n := 0) hG dX12_addTrees_0 ?_
  refine A_istore (L' := [(5, vI 0), (0, .ref 500), (1, vI p), (2, vI ys), (3, vI zs), (4, vI u)]) hG dX12_addTrees_1 (by decide) rfl ?_
  refine A_insL 519 (ll' := [(519, h.2.1 519)]) rfl ?_
  have y_0 : ∀ fu : Nat, ∀ (y : Nat) (f : Int → Int64), (y ≤ 4) → (∀ i, f i = if p + 4 * h.1 506 u ≤ i ∧ i < p + 4 * h.1 506 u + 4 then h.2.1 519 i + tS (h.1 506 (u + 3)) (h.1 506 (u + 4)) (fun q => h.2.1 519 (ys + q)) (fun q => h.2.1 519 (zs + q)) (i - (p + 4 * h.1 506 u)) (4 * y) else h.2.1 519 i) → (4 - y) < fu → G 3 [(0, .ref 500), (1, vI p), (2, vI ys), (3, vI zs), (4, vI u), (5, vI (y : Int))] [] (hm h [] [(519, f)] []) := by
    intro fu
    induction fu with
    | zero => intro y f hy hf hfu; exact absurd hfu (Nat.not_lt_zero _)
    | succ fu ih_y =>
      intro y f hy hf hfu
      refine A_iload hG 5 dX12_addTrees_3 rfl ?_
      refine A_iconst (n := 4) hG dX12_addTrees_5 ?_
      refine A_icmp_ge hG 107 dX12_addTrees_6 (by decide) (by constructor <;> omega) (by constructor <;> omega) (fun c_6 => ?_) (fun c_6 => ?_)
      ·
        exact Ret_v hM dX12_addTrees_107 (⟨f, fun i => by rw [hf i, show y = 4 by omega], rfl⟩)
      ·
        refine A_iconst (n := 0) hG dX12_addTrees_9 ?_
        refine A_istore (L' := [(6, vI 0), (0, .ref 500), (1, vI p), (2, vI ys), (3, vI zs), (4, vI u), (5, vI (y : Int))]) hG dX12_addTrees_10 (by decide) rfl ?_
        have z_1 : ∀ fu : Nat, ∀ (z : Nat) (f : Int → Int64), (z ≤ 4) → (∀ i, f i = if p + 4 * h.1 506 u ≤ i ∧ i < p + 4 * h.1 506 u + 4 then h.2.1 519 i + tS (h.1 506 (u + 3)) (h.1 506 (u + 4)) (fun q => h.2.1 519 (ys + q)) (fun q => h.2.1 519 (zs + q)) (i - (p + 4 * h.1 506 u)) (4 * y + z) else h.2.1 519 i) → (4 - z) < fu → G 12 [(0, .ref 500), (1, vI p), (2, vI ys), (3, vI zs), (4, vI u), (5, vI (y : Int)), (6, vI (z : Int))] [] (hm h [] [(519, f)] []) := by
          intro fu
          induction fu with
          | zero => intro z f hz hf hfu; exact absurd hfu (Nat.not_lt_zero _)
          | succ fu ih_z =>
            intro z f hz hf hfu
            refine A_iload hG 6 dX12_addTrees_12 rfl ?_
            refine A_iconst (n := 4) hG dX12_addTrees_14 ?_
            refine A_icmp_ge hG 101 dX12_addTrees_15 (by decide) (by constructor <;> omega) (by constructor <;> omega) (fun c_15 => ?_) (fun c_15 => ?_)
            ·
              refine A_iinc (L' := [(5, vI ((y : Int) + 1)), (0, .ref 500), (1, vI p), (2, vI ys), (3, vI zs), (4, vI u), (6, vI (z : Int))]) hG 5 dX12_addTrees_101 rfl (by decide) rfl ?_
              refine A_goto hG 3 dX12_addTrees_104 (by decide) ?_
              refine A_sub hG [1, 2, 3, 4, 5, 0] rfl ?_
              exact ih_y (y + 1) f (by omega) (fun i => by rw [hf i, show z = 4 by omega]; rfl) (by omega)
            ·
              refine A_aload_n hG 0 dX12_addTrees_18 rfl rfl ?_
              refine A_getR (r := 506) hG dX12_addTrees_19 fl_X12_22 (by decide) k500 (by decide) rfl ?_
              refine A_iload hG 4 dX12_addTrees_22 rfl ?_
              refine A_iconst (n := 3) hG dX12_addTrees_24 ?_
              refine A_iadd hG dX12_addTrees_25 ?_
              refine M_iald (v := h.1 506 (u + 3)) hG dX12_addTrees_26 k506 n506 (by omega) rfl (fun ⟨ra_26, rb_26⟩ => ?_)
              refine A_if_eq hG 37 dX12_addTrees_27 (by decide) (by constructor <;> omega) (fun c_27 => ?_) (fun c_27 => ?_)
              ·
                refine A_aload_n hG 0 dX12_addTrees_37 rfl rfl ?_
                refine A_getR (r := 519) hG dX12_addTrees_38 fl_X12_53 (by decide) k500 (by decide) rfl ?_
                refine A_iload_n hG 1 dX12_addTrees_41 rfl rfl ?_
                refine A_iconst (n := 4) hG dX12_addTrees_42 ?_
                refine A_aload_n hG 0 dX12_addTrees_43 rfl rfl ?_
                refine A_getR (r := 506) hG dX12_addTrees_44 fl_X12_22 (by decide) k500 (by decide) rfl ?_
                refine A_iload hG 4 dX12_addTrees_47 rfl ?_
                refine M_iald (v := h.1 506 u) hG dX12_addTrees_49 k506 n506 (by omega) rfl (fun ⟨ra_49, rb_49⟩ => ?_)
                refine A_imul hG dX12_addTrees_50 ?_
                refine A_iadd hG dX12_addTrees_51 ?_
                refine A_aload_n hG 0 dX12_addTrees_52 rfl rfl ?_
                refine A_getR (r := 506) hG dX12_addTrees_53 fl_X12_22 (by decide) k500 (by decide) rfl ?_
                refine A_iload hG 4 dX12_addTrees_56 rfl ?_
                refine A_iconst (n := 4) hG dX12_addTrees_58 ?_
                refine A_iadd hG dX12_addTrees_59 ?_
                refine M_iald (v := h.1 506 (u + 4)) hG dX12_addTrees_60 k506 n506 (by omega) rfl (fun ⟨ra_60, rb_60⟩ => ?_)
                refine A_if_ne hG 69 dX12_addTrees_61 (by decide) (by constructor <;> omega) (fun c_61 => ?_) (fun c_61 => ?_)
                ·
                  refine A_iload hG 6 dX12_addTrees_69 rfl ?_
                  refine A_iadd hG dX12_addTrees_71 ?_
                  refine A_dup2 hG dX12_addTrees_72 rfl rfl ?_
                  refine M_lald (v := f ((p + (4 * (h.1 506 u))) + (z : Int))) hG dX12_addTrees_73 k519 n519 (by omega) rfl ?_
                  refine A_aload_n hG 0 dX12_addTrees_74 rfl rfl ?_
                  refine A_getR (r := 519) hG dX12_addTrees_75 fl_X12_53 (by decide) k500 (by decide) rfl ?_
                  refine A_iload_n hG 2 dX12_addTrees_78 rfl rfl ?_
                  refine A_iload hG 5 dX12_addTrees_79 rfl ?_
                  refine A_iadd hG dX12_addTrees_81 ?_
                  refine M_lald (v := f (ys + (y : Int))) hG dX12_addTrees_82 k519 n519 (by omega) rfl ?_
                  refine A_aload_n hG 0 dX12_addTrees_83 rfl rfl ?_
                  refine A_getR (r := 519) hG dX12_addTrees_84 fl_X12_53 (by decide) k500 (by decide) rfl ?_
                  refine A_iload_n hG 3 dX12_addTrees_87 rfl rfl ?_
                  refine A_iload hG 6 dX12_addTrees_88 rfl ?_
                  refine A_iadd hG dX12_addTrees_90 ?_
                  refine M_lald (v := f (zs + (z : Int))) hG dX12_addTrees_91 k519 n519 (by omega) rfl ?_
                  refine A_lmul hG dX12_addTrees_92 ?_
                  refine A_ladd hG dX12_addTrees_93 ?_
                  refine M_last (ll' := [(519, up f ((p + (4 * (h.1 506 u))) + (z : Int)) ((f ((p + (4 * (h.1 506 u))) + (z : Int))) + ((f (ys + (y : Int))) * (f (zs + (z : Int))))))]) hG dX12_addTrees_94 k519 n519 (by omega) rfl ?_
                  refine A_iinc (L' := [(6, vI ((z : Int) + 1)), (0, .ref 500), (1, vI p), (2, vI ys), (3, vI zs), (4, vI u), (5, vI (y : Int))]) hG 6 dX12_addTrees_95 rfl (by decide) rfl ?_
                  refine A_goto hG 12 dX12_addTrees_98 (by decide) ?_
                  refine A_sub hG [1, 2, 3, 4, 5, 6, 0] rfl ?_
                  exact ih_z (z + 1) (up f ((p + (4 * (h.1 506 u))) + (z : Int)) ((f ((p + (4 * (h.1 506 u))) + (z : Int))) + ((f (ys + (y : Int))) * (f (zs + (z : Int)))))) (by omega) (fun i => by
                      by_cases hi : i = p + 4 * h.1 506 u + (z : Int)
                      · subst hi
                        rw [up_eq, hf _, if_pos (by omega), if_pos (by omega), hf (ys + (y : Int)), if_neg (by omega), hf (zs + (z : Int)), if_neg (by omega), tS_yes (by omega) (by omega), Int64.add_assoc]
                        congr 2
                        rw [if_pos (by rw [if_neg c_61]; omega)]
                      · rw [up_ne _ _ hi, hf i]
                        by_cases hr : p + 4 * h.1 506 u ≤ i ∧ i < p + 4 * h.1 506 u + 4
                        · rw [if_pos hr, if_pos hr, tS_yes (by omega) (by omega), if_neg (by rw [if_neg c_61]; omega)]; simp
                        · rw [if_neg hr, if_neg hr]) (by omega)
                ·
                  refine A_iload hG 5 dX12_addTrees_64 rfl ?_
                  refine A_goto hG 71 dX12_addTrees_66 (by decide) ?_
                  refine A_iadd hG dX12_addTrees_71 ?_
                  refine A_dup2 hG dX12_addTrees_72 rfl rfl ?_
                  refine M_lald (v := f ((p + (4 * (h.1 506 u))) + (y : Int))) hG dX12_addTrees_73 k519 n519 (by omega) rfl ?_
                  refine A_aload_n hG 0 dX12_addTrees_74 rfl rfl ?_
                  refine A_getR (r := 519) hG dX12_addTrees_75 fl_X12_53 (by decide) k500 (by decide) rfl ?_
                  refine A_iload_n hG 2 dX12_addTrees_78 rfl rfl ?_
                  refine A_iload hG 5 dX12_addTrees_79 rfl ?_
                  refine A_iadd hG dX12_addTrees_81 ?_
                  refine M_lald (v := f (ys + (y : Int))) hG dX12_addTrees_82 k519 n519 (by omega) rfl ?_
                  refine A_aload_n hG 0 dX12_addTrees_83 rfl rfl ?_
                  refine A_getR (r := 519) hG dX12_addTrees_84 fl_X12_53 (by decide) k500 (by decide) rfl ?_
                  refine A_iload_n hG 3 dX12_addTrees_87 rfl rfl ?_
                  refine A_iload hG 6 dX12_addTrees_88 rfl ?_
                  refine A_iadd hG dX12_addTrees_90 ?_
                  refine M_lald (v := f (zs + (z : Int))) hG dX12_addTrees_91 k519 n519 (by omega) rfl ?_
                  refine A_lmul hG dX12_addTrees_92 ?_
                  refine A_ladd hG dX12_addTrees_93 ?_
                  refine M_last (ll' := [(519, up f ((p + (4 * (h.1 506 u))) + (y : Int)) ((f ((p + (4 * (h.1 506 u))) + (y : Int))) + ((f (ys + (y : Int))) * (f (zs + (z : Int))))))]) hG dX12_addTrees_94 k519 n519 (by omega) rfl ?_
                  refine A_iinc (L' := [(6, vI ((z : Int) + 1)), (0, .ref 500), (1, vI p), (2, vI ys), (3, vI zs), (4, vI u), (5, vI (y : Int))]) hG 6 dX12_addTrees_95 rfl (by decide) rfl ?_
                  refine A_goto hG 12 dX12_addTrees_98 (by decide) ?_
                  refine A_sub hG [1, 2, 3, 4, 5, 6, 0] rfl ?_
                  exact ih_z (z + 1) (up f ((p + (4 * (h.1 506 u))) + (y : Int)) ((f ((p + (4 * (h.1 506 u))) + (y : Int))) + ((f (ys + (y : Int))) * (f (zs + (z : Int)))))) (by omega) (fun i => by
                      by_cases hi : i = p + 4 * h.1 506 u + (y : Int)
                      · subst hi
                        rw [up_eq, hf _, if_pos (by omega), if_pos (by omega), hf (ys + (y : Int)), if_neg (by omega), hf (zs + (z : Int)), if_neg (by omega), tS_yes (by omega) (by omega), Int64.add_assoc]
                        congr 2
                        rw [if_pos (by rw [if_pos c_61]; omega)]
                      · rw [up_ne _ _ hi, hf i]
                        by_cases hr : p + 4 * h.1 506 u ≤ i ∧ i < p + 4 * h.1 506 u + 4
                        · rw [if_pos hr, if_pos hr, tS_yes (by omega) (by omega), if_neg (by rw [if_pos c_61]; omega)]; simp
                        · rw [if_neg hr, if_neg hr]) (by omega)
              ·
                refine A_iload hG 5 dX12_addTrees_30 rfl ?_
                refine A_iload hG 6 dX12_addTrees_32 rfl ?_
                refine A_icmp_ne hG 95 dX12_addTrees_34 (by decide) (by constructor <;> omega) (by constructor <;> omega) (fun c_34 => ?_) (fun c_34 => ?_)
                ·
                  refine A_iinc (L' := [(6, vI ((z : Int) + 1)), (0, .ref 500), (1, vI p), (2, vI ys), (3, vI zs), (4, vI u), (5, vI (y : Int))]) hG 6 dX12_addTrees_95 rfl (by decide) rfl ?_
                  refine A_goto hG 12 dX12_addTrees_98 (by decide) ?_
                  refine A_sub hG [1, 2, 3, 4, 5, 6, 0] rfl ?_
                  exact ih_z (z + 1) f (by omega) (fun i => by rw [hf i, tS_no (by omega) (by omega)]) (by omega)
                ·
                  refine A_aload_n hG 0 dX12_addTrees_37 rfl rfl ?_
                  refine A_getR (r := 519) hG dX12_addTrees_38 fl_X12_53 (by decide) k500 (by decide) rfl ?_
                  refine A_iload_n hG 1 dX12_addTrees_41 rfl rfl ?_
                  refine A_iconst (n := 4) hG dX12_addTrees_42 ?_
                  refine A_aload_n hG 0 dX12_addTrees_43 rfl rfl ?_
                  refine A_getR (r := 506) hG dX12_addTrees_44 fl_X12_22 (by decide) k500 (by decide) rfl ?_
                  refine A_iload hG 4 dX12_addTrees_47 rfl ?_
                  refine M_iald (v := h.1 506 u) hG dX12_addTrees_49 k506 n506 (by omega) rfl (fun ⟨ra_49, rb_49⟩ => ?_)
                  refine A_imul hG dX12_addTrees_50 ?_
                  refine A_iadd hG dX12_addTrees_51 ?_
                  refine A_aload_n hG 0 dX12_addTrees_52 rfl rfl ?_
                  refine A_getR (r := 506) hG dX12_addTrees_53 fl_X12_22 (by decide) k500 (by decide) rfl ?_
                  refine A_iload hG 4 dX12_addTrees_56 rfl ?_
                  refine A_iconst (n := 4) hG dX12_addTrees_58 ?_
                  refine A_iadd hG dX12_addTrees_59 ?_
                  refine M_iald (v := h.1 506 (u + 4)) hG dX12_addTrees_60 k506 n506 (by omega) rfl (fun ⟨ra_60, rb_60⟩ => ?_)
                  refine A_if_ne hG 69 dX12_addTrees_61 (by decide) (by constructor <;> omega) (fun c_61 => ?_) (fun c_61 => ?_)
                  ·
                    refine A_iload hG 6 dX12_addTrees_69 rfl ?_
                    refine A_iadd hG dX12_addTrees_71 ?_
                    refine A_dup2 hG dX12_addTrees_72 rfl rfl ?_
                    refine M_lald (v := f ((p + (4 * (h.1 506 u))) + (z : Int))) hG dX12_addTrees_73 k519 n519 (by omega) rfl ?_
                    refine A_aload_n hG 0 dX12_addTrees_74 rfl rfl ?_
                    refine A_getR (r := 519) hG dX12_addTrees_75 fl_X12_53 (by decide) k500 (by decide) rfl ?_
                    refine A_iload_n hG 2 dX12_addTrees_78 rfl rfl ?_
                    refine A_iload hG 5 dX12_addTrees_79 rfl ?_
                    refine A_iadd hG dX12_addTrees_81 ?_
                    refine M_lald (v := f (ys + (y : Int))) hG dX12_addTrees_82 k519 n519 (by omega) rfl ?_
                    refine A_aload_n hG 0 dX12_addTrees_83 rfl rfl ?_
                    refine A_getR (r := 519) hG dX12_addTrees_84 fl_X12_53 (by decide) k500 (by decide) rfl ?_
                    refine A_iload_n hG 3 dX12_addTrees_87 rfl rfl ?_
                    refine A_iload hG 6 dX12_addTrees_88 rfl ?_
                    refine A_iadd hG dX12_addTrees_90 ?_
                    refine M_lald (v := f (zs + (z : Int))) hG dX12_addTrees_91 k519 n519 (by omega) rfl ?_
                    refine A_lmul hG dX12_addTrees_92 ?_
                    refine A_ladd hG dX12_addTrees_93 ?_
                    refine M_last (ll' := [(519, up f ((p + (4 * (h.1 506 u))) + (z : Int)) ((f ((p + (4 * (h.1 506 u))) + (z : Int))) + ((f (ys + (y : Int))) * (f (zs + (z : Int))))))]) hG dX12_addTrees_94 k519 n519 (by omega) rfl ?_
                    refine A_iinc (L' := [(6, vI ((z : Int) + 1)), (0, .ref 500), (1, vI p), (2, vI ys), (3, vI zs), (4, vI u), (5, vI (y : Int))]) hG 6 dX12_addTrees_95 rfl (by decide) rfl ?_
                    refine A_goto hG 12 dX12_addTrees_98 (by decide) ?_
                    refine A_sub hG [1, 2, 3, 4, 5, 6, 0] rfl ?_
                    exact ih_z (z + 1) (up f ((p + (4 * (h.1 506 u))) + (z : Int)) ((f ((p + (4 * (h.1 506 u))) + (z : Int))) + ((f (ys + (y : Int))) * (f (zs + (z : Int)))))) (by omega) (fun i => by
                        by_cases hi : i = p + 4 * h.1 506 u + (z : Int)
                        · subst hi
                          rw [up_eq, hf _, if_pos (by omega), if_pos (by omega), hf (ys + (y : Int)), if_neg (by omega), hf (zs + (z : Int)), if_neg (by omega), tS_yes (by omega) (by omega), Int64.add_assoc]
                          congr 2
                          rw [if_pos (by rw [if_neg c_61]; omega)]
                        · rw [up_ne _ _ hi, hf i]
                          by_cases hr : p + 4 * h.1 506 u ≤ i ∧ i < p + 4 * h.1 506 u + 4
                          · rw [if_pos hr, if_pos hr, tS_yes (by omega) (by omega), if_neg (by rw [if_neg c_61]; omega)]; simp
                          · rw [if_neg hr, if_neg hr]) (by omega)
                  ·
                    refine A_iload hG 5 dX12_addTrees_64 rfl ?_
                    refine A_goto hG 71 dX12_addTrees_66 (by decide) ?_
                    refine A_iadd hG dX12_addTrees_71 ?_
                    refine A_dup2 hG dX12_addTrees_72 rfl rfl ?_
                    refine M_lald (v := f ((p + (4 * (h.1 506 u))) + (y : Int))) hG dX12_addTrees_73 k519 n519 (by omega) rfl ?_
                    refine A_aload_n hG 0 dX12_addTrees_74 rfl rfl ?_
                    refine A_getR (r := 519) hG dX12_addTrees_75 fl_X12_53 (by decide) k500 (by decide) rfl ?_
                    refine A_iload_n hG 2 dX12_addTrees_78 rfl rfl ?_
                    refine A_iload hG 5 dX12_addTrees_79 rfl ?_
                    refine A_iadd hG dX12_addTrees_81 ?_
                    refine M_lald (v := f (ys + (y : Int))) hG dX12_addTrees_82 k519 n519 (by omega) rfl ?_
                    refine A_aload_n hG 0 dX12_addTrees_83 rfl rfl ?_
                    refine A_getR (r := 519) hG dX12_addTrees_84 fl_X12_53 (by decide) k500 (by decide) rfl ?_
                    refine A_iload_n hG 3 dX12_addTrees_87 rfl rfl ?_
                    refine A_iload hG 6 dX12_addTrees_88 rfl ?_
                    refine A_iadd hG dX12_addTrees_90 ?_
                    refine M_lald (v := f (zs + (z : Int))) hG dX12_addTrees_91 k519 n519 (by omega) rfl ?_
                    refine A_lmul hG dX12_addTrees_92 ?_
                    refine A_ladd hG dX12_addTrees_93 ?_
                    refine M_last (ll' := [(519, up f ((p + (4 * (h.1 506 u))) + (y : Int)) ((f ((p + (4 * (h.1 506 u))) + (y : Int))) + ((f (ys + (y : Int))) * (f (zs + (z : Int))))))]) hG dX12_addTrees_94 k519 n519 (by omega) rfl ?_
                    refine A_iinc (L' := [(6, vI ((z : Int) + 1)), (0, .ref 500), (1, vI p), (2, vI ys), (3, vI zs), (4, vI u), (5, vI (y : Int))]) hG 6 dX12_addTrees_95 rfl (by decide) rfl ?_
                    refine A_goto hG 12 dX12_addTrees_98 (by decide) ?_
                    refine A_sub hG [1, 2, 3, 4, 5, 6, 0] rfl ?_
                    exact ih_z (z + 1) (up f ((p + (4 * (h.1 506 u))) + (y : Int)) ((f ((p + (4 * (h.1 506 u))) + (y : Int))) + ((f (ys + (y : Int))) * (f (zs + (z : Int)))))) (by omega) (fun i => by
                        by_cases hi : i = p + 4 * h.1 506 u + (y : Int)
                        · subst hi
                          rw [up_eq, hf _, if_pos (by omega), if_pos (by omega), hf (ys + (y : Int)), if_neg (by omega), hf (zs + (z : Int)), if_neg (by omega), tS_yes (by omega) (by omega), Int64.add_assoc]
                          congr 2
                          rw [if_pos (by rw [if_pos c_61]; omega)]
                        · rw [up_ne _ _ hi, hf i]
                          by_cases hr : p + 4 * h.1 506 u ≤ i ∧ i < p + 4 * h.1 506 u + 4
                          · rw [if_pos hr, if_pos hr, tS_yes (by omega) (by omega), if_neg (by rw [if_pos c_61]; omega)]; simp
                          · rw [if_neg hr, if_neg hr]) (by omega)
        refine A_sub hG [1, 2, 3, 4, 5, 6, 0] rfl ?_
        exact z_1 _ 0 f (by omega) hf (Nat.lt_succ_self _)
  refine A_sub hG [1, 2, 3, 4, 5, 0] rfl ?_
  exact y_0 _ 0 (h.2.1 519) (by omega) (fun i => by simp [tS]) (Nat.lt_succ_self _)

end
