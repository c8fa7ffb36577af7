/-! the reference: bars (printed by gen) -/
section
theorem agr_iff {h : AH} {r : Int} (hr : 0 ≤ r) : agrR h r ↔ agG (gR h) r := by
  unfold agrR agG
  rw [(gR_n h).2]
  constructor
  · rintro ⟨h1, h2⟩
    rw [(gR_r ⟨hr, h1⟩).2.2.2.1]
    exact ⟨h1, h2⟩
  · rintro ⟨h1, h2⟩
    rw [(gR_r ⟨hr, h1⟩).2.2.2.1] at h2
    exact ⟨h1, h2⟩
/-- the lesser of two, if the row is READ without it -/
def lesP (g : Gm) (w : Int → Int) (n best S z : Int) : Prop := (z = S ∧ (best = -4 ∨ S < best) ∧ READ g (hasb S) w n) ∨ (z = best ∧ ((best ≠ -4 ∧ best ≤ S) ∨ ¬ READ g (hasb S) w n))
set_option maxHeartbeats 2000000 in
set_option maxRecDepth 20000 in
theorem r_lesser (h : AH) {b t s : Int} (hb : ir b) (ht : ir t) (hs : 0 ≤ s ∧ s ≤ 7) (hG0 : okG (gR h)) (hW0 : okW (gR h) (rowR h s) (h.1 508 s)) (hl : h.1 508 s ≠ 0) : AMet yX12_lesser cX12_lesser 5 (some .int) 3 76 [.ref 500, vI b, vI t, vI s] h (Qi (fun z h' => ∃ f, lesP (gR h) (rowR h s) (h.1 508 s) b t z ∧ h' = hm h [] [(518, f)] [])) := by
  obtain ⟨hb1, hb2⟩ := hb
  obtain ⟨ht1, ht2⟩ := ht
  have hlen := hW0.1
  refine AMet.of (by decide) (Nat.le_of_ble_eq_true rfl) (fun G hM => ?_)
  have hG := hM.cx
  refine A_hm0 (G := G) (L := [(0, .ref 500), (1, vI b), (2, vI t), (3, vI s)]) ?_
  have x_0 : ∀ (x : Int), ((x = 1 ∧ (b = -4 ∨ t < b)) ∨ (x = 0 ∧ b ≠ -4 ∧ b ≤ t)) → G 16 [(0, .ref 500), (1, vI b), (2, vI t), (3, vI s)] [vI x] (hm h [] [] []) := by
    intro x hx
    refine A_istore (L' := [(4, vI x), (0, .ref 500), (1, vI b), (2, vI t), (3, vI s)]) hG dX12_lesser_16 (by decide) rfl ?_
    refine A_iload hG 0 dX12_lesser_18 rfl ?_
    refine A_if_eq hG 36 dX12_lesser_20 (by decide) (by constructor <;> omega) (fun c_20 => ?_) (fun c_20 => ?_)
    ·
      refine A_iload_n hG 2 dX12_lesser_36 rfl rfl ?_
      exact Ret_i hM dX12_lesser_37 (by constructor <;> omega) (⟨h.2.1 518, Or.inr ⟨rfl, Or.inl (by omega)⟩, (hm_selfL h 518).symm⟩)
    ·
      refine A_aload_n hG 1 dX12_lesser_23 rfl rfl ?_
      refine A_iload_n hG 4 dX12_lesser_24 rfl rfl ?_
      refine A_iload_n hG 3 dX12_lesser_25 rfl rfl ?_
      refine C_Vi (as := [vI s, vI t]) (st := []) (k := 500) (c := 11) hG dX12_lesser_26 ml_X12_185 mf_X12_isRead mi_X12_isRead se_X12_isRead rfl (by decide) k500 (r_isRead (hm h [] [] []) (fr := t) (by omega) hG0 hW0) (by decide) (by decide) rfl rfl (Nat.le_of_ble_eq_true rfl) (fun z26 g26 ri_26 hp_26 => ?_)
      obtain ⟨ra_26, rb_26⟩ := ri_26
      have hq_26 : ∃ fx, ((z26 = 1 ∧ 0 < h.1 508 s ∧ READ (gR h) (hasb t) (rowR h s) (h.1 508 s)) ∨ (z26 = 0 ∧ (h.1 508 s = 0 ∨ ¬ READ (gR h) (hasb t) (rowR h s) (h.1 508 s)))) ∧ g26 = hm (hm h [] [] []) [] [(518, fx)] [] := hp_26
      obtain ⟨f26, hz26, rfl⟩ := hq_26
      refine A_hm (la := []) (lb := [(518, f26)]) (lc := []) rfl rfl rfl ?_
      refine A_if_eq hG 36 dX12_lesser_29 (by decide) (by constructor <;> omega) (fun c_29 => ?_) (fun c_29 => ?_)
      ·
        refine A_iload_n hG 2 dX12_lesser_36 rfl rfl ?_
        exact Ret_i hM dX12_lesser_37 (by constructor <;> omega) (⟨f26, Or.inr ⟨rfl, Or.inr (by rcases hz26 with q | q; omega; exact q.2.resolve_left hl)⟩, rfl⟩)
      ·
        refine A_iload_n hG 3 dX12_lesser_32 rfl rfl ?_
        refine A_goto hG 37 dX12_lesser_33 (by decide) ?_
        exact Ret_i hM dX12_lesser_37 (by constructor <;> omega) (⟨f26, Or.inl ⟨rfl, by omega, by rcases hz26 with q | q; exact q.2.2; omega⟩, rfl⟩)
  refine A_iload_n hG 1 dX12_lesser_0 rfl rfl ?_
  refine A_bipush (n := -4) hG dX12_lesser_1 (by decide) ?_
  refine A_icmp_eq hG 11 dX12_lesser_3 (by decide) (by constructor <;> omega) (by constructor <;> omega) (fun c_3 => ?_) (fun c_3 => ?_)
  ·
    refine A_iconst (n := 1) hG dX12_lesser_11 ?_
    refine A_goto hG 16 dX12_lesser_12 (by decide) ?_
    refine A_sub hG [0, 1, 2, 3] rfl ?_
    exact x_0 1 (by omega)
  ·
    refine A_iload_n hG 2 dX12_lesser_6 rfl rfl ?_
    refine A_iload_n hG 1 dX12_lesser_7 rfl rfl ?_
    refine A_icmp_ge hG 15 dX12_lesser_8 (by decide) (by constructor <;> omega) (by constructor <;> omega) (fun c_8 => ?_) (fun c_8 => ?_)
    ·
      refine A_iconst (n := 0) hG dX12_lesser_15 ?_
      refine A_sub hG [0, 1, 2, 3] rfl ?_
      exact x_0 0 (by omega)
    ·
      refine A_iconst (n := 1) hG dX12_lesser_11 ?_
      refine A_goto hG 16 dX12_lesser_12 (by decide) ?_
      refine A_sub hG [0, 1, 2, 3] rfl ?_
      exact x_0 1 (by omega)

theorem bst_out {g : Gm} {w : Int → Int} {n m best a : Int} {D D' : Int → Int → Int → Prop} (h : bst g w n m D best) (hn : ¬ agG g a) (hD : ∀ a' b' c', vs m a' b' c' → D' a' b' c' → D a' b' c' ∨ a' = a) : bst g w n m D' best := by
  refine ⟨h.1, fun a' b' c' h1 h2 h3 h4 => ?_⟩
  rcases hD a' b' c' h1 h2 with q | rfl
  · exact h.2 a' b' c' h1 q h3 h4
  · exact absurd h3.1 hn
set_option maxHeartbeats 2000000 in
set_option maxRecDepth 20000 in
theorem r_bars (h : AH) {s : Int} (hs : ir s) (hG0 : okG (gR h)) (hW : ∀ s, 0 ≤ s → s ≤ 7 → okW (gR h) (rowR h s) (h.1 508 s)) : AMet yX12_bars cX12_bars 9 (some .int) 4 100 [.ref 500, vI s] h (Qi (fun z h' => ∃ f, ((z = -1 ∧ (s < 0 ∨ 7 < s)) ∨ (z = -2 ∧ (0 ≤ s ∧ s ≤ 7) ∧ h.1 508 s = 0) ∨ (z = 0 ∧ (0 ≤ s ∧ s ≤ 7) ∧ h.1 508 s ≠ 0 ∧ READ (gR h) (hasb 0) (rowR h s) (h.1 508 s)) ∨ ((0 ≤ s ∧ s ≤ 7) ∧ h.1 508 s ≠ 0 ∧ ¬ READ (gR h) (hasb 0) (rowR h s) (h.1 508 s) ∧ barsV (gR h) (rowR h s) (h.1 508 s) z)) ∧ h' = hm h [] [(518, f)] [])) := by
  obtain ⟨hs1, hs2⟩ := hs
  have hnr := hG0.2.1
  rw [(gR_n h).2] at hnr
  refine AMet.of (by decide) (Nat.le_of_ble_eq_true rfl) (fun G hM => ?_)
  have hG := hM.cx
  refine A_hm0 (G := G) (L := [(0, .ref 500), (1, vI s)]) ?_
  refine A_iload_n hG 1 dX12_bars_0 rfl rfl ?_
  refine C_Si (as := [vI s]) (st := []) hG dX12_bars_1 ml_X12_134 mf_X12_isSentence ms_X12_isSentence (r_isSentence (hm h [] [] []) (by constructor <;> omega)) (by decide) (by decide) rfl rfl (Nat.le_of_ble_eq_true rfl) (fun z1 g1 ri_1 hp_1 => ?_)
  obtain ⟨ra_1, rb_1⟩ := ri_1
  obtain ⟨hz1, rfl⟩ := hp_1
  refine A_if_ne hG 9 dX12_bars_4 (by decide) (by constructor <;> omega) (fun c_4 => ?_) (fun c_4 => ?_)
  ·
    have hW0 := hW s (by omega) (by omega)
    have hlen := hW0.1
    refine A_aload_n hG 0 dX12_bars_9 rfl rfl ?_
    refine A_getR (r := 508) hG dX12_bars_10 fl_X12_28 (by decide) k500 (by decide) rfl ?_
    refine A_iload_n hG 1 dX12_bars_13 rfl rfl ?_
    refine M_iald (v := h.1 508 s) hG dX12_bars_14 k508 n508 (by omega) rfl (fun ⟨ra_14, rb_14⟩ => ?_)
    refine A_if_ne hG 21 dX12_bars_15 (by decide) (by constructor <;> omega) (fun c_15 => ?_) (fun c_15 => ?_)
    ·
      refine A_aload_n hG 0 dX12_bars_21 rfl rfl ?_
      refine A_iload_n hG 1 dX12_bars_22 rfl rfl ?_
      refine A_iconst (n := 0) hG dX12_bars_23 ?_
      refine C_Vi (as := [vI s, vI 0]) (st := []) (k := 500) (c := 11) hG dX12_bars_24 ml_X12_185 mf_X12_isRead mi_X12_isRead se_X12_isRead rfl (by decide) k500 (r_isRead (hm h [] [] []) (fr := 0) (by omega) hG0 hW0) (by decide) (by decide) rfl rfl (Nat.le_of_ble_eq_true rfl) (fun z24 g24 ri_24 hp_24 => ?_)
      obtain ⟨ra_24, rb_24⟩ := ri_24
      have hq_24 : ∃ fx, ((z24 = 1 ∧ 0 < h.1 508 s ∧ READ (gR h) (hasb 0) (rowR h s) (h.1 508 s)) ∨ (z24 = 0 ∧ (h.1 508 s = 0 ∨ ¬ READ (gR h) (hasb 0) (rowR h s) (h.1 508 s)))) ∧ g24 = hm (hm h [] [] []) [] [(518, fx)] [] := hp_24
      obtain ⟨f24, hz24, rfl⟩ := hq_24
      refine A_hm (la := []) (lb := [(518, f24)]) (lc := []) rfl rfl rfl ?_
      refine A_if_eq hG 32 dX12_bars_27 (by decide) (by constructor <;> omega) (fun c_27 => ?_) (fun c_27 => ?_)
      ·
        have hnR : ¬ READ (gR h) (hasb 0) (rowR h s) (h.1 508 s) := (hz24.resolve_left (fun q => by omega)).2.resolve_left c_15
        refine A_iconst (n := 1) hG dX12_bars_32 ?_
        refine A_istore_n (L' := [(2, vI 1), (0, .ref 500), (1, vI s)]) hG dX12_bars_33 rfl (by decide) rfl ?_
        have m_2 : ∀ fu : Nat, ∀ (m : Int) (f : Int → Int64), (1 ≤ m ∧ m ≤ 4) → (∀ m', 1 ≤ m' → m' < m → ∀ S, ¬ fr (gR h) (rowR h s) (h.1 508 s) m' S) → ((4 - m).toNat) < fu → G 34 [(0, .ref 500), (1, vI s), (2, vI m)] [] (hm h [] [(518, f)] []) := by
          intro fu
          induction fu with
          | zero => intro m f hm0 hno hfu; exact absurd hfu (Nat.not_lt_zero _)
          | succ fu ih_m =>
            intro m f hm0 hno hfu
            refine A_iload_n hG 2 dX12_bars_34 rfl rfl ?_
            refine A_iconst (n := 3) hG dX12_bars_35 ?_
            refine A_icmp_gt hG 226 dX12_bars_36 (by decide) (by constructor <;> omega) (by constructor <;> omega) (fun c_36 => ?_) (fun c_36 => ?_)
            ·
              refine A_bipush (n := -4) hG dX12_bars_226 (by decide) ?_
              exact Ret_i hM dX12_bars_228 (by constructor <;> omega) (⟨f, Or.inr (Or.inr (Or.inr ⟨by omega, c_15, hnR, Or.inr ⟨rfl, fun q q1 q2 => hno q q1 (by omega)⟩⟩)), rfl⟩)
            ·
              refine A_bipush (n := -4) hG dX12_bars_39 (by decide) ?_
              refine A_istore_n (L' := [(3, vI (-4)), (0, .ref 500), (1, vI s), (2, vI m)]) hG dX12_bars_41 rfl (by decide) rfl ?_
              refine A_iconst (n := 0) hG dX12_bars_42 ?_
              refine A_istore (L' := [(4, vI 0), (3, vI (-4)), (0, .ref 500), (1, vI s), (2, vI m)]) hG dX12_bars_43 (by decide) rfl ?_
              have a_3 : ∀ fu : Nat, ∀ (x : Int) (a : Int) (f : Int → Int64), (0 ≤ a ∧ a ≤ 24) → (-4 ≤ x ∧ x < 33554432) → (bst (gR h) (rowR h s) (h.1 508 s) m (fun a' b' c' => a' < a) x) → ((24 - a).toNat) < fu → G 45 [(0, .ref 500), (1, vI s), (2, vI m), (3, vI x), (4, vI a)] [] (hm h [] [(518, f)] []) := by
                intro fu
                induction fu with
                | zero => intro x a f ha hxr hb hfu; exact absurd hfu (Nat.not_lt_zero _)
                | succ fu ih_a =>
                  intro x a f ha hxr hb hfu
                  refine A_iload hG 4 dX12_bars_45 rfl ?_
                  refine A_bipush (n := 24) hG dX12_bars_47 (by decide) ?_
                  refine A_icmp_ge hG 212 dX12_bars_49 (by decide) (by constructor <;> omega) (by constructor <;> omega) (fun c_49 => ?_) (fun c_49 => ?_)
                  ·
                    have hE := bst_end hb (fun a' b' c' q => by have := q.1; omega)
                    refine A_iload_n hG 3 dX12_bars_212 rfl rfl ?_
                    refine A_bipush (n := -4) hG dX12_bars_213 (by decide) ?_
                    refine A_icmp_eq hG 220 dX12_bars_215 (by decide) (by constructor <;> omega) (by constructor <;> omega) (fun c_215 => ?_) (fun c_215 => ?_)
                    ·
                      refine A_iinc (L' := [(2, vI (m + 1)), (0, .ref 500), (1, vI s), (3, vI x), (4, vI a)]) hG 2 dX12_bars_220 rfl (by decide) rfl ?_
                      refine A_goto hG 34 dX12_bars_223 (by decide) ?_
                      refine A_sub hG [1, 2, 0] rfl ?_
                      exact ih_m (m + 1) f (by omega) (fun q q1 q2 => by
                          by_cases hq : q = m
                          · rw [hq]; exact (hE.resolve_right (fun r => r.1 c_215)).2
                          · exact hno q q1 (by omega)) (by omega)
                    ·
                      refine A_iload_n hG 3 dX12_bars_218 rfl rfl ?_
                      exact Ret_i hM dX12_bars_219 (by constructor <;> omega) (⟨f, Or.inr (Or.inr (Or.inr ⟨by omega, c_15, hnR, Or.inl ⟨m, by omega, by omega, hno, (hE.resolve_left (fun q => c_215 q.1)).2⟩⟩)), rfl⟩)
                  ·
                    refine A_iload_n hG 2 dX12_bars_52 rfl rfl ?_
                    refine A_iconst (n := 1) hG dX12_bars_53 ?_
                    refine A_icmp_le hG 64 dX12_bars_54 (by decide) (by constructor <;> omega) (by constructor <;> omega) (fun c_54 => ?_) (fun c_54 => ?_)
                    ·
                      refine A_bipush (n := 23) hG dX12_bars_64 (by decide) ?_
                      refine A_istore (L' := [(5, vI 23), (0, .ref 500), (1, vI s), (2, vI m), (3, vI x), (4, vI a)]) hG dX12_bars_66 (by decide) rfl ?_
                      have b_4 : ∀ fu : Nat, ∀ (x : Int) (b : Int) (f : Int → Int64), ((1 < m → a < b ∧ b ≤ 24) ∧ (¬ 1 < m → 23 ≤ b ∧ b ≤ 24)) → (-4 ≤ x ∧ x < 33554432) → (bst (gR h) (rowR h s) (h.1 508 s) m (fun a' b' c' => a' < a ∨ (a' = a ∧ b' < b)) x) → ((25 - b).toNat) < fu → G 68 [(0, .ref 500), (1, vI s), (2, vI m), (3, vI x), (4, vI a), (5, vI b)] [] (hm h [] [(518, f)] []) := by
                        intro fu
                        induction fu with
                        | zero => intro x b f hb1 hxr hb hfu; exact absurd hfu (Nat.not_lt_zero _)
                        | succ fu ih_b =>
                          intro x b f hb1 hxr hb hfu
                          refine A_iload hG 5 dX12_bars_68 rfl ?_
                          refine A_bipush (n := 24) hG dX12_bars_70 (by decide) ?_
                          refine A_icmp_ge hG 206 dX12_bars_72 (by decide) (by constructor <;> omega) (by constructor <;> omega) (fun c_72 => ?_) (fun c_72 => ?_)
                          ·
                            refine A_iinc (L' := [(4, vI (a + 1)), (0, .ref 500), (1, vI s), (2, vI m), (3, vI x), (5, vI b)]) hG 4 dX12_bars_206 rfl (by decide) rfl ?_
                            refine A_goto hG 45 dX12_bars_209 (by decide) ?_
                            refine A_sub hG [1, 2, 3, 4, 0] rfl ?_
                            exact ih_a x (a + 1) f (by omega) (by omega) (by first | exact bst_out (a := a) hb (fun q => (hz78.resolve_left (fun q2 => by omega)).2 q) (fun a' b' c' q q1 => by omega) | exact bst_sub hb (fun a' b' c' q q1 => by obtain ⟨q2, q3, q4, q5, q6⟩ := q; omega)) (by omega)
                          ·
                            refine A_aload_n hG 0 dX12_bars_75 rfl rfl ?_
                            refine A_iload hG 4 dX12_bars_76 rfl ?_
                            refine C_Vi (as := [vI a]) (st := []) (k := 500) (c := 11) hG dX12_bars_78 ml_X12_218 mf_X12_isAgreeing mi_X12_isAgreeing se_X12_isAgreeing rfl (by decide) k500 (r_isAgreeing (hm h [] [(518, f)] []) (r := a) (by omega) hnr) (by decide) (by decide) rfl rfl (Nat.le_of_ble_eq_true rfl) (fun z78 g78 ri_78 hp_78 => ?_)
                            obtain ⟨ra_78, rb_78⟩ := ri_78
                            have hq_78 : ((z78 = 1 ∧ agrR h a) ∨ (z78 = 0 ∧ ¬ agrR h a)) ∧ g78 = hm h [] [(518, f)] [] := hp_78
                            obtain ⟨hz78, rfl⟩ := hq_78
                            rw [agr_iff (by omega)] at hz78
                            refine A_if_eq hG 206 dX12_bars_81 (by decide) (by constructor <;> omega) (fun c_81 => ?_) (fun c_81 => ?_)
                            ·
                              refine A_iinc (L' := [(4, vI (a + 1)), (0, .ref 500), (1, vI s), (2, vI m), (3, vI x), (5, vI b)]) hG 4 dX12_bars_206 rfl (by decide) rfl ?_
                              refine A_goto hG 45 dX12_bars_209 (by decide) ?_
                              refine A_sub hG [1, 2, 3, 4, 0] rfl ?_
                              exact ih_a x (a + 1) f (by omega) (by omega) (by first | exact bst_out (a := a) hb (fun q => (hz78.resolve_left (fun q2 => by omega)).2 q) (fun a' b' c' q q1 => by omega) | exact bst_sub hb (fun a' b' c' q q1 => by obtain ⟨q2, q3, q4, q5, q6⟩ := q; omega)) (by omega)
                            ·
                              refine A_iload_n hG 2 dX12_bars_84 rfl rfl ?_
                              refine A_iconst (n := 2) hG dX12_bars_85 ?_
                              refine A_icmp_le hG 96 dX12_bars_86 (by decide) (by constructor <;> omega) (by constructor <;> omega) (fun c_86 => ?_) (fun c_86 => ?_)
                              ·
                                refine A_bipush (n := 23) hG dX12_bars_96 (by decide) ?_
                                refine A_istore (L' := [(6, vI 23), (0, .ref 500), (1, vI s), (2, vI m), (3, vI x), (4, vI a), (5, vI b)]) hG dX12_bars_98 (by decide) rfl ?_
                                have c_6 : ∀ fu : Nat, ∀ (x : Int) (c : Int) (f : Int → Int64), ((2 < m → b < c ∧ c ≤ 24) ∧ (¬ 2 < m → 23 ≤ c ∧ c ≤ 24)) → (-4 ≤ x ∧ x < 33554432) → (bst (gR h) (rowR h s) (h.1 508 s) m (fun a' b' c' => a' < a ∨ (a' = a ∧ (b' < b ∨ (b' = b ∧ c' < c)))) x) → ((25 - c).toNat) < fu → G 100 [(0, .ref 500), (1, vI s), (2, vI m), (3, vI x), (4, vI a), (5, vI b), (6, vI c)] [] (hm h [] [(518, f)] []) := by
                                  intro fu
                                  induction fu with
                                  | zero => intro x c f hc1 hxr hb hfu; exact absurd hfu (Nat.not_lt_zero _)
                                  | succ fu ih_c =>
                                    intro x c f hc1 hxr hb hfu
                                    refine A_iload hG 6 dX12_bars_100 rfl ?_
                                    refine A_bipush (n := 24) hG dX12_bars_102 (by decide) ?_
                                    refine A_icmp_ge hG 200 dX12_bars_104 (by decide) (by constructor <;> omega) (by constructor <;> omega) (fun c_104 => ?_) (fun c_104 => ?_)
                                    ·
                                      refine A_iinc (L' := [(5, vI (b + 1)), (0, .ref 500), (1, vI s), (2, vI m), (3, vI x), (4, vI a), (6, vI c)]) hG 5 dX12_bars_200 rfl (by decide) rfl ?_
                                      refine A_goto hG 68 dX12_bars_203 (by decide) ?_
                                      refine A_sub hG [1, 2, 3, 4, 5, 0] rfl ?_
                                      exact ih_b x (b + 1) f (by omega) (by omega) (bst_sub hb (fun a' b' c' q q1 => by obtain ⟨q2, q3, q4, q5, q6⟩ := q; omega)) (by omega)
                                    ·
                                      have hv : vs m a b c := ⟨by omega, by omega, by omega, by omega, by omega⟩
                                      have y_7 : ∀ (y : Int), ((y = 1 ∧ agS (gR h) m a b c) ∨ (y = 0 ∧ ¬ agS (gR h) m a b c)) → G 140 [(0, .ref 500), (1, vI s), (2, vI m), (3, vI x), (4, vI a), (5, vI b), (6, vI c)] [vI y] (hm h [] [(518, f)] []) := by
                                        intro y hy
                                        refine A_istore (L' := [(7, vI y), (0, .ref 500), (1, vI s), (2, vI m), (3, vI x), (4, vI a), (5, vI b), (6, vI c)]) hG dX12_bars_140 (by decide) rfl ?_
                                        have t_8 : ∀ (t : Int), (t = sOf m a b c) → G 174 [(0, .ref 500), (1, vI s), (2, vI m), (3, vI x), (4, vI a), (5, vI b), (6, vI c), (7, vI y)] [vI t] (hm h [] [(518, f)] []) := by
                                          intro t ht
                                          refine A_istore (L' := [(8, vI t), (0, .ref 500), (1, vI s), (2, vI m), (3, vI x), (4, vI a), (5, vI b), (6, vI c), (7, vI y)]) hG dX12_bars_174 (by decide) rfl ?_
                                          have e_9 : ∀ (y1 : Int) (f : Int → Int64), (-4 ≤ y1 ∧ y1 < 33554432) → (bst (gR h) (rowR h s) (h.1 508 s) m (fun a' b' c' => a' < a ∨ (a' = a ∧ (b' < b ∨ (b' = b ∧ c' < c + 1)))) y1) → G 193 [(0, .ref 500), (1, vI s), (2, vI m), (4, vI a), (5, vI b), (6, vI c)] [vI y1] (hm h [] [(518, f)] []) := by
                                            intro y1 f hyr hy
                                            refine A_istore_n (L' := [(3, vI y1), (0, .ref 500), (1, vI s), (2, vI m), (4, vI a), (5, vI b), (6, vI c)]) hG dX12_bars_193 rfl (by decide) rfl ?_
                                            refine A_iinc (L' := [(6, vI (c + 1)), (3, vI y1), (0, .ref 500), (1, vI s), (2, vI m), (4, vI a), (5, vI b)]) hG 6 dX12_bars_194 rfl (by decide) rfl ?_
                                            refine A_goto hG 100 dX12_bars_197 (by decide) ?_
                                            refine A_sub hG [2, 3, 4, 1, 5, 6, 0] rfl ?_
                                            exact ih_c y1 (c + 1) f (by omega) hyr hy (by omega)
                                          have htp := sOf_pos (m := m) (a := a) (b := b) (c := c)
                                          have htt := sOf_top hv
                                          refine A_iload hG 8 dX12_bars_176 rfl ?_
                                          refine A_if_eq hG 192 dX12_bars_178 (by decide) (by constructor <;> omega) (fun c_178 => ?_) (fun c_178 => ?_)
                                          ·
                                            refine A_iload_n hG 4 dX12_bars_192 rfl rfl ?_
                                            refine A_sub hG [1, 2, 3, 5, 6, 7] rfl ?_
                                            exact e_9 x f hxr (bst_no (a := a) (b := b) (c := c) hb (hy.resolve_left (fun q => by omega)).2 (fun a' b' c' q q1 => by omega))
                                          ·
                                            refine A_aload_n hG 1 dX12_bars_181 rfl rfl ?_
                                            refine A_iload_n hG 4 dX12_bars_182 rfl rfl ?_
                                            refine A_iload hG 0 dX12_bars_183 rfl ?_
                                            refine A_iload_n hG 2 dX12_bars_185 rfl rfl ?_
                                            refine C_Vi (as := [vI x, vI t, vI s]) (st := []) (k := 500) (c := 11) hG dX12_bars_186 ml_X12_221 mf_X12_lesser mi_X12_lesser se_X12_lesser rfl (by decide) k500 (r_lesser (hm h [] [(518, f)] []) (b := x) (t := t) (s := s) (by constructor <;> omega) (by constructor <;> omega) (by omega) hG0 hW0 c_15) (by decide) (by decide) rfl rfl (Nat.le_of_ble_eq_true rfl) (fun z186 g186 ri_186 hp_186 => ?_)
                                            obtain ⟨ra_186, rb_186⟩ := ri_186
                                            have hq_186 : ∃ fx, lesP (gR h) (rowR h s) (h.1 508 s) x t z186 ∧ g186 = hm (hm h [] [(518, f)] []) [] [(518, fx)] [] := hp_186
                                            obtain ⟨f186, hz186, rfl⟩ := hq_186
                                            refine A_hm (la := []) (lb := [(518, f186)]) (lc := []) rfl rfl rfl ?_
                                            refine A_goto hG 193 dX12_bars_189 (by decide) ?_
                                            refine A_sub hG [1, 2, 3, 5, 6, 7] rfl ?_
                                            exact e_9 z186 f186 (by rcases hz186 with q | q <;> omega) (bst_try (a := a) (b := b) (c := c) hb hv (hy.resolve_right (fun q => by omega)).2 (by rw [ht] at hz186; exact hz186) (fun a' b' c' q q1 => by omega))
                                        refine A_iconst (n := 1) hG dX12_bars_142 ?_
                                        refine A_iload hG 5 dX12_bars_143 rfl ?_
                                        refine A_ishl hG dX12_bars_145 ?_
                                        refine A_iload_n hG 3 dX12_bars_146 rfl rfl ?_
                                        refine A_iconst (n := 1) hG dX12_bars_147 ?_
                                        refine A_icmp_le hG 158 dX12_bars_148 (by decide) (by constructor <;> omega) (by constructor <;> omega) (fun c_148 => ?_) (fun c_148 => ?_)
                                        ·
                                          refine A_iconst (n := 0) hG dX12_bars_158 ?_
                                          refine A_ior hG dX12_bars_159 ?_
                                          refine A_iload_n hG 3 dX12_bars_160 rfl rfl ?_
                                          refine A_iconst (n := 2) hG dX12_bars_161 ?_
                                          refine A_icmp_le hG 172 dX12_bars_162 (by decide) (by constructor <;> omega) (by constructor <;> omega) (fun c_162 => ?_) (fun c_162 => ?_)
                                          ·
                                            refine A_iconst (n := 0) hG dX12_bars_172 ?_
                                            refine A_ior hG dX12_bars_173 ?_
                                            refine A_sub hG [1, 2, 3, 4, 5, 6, 7, 0] rfl ?_
                                            exact t_8 (ior (ior (ishl 1 a) 0) 0) (set_1 hv (by omega))
                                          ·
                                            refine A_iconst (n := 1) hG dX12_bars_165 ?_
                                            refine A_iload hG 7 dX12_bars_166 rfl ?_
                                            refine A_ishl hG dX12_bars_168 ?_
                                            refine A_goto hG 173 dX12_bars_169 (by decide) ?_
                                            refine A_ior hG dX12_bars_173 ?_
                                            refine A_sub hG [1, 2, 3, 4, 5, 6, 7, 0] rfl ?_
                                            exact t_8 (ior (ior (ishl 1 a) 0) (ishl 1 c)) (absurd c_148 (by omega))
                                        ·
                                          refine A_iconst (n := 1) hG dX12_bars_151 ?_
                                          refine A_iload hG 6 dX12_bars_152 rfl ?_
                                          refine A_ishl hG dX12_bars_154 ?_
                                          refine A_goto hG 159 dX12_bars_155 (by decide) ?_
                                          refine A_ior hG dX12_bars_159 ?_
                                          refine A_iload_n hG 3 dX12_bars_160 rfl rfl ?_
                                          refine A_iconst (n := 2) hG dX12_bars_161 ?_
                                          refine A_icmp_le hG 172 dX12_bars_162 (by decide) (by constructor <;> omega) (by constructor <;> omega) (fun c_162 => ?_) (fun c_162 => ?_)
                                          ·
                                            refine A_iconst (n := 0) hG dX12_bars_172 ?_
                                            refine A_ior hG dX12_bars_173 ?_
                                            refine A_sub hG [1, 2, 3, 4, 5, 6, 7, 0] rfl ?_
                                            exact t_8 (ior (ior (ishl 1 a) (ishl 1 b)) 0) (set_2 hv (by omega) (by omega))
                                          ·
                                            refine A_iconst (n := 1) hG dX12_bars_165 ?_
                                            refine A_iload hG 7 dX12_bars_166 rfl ?_
                                            refine A_ishl hG dX12_bars_168 ?_
                                            refine A_goto hG 173 dX12_bars_169 (by decide) ?_
                                            refine A_ior hG dX12_bars_173 ?_
                                            refine A_sub hG [1, 2, 3, 4, 5, 6, 7, 0] rfl ?_
                                            exact t_8 (ior (ior (ishl 1 a) (ishl 1 b)) (ishl 1 c)) (set_3 hv (by omega))
                                      refine A_iload_n hG 2 dX12_bars_107 rfl rfl ?_
                                      refine A_iconst (n := 2) hG dX12_bars_108 ?_
                                      refine A_icmp_lt hG 121 dX12_bars_109 (by decide) (by constructor <;> omega) (by constructor <;> omega) (fun c_109 => ?_) (fun c_109 => ?_)
                                      ·
                                        refine A_iload_n hG 2 dX12_bars_121 rfl rfl ?_
                                        refine A_iconst (n := 3) hG dX12_bars_122 ?_
                                        refine A_icmp_lt hG 135 dX12_bars_123 (by decide) (by constructor <;> omega) (by constructor <;> omega) (fun c_123 => ?_) (fun c_123 => ?_)
                                        ·
                                          refine A_iconst (n := 1) hG dX12_bars_135 ?_
                                          refine A_goto hG 140 dX12_bars_136 (by decide) ?_
                                          refine A_sub hG [0, 1, 2, 3, 4, 5, 6] rfl ?_
                                          exact y_7 1 (by first | exact Or.inl ⟨rfl, (hz78.resolve_right (fun q => by omega)).2, fun q => by first | exact (hz115.resolve_right (fun q => by omega)).2 | (exfalso; omega), fun q => by first | exact (hz129.resolve_right (fun q => by omega)).2 | (exfalso; omega)⟩ | exact Or.inr ⟨rfl, fun q => (hz129.resolve_left (fun q => by omega)).2 (q.2.2 (by omega))⟩ | exact Or.inr ⟨rfl, fun q => (hz115.resolve_left (fun q => by omega)).2 (q.2.1 (by omega))⟩)
                                        ·
                                          refine A_aload_n hG 0 dX12_bars_126 rfl rfl ?_
                                          refine A_iload hG 6 dX12_bars_127 rfl ?_
                                          refine C_Vi (as := [vI c]) (st := []) (k := 500) (c := 11) hG dX12_bars_129 ml_X12_218 mf_X12_isAgreeing mi_X12_isAgreeing se_X12_isAgreeing rfl (by decide) k500 (r_isAgreeing (hm h [] [(518, f)] []) (r := c) (by omega) hnr) (by decide) (by decide) rfl rfl (Nat.le_of_ble_eq_true rfl) (fun z129 g129 ri_129 hp_129 => ?_)
                                          obtain ⟨ra_129, rb_129⟩ := ri_129
                                          have hq_129 : ((z129 = 1 ∧ agrR h c) ∨ (z129 = 0 ∧ ¬ agrR h c)) ∧ g129 = hm h [] [(518, f)] [] := hp_129
                                          obtain ⟨hz129, rfl⟩ := hq_129
                                          rw [agr_iff (by omega)] at hz129
                                          refine A_if_eq hG 139 dX12_bars_132 (by decide) (by constructor <;> omega) (fun c_132 => ?_) (fun c_132 => ?_)
                                          ·
                                            refine A_iconst (n := 0) hG dX12_bars_139 ?_
                                            refine A_sub hG [0, 1, 2, 3, 4, 5, 6] rfl ?_
                                            exact y_7 0 (by first | exact Or.inl ⟨rfl, (hz78.resolve_right (fun q => by omega)).2, fun q => by first | exact (hz115.resolve_right (fun q => by omega)).2 | (exfalso; omega), fun q => by first | exact (hz129.resolve_right (fun q => by omega)).2 | (exfalso; omega)⟩ | exact Or.inr ⟨rfl, fun q => (hz129.resolve_left (fun q => by omega)).2 (q.2.2 (by omega))⟩ | exact Or.inr ⟨rfl, fun q => (hz115.resolve_left (fun q => by omega)).2 (q.2.1 (by omega))⟩)
                                          ·
                                            refine A_iconst (n := 1) hG dX12_bars_135 ?_
                                            refine A_goto hG 140 dX12_bars_136 (by decide) ?_
                                            refine A_sub hG [0, 1, 2, 3, 4, 5, 6] rfl ?_
                                            exact y_7 1 (by first | exact Or.inl ⟨rfl, (hz78.resolve_right (fun q => by omega)).2, fun q => by first | exact (hz115.resolve_right (fun q => by omega)).2 | (exfalso; omega), fun q => by first | exact (hz129.resolve_right (fun q => by omega)).2 | (exfalso; omega)⟩ | exact Or.inr ⟨rfl, fun q => (hz129.resolve_left (fun q => by omega)).2 (q.2.2 (by omega))⟩ | exact Or.inr ⟨rfl, fun q => (hz115.resolve_left (fun q => by omega)).2 (q.2.1 (by omega))⟩)
                                      ·
                                        refine A_aload_n hG 0 dX12_bars_112 rfl rfl ?_
                                        refine A_iload hG 5 dX12_bars_113 rfl ?_
                                        refine C_Vi (as := [vI b]) (st := []) (k := 500) (c := 11) hG dX12_bars_115 ml_X12_218 mf_X12_isAgreeing mi_X12_isAgreeing se_X12_isAgreeing rfl (by decide) k500 (r_isAgreeing (hm h [] [(518, f)] []) (r := b) (by omega) hnr) (by decide) (by decide) rfl rfl (Nat.le_of_ble_eq_true rfl) (fun z115 g115 ri_115 hp_115 => ?_)
                                        obtain ⟨ra_115, rb_115⟩ := ri_115
                                        have hq_115 : ((z115 = 1 ∧ agrR h b) ∨ (z115 = 0 ∧ ¬ agrR h b)) ∧ g115 = hm h [] [(518, f)] [] := hp_115
                                        obtain ⟨hz115, rfl⟩ := hq_115
                                        rw [agr_iff (by omega)] at hz115
                                        refine A_if_eq hG 139 dX12_bars_118 (by decide) (by constructor <;> omega) (fun c_118 => ?_) (fun c_118 => ?_)
                                        ·
                                          refine A_iconst (n := 0) hG dX12_bars_139 ?_
                                          refine A_sub hG [0, 1, 2, 3, 4, 5, 6] rfl ?_
                                          exact y_7 0 (by first | exact Or.inl ⟨rfl, (hz78.resolve_right (fun q => by omega)).2, fun q => by first | exact (hz115.resolve_right (fun q => by omega)).2 | (exfalso; omega), fun q => by first | exact (hz129.resolve_right (fun q => by omega)).2 | (exfalso; omega)⟩ | exact Or.inr ⟨rfl, fun q => (hz129.resolve_left (fun q => by omega)).2 (q.2.2 (by omega))⟩ | exact Or.inr ⟨rfl, fun q => (hz115.resolve_left (fun q => by omega)).2 (q.2.1 (by omega))⟩)
                                        ·
                                          refine A_iload_n hG 2 dX12_bars_121 rfl rfl ?_
                                          refine A_iconst (n := 3) hG dX12_bars_122 ?_
                                          refine A_icmp_lt hG 135 dX12_bars_123 (by decide) (by constructor <;> omega) (by constructor <;> omega) (fun c_123 => ?_) (fun c_123 => ?_)
                                          ·
                                            refine A_iconst (n := 1) hG dX12_bars_135 ?_
                                            refine A_goto hG 140 dX12_bars_136 (by decide) ?_
                                            refine A_sub hG [0, 1, 2, 3, 4, 5, 6] rfl ?_
                                            exact y_7 1 (by first | exact Or.inl ⟨rfl, (hz78.resolve_right (fun q => by omega)).2, fun q => by first | exact (hz115.resolve_right (fun q => by omega)).2 | (exfalso; omega), fun q => by first | exact (hz129.resolve_right (fun q => by omega)).2 | (exfalso; omega)⟩ | exact Or.inr ⟨rfl, fun q => (hz129.resolve_left (fun q => by omega)).2 (q.2.2 (by omega))⟩ | exact Or.inr ⟨rfl, fun q => (hz115.resolve_left (fun q => by omega)).2 (q.2.1 (by omega))⟩)
                                          ·
                                            refine A_aload_n hG 0 dX12_bars_126 rfl rfl ?_
                                            refine A_iload hG 6 dX12_bars_127 rfl ?_
                                            refine C_Vi (as := [vI c]) (st := []) (k := 500) (c := 11) hG dX12_bars_129 ml_X12_218 mf_X12_isAgreeing mi_X12_isAgreeing se_X12_isAgreeing rfl (by decide) k500 (r_isAgreeing (hm h [] [(518, f)] []) (r := c) (by omega) hnr) (by decide) (by decide) rfl rfl (Nat.le_of_ble_eq_true rfl) (fun z129 g129 ri_129 hp_129 => ?_)
                                            obtain ⟨ra_129, rb_129⟩ := ri_129
                                            have hq_129 : ((z129 = 1 ∧ agrR h c) ∨ (z129 = 0 ∧ ¬ agrR h c)) ∧ g129 = hm h [] [(518, f)] [] := hp_129
                                            obtain ⟨hz129, rfl⟩ := hq_129
                                            rw [agr_iff (by omega)] at hz129
                                            refine A_if_eq hG 139 dX12_bars_132 (by decide) (by constructor <;> omega) (fun c_132 => ?_) (fun c_132 => ?_)
                                            ·
                                              refine A_iconst (n := 0) hG dX12_bars_139 ?_
                                              refine A_sub hG [0, 1, 2, 3, 4, 5, 6] rfl ?_
                                              exact y_7 0 (by first | exact Or.inl ⟨rfl, (hz78.resolve_right (fun q => by omega)).2, fun q => by first | exact (hz115.resolve_right (fun q => by omega)).2 | (exfalso; omega), fun q => by first | exact (hz129.resolve_right (fun q => by omega)).2 | (exfalso; omega)⟩ | exact Or.inr ⟨rfl, fun q => (hz129.resolve_left (fun q => by omega)).2 (q.2.2 (by omega))⟩ | exact Or.inr ⟨rfl, fun q => (hz115.resolve_left (fun q => by omega)).2 (q.2.1 (by omega))⟩)
                                            ·
                                              refine A_iconst (n := 1) hG dX12_bars_135 ?_
                                              refine A_goto hG 140 dX12_bars_136 (by decide) ?_
                                              refine A_sub hG [0, 1, 2, 3, 4, 5, 6] rfl ?_
                                              exact y_7 1 (by first | exact Or.inl ⟨rfl, (hz78.resolve_right (fun q => by omega)).2, fun q => by first | exact (hz115.resolve_right (fun q => by omega)).2 | (exfalso; omega), fun q => by first | exact (hz129.resolve_right (fun q => by omega)).2 | (exfalso; omega)⟩ | exact Or.inr ⟨rfl, fun q => (hz129.resolve_left (fun q => by omega)).2 (q.2.2 (by omega))⟩ | exact Or.inr ⟨rfl, fun q => (hz115.resolve_left (fun q => by omega)).2 (q.2.1 (by omega))⟩)
                                refine A_sub hG [1, 2, 3, 4, 5, 6, 0] rfl ?_
                                exact c_6 _ x 23 f (by omega) (by omega) (bst_sub hb (fun a' b' c' q q1 => by obtain ⟨q2, q3, q4, q5, q6⟩ := q; omega)) (Nat.lt_succ_self _)
                              ·
                                refine A_iload hG 5 dX12_bars_89 rfl ?_
                                refine A_iconst (n := 1) hG dX12_bars_91 ?_
                                refine A_iadd hG dX12_bars_92 ?_
                                refine A_goto hG 98 dX12_bars_93 (by decide) ?_
                                refine A_istore (L' := [(6, vI (b + 1)), (0, .ref 500), (1, vI s), (2, vI m), (3, vI x), (4, vI a), (5, vI b)]) hG dX12_bars_98 (by decide) rfl ?_
                                have c_14 : ∀ fu : Nat, ∀ (x : Int) (c : Int) (f : Int → Int64), ((2 < m → b < c ∧ c ≤ 24) ∧ (¬ 2 < m → 23 ≤ c ∧ c ≤ 24)) → (-4 ≤ x ∧ x < 33554432) → (bst (gR h) (rowR h s) (h.1 508 s) m (fun a' b' c' => a' < a ∨ (a' = a ∧ (b' < b ∨ (b' = b ∧ c' < c)))) x) → ((25 - c).toNat) < fu → G 100 [(0, .ref 500), (1, vI s), (2, vI m), (3, vI x), (4, vI a), (5, vI b), (6, vI c)] [] (hm h [] [(518, f)] []) := by
                                  intro fu
                                  induction fu with
                                  | zero => intro x c f hc1 hxr hb hfu; exact absurd hfu (Nat.not_lt_zero _)
                                  | succ fu ih_c =>
                                    intro x c f hc1 hxr hb hfu
                                    refine A_iload hG 6 dX12_bars_100 rfl ?_
                                    refine A_bipush (n := 24) hG dX12_bars_102 (by decide) ?_
                                    refine A_icmp_ge hG 200 dX12_bars_104 (by decide) (by constructor <;> omega) (by constructor <;> omega) (fun c_104 => ?_) (fun c_104 => ?_)
                                    ·
                                      refine A_iinc (L' := [(5, vI (b + 1)), (0, .ref 500), (1, vI s), (2, vI m), (3, vI x), (4, vI a), (6, vI c)]) hG 5 dX12_bars_200 rfl (by decide) rfl ?_
                                      refine A_goto hG 68 dX12_bars_203 (by decide) ?_
                                      refine A_sub hG [1, 2, 3, 4, 5, 0] rfl ?_
                                      exact ih_b x (b + 1) f (by omega) (by omega) (bst_sub hb (fun a' b' c' q q1 => by obtain ⟨q2, q3, q4, q5, q6⟩ := q; omega)) (by omega)
                                    ·
                                      have hv : vs m a b c := ⟨by omega, by omega, by omega, by omega, by omega⟩
                                      have y_15 : ∀ (y : Int), ((y = 1 ∧ agS (gR h) m a b c) ∨ (y = 0 ∧ ¬ agS (gR h) m a b c)) → G 140 [(0, .ref 500), (1, vI s), (2, vI m), (3, vI x), (4, vI a), (5, vI b), (6, vI c)] [vI y] (hm h [] [(518, f)] []) := by
                                        intro y hy
                                        refine A_istore (L' := [(7, vI y), (0, .ref 500), (1, vI s), (2, vI m), (3, vI x), (4, vI a), (5, vI b), (6, vI c)]) hG dX12_bars_140 (by decide) rfl ?_
                                        have t_16 : ∀ (t : Int), (t = sOf m a b c) → G 174 [(0, .ref 500), (1, vI s), (2, vI m), (3, vI x), (4, vI a), (5, vI b), (6, vI c), (7, vI y)] [vI t] (hm h [] [(518, f)] []) := by
                                          intro t ht
                                          refine A_istore (L' := [(8, vI t), (0, .ref 500), (1, vI s), (2, vI m), (3, vI x), (4, vI a), (5, vI b), (6, vI c), (7, vI y)]) hG dX12_bars_174 (by decide) rfl ?_
                                          have e_17 : ∀ (y1 : Int) (f : Int → Int64), (-4 ≤ y1 ∧ y1 < 33554432) → (bst (gR h) (rowR h s) (h.1 508 s) m (fun a' b' c' => a' < a ∨ (a' = a ∧ (b' < b ∨ (b' = b ∧ c' < c + 1)))) y1) → G 193 [(0, .ref 500), (1, vI s), (2, vI m), (4, vI a), (5, vI b), (6, vI c)] [vI y1] (hm h [] [(518, f)] []) := by
                                            intro y1 f hyr hy
                                            refine A_istore_n (L' := [(3, vI y1), (0, .ref 500), (1, vI s), (2, vI m), (4, vI a), (5, vI b), (6, vI c)]) hG dX12_bars_193 rfl (by decide) rfl ?_
                                            refine A_iinc (L' := [(6, vI (c + 1)), (3, vI y1), (0, .ref 500), (1, vI s), (2, vI m), (4, vI a), (5, vI b)]) hG 6 dX12_bars_194 rfl (by decide) rfl ?_
                                            refine A_goto hG 100 dX12_bars_197 (by decide) ?_
                                            refine A_sub hG [2, 3, 4, 1, 5, 6, 0] rfl ?_
                                            exact ih_c y1 (c + 1) f (by omega) hyr hy (by omega)
                                          have htp := sOf_pos (m := m) (a := a) (b := b) (c := c)
                                          have htt := sOf_top hv
                                          refine A_iload hG 8 dX12_bars_176 rfl ?_
                                          refine A_if_eq hG 192 dX12_bars_178 (by decide) (by constructor <;> omega) (fun c_178 => ?_) (fun c_178 => ?_)
                                          ·
                                            refine A_iload_n hG 4 dX12_bars_192 rfl rfl ?_
                                            refine A_sub hG [1, 2, 3, 5, 6, 7] rfl ?_
                                            exact e_17 x f hxr (bst_no (a := a) (b := b) (c := c) hb (hy.resolve_left (fun q => by omega)).2 (fun a' b' c' q q1 => by omega))
                                          ·
                                            refine A_aload_n hG 1 dX12_bars_181 rfl rfl ?_
                                            refine A_iload_n hG 4 dX12_bars_182 rfl rfl ?_
                                            refine A_iload hG 0 dX12_bars_183 rfl ?_
                                            refine A_iload_n hG 2 dX12_bars_185 rfl rfl ?_
                                            refine C_Vi (as := [vI x, vI t, vI s]) (st := []) (k := 500) (c := 11) hG dX12_bars_186 ml_X12_221 mf_X12_lesser mi_X12_lesser se_X12_lesser rfl (by decide) k500 (r_lesser (hm h [] [(518, f)] []) (b := x) (t := t) (s := s) (by constructor <;> omega) (by constructor <;> omega) (by omega) hG0 hW0 c_15) (by decide) (by decide) rfl rfl (Nat.le_of_ble_eq_true rfl) (fun z186 g186 ri_186 hp_186 => ?_)
                                            obtain ⟨ra_186, rb_186⟩ := ri_186
                                            have hq_186 : ∃ fx, lesP (gR h) (rowR h s) (h.1 508 s) x t z186 ∧ g186 = hm (hm h [] [(518, f)] []) [] [(518, fx)] [] := hp_186
                                            obtain ⟨f186, hz186, rfl⟩ := hq_186
                                            refine A_hm (la := []) (lb := [(518, f186)]) (lc := []) rfl rfl rfl ?_
                                            refine A_goto hG 193 dX12_bars_189 (by decide) ?_
                                            refine A_sub hG [1, 2, 3, 5, 6, 7] rfl ?_
                                            exact e_17 z186 f186 (by rcases hz186 with q | q <;> omega) (bst_try (a := a) (b := b) (c := c) hb hv (hy.resolve_right (fun q => by omega)).2 (by rw [ht] at hz186; exact hz186) (fun a' b' c' q q1 => by omega))
                                        refine A_iconst (n := 1) hG dX12_bars_142 ?_
                                        refine A_iload hG 5 dX12_bars_143 rfl ?_
                                        refine A_ishl hG dX12_bars_145 ?_
                                        refine A_iload_n hG 3 dX12_bars_146 rfl rfl ?_
                                        refine A_iconst (n := 1) hG dX12_bars_147 ?_
                                        refine A_icmp_le hG 158 dX12_bars_148 (by decide) (by constructor <;> omega) (by constructor <;> omega) (fun c_148 => ?_) (fun c_148 => ?_)
                                        ·
                                          refine A_iconst (n := 0) hG dX12_bars_158 ?_
                                          refine A_ior hG dX12_bars_159 ?_
                                          refine A_iload_n hG 3 dX12_bars_160 rfl rfl ?_
                                          refine A_iconst (n := 2) hG dX12_bars_161 ?_
                                          refine A_icmp_le hG 172 dX12_bars_162 (by decide) (by constructor <;> omega) (by constructor <;> omega) (fun c_162 => ?_) (fun c_162 => ?_)
                                          ·
                                            refine A_iconst (n := 0) hG dX12_bars_172 ?_
                                            refine A_ior hG dX12_bars_173 ?_
                                            refine A_sub hG [1, 2, 3, 4, 5, 6, 7, 0] rfl ?_
                                            exact t_16 (ior (ior (ishl 1 a) 0) 0) (set_1 hv (by omega))
                                          ·
                                            refine A_iconst (n := 1) hG dX12_bars_165 ?_
                                            refine A_iload hG 7 dX12_bars_166 rfl ?_
                                            refine A_ishl hG dX12_bars_168 ?_
                                            refine A_goto hG 173 dX12_bars_169 (by decide) ?_
                                            refine A_ior hG dX12_bars_173 ?_
                                            refine A_sub hG [1, 2, 3, 4, 5, 6, 7, 0] rfl ?_
                                            exact t_16 (ior (ior (ishl 1 a) 0) (ishl 1 c)) (absurd c_148 (by omega))
                                        ·
                                          refine A_iconst (n := 1) hG dX12_bars_151 ?_
                                          refine A_iload hG 6 dX12_bars_152 rfl ?_
                                          refine A_ishl hG dX12_bars_154 ?_
                                          refine A_goto hG 159 dX12_bars_155 (by decide) ?_
                                          refine A_ior hG dX12_bars_159 ?_
                                          refine A_iload_n hG 3 dX12_bars_160 rfl rfl ?_
                                          refine A_iconst (n := 2) hG dX12_bars_161 ?_
                                          refine A_icmp_le hG 172 dX12_bars_162 (by decide) (by constructor <;> omega) (by constructor <;> omega) (fun c_162 => ?_) (fun c_162 => ?_)
                                          ·
                                            refine A_iconst (n := 0) hG dX12_bars_172 ?_
                                            refine A_ior hG dX12_bars_173 ?_
                                            refine A_sub hG [1, 2, 3, 4, 5, 6, 7, 0] rfl ?_
                                            exact t_16 (ior (ior (ishl 1 a) (ishl 1 b)) 0) (set_2 hv (by omega) (by omega))
                                          ·
                                            refine A_iconst (n := 1) hG dX12_bars_165 ?_
                                            refine A_iload hG 7 dX12_bars_166 rfl ?_
                                            refine A_ishl hG dX12_bars_168 ?_
                                            refine A_goto hG 173 dX12_bars_169 (by decide) ?_
                                            refine A_ior hG dX12_bars_173 ?_
                                            refine A_sub hG [1, 2, 3, 4, 5, 6, 7, 0] rfl ?_
                                            exact t_16 (ior (ior (ishl 1 a) (ishl 1 b)) (ishl 1 c)) (set_3 hv (by omega))
                                      refine A_iload_n hG 2 dX12_bars_107 rfl rfl ?_
                                      refine A_iconst (n := 2) hG dX12_bars_108 ?_
                                      refine A_icmp_lt hG 121 dX12_bars_109 (by decide) (by constructor <;> omega) (by constructor <;> omega) (fun c_109 => ?_) (fun c_109 => ?_)
                                      ·
                                        refine A_iload_n hG 2 dX12_bars_121 rfl rfl ?_
                                        refine A_iconst (n := 3) hG dX12_bars_122 ?_
                                        refine A_icmp_lt hG 135 dX12_bars_123 (by decide) (by constructor <;> omega) (by constructor <;> omega) (fun c_123 => ?_) (fun c_123 => ?_)
                                        ·
                                          refine A_iconst (n := 1) hG dX12_bars_135 ?_
                                          refine A_goto hG 140 dX12_bars_136 (by decide) ?_
                                          refine A_sub hG [0, 1, 2, 3, 4, 5, 6] rfl ?_
                                          exact y_15 1 (by first | exact Or.inl ⟨rfl, (hz78.resolve_right (fun q => by omega)).2, fun q => by first | exact (hz115.resolve_right (fun q => by omega)).2 | (exfalso; omega), fun q => by first | exact (hz129.resolve_right (fun q => by omega)).2 | (exfalso; omega)⟩ | exact Or.inr ⟨rfl, fun q => (hz129.resolve_left (fun q => by omega)).2 (q.2.2 (by omega))⟩ | exact Or.inr ⟨rfl, fun q => (hz115.resolve_left (fun q => by omega)).2 (q.2.1 (by omega))⟩)
                                        ·
                                          refine A_aload_n hG 0 dX12_bars_126 rfl rfl ?_
                                          refine A_iload hG 6 dX12_bars_127 rfl ?_
                                          refine C_Vi (as := [vI c]) (st := []) (k := 500) (c := 11) hG dX12_bars_129 ml_X12_218 mf_X12_isAgreeing mi_X12_isAgreeing se_X12_isAgreeing rfl (by decide) k500 (r_isAgreeing (hm h [] [(518, f)] []) (r := c) (by omega) hnr) (by decide) (by decide) rfl rfl (Nat.le_of_ble_eq_true rfl) (fun z129 g129 ri_129 hp_129 => ?_)
                                          obtain ⟨ra_129, rb_129⟩ := ri_129
                                          have hq_129 : ((z129 = 1 ∧ agrR h c) ∨ (z129 = 0 ∧ ¬ agrR h c)) ∧ g129 = hm h [] [(518, f)] [] := hp_129
                                          obtain ⟨hz129, rfl⟩ := hq_129
                                          rw [agr_iff (by omega)] at hz129
                                          refine A_if_eq hG 139 dX12_bars_132 (by decide) (by constructor <;> omega) (fun c_132 => ?_) (fun c_132 => ?_)
                                          ·
                                            refine A_iconst (n := 0) hG dX12_bars_139 ?_
                                            refine A_sub hG [0, 1, 2, 3, 4, 5, 6] rfl ?_
                                            exact y_15 0 (by first | exact Or.inl ⟨rfl, (hz78.resolve_right (fun q => by omega)).2, fun q => by first | exact (hz115.resolve_right (fun q => by omega)).2 | (exfalso; omega), fun q => by first | exact (hz129.resolve_right (fun q => by omega)).2 | (exfalso; omega)⟩ | exact Or.inr ⟨rfl, fun q => (hz129.resolve_left (fun q => by omega)).2 (q.2.2 (by omega))⟩ | exact Or.inr ⟨rfl, fun q => (hz115.resolve_left (fun q => by omega)).2 (q.2.1 (by omega))⟩)
                                          ·
                                            refine A_iconst (n := 1) hG dX12_bars_135 ?_
                                            refine A_goto hG 140 dX12_bars_136 (by decide) ?_
                                            refine A_sub hG [0, 1, 2, 3, 4, 5, 6] rfl ?_
                                            exact y_15 1 (by first | exact Or.inl ⟨rfl, (hz78.resolve_right (fun q => by omega)).2, fun q => by first | exact (hz115.resolve_right (fun q => by omega)).2 | (exfalso; omega), fun q => by first | exact (hz129.resolve_right (fun q => by omega)).2 | (exfalso; omega)⟩ | exact Or.inr ⟨rfl, fun q => (hz129.resolve_left (fun q => by omega)).2 (q.2.2 (by omega))⟩ | exact Or.inr ⟨rfl, fun q => (hz115.resolve_left (fun q => by omega)).2 (q.2.1 (by omega))⟩)
                                      ·
                                        refine A_aload_n hG 0 dX12_bars_112 rfl rfl ?_
                                        refine A_iload hG 5 dX12_bars_113 rfl ?_
                                        refine C_Vi (as := [vI b]) (st := []) (k := 500) (c := 11) hG dX12_bars_115 ml_X12_218 mf_X12_isAgreeing mi_X12_isAgreeing se_X12_isAgreeing rfl (by decide) k500 (r_isAgreeing (hm h [] [(518, f)] []) (r := b) (by omega) hnr) (by decide) (by decide) rfl rfl (Nat.le_of_ble_eq_true rfl) (fun z115 g115 ri_115 hp_115 => ?_)
                                        obtain ⟨ra_115, rb_115⟩ := ri_115
                                        have hq_115 : ((z115 = 1 ∧ agrR h b) ∨ (z115 = 0 ∧ ¬ agrR h b)) ∧ g115 = hm h [] [(518, f)] [] := hp_115
                                        obtain ⟨hz115, rfl⟩ := hq_115
                                        rw [agr_iff (by omega)] at hz115
                                        refine A_if_eq hG 139 dX12_bars_118 (by decide) (by constructor <;> omega) (fun c_118 => ?_) (fun c_118 => ?_)
                                        ·
                                          refine A_iconst (n := 0) hG dX12_bars_139 ?_
                                          refine A_sub hG [0, 1, 2, 3, 4, 5, 6] rfl ?_
                                          exact y_15 0 (by first | exact Or.inl ⟨rfl, (hz78.resolve_right (fun q => by omega)).2, fun q => by first | exact (hz115.resolve_right (fun q => by omega)).2 | (exfalso; omega), fun q => by first | exact (hz129.resolve_right (fun q => by omega)).2 | (exfalso; omega)⟩ | exact Or.inr ⟨rfl, fun q => (hz129.resolve_left (fun q => by omega)).2 (q.2.2 (by omega))⟩ | exact Or.inr ⟨rfl, fun q => (hz115.resolve_left (fun q => by omega)).2 (q.2.1 (by omega))⟩)
                                        ·
                                          refine A_iload_n hG 2 dX12_bars_121 rfl rfl ?_
                                          refine A_iconst (n := 3) hG dX12_bars_122 ?_
                                          refine A_icmp_lt hG 135 dX12_bars_123 (by decide) (by constructor <;> omega) (by constructor <;> omega) (fun c_123 => ?_) (fun c_123 => ?_)
                                          ·
                                            refine A_iconst (n := 1) hG dX12_bars_135 ?_
                                            refine A_goto hG 140 dX12_bars_136 (by decide) ?_
                                            refine A_sub hG [0, 1, 2, 3, 4, 5, 6] rfl ?_
                                            exact y_15 1 (by first | exact Or.inl ⟨rfl, (hz78.resolve_right (fun q => by omega)).2, fun q => by first | exact (hz115.resolve_right (fun q => by omega)).2 | (exfalso; omega), fun q => by first | exact (hz129.resolve_right (fun q => by omega)).2 | (exfalso; omega)⟩ | exact Or.inr ⟨rfl, fun q => (hz129.resolve_left (fun q => by omega)).2 (q.2.2 (by omega))⟩ | exact Or.inr ⟨rfl, fun q => (hz115.resolve_left (fun q => by omega)).2 (q.2.1 (by omega))⟩)
                                          ·
                                            refine A_aload_n hG 0 dX12_bars_126 rfl rfl ?_
                                            refine A_iload hG 6 dX12_bars_127 rfl ?_
                                            refine C_Vi (as := [vI c]) (st := []) (k := 500) (c := 11) hG dX12_bars_129 ml_X12_218 mf_X12_isAgreeing mi_X12_isAgreeing se_X12_isAgreeing rfl (by decide) k500 (r_isAgreeing (hm h [] [(518, f)] []) (r := c) (by omega) hnr) (by decide) (by decide) rfl rfl (Nat.le_of_ble_eq_true rfl) (fun z129 g129 ri_129 hp_129 => ?_)
                                            obtain ⟨ra_129, rb_129⟩ := ri_129
                                            have hq_129 : ((z129 = 1 ∧ agrR h c) ∨ (z129 = 0 ∧ ¬ agrR h c)) ∧ g129 = hm h [] [(518, f)] [] := hp_129
                                            obtain ⟨hz129, rfl⟩ := hq_129
                                            rw [agr_iff (by omega)] at hz129
                                            refine A_if_eq hG 139 dX12_bars_132 (by decide) (by constructor <;> omega) (fun c_132 => ?_) (fun c_132 => ?_)
                                            ·
                                              refine A_iconst (n := 0) hG dX12_bars_139 ?_
                                              refine A_sub hG [0, 1, 2, 3, 4, 5, 6] rfl ?_
                                              exact y_15 0 (by first | exact Or.inl ⟨rfl, (hz78.resolve_right (fun q => by omega)).2, fun q => by first | exact (hz115.resolve_right (fun q => by omega)).2 | (exfalso; omega), fun q => by first | exact (hz129.resolve_right (fun q => by omega)).2 | (exfalso; omega)⟩ | exact Or.inr ⟨rfl, fun q => (hz129.resolve_left (fun q => by omega)).2 (q.2.2 (by omega))⟩ | exact Or.inr ⟨rfl, fun q => (hz115.resolve_left (fun q => by omega)).2 (q.2.1 (by omega))⟩)
                                            ·
                                              refine A_iconst (n := 1) hG dX12_bars_135 ?_
                                              refine A_goto hG 140 dX12_bars_136 (by decide) ?_
                                              refine A_sub hG [0, 1, 2, 3, 4, 5, 6] rfl ?_
                                              exact y_15 1 (by first | exact Or.inl ⟨rfl, (hz78.resolve_right (fun q => by omega)).2, fun q => by first | exact (hz115.resolve_right (fun q => by omega)).2 | (exfalso; omega), fun q => by first | exact (hz129.resolve_right (fun q => by omega)).2 | (exfalso; omega)⟩ | exact Or.inr ⟨rfl, fun q => (hz129.resolve_left (fun q => by omega)).2 (q.2.2 (by omega))⟩ | exact Or.inr ⟨rfl, fun q => (hz115.resolve_left (fun q => by omega)).2 (q.2.1 (by omega))⟩)
                                refine A_sub hG [1, 2, 3, 4, 5, 6, 0] rfl ?_
                                exact c_14 _ x (b + 1) f (by omega) (by omega) (bst_sub hb (fun a' b' c' q q1 => by obtain ⟨q2, q3, q4, q5, q6⟩ := q; omega)) (Nat.lt_succ_self _)
                      refine A_sub hG [1, 2, 3, 4, 5, 0] rfl ?_
                      exact b_4 _ x 23 f (by omega) (by omega) (bst_sub hb (fun a' b' c' q q1 => by obtain ⟨q2, q3, q4, q5, q6⟩ := q; omega)) (Nat.lt_succ_self _)
                    ·
                      refine A_iload hG 4 dX12_bars_57 rfl ?_
                      refine A_iconst (n := 1) hG dX12_bars_59 ?_
                      refine A_iadd hG dX12_bars_60 ?_
                      refine A_goto hG 66 dX12_bars_61 (by decide) ?_
                      refine A_istore (L' := [(5, vI (a + 1)), (0, .ref 500), (1, vI s), (2, vI m), (3, vI x), (4, vI a)]) hG dX12_bars_66 (by decide) rfl ?_
                      have b_22 : ∀ fu : Nat, ∀ (x : Int) (b : Int) (f : Int → Int64), ((1 < m → a < b ∧ b ≤ 24) ∧ (¬ 1 < m → 23 ≤ b ∧ b ≤ 24)) → (-4 ≤ x ∧ x < 33554432) → (bst (gR h) (rowR h s) (h.1 508 s) m (fun a' b' c' => a' < a ∨ (a' = a ∧ b' < b)) x) → ((25 - b).toNat) < fu → G 68 [(0, .ref 500), (1, vI s), (2, vI m), (3, vI x), (4, vI a), (5, vI b)] [] (hm h [] [(518, f)] []) := by
                        intro fu
                        induction fu with
                        | zero => intro x b f hb1 hxr hb hfu; exact absurd hfu (Nat.not_lt_zero _)
                        | succ fu ih_b =>
                          intro x b f hb1 hxr hb hfu
                          refine A_iload hG 5 dX12_bars_68 rfl ?_
                          refine A_bipush (n := 24) hG dX12_bars_70 (by decide) ?_
                          refine A_icmp_ge hG 206 dX12_bars_72 (by decide) (by constructor <;> omega) (by constructor <;> omega) (fun c_72 => ?_) (fun c_72 => ?_)
                          ·
                            refine A_iinc (L' := [(4, vI (a + 1)), (0, .ref 500), (1, vI s), (2, vI m), (3, vI x), (5, vI b)]) hG 4 dX12_bars_206 rfl (by decide) rfl ?_
                            refine A_goto hG 45 dX12_bars_209 (by decide) ?_
                            refine A_sub hG [1, 2, 3, 4, 0] rfl ?_
                            exact ih_a x (a + 1) f (by omega) (by omega) (by first | exact bst_out (a := a) hb (fun q => (hz78.resolve_left (fun q2 => by omega)).2 q) (fun a' b' c' q q1 => by omega) | exact bst_sub hb (fun a' b' c' q q1 => by obtain ⟨q2, q3, q4, q5, q6⟩ := q; omega)) (by omega)
                          ·
                            refine A_aload_n hG 0 dX12_bars_75 rfl rfl ?_
                            refine A_iload hG 4 dX12_bars_76 rfl ?_
                            refine C_Vi (as := [vI a]) (st := []) (k := 500) (c := 11) hG dX12_bars_78 ml_X12_218 mf_X12_isAgreeing mi_X12_isAgreeing se_X12_isAgreeing rfl (by decide) k500 (r_isAgreeing (hm h [] [(518, f)] []) (r := a) (by omega) hnr) (by decide) (by decide) rfl rfl (Nat.le_of_ble_eq_true rfl) (fun z78 g78 ri_78 hp_78 => ?_)
                            obtain ⟨ra_78, rb_78⟩ := ri_78
                            have hq_78 : ((z78 = 1 ∧ agrR h a) ∨ (z78 = 0 ∧ ¬ agrR h a)) ∧ g78 = hm h [] [(518, f)] [] := hp_78
                            obtain ⟨hz78, rfl⟩ := hq_78
                            rw [agr_iff (by omega)] at hz78
                            refine A_if_eq hG 206 dX12_bars_81 (by decide) (by constructor <;> omega) (fun c_81 => ?_) (fun c_81 => ?_)
                            ·
                              refine A_iinc (L' := [(4, vI (a + 1)), (0, .ref 500), (1, vI s), (2, vI m), (3, vI x), (5, vI b)]) hG 4 dX12_bars_206 rfl (by decide) rfl ?_
                              refine A_goto hG 45 dX12_bars_209 (by decide) ?_
                              refine A_sub hG [1, 2, 3, 4, 0] rfl ?_
                              exact ih_a x (a + 1) f (by omega) (by omega) (by first | exact bst_out (a := a) hb (fun q => (hz78.resolve_left (fun q2 => by omega)).2 q) (fun a' b' c' q q1 => by omega) | exact bst_sub hb (fun a' b' c' q q1 => by obtain ⟨q2, q3, q4, q5, q6⟩ := q; omega)) (by omega)
                            ·
                              refine A_iload_n hG 2 dX12_bars_84 rfl rfl ?_
                              refine A_iconst (n := 2) hG dX12_bars_85 ?_
                              refine A_icmp_le hG 96 dX12_bars_86 (by decide) (by constructor <;> omega) (by constructor <;> omega) (fun c_86 => ?_) (fun c_86 => ?_)
                              ·
                                refine A_bipush (n := 23) hG dX12_bars_96 (by decide) ?_
                                refine A_istore (L' := [(6, vI 23), (0, .ref 500), (1, vI s), (2, vI m), (3, vI x), (4, vI a), (5, vI b)]) hG dX12_bars_98 (by decide) rfl ?_
                                have c_24 : ∀ fu : Nat, ∀ (x : Int) (c : Int) (f : Int → Int64), ((2 < m → b < c ∧ c ≤ 24) ∧ (¬ 2 < m → 23 ≤ c ∧ c ≤ 24)) → (-4 ≤ x ∧ x < 33554432) → (bst (gR h) (rowR h s) (h.1 508 s) m (fun a' b' c' => a' < a ∨ (a' = a ∧ (b' < b ∨ (b' = b ∧ c' < c)))) x) → ((25 - c).toNat) < fu → G 100 [(0, .ref 500), (1, vI s), (2, vI m), (3, vI x), (4, vI a), (5, vI b), (6, vI c)] [] (hm h [] [(518, f)] []) := by
                                  intro fu
                                  induction fu with
                                  | zero => intro x c f hc1 hxr hb hfu; exact absurd hfu (Nat.not_lt_zero _)
                                  | succ fu ih_c =>
                                    intro x c f hc1 hxr hb hfu
                                    refine A_iload hG 6 dX12_bars_100 rfl ?_
                                    refine A_bipush (n := 24) hG dX12_bars_102 (by decide) ?_
                                    refine A_icmp_ge hG 200 dX12_bars_104 (by decide) (by constructor <;> omega) (by constructor <;> omega) (fun c_104 => ?_) (fun c_104 => ?_)
                                    ·
                                      refine A_iinc (L' := [(5, vI (b + 1)), (0, .ref 500), (1, vI s), (2, vI m), (3, vI x), (4, vI a), (6, vI c)]) hG 5 dX12_bars_200 rfl (by decide) rfl ?_
                                      refine A_goto hG 68 dX12_bars_203 (by decide) ?_
                                      refine A_sub hG [1, 2, 3, 4, 5, 0] rfl ?_
                                      exact ih_b x (b + 1) f (by omega) (by omega) (bst_sub hb (fun a' b' c' q q1 => by obtain ⟨q2, q3, q4, q5, q6⟩ := q; omega)) (by omega)
                                    ·
                                      have hv : vs m a b c := ⟨by omega, by omega, by omega, by omega, by omega⟩
                                      have y_25 : ∀ (y : Int), ((y = 1 ∧ agS (gR h) m a b c) ∨ (y = 0 ∧ ¬ agS (gR h) m a b c)) → G 140 [(0, .ref 500), (1, vI s), (2, vI m), (3, vI x), (4, vI a), (5, vI b), (6, vI c)] [vI y] (hm h [] [(518, f)] []) := by
                                        intro y hy
                                        refine A_istore (L' := [(7, vI y), (0, .ref 500), (1, vI s), (2, vI m), (3, vI x), (4, vI a), (5, vI b), (6, vI c)]) hG dX12_bars_140 (by decide) rfl ?_
                                        have t_26 : ∀ (t : Int), (t = sOf m a b c) → G 174 [(0, .ref 500), (1, vI s), (2, vI m), (3, vI x), (4, vI a), (5, vI b), (6, vI c), (7, vI y)] [vI t] (hm h [] [(518, f)] []) := by
                                          intro t ht
                                          refine A_istore (L' := [(8, vI t), (0, .ref 500), (1, vI s), (2, vI m), (3, vI x), (4, vI a), (5, vI b), (6, vI c), (7, vI y)]) hG dX12_bars_174 (by decide) rfl ?_
                                          have e_27 : ∀ (y1 : Int) (f : Int → Int64), (-4 ≤ y1 ∧ y1 < 33554432) → (bst (gR h) (rowR h s) (h.1 508 s) m (fun a' b' c' => a' < a ∨ (a' = a ∧ (b' < b ∨ (b' = b ∧ c' < c + 1)))) y1) → G 193 [(0, .ref 500), (1, vI s), (2, vI m), (4, vI a), (5, vI b), (6, vI c)] [vI y1] (hm h [] [(518, f)] []) := by
                                            intro y1 f hyr hy
                                            refine A_istore_n (L' := [(3, vI y1), (0, .ref 500), (1, vI s), (2, vI m), (4, vI a), (5, vI b), (6, vI c)]) hG dX12_bars_193 rfl (by decide) rfl ?_
                                            refine A_iinc (L' := [(6, vI (c + 1)), (3, vI y1), (0, .ref 500), (1, vI s), (2, vI m), (4, vI a), (5, vI b)]) hG 6 dX12_bars_194 rfl (by decide) rfl ?_
                                            refine A_goto hG 100 dX12_bars_197 (by decide) ?_
                                            refine A_sub hG [2, 3, 4, 1, 5, 6, 0] rfl ?_
                                            exact ih_c y1 (c + 1) f (by omega) hyr hy (by omega)
                                          have htp := sOf_pos (m := m) (a := a) (b := b) (c := c)
                                          have htt := sOf_top hv
                                          refine A_iload hG 8 dX12_bars_176 rfl ?_
                                          refine A_if_eq hG 192 dX12_bars_178 (by decide) (by constructor <;> omega) (fun c_178 => ?_) (fun c_178 => ?_)
                                          ·
                                            refine A_iload_n hG 4 dX12_bars_192 rfl rfl ?_
                                            refine A_sub hG [1, 2, 3, 5, 6, 7] rfl ?_
                                            exact e_27 x f hxr (bst_no (a := a) (b := b) (c := c) hb (hy.resolve_left (fun q => by omega)).2 (fun a' b' c' q q1 => by omega))
                                          ·
                                            refine A_aload_n hG 1 dX12_bars_181 rfl rfl ?_
                                            refine A_iload_n hG 4 dX12_bars_182 rfl rfl ?_
                                            refine A_iload hG 0 dX12_bars_183 rfl ?_
                                            refine A_iload_n hG 2 dX12_bars_185 rfl rfl ?_
                                            refine C_Vi (as := [vI x, vI t, vI s]) (st := []) (k := 500) (c := 11) hG dX12_bars_186 ml_X12_221 mf_X12_lesser mi_X12_lesser se_X12_lesser rfl (by decide) k500 (r_lesser (hm h [] [(518, f)] []) (b := x) (t := t) (s := s) (by constructor <;> omega) (by constructor <;> omega) (by omega) hG0 hW0 c_15) (by decide) (by decide) rfl rfl (Nat.le_of_ble_eq_true rfl) (fun z186 g186 ri_186 hp_186 => ?_)
                                            obtain ⟨ra_186, rb_186⟩ := ri_186
                                            have hq_186 : ∃ fx, lesP (gR h) (rowR h s) (h.1 508 s) x t z186 ∧ g186 = hm (hm h [] [(518, f)] []) [] [(518, fx)] [] := hp_186
                                            obtain ⟨f186, hz186, rfl⟩ := hq_186
                                            refine A_hm (la := []) (lb := [(518, f186)]) (lc := []) rfl rfl rfl ?_
                                            refine A_goto hG 193 dX12_bars_189 (by decide) ?_
                                            refine A_sub hG [1, 2, 3, 5, 6, 7] rfl ?_
                                            exact e_27 z186 f186 (by rcases hz186 with q | q <;> omega) (bst_try (a := a) (b := b) (c := c) hb hv (hy.resolve_right (fun q => by omega)).2 (by rw [ht] at hz186; exact hz186) (fun a' b' c' q q1 => by omega))
                                        refine A_iconst (n := 1) hG dX12_bars_142 ?_
                                        refine A_iload hG 5 dX12_bars_143 rfl ?_
                                        refine A_ishl hG dX12_bars_145 ?_
                                        refine A_iload_n hG 3 dX12_bars_146 rfl rfl ?_
                                        refine A_iconst (n := 1) hG dX12_bars_147 ?_
                                        refine A_icmp_le hG 158 dX12_bars_148 (by decide) (by constructor <;> omega) (by constructor <;> omega) (fun c_148 => ?_) (fun c_148 => ?_)
                                        ·
                                          refine A_iconst (n := 0) hG dX12_bars_158 ?_
                                          refine A_ior hG dX12_bars_159 ?_
                                          refine A_iload_n hG 3 dX12_bars_160 rfl rfl ?_
                                          refine A_iconst (n := 2) hG dX12_bars_161 ?_
                                          refine A_icmp_le hG 172 dX12_bars_162 (by decide) (by constructor <;> omega) (by constructor <;> omega) (fun c_162 => ?_) (fun c_162 => ?_)
                                          ·
                                            refine A_iconst (n := 0) hG dX12_bars_172 ?_
                                            refine A_ior hG dX12_bars_173 ?_
                                            refine A_sub hG [1, 2, 3, 4, 5, 6, 7, 0] rfl ?_
                                            exact t_26 (ior (ior (ishl 1 a) 0) 0) (set_1 hv (by omega))
                                          ·
                                            refine A_iconst (n := 1) hG dX12_bars_165 ?_
                                            refine A_iload hG 7 dX12_bars_166 rfl ?_
                                            refine A_ishl hG dX12_bars_168 ?_
                                            refine A_goto hG 173 dX12_bars_169 (by decide) ?_
                                            refine A_ior hG dX12_bars_173 ?_
                                            refine A_sub hG [1, 2, 3, 4, 5, 6, 7, 0] rfl ?_
                                            exact t_26 (ior (ior (ishl 1 a) 0) (ishl 1 c)) (absurd c_148 (by omega))
                                        ·
                                          refine A_iconst (n := 1) hG dX12_bars_151 ?_
                                          refine A_iload hG 6 dX12_bars_152 rfl ?_
                                          refine A_ishl hG dX12_bars_154 ?_
                                          refine A_goto hG 159 dX12_bars_155 (by decide) ?_
                                          refine A_ior hG dX12_bars_159 ?_
                                          refine A_iload_n hG 3 dX12_bars_160 rfl rfl ?_
                                          refine A_iconst (n := 2) hG dX12_bars_161 ?_
                                          refine A_icmp_le hG 172 dX12_bars_162 (by decide) (by constructor <;> omega) (by constructor <;> omega) (fun c_162 => ?_) (fun c_162 => ?_)
                                          ·
                                            refine A_iconst (n := 0) hG dX12_bars_172 ?_
                                            refine A_ior hG dX12_bars_173 ?_
                                            refine A_sub hG [1, 2, 3, 4, 5, 6, 7, 0] rfl ?_
                                            exact t_26 (ior (ior (ishl 1 a) (ishl 1 b)) 0) (set_2 hv (by omega) (by omega))
                                          ·
                                            refine A_iconst (n := 1) hG dX12_bars_165 ?_
                                            refine A_iload hG 7 dX12_bars_166 rfl ?_
                                            refine A_ishl hG dX12_bars_168 ?_
                                            refine A_goto hG 173 dX12_bars_169 (by decide) ?_
                                            refine A_ior hG dX12_bars_173 ?_
                                            refine A_sub hG [1, 2, 3, 4, 5, 6, 7, 0] rfl ?_
                                            exact t_26 (ior (ior (ishl 1 a) (ishl 1 b)) (ishl 1 c)) (set_3 hv (by omega))
                                      refine A_iload_n hG 2 dX12_bars_107 rfl rfl ?_
                                      refine A_iconst (n := 2) hG dX12_bars_108 ?_
                                      refine A_icmp_lt hG 121 dX12_bars_109 (by decide) (by constructor <;> omega) (by constructor <;> omega) (fun c_109 => ?_) (fun c_109 => ?_)
                                      ·
                                        refine A_iload_n hG 2 dX12_bars_121 rfl rfl ?_
                                        refine A_iconst (n := 3) hG dX12_bars_122 ?_
                                        refine A_icmp_lt hG 135 dX12_bars_123 (by decide) (by constructor <;> omega) (by constructor <;> omega) (fun c_123 => ?_) (fun c_123 => ?_)
                                        ·
                                          refine A_iconst (n := 1) hG dX12_bars_135 ?_
                                          refine A_goto hG 140 dX12_bars_136 (by decide) ?_
                                          refine A_sub hG [0, 1, 2, 3, 4, 5, 6] rfl ?_
                                          exact y_25 1 (by first | exact Or.inl ⟨rfl, (hz78.resolve_right (fun q => by omega)).2, fun q => by first | exact (hz115.resolve_right (fun q => by omega)).2 | (exfalso; omega), fun q => by first | exact (hz129.resolve_right (fun q => by omega)).2 | (exfalso; omega)⟩ | exact Or.inr ⟨rfl, fun q => (hz129.resolve_left (fun q => by omega)).2 (q.2.2 (by omega))⟩ | exact Or.inr ⟨rfl, fun q => (hz115.resolve_left (fun q => by omega)).2 (q.2.1 (by omega))⟩)
                                        ·
                                          refine A_aload_n hG 0 dX12_bars_126 rfl rfl ?_
                                          refine A_iload hG 6 dX12_bars_127 rfl ?_
                                          refine C_Vi (as := [vI c]) (st := []) (k := 500) (c := 11) hG dX12_bars_129 ml_X12_218 mf_X12_isAgreeing mi_X12_isAgreeing se_X12_isAgreeing rfl (by decide) k500 (r_isAgreeing (hm h [] [(518, f)] []) (r := c) (by omega) hnr) (by decide) (by decide) rfl rfl (Nat.le_of_ble_eq_true rfl) (fun z129 g129 ri_129 hp_129 => ?_)
                                          obtain ⟨ra_129, rb_129⟩ := ri_129
                                          have hq_129 : ((z129 = 1 ∧ agrR h c) ∨ (z129 = 0 ∧ ¬ agrR h c)) ∧ g129 = hm h [] [(518, f)] [] := hp_129
                                          obtain ⟨hz129, rfl⟩ := hq_129
                                          rw [agr_iff (by omega)] at hz129
                                          refine A_if_eq hG 139 dX12_bars_132 (by decide) (by constructor <;> omega) (fun c_132 => ?_) (fun c_132 => ?_)
                                          ·
                                            refine A_iconst (n := 0) hG dX12_bars_139 ?_
                                            refine A_sub hG [0, 1, 2, 3, 4, 5, 6] rfl ?_
                                            exact y_25 0 (by first | exact Or.inl ⟨rfl, (hz78.resolve_right (fun q => by omega)).2, fun q => by first | exact (hz115.resolve_right (fun q => by omega)).2 | (exfalso; omega), fun q => by first | exact (hz129.resolve_right (fun q => by omega)).2 | (exfalso; omega)⟩ | exact Or.inr ⟨rfl, fun q => (hz129.resolve_left (fun q => by omega)).2 (q.2.2 (by omega))⟩ | exact Or.inr ⟨rfl, fun q => (hz115.resolve_left (fun q => by omega)).2 (q.2.1 (by omega))⟩)
                                          ·
                                            refine A_iconst (n := 1) hG dX12_bars_135 ?_
                                            refine A_goto hG 140 dX12_bars_136 (by decide) ?_
                                            refine A_sub hG [0, 1, 2, 3, 4, 5, 6] rfl ?_
                                            exact y_25 1 (by first | exact Or.inl ⟨rfl, (hz78.resolve_right (fun q => by omega)).2, fun q => by first | exact (hz115.resolve_right (fun q => by omega)).2 | (exfalso; omega), fun q => by first | exact (hz129.resolve_right (fun q => by omega)).2 | (exfalso; omega)⟩ | exact Or.inr ⟨rfl, fun q => (hz129.resolve_left (fun q => by omega)).2 (q.2.2 (by omega))⟩ | exact Or.inr ⟨rfl, fun q => (hz115.resolve_left (fun q => by omega)).2 (q.2.1 (by omega))⟩)
                                      ·
                                        refine A_aload_n hG 0 dX12_bars_112 rfl rfl ?_
                                        refine A_iload hG 5 dX12_bars_113 rfl ?_
                                        refine C_Vi (as := [vI b]) (st := []) (k := 500) (c := 11) hG dX12_bars_115 ml_X12_218 mf_X12_isAgreeing mi_X12_isAgreeing se_X12_isAgreeing rfl (by decide) k500 (r_isAgreeing (hm h [] [(518, f)] []) (r := b) (by omega) hnr) (by decide) (by decide) rfl rfl (Nat.le_of_ble_eq_true rfl) (fun z115 g115 ri_115 hp_115 => ?_)
                                        obtain ⟨ra_115, rb_115⟩ := ri_115
                                        have hq_115 : ((z115 = 1 ∧ agrR h b) ∨ (z115 = 0 ∧ ¬ agrR h b)) ∧ g115 = hm h [] [(518, f)] [] := hp_115
                                        obtain ⟨hz115, rfl⟩ := hq_115
                                        rw [agr_iff (by omega)] at hz115
                                        refine A_if_eq hG 139 dX12_bars_118 (by decide) (by constructor <;> omega) (fun c_118 => ?_) (fun c_118 => ?_)
                                        ·
                                          refine A_iconst (n := 0) hG dX12_bars_139 ?_
                                          refine A_sub hG [0, 1, 2, 3, 4, 5, 6] rfl ?_
                                          exact y_25 0 (by first | exact Or.inl ⟨rfl, (hz78.resolve_right (fun q => by omega)).2, fun q => by first | exact (hz115.resolve_right (fun q => by omega)).2 | (exfalso; omega), fun q => by first | exact (hz129.resolve_right (fun q => by omega)).2 | (exfalso; omega)⟩ | exact Or.inr ⟨rfl, fun q => (hz129.resolve_left (fun q => by omega)).2 (q.2.2 (by omega))⟩ | exact Or.inr ⟨rfl, fun q => (hz115.resolve_left (fun q => by omega)).2 (q.2.1 (by omega))⟩)
                                        ·
                                          refine A_iload_n hG 2 dX12_bars_121 rfl rfl ?_
                                          refine A_iconst (n := 3) hG dX12_bars_122 ?_
                                          refine A_icmp_lt hG 135 dX12_bars_123 (by decide) (by constructor <;> omega) (by constructor <;> omega) (fun c_123 => ?_) (fun c_123 => ?_)
                                          ·
                                            refine A_iconst (n := 1) hG dX12_bars_135 ?_
                                            refine A_goto hG 140 dX12_bars_136 (by decide) ?_
                                            refine A_sub hG [0, 1, 2, 3, 4, 5, 6] rfl ?_
                                            exact y_25 1 (by first | exact Or.inl ⟨rfl, (hz78.resolve_right (fun q => by omega)).2, fun q => by first | exact (hz115.resolve_right (fun q => by omega)).2 | (exfalso; omega), fun q => by first | exact (hz129.resolve_right (fun q => by omega)).2 | (exfalso; omega)⟩ | exact Or.inr ⟨rfl, fun q => (hz129.resolve_left (fun q => by omega)).2 (q.2.2 (by omega))⟩ | exact Or.inr ⟨rfl, fun q => (hz115.resolve_left (fun q => by omega)).2 (q.2.1 (by omega))⟩)
                                          ·
                                            refine A_aload_n hG 0 dX12_bars_126 rfl rfl ?_
                                            refine A_iload hG 6 dX12_bars_127 rfl ?_
                                            refine C_Vi (as := [vI c]) (st := []) (k := 500) (c := 11) hG dX12_bars_129 ml_X12_218 mf_X12_isAgreeing mi_X12_isAgreeing se_X12_isAgreeing rfl (by decide) k500 (r_isAgreeing (hm h [] [(518, f)] []) (r := c) (by omega) hnr) (by decide) (by decide) rfl rfl (Nat.le_of_ble_eq_true rfl) (fun z129 g129 ri_129 hp_129 => ?_)
                                            obtain ⟨ra_129, rb_129⟩ := ri_129
                                            have hq_129 : ((z129 = 1 ∧ agrR h c) ∨ (z129 = 0 ∧ ¬ agrR h c)) ∧ g129 = hm h [] [(518, f)] [] := hp_129
                                            obtain ⟨hz129, rfl⟩ := hq_129
                                            rw [agr_iff (by omega)] at hz129
                                            refine A_if_eq hG 139 dX12_bars_132 (by decide) (by constructor <;> omega) (fun c_132 => ?_) (fun c_132 => ?_)
                                            ·
                                              refine A_iconst (n := 0) hG dX12_bars_139 ?_
                                              refine A_sub hG [0, 1, 2, 3, 4, 5, 6] rfl ?_
                                              exact y_25 0 (by first | exact Or.inl ⟨rfl, (hz78.resolve_right (fun q => by omega)).2, fun q => by first | exact (hz115.resolve_right (fun q => by omega)).2 | (exfalso; omega), fun q => by first | exact (hz129.resolve_right (fun q => by omega)).2 | (exfalso; omega)⟩ | exact Or.inr ⟨rfl, fun q => (hz129.resolve_left (fun q => by omega)).2 (q.2.2 (by omega))⟩ | exact Or.inr ⟨rfl, fun q => (hz115.resolve_left (fun q => by omega)).2 (q.2.1 (by omega))⟩)
                                            ·
                                              refine A_iconst (n := 1) hG dX12_bars_135 ?_
                                              refine A_goto hG 140 dX12_bars_136 (by decide) ?_
                                              refine A_sub hG [0, 1, 2, 3, 4, 5, 6] rfl ?_
                                              exact y_25 1 (by first | exact Or.inl ⟨rfl, (hz78.resolve_right (fun q => by omega)).2, fun q => by first | exact (hz115.resolve_right (fun q => by omega)).2 | (exfalso; omega), fun q => by first | exact (hz129.resolve_right (fun q => by omega)).2 | (exfalso; omega)⟩ | exact Or.inr ⟨rfl, fun q => (hz129.resolve_left (fun q => by omega)).2 (q.2.2 (by omega))⟩ | exact Or.inr ⟨rfl, fun q => (hz115.resolve_left (fun q => by omega)).2 (q.2.1 (by omega))⟩)
                                refine A_sub hG [1, 2, 3, 4, 5, 6, 0] rfl ?_
                                exact c_24 _ x 23 f (by omega) (by omega) (bst_sub hb (fun a' b' c' q q1 => by obtain ⟨q2, q3, q4, q5, q6⟩ := q; omega)) (Nat.lt_succ_self _)
                              ·
                                refine A_iload hG 5 dX12_bars_89 rfl ?_
                                refine A_iconst (n := 1) hG dX12_bars_91 ?_
                                refine A_iadd hG dX12_bars_92 ?_
                                refine A_goto hG 98 dX12_bars_93 (by decide) ?_
                                refine A_istore (L' := [(6, vI (b + 1)), (0, .ref 500), (1, vI s), (2, vI m), (3, vI x), (4, vI a), (5, vI b)]) hG dX12_bars_98 (by decide) rfl ?_
                                have c_32 : ∀ fu : Nat, ∀ (x : Int) (c : Int) (f : Int → Int64), ((2 < m → b < c ∧ c ≤ 24) ∧ (¬ 2 < m → 23 ≤ c ∧ c ≤ 24)) → (-4 ≤ x ∧ x < 33554432) → (bst (gR h) (rowR h s) (h.1 508 s) m (fun a' b' c' => a' < a ∨ (a' = a ∧ (b' < b ∨ (b' = b ∧ c' < c)))) x) → ((25 - c).toNat) < fu → G 100 [(0, .ref 500), (1, vI s), (2, vI m), (3, vI x), (4, vI a), (5, vI b), (6, vI c)] [] (hm h [] [(518, f)] []) := by
                                  intro fu
                                  induction fu with
                                  | zero => intro x c f hc1 hxr hb hfu; exact absurd hfu (Nat.not_lt_zero _)
                                  | succ fu ih_c =>
                                    intro x c f hc1 hxr hb hfu
                                    refine A_iload hG 6 dX12_bars_100 rfl ?_
                                    refine A_bipush (n := 24) hG dX12_bars_102 (by decide) ?_
                                    refine A_icmp_ge hG 200 dX12_bars_104 (by decide) (by constructor <;> omega) (by constructor <;> omega) (fun c_104 => ?_) (fun c_104 => ?_)
                                    ·
                                      refine A_iinc (L' := [(5, vI (b + 1)), (0, .ref 500), (1, vI s), (2, vI m), (3, vI x), (4, vI a), (6, vI c)]) hG 5 dX12_bars_200 rfl (by decide) rfl ?_
                                      refine A_goto hG 68 dX12_bars_203 (by decide) ?_
                                      refine A_sub hG [1, 2, 3, 4, 5, 0] rfl ?_
                                      exact ih_b x (b + 1) f (by omega) (by omega) (bst_sub hb (fun a' b' c' q q1 => by obtain ⟨q2, q3, q4, q5, q6⟩ := q; omega)) (by omega)
                                    ·
                                      have hv : vs m a b c := ⟨by omega, by omega, by omega, by omega, by omega⟩
                                      have y_33 : ∀ (y : Int), ((y = 1 ∧ agS (gR h) m a b c) ∨ (y = 0 ∧ ¬ agS (gR h) m a b c)) → G 140 [(0, .ref 500), (1, vI s), (2, vI m), (3, vI x), (4, vI a), (5, vI b), (6, vI c)] [vI y] (hm h [] [(518, f)] []) := by
                                        intro y hy
                                        refine A_istore (L' := [(7, vI y), (0, .ref 500), (1, vI s), (2, vI m), (3, vI x), (4, vI a), (5, vI b), (6, vI c)]) hG dX12_bars_140 (by decide) rfl ?_
                                        have t_34 : ∀ (t : Int), (t = sOf m a b c) → G 174 [(0, .ref 500), (1, vI s), (2, vI m), (3, vI x), (4, vI a), (5, vI b), (6, vI c), (7, vI y)] [vI t] (hm h [] [(518, f)] []) := by
                                          intro t ht
                                          refine A_istore (L' := [(8, vI t), (0, .ref 500), (1, vI s), (2, vI m), (3, vI x), (4, vI a), (5, vI b), (6, vI c), (7, vI y)]) hG dX12_bars_174 (by decide) rfl ?_
                                          have e_35 : ∀ (y1 : Int) (f : Int → Int64), (-4 ≤ y1 ∧ y1 < 33554432) → (bst (gR h) (rowR h s) (h.1 508 s) m (fun a' b' c' => a' < a ∨ (a' = a ∧ (b' < b ∨ (b' = b ∧ c' < c + 1)))) y1) → G 193 [(0, .ref 500), (1, vI s), (2, vI m), (4, vI a), (5, vI b), (6, vI c)] [vI y1] (hm h [] [(518, f)] []) := by
                                            intro y1 f hyr hy
                                            refine A_istore_n (L' := [(3, vI y1), (0, .ref 500), (1, vI s), (2, vI m), (4, vI a), (5, vI b), (6, vI c)]) hG dX12_bars_193 rfl (by decide) rfl ?_
                                            refine A_iinc (L' := [(6, vI (c + 1)), (3, vI y1), (0, .ref 500), (1, vI s), (2, vI m), (4, vI a), (5, vI b)]) hG 6 dX12_bars_194 rfl (by decide) rfl ?_
                                            refine A_goto hG 100 dX12_bars_197 (by decide) ?_
                                            refine A_sub hG [2, 3, 4, 1, 5, 6, 0] rfl ?_
                                            exact ih_c y1 (c + 1) f (by omega) hyr hy (by omega)
                                          have htp := sOf_pos (m := m) (a := a) (b := b) (c := c)
                                          have htt := sOf_top hv
                                          refine A_iload hG 8 dX12_bars_176 rfl ?_
                                          refine A_if_eq hG 192 dX12_bars_178 (by decide) (by constructor <;> omega) (fun c_178 => ?_) (fun c_178 => ?_)
                                          ·
                                            refine A_iload_n hG 4 dX12_bars_192 rfl rfl ?_
                                            refine A_sub hG [1, 2, 3, 5, 6, 7] rfl ?_
                                            exact e_35 x f hxr (bst_no (a := a) (b := b) (c := c) hb (hy.resolve_left (fun q => by omega)).2 (fun a' b' c' q q1 => by omega))
                                          ·
                                            refine A_aload_n hG 1 dX12_bars_181 rfl rfl ?_
                                            refine A_iload_n hG 4 dX12_bars_182 rfl rfl ?_
                                            refine A_iload hG 0 dX12_bars_183 rfl ?_
                                            refine A_iload_n hG 2 dX12_bars_185 rfl rfl ?_
                                            refine C_Vi (as := [vI x, vI t, vI s]) (st := []) (k := 500) (c := 11) hG dX12_bars_186 ml_X12_221 mf_X12_lesser mi_X12_lesser se_X12_lesser rfl (by decide) k500 (r_lesser (hm h [] [(518, f)] []) (b := x) (t := t) (s := s) (by constructor <;> omega) (by constructor <;> omega) (by omega) hG0 hW0 c_15) (by decide) (by decide) rfl rfl (Nat.le_of_ble_eq_true rfl) (fun z186 g186 ri_186 hp_186 => ?_)
                                            obtain ⟨ra_186, rb_186⟩ := ri_186
                                            have hq_186 : ∃ fx, lesP (gR h) (rowR h s) (h.1 508 s) x t z186 ∧ g186 = hm (hm h [] [(518, f)] []) [] [(518, fx)] [] := hp_186
                                            obtain ⟨f186, hz186, rfl⟩ := hq_186
                                            refine A_hm (la := []) (lb := [(518, f186)]) (lc := []) rfl rfl rfl ?_
                                            refine A_goto hG 193 dX12_bars_189 (by decide) ?_
                                            refine A_sub hG [1, 2, 3, 5, 6, 7] rfl ?_
                                            exact e_35 z186 f186 (by rcases hz186 with q | q <;> omega) (bst_try (a := a) (b := b) (c := c) hb hv (hy.resolve_right (fun q => by omega)).2 (by rw [ht] at hz186; exact hz186) (fun a' b' c' q q1 => by omega))
                                        refine A_iconst (n := 1) hG dX12_bars_142 ?_
                                        refine A_iload hG 5 dX12_bars_143 rfl ?_
                                        refine A_ishl hG dX12_bars_145 ?_
                                        refine A_iload_n hG 3 dX12_bars_146 rfl rfl ?_
                                        refine A_iconst (n := 1) hG dX12_bars_147 ?_
                                        refine A_icmp_le hG 158 dX12_bars_148 (by decide) (by constructor <;> omega) (by constructor <;> omega) (fun c_148 => ?_) (fun c_148 => ?_)
                                        ·
                                          refine A_iconst (n := 0) hG dX12_bars_158 ?_
                                          refine A_ior hG dX12_bars_159 ?_
                                          refine A_iload_n hG 3 dX12_bars_160 rfl rfl ?_
                                          refine A_iconst (n := 2) hG dX12_bars_161 ?_
                                          refine A_icmp_le hG 172 dX12_bars_162 (by decide) (by constructor <;> omega) (by constructor <;> omega) (fun c_162 => ?_) (fun c_162 => ?_)
                                          ·
                                            refine A_iconst (n := 0) hG dX12_bars_172 ?_
                                            refine A_ior hG dX12_bars_173 ?_
                                            refine A_sub hG [1, 2, 3, 4, 5, 6, 7, 0] rfl ?_
                                            exact t_34 (ior (ior (ishl 1 a) 0) 0) (set_1 hv (by omega))
                                          ·
                                            refine A_iconst (n := 1) hG dX12_bars_165 ?_
                                            refine A_iload hG 7 dX12_bars_166 rfl ?_
                                            refine A_ishl hG dX12_bars_168 ?_
                                            refine A_goto hG 173 dX12_bars_169 (by decide) ?_
                                            refine A_ior hG dX12_bars_173 ?_
                                            refine A_sub hG [1, 2, 3, 4, 5, 6, 7, 0] rfl ?_
                                            exact t_34 (ior (ior (ishl 1 a) 0) (ishl 1 c)) (absurd c_148 (by omega))
                                        ·
                                          refine A_iconst (n := 1) hG dX12_bars_151 ?_
                                          refine A_iload hG 6 dX12_bars_152 rfl ?_
                                          refine A_ishl hG dX12_bars_154 ?_
                                          refine A_goto hG 159 dX12_bars_155 (by decide) ?_
                                          refine A_ior hG dX12_bars_159 ?_
                                          refine A_iload_n hG 3 dX12_bars_160 rfl rfl ?_
                                          refine A_iconst (n := 2) hG dX12_bars_161 ?_
                                          refine A_icmp_le hG 172 dX12_bars_162 (by decide) (by constructor <;> omega) (by constructor <;> omega) (fun c_162 => ?_) (fun c_162 => ?_)
                                          ·
                                            refine A_iconst (n := 0) hG dX12_bars_172 ?_
                                            refine A_ior hG dX12_bars_173 ?_
                                            refine A_sub hG [1, 2, 3, 4, 5, 6, 7, 0] rfl ?_
                                            exact t_34 (ior (ior (ishl 1 a) (ishl 1 b)) 0) (set_2 hv (by omega) (by omega))
                                          ·
                                            refine A_iconst (n := 1) hG dX12_bars_165 ?_
                                            refine A_iload hG 7 dX12_bars_166 rfl ?_
                                            refine A_ishl hG dX12_bars_168 ?_
                                            refine A_goto hG 173 dX12_bars_169 (by decide) ?_
                                            refine A_ior hG dX12_bars_173 ?_
                                            refine A_sub hG [1, 2, 3, 4, 5, 6, 7, 0] rfl ?_
                                            exact t_34 (ior (ior (ishl 1 a) (ishl 1 b)) (ishl 1 c)) (set_3 hv (by omega))
                                      refine A_iload_n hG 2 dX12_bars_107 rfl rfl ?_
                                      refine A_iconst (n := 2) hG dX12_bars_108 ?_
                                      refine A_icmp_lt hG 121 dX12_bars_109 (by decide) (by constructor <;> omega) (by constructor <;> omega) (fun c_109 => ?_) (fun c_109 => ?_)
                                      ·
                                        refine A_iload_n hG 2 dX12_bars_121 rfl rfl ?_
                                        refine A_iconst (n := 3) hG dX12_bars_122 ?_
                                        refine A_icmp_lt hG 135 dX12_bars_123 (by decide) (by constructor <;> omega) (by constructor <;> omega) (fun c_123 => ?_) (fun c_123 => ?_)
                                        ·
                                          refine A_iconst (n := 1) hG dX12_bars_135 ?_
                                          refine A_goto hG 140 dX12_bars_136 (by decide) ?_
                                          refine A_sub hG [0, 1, 2, 3, 4, 5, 6] rfl ?_
                                          exact y_33 1 (by first | exact Or.inl ⟨rfl, (hz78.resolve_right (fun q => by omega)).2, fun q => by first | exact (hz115.resolve_right (fun q => by omega)).2 | (exfalso; omega), fun q => by first | exact (hz129.resolve_right (fun q => by omega)).2 | (exfalso; omega)⟩ | exact Or.inr ⟨rfl, fun q => (hz129.resolve_left (fun q => by omega)).2 (q.2.2 (by omega))⟩ | exact Or.inr ⟨rfl, fun q => (hz115.resolve_left (fun q => by omega)).2 (q.2.1 (by omega))⟩)
                                        ·
                                          refine A_aload_n hG 0 dX12_bars_126 rfl rfl ?_
                                          refine A_iload hG 6 dX12_bars_127 rfl ?_
                                          refine C_Vi (as := [vI c]) (st := []) (k := 500) (c := 11) hG dX12_bars_129 ml_X12_218 mf_X12_isAgreeing mi_X12_isAgreeing se_X12_isAgreeing rfl (by decide) k500 (r_isAgreeing (hm h [] [(518, f)] []) (r := c) (by omega) hnr) (by decide) (by decide) rfl rfl (Nat.le_of_ble_eq_true rfl) (fun z129 g129 ri_129 hp_129 => ?_)
                                          obtain ⟨ra_129, rb_129⟩ := ri_129
                                          have hq_129 : ((z129 = 1 ∧ agrR h c) ∨ (z129 = 0 ∧ ¬ agrR h c)) ∧ g129 = hm h [] [(518, f)] [] := hp_129
                                          obtain ⟨hz129, rfl⟩ := hq_129
                                          rw [agr_iff (by omega)] at hz129
                                          refine A_if_eq hG 139 dX12_bars_132 (by decide) (by constructor <;> omega) (fun c_132 => ?_) (fun c_132 => ?_)
                                          ·
                                            refine A_iconst (n := 0) hG dX12_bars_139 ?_
                                            refine A_sub hG [0, 1, 2, 3, 4, 5, 6] rfl ?_
                                            exact y_33 0 (by first | exact Or.inl ⟨rfl, (hz78.resolve_right (fun q => by omega)).2, fun q => by first | exact (hz115.resolve_right (fun q => by omega)).2 | (exfalso; omega), fun q => by first | exact (hz129.resolve_right (fun q => by omega)).2 | (exfalso; omega)⟩ | exact Or.inr ⟨rfl, fun q => (hz129.resolve_left (fun q => by omega)).2 (q.2.2 (by omega))⟩ | exact Or.inr ⟨rfl, fun q => (hz115.resolve_left (fun q => by omega)).2 (q.2.1 (by omega))⟩)
                                          ·
                                            refine A_iconst (n := 1) hG dX12_bars_135 ?_
                                            refine A_goto hG 140 dX12_bars_136 (by decide) ?_
                                            refine A_sub hG [0, 1, 2, 3, 4, 5, 6] rfl ?_
                                            exact y_33 1 (by first | exact Or.inl ⟨rfl, (hz78.resolve_right (fun q => by omega)).2, fun q => by first | exact (hz115.resolve_right (fun q => by omega)).2 | (exfalso; omega), fun q => by first | exact (hz129.resolve_right (fun q => by omega)).2 | (exfalso; omega)⟩ | exact Or.inr ⟨rfl, fun q => (hz129.resolve_left (fun q => by omega)).2 (q.2.2 (by omega))⟩ | exact Or.inr ⟨rfl, fun q => (hz115.resolve_left (fun q => by omega)).2 (q.2.1 (by omega))⟩)
                                      ·
                                        refine A_aload_n hG 0 dX12_bars_112 rfl rfl ?_
                                        refine A_iload hG 5 dX12_bars_113 rfl ?_
                                        refine C_Vi (as := [vI b]) (st := []) (k := 500) (c := 11) hG dX12_bars_115 ml_X12_218 mf_X12_isAgreeing mi_X12_isAgreeing se_X12_isAgreeing rfl (by decide) k500 (r_isAgreeing (hm h [] [(518, f)] []) (r := b) (by omega) hnr) (by decide) (by decide) rfl rfl (Nat.le_of_ble_eq_true rfl) (fun z115 g115 ri_115 hp_115 => ?_)
                                        obtain ⟨ra_115, rb_115⟩ := ri_115
                                        have hq_115 : ((z115 = 1 ∧ agrR h b) ∨ (z115 = 0 ∧ ¬ agrR h b)) ∧ g115 = hm h [] [(518, f)] [] := hp_115
                                        obtain ⟨hz115, rfl⟩ := hq_115
                                        rw [agr_iff (by omega)] at hz115
                                        refine A_if_eq hG 139 dX12_bars_118 (by decide) (by constructor <;> omega) (fun c_118 => ?_) (fun c_118 => ?_)
                                        ·
                                          refine A_iconst (n := 0) hG dX12_bars_139 ?_
                                          refine A_sub hG [0, 1, 2, 3, 4, 5, 6] rfl ?_
                                          exact y_33 0 (by first | exact Or.inl ⟨rfl, (hz78.resolve_right (fun q => by omega)).2, fun q => by first | exact (hz115.resolve_right (fun q => by omega)).2 | (exfalso; omega), fun q => by first | exact (hz129.resolve_right (fun q => by omega)).2 | (exfalso; omega)⟩ | exact Or.inr ⟨rfl, fun q => (hz129.resolve_left (fun q => by omega)).2 (q.2.2 (by omega))⟩ | exact Or.inr ⟨rfl, fun q => (hz115.resolve_left (fun q => by omega)).2 (q.2.1 (by omega))⟩)
                                        ·
                                          refine A_iload_n hG 2 dX12_bars_121 rfl rfl ?_
                                          refine A_iconst (n := 3) hG dX12_bars_122 ?_
                                          refine A_icmp_lt hG 135 dX12_bars_123 (by decide) (by constructor <;> omega) (by constructor <;> omega) (fun c_123 => ?_) (fun c_123 => ?_)
                                          ·
                                            refine A_iconst (n := 1) hG dX12_bars_135 ?_
                                            refine A_goto hG 140 dX12_bars_136 (by decide) ?_
                                            refine A_sub hG [0, 1, 2, 3, 4, 5, 6] rfl ?_
                                            exact y_33 1 (by first | exact Or.inl ⟨rfl, (hz78.resolve_right (fun q => by omega)).2, fun q => by first | exact (hz115.resolve_right (fun q => by omega)).2 | (exfalso; omega), fun q => by first | exact (hz129.resolve_right (fun q => by omega)).2 | (exfalso; omega)⟩ | exact Or.inr ⟨rfl, fun q => (hz129.resolve_left (fun q => by omega)).2 (q.2.2 (by omega))⟩ | exact Or.inr ⟨rfl, fun q => (hz115.resolve_left (fun q => by omega)).2 (q.2.1 (by omega))⟩)
                                          ·
                                            refine A_aload_n hG 0 dX12_bars_126 rfl rfl ?_
                                            refine A_iload hG 6 dX12_bars_127 rfl ?_
                                            refine C_Vi (as := [vI c]) (st := []) (k := 500) (c := 11) hG dX12_bars_129 ml_X12_218 mf_X12_isAgreeing mi_X12_isAgreeing se_X12_isAgreeing rfl (by decide) k500 (r_isAgreeing (hm h [] [(518, f)] []) (r := c) (by omega) hnr) (by decide) (by decide) rfl rfl (Nat.le_of_ble_eq_true rfl) (fun z129 g129 ri_129 hp_129 => ?_)
                                            obtain ⟨ra_129, rb_129⟩ := ri_129
                                            have hq_129 : ((z129 = 1 ∧ agrR h c) ∨ (z129 = 0 ∧ ¬ agrR h c)) ∧ g129 = hm h [] [(518, f)] [] := hp_129
                                            obtain ⟨hz129, rfl⟩ := hq_129
                                            rw [agr_iff (by omega)] at hz129
                                            refine A_if_eq hG 139 dX12_bars_132 (by decide) (by constructor <;> omega) (fun c_132 => ?_) (fun c_132 => ?_)
                                            ·
                                              refine A_iconst (n := 0) hG dX12_bars_139 ?_
                                              refine A_sub hG [0, 1, 2, 3, 4, 5, 6] rfl ?_
                                              exact y_33 0 (by first | exact Or.inl ⟨rfl, (hz78.resolve_right (fun q => by omega)).2, fun q => by first | exact (hz115.resolve_right (fun q => by omega)).2 | (exfalso; omega), fun q => by first | exact (hz129.resolve_right (fun q => by omega)).2 | (exfalso; omega)⟩ | exact Or.inr ⟨rfl, fun q => (hz129.resolve_left (fun q => by omega)).2 (q.2.2 (by omega))⟩ | exact Or.inr ⟨rfl, fun q => (hz115.resolve_left (fun q => by omega)).2 (q.2.1 (by omega))⟩)
                                            ·
                                              refine A_iconst (n := 1) hG dX12_bars_135 ?_
                                              refine A_goto hG 140 dX12_bars_136 (by decide) ?_
                                              refine A_sub hG [0, 1, 2, 3, 4, 5, 6] rfl ?_
                                              exact y_33 1 (by first | exact Or.inl ⟨rfl, (hz78.resolve_right (fun q => by omega)).2, fun q => by first | exact (hz115.resolve_right (fun q => by omega)).2 | (exfalso; omega), fun q => by first | exact (hz129.resolve_right (fun q => by omega)).2 | (exfalso; omega)⟩ | exact Or.inr ⟨rfl, fun q => (hz129.resolve_left (fun q => by omega)).2 (q.2.2 (by omega))⟩ | exact Or.inr ⟨rfl, fun q => (hz115.resolve_left (fun q => by omega)).2 (q.2.1 (by omega))⟩)
                                refine A_sub hG [1, 2, 3, 4, 5, 6, 0] rfl ?_
                                exact c_32 _ x (b + 1) f (by omega) (by omega) (bst_sub hb (fun a' b' c' q q1 => by obtain ⟨q2, q3, q4, q5, q6⟩ := q; omega)) (Nat.lt_succ_self _)
                      refine A_sub hG [1, 2, 3, 4, 5, 0] rfl ?_
                      exact b_22 _ x (a + 1) f (by omega) (by omega) (bst_sub hb (fun a' b' c' q q1 => by obtain ⟨q2, q3, q4, q5, q6⟩ := q; omega)) (Nat.lt_succ_self _)
              refine A_sub hG [2, 3, 4, 1, 0] rfl ?_
              exact a_3 _ (-4) 0 f (by omega) (by omega) (bst_0 (fun a b c q q1 => by have := q.1; omega)) (Nat.lt_succ_self _)
        refine A_sub hG [1, 2, 0] rfl ?_
        exact m_2 _ 1 f24 (by omega) (fun q q1 q2 => by omega) (Nat.lt_succ_self _)
      ·
        refine A_iconst (n := 0) hG dX12_bars_30 ?_
        exact Ret_i hM dX12_bars_31 (by constructor <;> omega) (⟨f24, Or.inr (Or.inr (Or.inl ⟨rfl, by omega, c_15, (hz24.resolve_right (fun q => by omega)).2.2⟩)), rfl⟩)
    ·
      refine A_bipush (n := -2) hG dX12_bars_18 (by decide) ?_
      exact Ret_i hM dX12_bars_20 (by constructor <;> omega) (⟨h.2.1 518, Or.inr (Or.inl ⟨rfl, by omega, c_15⟩), (hm_selfL h 518).symm⟩)
  ·
    refine A_iconst (n := -1) hG dX12_bars_7 ?_
    exact Ret_i hM dX12_bars_8 (by constructor <;> omega) (⟨h.2.1 518, Or.inl ⟨rfl, by omega⟩, (hm_selfL h 518).symm⟩)

end
