/-! the reference: READ (printed by gen) -/
section
theorem has_no {z a b : Int} (h : z = 1 ∧ hasb a b ∨ z = 0 ∧ ¬ hasb a b) (c : z = 0) : ¬ hasb a b := by
  rcases h with h | h
  · omega
  · exact h.2
theorem has_yes {z a b : Int} (h : z = 1 ∧ hasb a b ∨ z = 0 ∧ ¬ hasb a b) (c : ¬ z = 0) : hasb a b := by
  rcases h with h | h
  · exact h.2
  · omega
theorem nib_of {x : Int64} {k : Int} {A : Int → Prop} (hk : 0 ≤ k ∧ k ≤ 9) (h : ∀ m, 0 ≤ m → m < 4 → (bitL x (4 * k + m) ↔ A m)) : nibOf (nib x k) A := ⟨nib_rng x hk, fun m h1 h2 => (nib_bit x hk ⟨h1, h2⟩).trans (h m h1 h2)⟩
theorem leaf1 {h : AH} {s n b : Int} {fs : Int → Prop} (hn : n = 1) (hG0 : okG (gR h)) (hw : 0 ≤ h.1 509 (10 * s + b) ∧ h.1 509 (10 * s + b) < h.1 503 0) (hb : 0 ≤ b ∧ b < h.1 508 s) {kd m : Int} (b1 : 0 ≤ kd) (b2 : kd ≤ 9) (b3 : 0 ≤ m) (b4 : m < 4) : bitL (lshl (i2l 1) (4 * h.1 504 (4 * h.1 509 (10 * s + b)) + h.1 504 (4 * h.1 509 (10 * s + b) + 1))) (4 * kd + m) ↔ n = 1 ∧ rd (gR h) fs (rowR h s) 1 b kd m := by
  have e := gR_w (h := h) (j := h.1 509 (10 * s + b)) hw
  have k := hG0.2.2.1 (h.1 509 (10 * s + b)) hw.1 hw.2
  rw [bitL_one (by omega) (by omega), rd_1, rowR_in hb, e.1, e.2.1]
  omega
set_option maxHeartbeats 2000000 in
set_option maxRecDepth 20000 in
theorem r_marksOf (h : AH) {f n k : Int} (hf : 0 ≤ f ∧ f ≤ 7) (hn : 0 ≤ n ∧ n ≤ 8) (hk : 0 ≤ k ∧ k ≤ 9) : AMet yX12_marksOf cX12_marksOf 4 (some .int) 0 0 [.ref 500, vI f, vI n, vI k] h (Qi (fun z h' => z = nib (h.2.1 518 (9 * f + n)) k ∧ h' = h)) := by
  refine AMet.of (by decide) (Nat.le_of_ble_eq_true rfl) (fun G hM => ?_)
  have hG := hM.cx
  refine A_hm0 (G := G) (L := [(0, .ref 500), (1, vI f), (2, vI n), (3, vI k)]) ?_
  refine A_aload_n hG 0 dX12_marksOf_0 rfl rfl ?_
  refine A_getR (r := 518) hG dX12_marksOf_1 fl_X12_49 (by decide) k500 (by decide) rfl ?_
  refine A_bipush (n := 9) hG dX12_marksOf_4 (by decide) ?_
  refine A_iload_n hG 1 dX12_marksOf_6 rfl rfl ?_
  refine A_imul hG dX12_marksOf_7 ?_
  refine A_iload_n hG 2 dX12_marksOf_8 rfl rfl ?_
  refine A_iadd hG dX12_marksOf_9 ?_
  refine M_lald (v := h.2.1 518 ((9 * f) + n)) hG dX12_marksOf_10 k518 n518 (by omega) rfl ?_
  refine A_iconst (n := 4) hG dX12_marksOf_11 ?_
  refine A_iload_n hG 3 dX12_marksOf_12 rfl rfl ?_
  refine A_imul hG dX12_marksOf_13 ?_
  refine A_lshr hG dX12_marksOf_14 ?_
  refine A_ldc2 (v := i2l 15) hG dX12_marksOf_15 (by rw [show i2l 15 = (15 : Int64) by decide]; exact kl_X12_137) ?_
  refine A_land hG dX12_marksOf_18 ?_
  refine A_l2i hG dX12_marksOf_19 ?_
  exact Ret_i hM dX12_marksOf_20 (irT _) (⟨rfl, rfl⟩)

set_option maxHeartbeats 2000000 in
set_option maxRecDepth 20000 in
theorem r_laySpans (h : AH) {s fr : Int} (hs : 0 ≤ s ∧ s ≤ 9) (hG0 : okG (gR h)) (hW0 : okW (gR h) (rowR h s) (h.1 508 s)) : AMet yX12_laySpans cX12_laySpans 12 none 1 23 [.ref 500, vI s, vI fr] h (Qv (fun h' => ∃ f : Int → Int64, (∀ n' f' : Int, 1 ≤ n' → 0 ≤ f' → f' + n' ≤ h.1 508 s → ∀ k m, 0 ≤ k → k ≤ 9 → 0 ≤ m → m < 4 → (bitL (f (9 * f' + n')) (4 * k + m) ↔ rd (gR h) (hasb fr) (rowR h s) n' f' k m)) ∧ h' = hm h [] [(518, f)] [])) := by
  have hlen := hW0.1
  have hnr := hG0.2.1
  rw [(gR_n h).2] at hnr
  refine AMet.of (by decide) (Nat.le_of_ble_eq_true rfl) (fun G hM => ?_)
  have hG := hM.cx
  refine A_hm0 (G := G) (L := [(0, .ref 500), (1, vI s), (2, vI fr)]) ?_
  refine A_iconst (n := 1) hG dX12_laySpans_0 ?_
  refine A_istore_n (L' := [(3, vI 1), (0, .ref 500), (1, vI s), (2, vI fr)]) hG dX12_laySpans_1 rfl (by decide) rfl ?_
  refine A_insL 518 (ll' := [(518, h.2.1 518)]) rfl ?_
  have n_0 : ∀ fu : Nat, ∀ (n : Int) (f : Int → Int64), (1 ≤ n ∧ n ≤ h.1 508 s + 1) → (∀ n' f' : Int, 1 ≤ n' → 0 ≤ f' → f' + n' ≤ h.1 508 s → (n' < n) → ∀ k m, 0 ≤ k → k ≤ 9 → 0 ≤ m → m < 4 → (bitL (f (9 * f' + n')) (4 * k + m) ↔ rd (gR h) (hasb fr) (rowR h s) n' f' k m)) → ((10 - n).toNat) < fu → G 2 [(0, .ref 500), (1, vI s), (2, vI fr), (3, vI n)] [] (hm h [] [(518, f)] []) := by
    intro fu
    induction fu with
    | zero => intro n f hn hd hfu; exact absurd hfu (Nat.not_lt_zero _)
    | succ fu ih_n =>
      intro n f hn hd hfu
      refine A_iload_n hG 3 dX12_laySpans_2 rfl rfl ?_
      refine A_aload_n hG 0 dX12_laySpans_3 rfl rfl ?_
      refine A_getR (r := 508) hG dX12_laySpans_4 fl_X12_28 (by decide) k500 (by decide) rfl ?_
      refine A_iload_n hG 1 dX12_laySpans_7 rfl rfl ?_
      refine M_iald (v := h.1 508 s) hG dX12_laySpans_8 k508 n508 (by omega) rfl (fun ⟨ra_8, rb_8⟩ => ?_)
      refine A_icmp_gt hG 291 dX12_laySpans_9 (by decide) (by constructor <;> omega) (by constructor <;> omega) (fun c_9 => ?_) (fun c_9 => ?_)
      ·
        exact Ret_v hM dX12_laySpans_291 (⟨f, fun n' f' a1 a2 a3 => hd n' f' a1 a2 a3 (by omega), rfl⟩)
      ·
        refine A_iconst (n := 0) hG dX12_laySpans_12 ?_
        refine A_istore (L' := [(4, vI 0), (0, .ref 500), (1, vI s), (2, vI fr), (3, vI n)]) hG dX12_laySpans_13 (by decide) rfl ?_
        have b_1 : ∀ fu : Nat, ∀ (b : Int) (f : Int → Int64), (0 ≤ b ∧ b ≤ 8) → (∀ n' f' : Int, 1 ≤ n' → 0 ≤ f' → f' + n' ≤ h.1 508 s → (n' < n ∨ n' = n ∧ f' < b) → ∀ k m, 0 ≤ k → k ≤ 9 → 0 ≤ m → m < 4 → (bitL (f (9 * f' + n')) (4 * k + m) ↔ rd (gR h) (hasb fr) (rowR h s) n' f' k m)) → ((10 - b).toNat) < fu → G 15 [(0, .ref 500), (1, vI s), (2, vI fr), (3, vI n), (4, vI b)] [] (hm h [] [(518, f)] []) := by
          intro fu
          induction fu with
          | zero => intro b f hb hd hfu; exact absurd hfu (Nat.not_lt_zero _)
          | succ fu ih_b =>
            intro b f hb hd hfu
            refine A_iload hG 4 dX12_laySpans_15 rfl ?_
            refine A_iload_n hG 3 dX12_laySpans_17 rfl rfl ?_
            refine A_iadd hG dX12_laySpans_18 ?_
            refine A_aload_n hG 0 dX12_laySpans_19 rfl rfl ?_
            refine A_getR (r := 508) hG dX12_laySpans_20 fl_X12_28 (by decide) k500 (by decide) rfl ?_
            refine A_iload_n hG 1 dX12_laySpans_23 rfl rfl ?_
            refine M_iald (v := h.1 508 s) hG dX12_laySpans_24 k508 n508 (by omega) rfl (fun ⟨ra_24, rb_24⟩ => ?_)
            refine A_icmp_gt hG 285 dX12_laySpans_25 (by decide) (by constructor <;> omega) (by constructor <;> omega) (fun c_25 => ?_) (fun c_25 => ?_)
            ·
              refine A_iinc (L' := [(3, vI (n + 1)), (0, .ref 500), (1, vI s), (2, vI fr), (4, vI b)]) hG 3 dX12_laySpans_285 rfl (by decide) rfl ?_
              refine A_goto hG 2 dX12_laySpans_288 (by decide) ?_
              refine A_sub hG [1, 2, 3, 0] rfl ?_
              exact ih_n (n + 1) f (by omega) (fun n' f' a1 a2 a3 a4 => hd n' f' a1 a2 a3 (by omega)) (by omega)
            ·
              have hw0 := hW0.2 b (by omega) (by omega)
              rw [rowR_in (by omega), (gR_n h).1] at hw0
              have hw1 := gR_w (h := h) (j := h.1 509 (10 * s + b)) (by omega)
              have hw2 := hG0.2.2.1 (h.1 509 (10 * s + b)) (by omega) (by rw [(gR_n h).1]; omega)
              have hnw := hG0.1
              rw [(gR_n h).1] at hnw
              refine A_iconst (n := 4) hG dX12_laySpans_28 ?_
              refine A_aload_n hG 0 dX12_laySpans_29 rfl rfl ?_
              refine A_getR (r := 509) hG dX12_laySpans_30 fl_X12_31 (by decide) k500 (by decide) rfl ?_
              refine A_bipush (n := 10) hG dX12_laySpans_33 (by decide) ?_
              refine A_iload_n hG 1 dX12_laySpans_35 rfl rfl ?_
              refine A_imul hG dX12_laySpans_36 ?_
              refine A_iload hG 4 dX12_laySpans_37 rfl ?_
              refine A_iadd hG dX12_laySpans_39 ?_
              refine M_iald (v := h.1 509 ((10 * s) + b)) hG dX12_laySpans_40 k509 n509 (by omega) rfl (fun ⟨ra_40, rb_40⟩ => ?_)
              refine A_imul hG dX12_laySpans_41 ?_
              refine A_istore (L' := [(5, vI (4 * (h.1 509 ((10 * s) + b)))), (0, .ref 500), (1, vI s), (2, vI fr), (3, vI n), (4, vI b)]) hG dX12_laySpans_42 (by decide) rfl ?_
              refine A_aload_n hG 1 dX12_laySpans_44 rfl rfl ?_
              refine A_getR (r := 518) hG dX12_laySpans_45 fl_X12_49 (by decide) k500 (by decide) rfl ?_
              refine A_bipush (n := 9) hG dX12_laySpans_48 (by decide) ?_
              refine A_iload hG 5 dX12_laySpans_50 rfl ?_
              refine A_imul hG dX12_laySpans_52 ?_
              refine A_iload_n hG 4 dX12_laySpans_53 rfl rfl ?_
              refine A_iadd hG dX12_laySpans_54 ?_
              refine A_iload_n hG 4 dX12_laySpans_55 rfl rfl ?_
              refine A_iconst (n := 1) hG dX12_laySpans_56 ?_
              refine A_icmp_ne hG 84 dX12_laySpans_57 (by decide) (by constructor <;> omega) (by constructor <;> omega) (fun c_57 => ?_) (fun c_57 => ?_)
              ·
                refine A_lconst (v := i2l 0) hG dX12_laySpans_84 (by decide) ?_
                refine M_last (ll' := [(518, up f ((9 * b) + n) (i2l 0))]) hG dX12_laySpans_85 k518 n518 (by omega) rfl ?_
                refine A_iconst (n := 1) hG dX12_laySpans_86 ?_
                refine A_istore (L' := [(6, vI 1), (5, vI (4 * (h.1 509 ((10 * s) + b)))), (0, .ref 500), (1, vI s), (2, vI fr), (3, vI n), (4, vI b)]) hG dX12_laySpans_87 (by decide) rfl ?_
                have k_2 : ∀ fu : Nat, ∀ (k : Int) (f : Int → Int64), (1 ≤ k ∧ k ≤ n) → (∀ n' f' : Int, 1 ≤ n' → 0 ≤ f' → f' + n' ≤ h.1 508 s → (n' < n ∨ n' = n ∧ f' < b) → ∀ k m, 0 ≤ k → k ≤ 9 → 0 ≤ m → m < 4 → (bitL (f (9 * f' + n')) (4 * k + m) ↔ rd (gR h) (hasb fr) (rowR h s) n' f' k m)) → (∀ kd m, 0 ≤ kd → kd ≤ 9 → 0 ≤ m → m < 4 → (bitL (f (9 * b + n)) (4 * kd + m) ↔ PJ (gR h) (hasb fr) (rowR h s) n b k 0 kd m)) → ((10 - k).toNat) < fu → G 89 [(0, .ref 500), (1, vI s), (2, vI fr), (3, vI n), (4, vI b), (6, vI k)] [] (hm h [] [(518, f)] []) := by
                  intro fu
                  induction fu with
                  | zero => intro k f hk hd hp hfu; exact absurd hfu (Nat.not_lt_zero _)
                  | succ fu ih_k =>
                    intro k f hk hd hp hfu
                    refine A_iload hG 5 dX12_laySpans_89 rfl ?_
                    refine A_iload_n hG 3 dX12_laySpans_91 rfl rfl ?_
                    refine A_icmp_ge hG 279 dX12_laySpans_92 (by decide) (by constructor <;> omega) (by constructor <;> omega) (fun c_92 => ?_) (fun c_92 => ?_)
                    ·
                      refine A_iinc (L' := [(4, vI (b + 1)), (0, .ref 500), (1, vI s), (2, vI fr), (3, vI n), (6, vI k)]) hG 4 dX12_laySpans_279 rfl (by decide) rfl ?_
                      refine A_goto hG 15 dX12_laySpans_282 (by decide) ?_
                      refine A_sub hG [1, 2, 3, 4, 0] rfl ?_
                      exact ih_b (b + 1) f (by omega) (fun n' f' a1 a2 a3 a4 => by
                          rcases (show (n' < n ∨ n' = n ∧ f' < b) ∨ (n' = n ∧ f' = b) by omega) with a5 | ⟨rfl, rfl⟩
                          · exact hd n' f' a1 a2 a3 a5
                          · intro kd m b1 b2 b3 b4
                            rw [hp kd m b1 b2 b3 b4, show k = n' by omega, PJ_end a1]) (by omega)
                    ·
                      refine A_iconst (n := 0) hG dX12_laySpans_95 ?_
                      refine A_istore (L' := [(7, vI 0), (0, .ref 500), (1, vI s), (2, vI fr), (3, vI n), (4, vI b), (6, vI k)]) hG dX12_laySpans_96 (by decide) rfl ?_
                      have r_3 : ∀ fu : Nat, ∀ (r : Int) (f : Int → Int64), (0 ≤ r ∧ r ≤ h.1 505 0) → (∀ n' f' : Int, 1 ≤ n' → 0 ≤ f' → f' + n' ≤ h.1 508 s → (n' < n ∨ n' = n ∧ f' < b) → ∀ k m, 0 ≤ k → k ≤ 9 → 0 ≤ m → m < 4 → (bitL (f (9 * f' + n')) (4 * k + m) ↔ rd (gR h) (hasb fr) (rowR h s) n' f' k m)) → (∀ kd m, 0 ≤ kd → kd ≤ 9 → 0 ≤ m → m < 4 → (bitL (f (9 * b + n)) (4 * kd + m) ↔ PJ (gR h) (hasb fr) (rowR h s) n b k r kd m)) → ((30 - r).toNat) < fu → G 98 [(0, .ref 500), (1, vI s), (2, vI fr), (3, vI n), (4, vI b), (6, vI k), (7, vI r)] [] (hm h [] [(518, f)] []) := by
                        intro fu
                        induction fu with
                        | zero => intro r f hr hd hp hfu; exact absurd hfu (Nat.not_lt_zero _)
                        | succ fu ih_r =>
                          intro r f hr hd hp hfu
                          refine A_iload hG 6 dX12_laySpans_98 rfl ?_
                          refine A_aload_n hG 0 dX12_laySpans_100 rfl rfl ?_
                          refine A_getR (r := 505) hG dX12_laySpans_101 fl_X12_19 (by decide) k500 (by decide) rfl ?_
                          refine A_iconst (n := 0) hG dX12_laySpans_104 ?_
                          refine M_iald (v := h.1 505 0) hG dX12_laySpans_105 k505 n505 (by omega) rfl (fun ⟨ra_105, rb_105⟩ => ?_)
                          refine A_icmp_ge hG 273 dX12_laySpans_106 (by decide) (by constructor <;> omega) (by constructor <;> omega) (fun c_106 => ?_) (fun c_106 => ?_)
                          ·
                            refine A_iinc (L' := [(6, vI (k + 1)), (0, .ref 500), (1, vI s), (2, vI fr), (3, vI n), (4, vI b), (7, vI r)]) hG 5 dX12_laySpans_273 rfl (by decide) rfl ?_
                            refine A_goto hG 89 dX12_laySpans_276 (by decide) ?_
                            refine A_sub hG [1, 2, 3, 4, 5, 0] rfl ?_
                            exact ih_k (k + 1) f (by omega) hd (fun kd m b1 b2 b3 b4 => by rw [hp kd m b1 b2 b3 b4, show r = gR h 10 1 by rw [(gR_n h).2]; omega, PJ_row]) (by omega)
                          ·
                            have er := gR_r (h := h) (j := r) (by omega)
                            have ok := hG0.2.2.2.1 r (by omega) (by rw [(gR_n h).2]; omega)
                            refine A_aload_n hG 0 dX12_laySpans_109 rfl rfl ?_
                            refine A_iload hG 4 dX12_laySpans_110 rfl ?_
                            refine A_iload hG 5 dX12_laySpans_112 rfl ?_
                            refine A_aload_n hG 0 dX12_laySpans_114 rfl rfl ?_
                            refine A_getR (r := 506) hG dX12_laySpans_115 fl_X12_22 (by decide) k500 (by decide) rfl ?_
                            refine A_iconst (n := 5) hG dX12_laySpans_118 ?_
                            refine A_iload hG 6 dX12_laySpans_119 rfl ?_
                            refine A_imul hG dX12_laySpans_121 ?_
                            refine A_iconst (n := 1) hG dX12_laySpans_122 ?_
                            refine A_iadd hG dX12_laySpans_123 ?_
                            refine M_iald (v := h.1 506 ((5 * r) + 1)) hG dX12_laySpans_124 k506 n506 (by omega) rfl (fun ⟨ra_124, rb_124⟩ => ?_)
                            refine C_Vi (as := [vI b, vI k, vI (h.1 506 ((5 * r) + 1))]) (st := []) (k := 500) (c := 11) hG dX12_laySpans_125 ml_X12_139 mf_X12_marksOf mi_X12_marksOf se_X12_marksOf rfl (by decide) k500 (r_marksOf (hm h [] [(518, f)] []) (by omega) (by omega) (by omega)) (by decide) (by decide) rfl rfl (by decide) (fun z125 g125 ri_125 hp_125 => ?_)
                            obtain ⟨ra_125, rb_125⟩ := ri_125
                            have hq_125 : z125 = nib (f (9 * b + k)) (h.1 506 ((5 * r) + 1)) ∧ g125 = hm h [] [(518, f)] [] := hp_125
                            obtain ⟨rfl, rfl⟩ := hq_125
                            refine A_istore (L' := [(8, vI (nib (f (9 * b + k)) (h.1 506 ((5 * r) + 1)))), (0, .ref 500), (1, vI s), (2, vI fr), (3, vI n), (4, vI b), (6, vI k), (7, vI r)]) hG dX12_laySpans_128 (by decide) rfl ?_
                            refine A_aload_n hG 1 dX12_laySpans_130 rfl rfl ?_
                            refine A_iload hG 5 dX12_laySpans_131 rfl ?_
                            refine A_iload hG 6 dX12_laySpans_133 rfl ?_
                            refine A_iadd hG dX12_laySpans_135 ?_
                            refine A_iload_n hG 4 dX12_laySpans_136 rfl rfl ?_
                            refine A_iload hG 6 dX12_laySpans_137 rfl ?_
                            refine A_isub hG dX12_laySpans_139 ?_
                            refine A_aload_n hG 1 dX12_laySpans_140 rfl rfl ?_
                            refine A_getR (r := 506) hG dX12_laySpans_141 fl_X12_22 (by decide) k500 (by decide) rfl ?_
                            refine A_iconst (n := 5) hG dX12_laySpans_144 ?_
                            refine A_iload hG 7 dX12_laySpans_145 rfl ?_
                            refine A_imul hG dX12_laySpans_147 ?_
                            refine A_iconst (n := 2) hG dX12_laySpans_148 ?_
                            refine A_iadd hG dX12_laySpans_149 ?_
                            refine M_iald (v := h.1 506 ((5 * r) + 2)) hG dX12_laySpans_150 k506 n506 (by omega) rfl (fun ⟨ra_150, rb_150⟩ => ?_)
                            refine C_Vi (as := [vI (b + k), vI (n - k), vI (h.1 506 ((5 * r) + 2))]) (st := []) (k := 500) (c := 11) hG dX12_laySpans_151 ml_X12_139 mf_X12_marksOf mi_X12_marksOf se_X12_marksOf rfl (by decide) k500 (r_marksOf (hm h [] [(518, f)] []) (by omega) (by omega) (by omega)) (by decide) (by decide) rfl rfl (by decide) (fun z151 g151 ri_151 hp_151 => ?_)
                            obtain ⟨ra_151, rb_151⟩ := ri_151
                            have hq_151 : z151 = nib (f (9 * (b + k) + (n - k))) (h.1 506 ((5 * r) + 2)) ∧ g151 = hm h [] [(518, f)] [] := hp_151
                            obtain ⟨rfl, rfl⟩ := hq_151
                            refine A_istore (L' := [(9, vI (nib (f (9 * (b + k) + (n - k))) (h.1 506 ((5 * r) + 2)))), (8, vI (nib (f (9 * b + k)) (h.1 506 ((5 * r) + 1)))), (0, .ref 500), (1, vI s), (2, vI fr), (3, vI n), (4, vI b), (6, vI k), (7, vI r)]) hG dX12_laySpans_154 (by decide) rfl ?_
                            have c_6 : ∀ (x : Int), (nibOf x (fun m => jn (gR h) (hasb fr) r m (rd (gR h) (hasb fr) (rowR h s) k b (gR h 5 r)) (rd (gR h) (hasb fr) (rowR h s) (n - k) (b + k) (gR h 6 r)))) → G 235 [(0, .ref 500), (1, vI s), (2, vI fr), (3, vI n), (4, vI b), (6, vI k), (7, vI r)] [vI x] (hm h [] [(518, f)] []) := by
                              intro x hx
                              refine A_istore (L' := [(11, vI x), (0, .ref 500), (1, vI s), (2, vI fr), (3, vI n), (4, vI b), (6, vI k), (7, vI r)]) hG dX12_laySpans_235 (by decide) rfl ?_
                              refine A_aload_n hG 1 dX12_laySpans_237 rfl rfl ?_
                              refine A_getR (r := 518) hG dX12_laySpans_238 fl_X12_49 (by decide) k500 (by decide) rfl ?_
                              refine A_bipush (n := 9) hG dX12_laySpans_241 (by decide) ?_
                              refine A_iload hG 5 dX12_laySpans_243 rfl ?_
                              refine A_imul hG dX12_laySpans_245 ?_
                              refine A_iload_n hG 4 dX12_laySpans_246 rfl rfl ?_
                              refine A_iadd hG dX12_laySpans_247 ?_
                              refine A_dup2 hG dX12_laySpans_248 rfl rfl ?_
                              refine M_lald (v := f ((9 * b) + n)) hG dX12_laySpans_249 k518 n518 (by omega) rfl ?_
                              refine A_iload hG 0 dX12_laySpans_250 rfl ?_
                              refine A_i2l hG dX12_laySpans_252 ?_
                              refine A_iconst (n := 4) hG dX12_laySpans_253 ?_
                              refine A_aload_n hG 1 dX12_laySpans_254 rfl rfl ?_
                              refine A_getR (r := 506) hG dX12_laySpans_255 fl_X12_22 (by decide) k500 (by decide) rfl ?_
                              refine A_iconst (n := 5) hG dX12_laySpans_258 ?_
                              refine A_iload hG 7 dX12_laySpans_259 rfl ?_
                              refine A_imul hG dX12_laySpans_261 ?_
                              refine M_iald (v := h.1 506 (5 * r)) hG dX12_laySpans_262 k506 n506 (by omega) rfl (fun ⟨ra_262, rb_262⟩ => ?_)
                              refine A_imul hG dX12_laySpans_263 ?_
                              refine A_lshl hG dX12_laySpans_264 ?_
                              refine A_lor hG dX12_laySpans_265 ?_
                              refine M_last (ll' := [(518, up f ((9 * b) + n) ((f ((9 * b) + n)) ||| (lshl (i2l x) (4 * (h.1 506 (5 * r))))))]) hG dX12_laySpans_266 k518 n518 (by omega) rfl ?_
                              refine A_iinc (L' := [(7, vI (r + 1)), (11, vI x), (0, .ref 500), (1, vI s), (2, vI fr), (3, vI n), (4, vI b), (6, vI k)]) hG 7 dX12_laySpans_267 rfl (by decide) rfl ?_
                              refine A_goto hG 98 dX12_laySpans_270 (by decide) ?_
                              refine A_sub hG [2, 3, 4, 5, 6, 7, 0] rfl ?_
                              exact ih_r (r + 1) (up f ((9 * b) + n) ((f ((9 * b) + n)) ||| (lshl (i2l x) (4 * (h.1 506 (5 * r)))))) (by omega) (fun n' f' a1 a2 a3 a4 kd m b1 b2 b3 b4 => by rw [up_ne _ _ (by omega)]; exact hd n' f' a1 a2 a3 a4 kd m b1 b2 b3 b4) (fun kd m b1 b2 b3 b4 => by
                                  rw [up_eq, bitL_or, hp kd m b1 b2 b3 b4, bitL_shl hx.1 (by omega) ⟨b1, b2⟩ ⟨b3, b4⟩, PJ_s n b k hk.1 hr.1, hx.2 m b3 b4, ← er.1]) (by omega)
                            have hA : nibOf (nib (f (9 * b + k)) (h.1 506 (5 * r + 1))) (rd (gR h) (hasb fr) (rowR h s) k b (gR h 5 r)) := nib_of (by omega) (fun m b3 b4 => by rw [er.2.1]; exact hd k b (by omega) (by omega) (by omega) (by omega) _ m (by omega) (by omega) b3 b4)
                            have hB : nibOf (nib (f (9 * (b + k) + (n - k))) (h.1 506 (5 * r + 2))) (rd (gR h) (hasb fr) (rowR h s) (n - k) (b + k) (gR h 6 r)) := nib_of (by omega) (fun m b3 b4 => by rw [er.2.2.1]; exact hd (n - k) (b + k) (by omega) (by omega) (by omega) (by omega) _ m (by omega) (by omega) b3 b4)
                            have nA := hA.1
                            have nB := hB.1
                            refine A_aload_n hG 2 dX12_laySpans_156 rfl rfl ?_
                            refine A_getR (r := 506) hG dX12_laySpans_157 fl_X12_22 (by decide) k500 (by decide) rfl ?_
                            refine A_iconst (n := 5) hG dX12_laySpans_160 ?_
                            refine A_iload hG 8 dX12_laySpans_161 rfl ?_
                            refine A_imul hG dX12_laySpans_163 ?_
                            refine A_iconst (n := 3) hG dX12_laySpans_164 ?_
                            refine A_iadd hG dX12_laySpans_165 ?_
                            refine M_iald (v := h.1 506 ((5 * r) + 3)) hG dX12_laySpans_166 k506 n506 (by omega) rfl (fun ⟨ra_166, rb_166⟩ => ?_)
                            refine A_iconst (n := 1) hG dX12_laySpans_167 ?_
                            refine A_icmp_ne hG 184 dX12_laySpans_168 (by decide) (by constructor <;> omega) (by constructor <;> omega) (fun c_168 => ?_) (fun c_168 => ?_)
                            ·
                              refine A_iconst (n := 0) hG dX12_laySpans_184 ?_
                              refine A_istore (L' := [(10, vI 0), (9, vI (nib (f (9 * (b + k) + (n - k))) (h.1 506 ((5 * r) + 2)))), (8, vI (nib (f (9 * b + k)) (h.1 506 ((5 * r) + 1)))), (0, .ref 500), (1, vI s), (2, vI fr), (3, vI n), (4, vI b), (6, vI k), (7, vI r)]) hG dX12_laySpans_185 (by decide) rfl ?_
                              refine A_iload hG 2 dX12_laySpans_187 rfl ?_
                              refine A_if_eq hG 197 dX12_laySpans_189 (by decide) (by constructor <;> omega) (fun c_189 => ?_) (fun c_189 => ?_)
                              ·
                                refine A_iconst (n := 0) hG dX12_laySpans_197 ?_
                                refine A_goto hG 235 dX12_laySpans_198 (by decide) ?_
                                refine A_sub hG [3, 4, 5, 6, 7, 8, 9] rfl ?_
                                exact c_6 0 (by first | (exfalso; omega) | exact jn_0 hA hB (Or.inl c_189) | exact jn_0 hA hB (Or.inr c_194) | exact jn_A hA hB c_189 c_194 ⟨by omega, has_no hz174 c_177⟩ | exact jn_Y hA hB c_189 c_194 (fun q => c_168 (by omega)) (by omega) | exact jn_Z hA hB c_189 c_194 (fun q => c_168 (by omega)) (by omega) | exact jn_Y hA hB c_189 c_194 (fun q => q.2 (has_yes hz174 c_177)) (by omega) | exact jn_Z hA hB c_189 c_194 (fun q => q.2 (has_yes hz174 c_177)) (by omega))
                              ·
                                refine A_iload hG 1 dX12_laySpans_192 rfl ?_
                                refine A_if_ne hG 201 dX12_laySpans_194 (by decide) (by constructor <;> omega) (fun c_194 => ?_) (fun c_194 => ?_)
                                ·
                                  refine A_iload hG 0 dX12_laySpans_201 rfl ?_
                                  refine A_if_eq hG 214 dX12_laySpans_203 (by decide) (by constructor <;> omega) (fun c_203 => ?_) (fun c_203 => ?_)
                                  ·
                                    refine A_aload_n hG 3 dX12_laySpans_214 rfl rfl ?_
                                    refine A_getR (r := 506) hG dX12_laySpans_215 fl_X12_22 (by decide) k500 (by decide) rfl ?_
                                    refine A_iconst (n := 5) hG dX12_laySpans_218 ?_
                                    refine A_iload hG 9 dX12_laySpans_219 rfl ?_
                                    refine A_imul hG dX12_laySpans_221 ?_
                                    refine A_iconst (n := 4) hG dX12_laySpans_222 ?_
                                    refine A_iadd hG dX12_laySpans_223 ?_
                                    refine M_iald (v := h.1 506 ((5 * r) + 4)) hG dX12_laySpans_224 k506 n506 (by omega) rfl (fun ⟨ra_224, rb_224⟩ => ?_)
                                    refine A_if_ne hG 233 dX12_laySpans_225 (by decide) (by constructor <;> omega) (fun c_225 => ?_) (fun c_225 => ?_)
                                    ·
                                      refine A_iload hG 1 dX12_laySpans_233 rfl ?_
                                      refine A_sub hG [3, 4, 5, 6, 7, 8, 9] rfl ?_
                                      exact c_6 (nib (f (9 * (b + k) + (n - k))) (h.1 506 ((5 * r) + 2))) (by first | (exfalso; omega) | exact jn_0 hA hB (Or.inl c_189) | exact jn_0 hA hB (Or.inr c_194) | exact jn_A hA hB c_189 c_194 ⟨by omega, has_no hz174 c_177⟩ | exact jn_Y hA hB c_189 c_194 (fun q => c_168 (by omega)) (by omega) | exact jn_Z hA hB c_189 c_194 (fun q => c_168 (by omega)) (by omega) | exact jn_Y hA hB c_189 c_194 (fun q => q.2 (has_yes hz174 c_177)) (by omega) | exact jn_Z hA hB c_189 c_194 (fun q => q.2 (has_yes hz174 c_177)) (by omega))
                                    ·
                                      refine A_iload hG 2 dX12_laySpans_228 rfl ?_
                                      refine A_goto hG 235 dX12_laySpans_230 (by decide) ?_
                                      refine A_sub hG [3, 4, 5, 6, 7, 8, 9] rfl ?_
                                      exact c_6 (nib (f (9 * b + k)) (h.1 506 ((5 * r) + 1))) (by first | (exfalso; omega) | exact jn_0 hA hB (Or.inl c_189) | exact jn_0 hA hB (Or.inr c_194) | exact jn_A hA hB c_189 c_194 ⟨by omega, has_no hz174 c_177⟩ | exact jn_Y hA hB c_189 c_194 (fun q => c_168 (by omega)) (by omega) | exact jn_Z hA hB c_189 c_194 (fun q => c_168 (by omega)) (by omega) | exact jn_Y hA hB c_189 c_194 (fun q => q.2 (has_yes hz174 c_177)) (by omega) | exact jn_Z hA hB c_189 c_194 (fun q => q.2 (has_yes hz174 c_177)) (by omega))
                                  ·
                                    refine A_iload hG 2 dX12_laySpans_206 rfl ?_
                                    refine A_iload hG 1 dX12_laySpans_208 rfl ?_
                                    refine A_iand hG dX12_laySpans_210 ?_
                                    refine A_goto hG 235 dX12_laySpans_211 (by decide) ?_
                                    refine A_sub hG [3, 4, 5, 6, 7, 8, 9] rfl ?_
                                    exact c_6 (iand (nib (f (9 * b + k)) (h.1 506 ((5 * r) + 1))) (nib (f (9 * (b + k) + (n - k))) (h.1 506 ((5 * r) + 2)))) (by first | (exfalso; omega) | exact jn_0 hA hB (Or.inl c_189) | exact jn_0 hA hB (Or.inr c_194) | exact jn_A hA hB c_189 c_194 ⟨by omega, has_no hz174 c_177⟩ | exact jn_Y hA hB c_189 c_194 (fun q => c_168 (by omega)) (by omega) | exact jn_Z hA hB c_189 c_194 (fun q => c_168 (by omega)) (by omega) | exact jn_Y hA hB c_189 c_194 (fun q => q.2 (has_yes hz174 c_177)) (by omega) | exact jn_Z hA hB c_189 c_194 (fun q => q.2 (has_yes hz174 c_177)) (by omega))
                                ·
                                  refine A_iconst (n := 0) hG dX12_laySpans_197 ?_
                                  refine A_goto hG 235 dX12_laySpans_198 (by decide) ?_
                                  refine A_sub hG [3, 4, 5, 6, 7, 8, 9] rfl ?_
                                  exact c_6 0 (by first | (exfalso; omega) | exact jn_0 hA hB (Or.inl c_189) | exact jn_0 hA hB (Or.inr c_194) | exact jn_A hA hB c_189 c_194 ⟨by omega, has_no hz174 c_177⟩ | exact jn_Y hA hB c_189 c_194 (fun q => c_168 (by omega)) (by omega) | exact jn_Z hA hB c_189 c_194 (fun q => c_168 (by omega)) (by omega) | exact jn_Y hA hB c_189 c_194 (fun q => q.2 (has_yes hz174 c_177)) (by omega) | exact jn_Z hA hB c_189 c_194 (fun q => q.2 (has_yes hz174 c_177)) (by omega))
                            ·
                              refine A_iload_n hG 4 dX12_laySpans_171 rfl rfl ?_
                              refine A_iload hG 8 dX12_laySpans_172 rfl ?_
                              refine C_Si (as := [vI fr, vI r]) (st := []) hG dX12_laySpans_174 ml_X12_143 mf_X12_has ms_X12_has (r_has (hm h [] [(518, f)] []) fr r) (by decide) (by decide) rfl rfl (by decide) (fun z174 g174 ri_174 hp_174 => ?_)
                              obtain ⟨ra_174, rb_174⟩ := ri_174
                              obtain ⟨hz174, rfl⟩ := hp_174
                              refine A_if_ne hG 184 dX12_laySpans_177 (by decide) (by constructor <;> omega) (fun c_177 => ?_) (fun c_177 => ?_)
                              ·
                                refine A_iconst (n := 0) hG dX12_laySpans_184 ?_
                                refine A_istore (L' := [(10, vI 0), (9, vI (nib (f (9 * (b + k) + (n - k))) (h.1 506 ((5 * r) + 2)))), (8, vI (nib (f (9 * b + k)) (h.1 506 ((5 * r) + 1)))), (0, .ref 500), (1, vI s), (2, vI fr), (3, vI n), (4, vI b), (6, vI k), (7, vI r)]) hG dX12_laySpans_185 (by decide) rfl ?_
                                refine A_iload hG 2 dX12_laySpans_187 rfl ?_
                                refine A_if_eq hG 197 dX12_laySpans_189 (by decide) (by constructor <;> omega) (fun c_189 => ?_) (fun c_189 => ?_)
                                ·
                                  refine A_iconst (n := 0) hG dX12_laySpans_197 ?_
                                  refine A_goto hG 235 dX12_laySpans_198 (by decide) ?_
                                  refine A_sub hG [3, 4, 5, 6, 7, 8, 9] rfl ?_
                                  exact c_6 0 (by first | (exfalso; omega) | exact jn_0 hA hB (Or.inl c_189) | exact jn_0 hA hB (Or.inr c_194) | exact jn_A hA hB c_189 c_194 ⟨by omega, has_no hz174 c_177⟩ | exact jn_Y hA hB c_189 c_194 (fun q => c_168 (by omega)) (by omega) | exact jn_Z hA hB c_189 c_194 (fun q => c_168 (by omega)) (by omega) | exact jn_Y hA hB c_189 c_194 (fun q => q.2 (has_yes hz174 c_177)) (by omega) | exact jn_Z hA hB c_189 c_194 (fun q => q.2 (has_yes hz174 c_177)) (by omega))
                                ·
                                  refine A_iload hG 1 dX12_laySpans_192 rfl ?_
                                  refine A_if_ne hG 201 dX12_laySpans_194 (by decide) (by constructor <;> omega) (fun c_194 => ?_) (fun c_194 => ?_)
                                  ·
                                    refine A_iload hG 0 dX12_laySpans_201 rfl ?_
                                    refine A_if_eq hG 214 dX12_laySpans_203 (by decide) (by constructor <;> omega) (fun c_203 => ?_) (fun c_203 => ?_)
                                    ·
                                      refine A_aload_n hG 3 dX12_laySpans_214 rfl rfl ?_
                                      refine A_getR (r := 506) hG dX12_laySpans_215 fl_X12_22 (by decide) k500 (by decide) rfl ?_
                                      refine A_iconst (n := 5) hG dX12_laySpans_218 ?_
                                      refine A_iload hG 9 dX12_laySpans_219 rfl ?_
                                      refine A_imul hG dX12_laySpans_221 ?_
                                      refine A_iconst (n := 4) hG dX12_laySpans_222 ?_
                                      refine A_iadd hG dX12_laySpans_223 ?_
                                      refine M_iald (v := h.1 506 ((5 * r) + 4)) hG dX12_laySpans_224 k506 n506 (by omega) rfl (fun ⟨ra_224, rb_224⟩ => ?_)
                                      refine A_if_ne hG 233 dX12_laySpans_225 (by decide) (by constructor <;> omega) (fun c_225 => ?_) (fun c_225 => ?_)
                                      ·
                                        refine A_iload hG 1 dX12_laySpans_233 rfl ?_
                                        refine A_sub hG [3, 4, 5, 6, 7, 8, 9] rfl ?_
                                        exact c_6 (nib (f (9 * (b + k) + (n - k))) (h.1 506 ((5 * r) + 2))) (by first | (exfalso; omega) | exact jn_0 hA hB (Or.inl c_189) | exact jn_0 hA hB (Or.inr c_194) | exact jn_A hA hB c_189 c_194 ⟨by omega, has_no hz174 c_177⟩ | exact jn_Y hA hB c_189 c_194 (fun q => c_168 (by omega)) (by omega) | exact jn_Z hA hB c_189 c_194 (fun q => c_168 (by omega)) (by omega) | exact jn_Y hA hB c_189 c_194 (fun q => q.2 (has_yes hz174 c_177)) (by omega) | exact jn_Z hA hB c_189 c_194 (fun q => q.2 (has_yes hz174 c_177)) (by omega))
                                      ·
                                        refine A_iload hG 2 dX12_laySpans_228 rfl ?_
                                        refine A_goto hG 235 dX12_laySpans_230 (by decide) ?_
                                        refine A_sub hG [3, 4, 5, 6, 7, 8, 9] rfl ?_
                                        exact c_6 (nib (f (9 * b + k)) (h.1 506 ((5 * r) + 1))) (by first | (exfalso; omega) | exact jn_0 hA hB (Or.inl c_189) | exact jn_0 hA hB (Or.inr c_194) | exact jn_A hA hB c_189 c_194 ⟨by omega, has_no hz174 c_177⟩ | exact jn_Y hA hB c_189 c_194 (fun q => c_168 (by omega)) (by omega) | exact jn_Z hA hB c_189 c_194 (fun q => c_168 (by omega)) (by omega) | exact jn_Y hA hB c_189 c_194 (fun q => q.2 (has_yes hz174 c_177)) (by omega) | exact jn_Z hA hB c_189 c_194 (fun q => q.2 (has_yes hz174 c_177)) (by omega))
                                    ·
                                      refine A_iload hG 2 dX12_laySpans_206 rfl ?_
                                      refine A_iload hG 1 dX12_laySpans_208 rfl ?_
                                      refine A_iand hG dX12_laySpans_210 ?_
                                      refine A_goto hG 235 dX12_laySpans_211 (by decide) ?_
                                      refine A_sub hG [3, 4, 5, 6, 7, 8, 9] rfl ?_
                                      exact c_6 (iand (nib (f (9 * b + k)) (h.1 506 ((5 * r) + 1))) (nib (f (9 * (b + k) + (n - k))) (h.1 506 ((5 * r) + 2)))) (by first | (exfalso; omega) | exact jn_0 hA hB (Or.inl c_189) | exact jn_0 hA hB (Or.inr c_194) | exact jn_A hA hB c_189 c_194 ⟨by omega, has_no hz174 c_177⟩ | exact jn_Y hA hB c_189 c_194 (fun q => c_168 (by omega)) (by omega) | exact jn_Z hA hB c_189 c_194 (fun q => c_168 (by omega)) (by omega) | exact jn_Y hA hB c_189 c_194 (fun q => q.2 (has_yes hz174 c_177)) (by omega) | exact jn_Z hA hB c_189 c_194 (fun q => q.2 (has_yes hz174 c_177)) (by omega))
                                  ·
                                    refine A_iconst (n := 0) hG dX12_laySpans_197 ?_
                                    refine A_goto hG 235 dX12_laySpans_198 (by decide) ?_
                                    refine A_sub hG [3, 4, 5, 6, 7, 8, 9] rfl ?_
                                    exact c_6 0 (by first | (exfalso; omega) | exact jn_0 hA hB (Or.inl c_189) | exact jn_0 hA hB (Or.inr c_194) | exact jn_A hA hB c_189 c_194 ⟨by omega, has_no hz174 c_177⟩ | exact jn_Y hA hB c_189 c_194 (fun q => c_168 (by omega)) (by omega) | exact jn_Z hA hB c_189 c_194 (fun q => c_168 (by omega)) (by omega) | exact jn_Y hA hB c_189 c_194 (fun q => q.2 (has_yes hz174 c_177)) (by omega) | exact jn_Z hA hB c_189 c_194 (fun q => q.2 (has_yes hz174 c_177)) (by omega))
                              ·
                                refine A_iconst (n := 1) hG dX12_laySpans_180 ?_
                                refine A_goto hG 185 dX12_laySpans_181 (by decide) ?_
                                refine A_istore (L' := [(10, vI 1), (9, vI (nib (f (9 * (b + k) + (n - k))) (h.1 506 ((5 * r) + 2)))), (8, vI (nib (f (9 * b + k)) (h.1 506 ((5 * r) + 1)))), (0, .ref 500), (1, vI s), (2, vI fr), (3, vI n), (4, vI b), (6, vI k), (7, vI r)]) hG dX12_laySpans_185 (by decide) rfl ?_
                                refine A_iload hG 2 dX12_laySpans_187 rfl ?_
                                refine A_if_eq hG 197 dX12_laySpans_189 (by decide) (by constructor <;> omega) (fun c_189 => ?_) (fun c_189 => ?_)
                                ·
                                  refine A_iconst (n := 0) hG dX12_laySpans_197 ?_
                                  refine A_goto hG 235 dX12_laySpans_198 (by decide) ?_
                                  refine A_sub hG [3, 4, 5, 6, 7, 8, 9] rfl ?_
                                  exact c_6 0 (by first | (exfalso; omega) | exact jn_0 hA hB (Or.inl c_189) | exact jn_0 hA hB (Or.inr c_194) | exact jn_A hA hB c_189 c_194 ⟨by omega, has_no hz174 c_177⟩ | exact jn_Y hA hB c_189 c_194 (fun q => c_168 (by omega)) (by omega) | exact jn_Z hA hB c_189 c_194 (fun q => c_168 (by omega)) (by omega) | exact jn_Y hA hB c_189 c_194 (fun q => q.2 (has_yes hz174 c_177)) (by omega) | exact jn_Z hA hB c_189 c_194 (fun q => q.2 (has_yes hz174 c_177)) (by omega))
                                ·
                                  refine A_iload hG 1 dX12_laySpans_192 rfl ?_
                                  refine A_if_ne hG 201 dX12_laySpans_194 (by decide) (by constructor <;> omega) (fun c_194 => ?_) (fun c_194 => ?_)
                                  ·
                                    refine A_iload hG 0 dX12_laySpans_201 rfl ?_
                                    refine A_if_eq hG 214 dX12_laySpans_203 (by decide) (by constructor <;> omega) (fun c_203 => ?_) (fun c_203 => ?_)
                                    ·
                                      refine A_aload_n hG 3 dX12_laySpans_214 rfl rfl ?_
                                      refine A_getR (r := 506) hG dX12_laySpans_215 fl_X12_22 (by decide) k500 (by decide) rfl ?_
                                      refine A_iconst (n := 5) hG dX12_laySpans_218 ?_
                                      refine A_iload hG 9 dX12_laySpans_219 rfl ?_
                                      refine A_imul hG dX12_laySpans_221 ?_
                                      refine A_iconst (n := 4) hG dX12_laySpans_222 ?_
                                      refine A_iadd hG dX12_laySpans_223 ?_
                                      refine M_iald (v := h.1 506 ((5 * r) + 4)) hG dX12_laySpans_224 k506 n506 (by omega) rfl (fun ⟨ra_224, rb_224⟩ => ?_)
                                      refine A_if_ne hG 233 dX12_laySpans_225 (by decide) (by constructor <;> omega) (fun c_225 => ?_) (fun c_225 => ?_)
                                      ·
                                        refine A_iload hG 1 dX12_laySpans_233 rfl ?_
                                        refine A_sub hG [3, 4, 5, 6, 7, 8, 9] rfl ?_
                                        exact c_6 (nib (f (9 * (b + k) + (n - k))) (h.1 506 ((5 * r) + 2))) (by first | (exfalso; omega) | exact jn_0 hA hB (Or.inl c_189) | exact jn_0 hA hB (Or.inr c_194) | exact jn_A hA hB c_189 c_194 ⟨by omega, has_no hz174 c_177⟩ | exact jn_Y hA hB c_189 c_194 (fun q => c_168 (by omega)) (by omega) | exact jn_Z hA hB c_189 c_194 (fun q => c_168 (by omega)) (by omega) | exact jn_Y hA hB c_189 c_194 (fun q => q.2 (has_yes hz174 c_177)) (by omega) | exact jn_Z hA hB c_189 c_194 (fun q => q.2 (has_yes hz174 c_177)) (by omega))
                                      ·
                                        refine A_iload hG 2 dX12_laySpans_228 rfl ?_
                                        refine A_goto hG 235 dX12_laySpans_230 (by decide) ?_
                                        refine A_sub hG [3, 4, 5, 6, 7, 8, 9] rfl ?_
                                        exact c_6 (nib (f (9 * b + k)) (h.1 506 ((5 * r) + 1))) (by first | (exfalso; omega) | exact jn_0 hA hB (Or.inl c_189) | exact jn_0 hA hB (Or.inr c_194) | exact jn_A hA hB c_189 c_194 ⟨by omega, has_no hz174 c_177⟩ | exact jn_Y hA hB c_189 c_194 (fun q => c_168 (by omega)) (by omega) | exact jn_Z hA hB c_189 c_194 (fun q => c_168 (by omega)) (by omega) | exact jn_Y hA hB c_189 c_194 (fun q => q.2 (has_yes hz174 c_177)) (by omega) | exact jn_Z hA hB c_189 c_194 (fun q => q.2 (has_yes hz174 c_177)) (by omega))
                                    ·
                                      refine A_iload hG 2 dX12_laySpans_206 rfl ?_
                                      refine A_iload hG 1 dX12_laySpans_208 rfl ?_
                                      refine A_iand hG dX12_laySpans_210 ?_
                                      refine A_goto hG 235 dX12_laySpans_211 (by decide) ?_
                                      refine A_sub hG [3, 4, 5, 6, 7, 8, 9] rfl ?_
                                      exact c_6 (iand (nib (f (9 * b + k)) (h.1 506 ((5 * r) + 1))) (nib (f (9 * (b + k) + (n - k))) (h.1 506 ((5 * r) + 2)))) (by first | (exfalso; omega) | exact jn_0 hA hB (Or.inl c_189) | exact jn_0 hA hB (Or.inr c_194) | exact jn_A hA hB c_189 c_194 ⟨by omega, has_no hz174 c_177⟩ | exact jn_Y hA hB c_189 c_194 (fun q => c_168 (by omega)) (by omega) | exact jn_Z hA hB c_189 c_194 (fun q => c_168 (by omega)) (by omega) | exact jn_Y hA hB c_189 c_194 (fun q => q.2 (has_yes hz174 c_177)) (by omega) | exact jn_Z hA hB c_189 c_194 (fun q => q.2 (has_yes hz174 c_177)) (by omega))
                                  ·
                                    refine A_iconst (n := 0) hG dX12_laySpans_197 ?_
                                    refine A_goto hG 235 dX12_laySpans_198 (by decide) ?_
                                    refine A_sub hG [3, 4, 5, 6, 7, 8, 9] rfl ?_
                                    exact c_6 0 (by first | (exfalso; omega) | exact jn_0 hA hB (Or.inl c_189) | exact jn_0 hA hB (Or.inr c_194) | exact jn_A hA hB c_189 c_194 ⟨by omega, has_no hz174 c_177⟩ | exact jn_Y hA hB c_189 c_194 (fun q => c_168 (by omega)) (by omega) | exact jn_Z hA hB c_189 c_194 (fun q => c_168 (by omega)) (by omega) | exact jn_Y hA hB c_189 c_194 (fun q => q.2 (has_yes hz174 c_177)) (by omega) | exact jn_Z hA hB c_189 c_194 (fun q => q.2 (has_yes hz174 c_177)) (by omega))
                      refine A_sub hG [1, 2, 3, 4, 5, 6, 0] rfl ?_
                      exact r_3 _ 0 f (by omega) hd hp (Nat.lt_succ_self _)
                refine A_sub hG [2, 3, 4, 5, 6, 0] rfl ?_
                exact k_2 _ 1 (up f ((9 * b) + n) (i2l 0)) (by omega) (fun n' f' a1 a2 a3 a4 kd m b1 b2 b3 b4 => by rw [up_ne _ _ (by omega)]; exact hd n' f' a1 a2 a3 a4 kd m b1 b2 b3 b4) (fun kd m b1 b2 b3 b4 => by rw [up_eq, PJ_0]; exact ⟨fun q => absurd q (bitL_0 _), fun q => absurd q.1 c_57⟩) (Nat.lt_succ_self _)
              ·
                refine A_lconst (v := i2l 1) hG dX12_laySpans_60 (by decide) ?_
                refine A_iconst (n := 4) hG dX12_laySpans_61 ?_
                refine A_aload_n hG 1 dX12_laySpans_62 rfl rfl ?_
                refine A_getR (r := 504) hG dX12_laySpans_63 fl_X12_16 (by decide) k500 (by decide) rfl ?_
                refine A_iload hG 0 dX12_laySpans_66 rfl ?_
                refine M_iald (v := h.1 504 (4 * (h.1 509 ((10 * s) + b)))) hG dX12_laySpans_68 k504 n504 (by omega) rfl (fun ⟨ra_68, rb_68⟩ => ?_)
                refine A_imul hG dX12_laySpans_69 ?_
                refine A_aload_n hG 1 dX12_laySpans_70 rfl rfl ?_
                refine A_getR (r := 504) hG dX12_laySpans_71 fl_X12_16 (by decide) k500 (by decide) rfl ?_
                refine A_iload hG 0 dX12_laySpans_74 rfl ?_
                refine A_iconst (n := 1) hG dX12_laySpans_76 ?_
                refine A_iadd hG dX12_laySpans_77 ?_
                refine M_iald (v := h.1 504 ((4 * (h.1 509 ((10 * s) + b))) + 1)) hG dX12_laySpans_78 k504 n504 (by omega) rfl (fun ⟨ra_78, rb_78⟩ => ?_)
                refine A_iadd hG dX12_laySpans_79 ?_
                refine A_lshl hG dX12_laySpans_80 ?_
                refine A_goto hG 85 dX12_laySpans_81 (by decide) ?_
                refine M_last (ll' := [(518, up f ((9 * b) + n) (lshl (i2l 1) ((4 * (h.1 504 (4 * (h.1 509 ((10 * s) + b))))) + (h.1 504 ((4 * (h.1 509 ((10 * s) + b))) + 1)))))]) hG dX12_laySpans_85 k518 n518 (by omega) rfl ?_
                refine A_iconst (n := 1) hG dX12_laySpans_86 ?_
                refine A_istore (L' := [(6, vI 1), (5, vI (4 * (h.1 509 ((10 * s) + b)))), (0, .ref 500), (1, vI s), (2, vI fr), (3, vI n), (4, vI b)]) hG dX12_laySpans_87 (by decide) rfl ?_
                have k_8 : ∀ fu : Nat, ∀ (k : Int) (f : Int → Int64), (1 ≤ k ∧ k ≤ n) → (∀ n' f' : Int, 1 ≤ n' → 0 ≤ f' → f' + n' ≤ h.1 508 s → (n' < n ∨ n' = n ∧ f' < b) → ∀ k m, 0 ≤ k → k ≤ 9 → 0 ≤ m → m < 4 → (bitL (f (9 * f' + n')) (4 * k + m) ↔ rd (gR h) (hasb fr) (rowR h s) n' f' k m)) → (∀ kd m, 0 ≤ kd → kd ≤ 9 → 0 ≤ m → m < 4 → (bitL (f (9 * b + n)) (4 * kd + m) ↔ PJ (gR h) (hasb fr) (rowR h s) n b k 0 kd m)) → ((10 - k).toNat) < fu → G 89 [(0, .ref 500), (1, vI s), (2, vI fr), (3, vI n), (4, vI b), (6, vI k)] [] (hm h [] [(518, f)] []) := by
                  intro fu
                  induction fu with
                  | zero => intro k f hk hd hp hfu; exact absurd hfu (Nat.not_lt_zero _)
                  | succ fu ih_k =>
                    intro k f hk hd hp hfu
                    refine A_iload hG 5 dX12_laySpans_89 rfl ?_
                    refine A_iload_n hG 3 dX12_laySpans_91 rfl rfl ?_
                    refine A_icmp_ge hG 279 dX12_laySpans_92 (by decide) (by constructor <;> omega) (by constructor <;> omega) (fun c_92 => ?_) (fun c_92 => ?_)
                    ·
                      refine A_iinc (L' := [(4, vI (b + 1)), (0, .ref 500), (1, vI s), (2, vI fr), (3, vI n), (6, vI k)]) hG 4 dX12_laySpans_279 rfl (by decide) rfl ?_
                      refine A_goto hG 15 dX12_laySpans_282 (by decide) ?_
                      refine A_sub hG [1, 2, 3, 4, 0] rfl ?_
                      exact ih_b (b + 1) f (by omega) (fun n' f' a1 a2 a3 a4 => by
                          rcases (show (n' < n ∨ n' = n ∧ f' < b) ∨ (n' = n ∧ f' = b) by omega) with a5 | ⟨rfl, rfl⟩
                          · exact hd n' f' a1 a2 a3 a5
                          · intro kd m b1 b2 b3 b4
                            rw [hp kd m b1 b2 b3 b4, show k = n' by omega, PJ_end a1]) (by omega)
                    ·
                      refine A_iconst (n := 0) hG dX12_laySpans_95 ?_
                      refine A_istore (L' := [(7, vI 0), (0, .ref 500), (1, vI s), (2, vI fr), (3, vI n), (4, vI b), (6, vI k)]) hG dX12_laySpans_96 (by decide) rfl ?_
                      have r_9 : ∀ fu : Nat, ∀ (r : Int) (f : Int → Int64), (0 ≤ r ∧ r ≤ h.1 505 0) → (∀ n' f' : Int, 1 ≤ n' → 0 ≤ f' → f' + n' ≤ h.1 508 s → (n' < n ∨ n' = n ∧ f' < b) → ∀ k m, 0 ≤ k → k ≤ 9 → 0 ≤ m → m < 4 → (bitL (f (9 * f' + n')) (4 * k + m) ↔ rd (gR h) (hasb fr) (rowR h s) n' f' k m)) → (∀ kd m, 0 ≤ kd → kd ≤ 9 → 0 ≤ m → m < 4 → (bitL (f (9 * b + n)) (4 * kd + m) ↔ PJ (gR h) (hasb fr) (rowR h s) n b k r kd m)) → ((30 - r).toNat) < fu → G 98 [(0, .ref 500), (1, vI s), (2, vI fr), (3, vI n), (4, vI b), (6, vI k), (7, vI r)] [] (hm h [] [(518, f)] []) := by
                        intro fu
                        induction fu with
                        | zero => intro r f hr hd hp hfu; exact absurd hfu (Nat.not_lt_zero _)
                        | succ fu ih_r =>
                          intro r f hr hd hp hfu
                          refine A_iload hG 6 dX12_laySpans_98 rfl ?_
                          refine A_aload_n hG 0 dX12_laySpans_100 rfl rfl ?_
                          refine A_getR (r := 505) hG dX12_laySpans_101 fl_X12_19 (by decide) k500 (by decide) rfl ?_
                          refine A_iconst (n := 0) hG dX12_laySpans_104 ?_
                          refine M_iald (v := h.1 505 0) hG dX12_laySpans_105 k505 n505 (by omega) rfl (fun ⟨ra_105, rb_105⟩ => ?_)
                          refine A_icmp_ge hG 273 dX12_laySpans_106 (by decide) (by constructor <;> omega) (by constructor <;> omega) (fun c_106 => ?_) (fun c_106 => ?_)
                          ·
                            refine A_iinc (L' := [(6, vI (k + 1)), (0, .ref 500), (1, vI s), (2, vI fr), (3, vI n), (4, vI b), (7, vI r)]) hG 5 dX12_laySpans_273 rfl (by decide) rfl ?_
                            refine A_goto hG 89 dX12_laySpans_276 (by decide) ?_
                            refine A_sub hG [1, 2, 3, 4, 5, 0] rfl ?_
                            exact ih_k (k + 1) f (by omega) hd (fun kd m b1 b2 b3 b4 => by rw [hp kd m b1 b2 b3 b4, show r = gR h 10 1 by rw [(gR_n h).2]; omega, PJ_row]) (by omega)
                          ·
                            have er := gR_r (h := h) (j := r) (by omega)
                            have ok := hG0.2.2.2.1 r (by omega) (by rw [(gR_n h).2]; omega)
                            refine A_aload_n hG 0 dX12_laySpans_109 rfl rfl ?_
                            refine A_iload hG 4 dX12_laySpans_110 rfl ?_
                            refine A_iload hG 5 dX12_laySpans_112 rfl ?_
                            refine A_aload_n hG 0 dX12_laySpans_114 rfl rfl ?_
                            refine A_getR (r := 506) hG dX12_laySpans_115 fl_X12_22 (by decide) k500 (by decide) rfl ?_
                            refine A_iconst (n := 5) hG dX12_laySpans_118 ?_
                            refine A_iload hG 6 dX12_laySpans_119 rfl ?_
                            refine A_imul hG dX12_laySpans_121 ?_
                            refine A_iconst (n := 1) hG dX12_laySpans_122 ?_
                            refine A_iadd hG dX12_laySpans_123 ?_
                            refine M_iald (v := h.1 506 ((5 * r) + 1)) hG dX12_laySpans_124 k506 n506 (by omega) rfl (fun ⟨ra_124, rb_124⟩ => ?_)
                            refine C_Vi (as := [vI b, vI k, vI (h.1 506 ((5 * r) + 1))]) (st := []) (k := 500) (c := 11) hG dX12_laySpans_125 ml_X12_139 mf_X12_marksOf mi_X12_marksOf se_X12_marksOf rfl (by decide) k500 (r_marksOf (hm h [] [(518, f)] []) (by omega) (by omega) (by omega)) (by decide) (by decide) rfl rfl (by decide) (fun z125 g125 ri_125 hp_125 => ?_)
                            obtain ⟨ra_125, rb_125⟩ := ri_125
                            have hq_125 : z125 = nib (f (9 * b + k)) (h.1 506 ((5 * r) + 1)) ∧ g125 = hm h [] [(518, f)] [] := hp_125
                            obtain ⟨rfl, rfl⟩ := hq_125
                            refine A_istore (L' := [(8, vI (nib (f (9 * b + k)) (h.1 506 ((5 * r) + 1)))), (0, .ref 500), (1, vI s), (2, vI fr), (3, vI n), (4, vI b), (6, vI k), (7, vI r)]) hG dX12_laySpans_128 (by decide) rfl ?_
                            refine A_aload_n hG 1 dX12_laySpans_130 rfl rfl ?_
                            refine A_iload hG 5 dX12_laySpans_131 rfl ?_
                            refine A_iload hG 6 dX12_laySpans_133 rfl ?_
                            refine A_iadd hG dX12_laySpans_135 ?_
                            refine A_iload_n hG 4 dX12_laySpans_136 rfl rfl ?_
                            refine A_iload hG 6 dX12_laySpans_137 rfl ?_
                            refine A_isub hG dX12_laySpans_139 ?_
                            refine A_aload_n hG 1 dX12_laySpans_140 rfl rfl ?_
                            refine A_getR (r := 506) hG dX12_laySpans_141 fl_X12_22 (by decide) k500 (by decide) rfl ?_
                            refine A_iconst (n := 5) hG dX12_laySpans_144 ?_
                            refine A_iload hG 7 dX12_laySpans_145 rfl ?_
                            refine A_imul hG dX12_laySpans_147 ?_
                            refine A_iconst (n := 2) hG dX12_laySpans_148 ?_
                            refine A_iadd hG dX12_laySpans_149 ?_
                            refine M_iald (v := h.1 506 ((5 * r) + 2)) hG dX12_laySpans_150 k506 n506 (by omega) rfl (fun ⟨ra_150, rb_150⟩ => ?_)
                            refine C_Vi (as := [vI (b + k), vI (n - k), vI (h.1 506 ((5 * r) + 2))]) (st := []) (k := 500) (c := 11) hG dX12_laySpans_151 ml_X12_139 mf_X12_marksOf mi_X12_marksOf se_X12_marksOf rfl (by decide) k500 (r_marksOf (hm h [] [(518, f)] []) (by omega) (by omega) (by omega)) (by decide) (by decide) rfl rfl (by decide) (fun z151 g151 ri_151 hp_151 => ?_)
                            obtain ⟨ra_151, rb_151⟩ := ri_151
                            have hq_151 : z151 = nib (f (9 * (b + k) + (n - k))) (h.1 506 ((5 * r) + 2)) ∧ g151 = hm h [] [(518, f)] [] := hp_151
                            obtain ⟨rfl, rfl⟩ := hq_151
                            refine A_istore (L' := [(9, vI (nib (f (9 * (b + k) + (n - k))) (h.1 506 ((5 * r) + 2)))), (8, vI (nib (f (9 * b + k)) (h.1 506 ((5 * r) + 1)))), (0, .ref 500), (1, vI s), (2, vI fr), (3, vI n), (4, vI b), (6, vI k), (7, vI r)]) hG dX12_laySpans_154 (by decide) rfl ?_
                            have c_12 : ∀ (x : Int), (nibOf x (fun m => jn (gR h) (hasb fr) r m (rd (gR h) (hasb fr) (rowR h s) k b (gR h 5 r)) (rd (gR h) (hasb fr) (rowR h s) (n - k) (b + k) (gR h 6 r)))) → G 235 [(0, .ref 500), (1, vI s), (2, vI fr), (3, vI n), (4, vI b), (6, vI k), (7, vI r)] [vI x] (hm h [] [(518, f)] []) := by
                              intro x hx
                              refine A_istore (L' := [(11, vI x), (0, .ref 500), (1, vI s), (2, vI fr), (3, vI n), (4, vI b), (6, vI k), (7, vI r)]) hG dX12_laySpans_235 (by decide) rfl ?_
                              refine A_aload_n hG 1 dX12_laySpans_237 rfl rfl ?_
                              refine A_getR (r := 518) hG dX12_laySpans_238 fl_X12_49 (by decide) k500 (by decide) rfl ?_
                              refine A_bipush (n := 9) hG dX12_laySpans_241 (by decide) ?_
                              refine A_iload hG 5 dX12_laySpans_243 rfl ?_
                              refine A_imul hG dX12_laySpans_245 ?_
                              refine A_iload_n hG 4 dX12_laySpans_246 rfl rfl ?_
                              refine A_iadd hG dX12_laySpans_247 ?_
                              refine A_dup2 hG dX12_laySpans_248 rfl rfl ?_
                              refine M_lald (v := f ((9 * b) + n)) hG dX12_laySpans_249 k518 n518 (by omega) rfl ?_
                              refine A_iload hG 0 dX12_laySpans_250 rfl ?_
                              refine A_i2l hG dX12_laySpans_252 ?_
                              refine A_iconst (n := 4) hG dX12_laySpans_253 ?_
                              refine A_aload_n hG 1 dX12_laySpans_254 rfl rfl ?_
                              refine A_getR (r := 506) hG dX12_laySpans_255 fl_X12_22 (by decide) k500 (by decide) rfl ?_
                              refine A_iconst (n := 5) hG dX12_laySpans_258 ?_
                              refine A_iload hG 7 dX12_laySpans_259 rfl ?_
                              refine A_imul hG dX12_laySpans_261 ?_
                              refine M_iald (v := h.1 506 (5 * r)) hG dX12_laySpans_262 k506 n506 (by omega) rfl (fun ⟨ra_262, rb_262⟩ => ?_)
                              refine A_imul hG dX12_laySpans_263 ?_
                              refine A_lshl hG dX12_laySpans_264 ?_
                              refine A_lor hG dX12_laySpans_265 ?_
                              refine M_last (ll' := [(518, up f ((9 * b) + n) ((f ((9 * b) + n)) ||| (lshl (i2l x) (4 * (h.1 506 (5 * r))))))]) hG dX12_laySpans_266 k518 n518 (by omega) rfl ?_
                              refine A_iinc (L' := [(7, vI (r + 1)), (11, vI x), (0, .ref 500), (1, vI s), (2, vI fr), (3, vI n), (4, vI b), (6, vI k)]) hG 7 dX12_laySpans_267 rfl (by decide) rfl ?_
                              refine A_goto hG 98 dX12_laySpans_270 (by decide) ?_
                              refine A_sub hG [2, 3, 4, 5, 6, 7, 0] rfl ?_
                              exact ih_r (r + 1) (up f ((9 * b) + n) ((f ((9 * b) + n)) ||| (lshl (i2l x) (4 * (h.1 506 (5 * r)))))) (by omega) (fun n' f' a1 a2 a3 a4 kd m b1 b2 b3 b4 => by rw [up_ne _ _ (by omega)]; exact hd n' f' a1 a2 a3 a4 kd m b1 b2 b3 b4) (fun kd m b1 b2 b3 b4 => by
                                  rw [up_eq, bitL_or, hp kd m b1 b2 b3 b4, bitL_shl hx.1 (by omega) ⟨b1, b2⟩ ⟨b3, b4⟩, PJ_s n b k hk.1 hr.1, hx.2 m b3 b4, ← er.1]) (by omega)
                            have hA : nibOf (nib (f (9 * b + k)) (h.1 506 (5 * r + 1))) (rd (gR h) (hasb fr) (rowR h s) k b (gR h 5 r)) := nib_of (by omega) (fun m b3 b4 => by rw [er.2.1]; exact hd k b (by omega) (by omega) (by omega) (by omega) _ m (by omega) (by omega) b3 b4)
                            have hB : nibOf (nib (f (9 * (b + k) + (n - k))) (h.1 506 (5 * r + 2))) (rd (gR h) (hasb fr) (rowR h s) (n - k) (b + k) (gR h 6 r)) := nib_of (by omega) (fun m b3 b4 => by rw [er.2.2.1]; exact hd (n - k) (b + k) (by omega) (by omega) (by omega) (by omega) _ m (by omega) (by omega) b3 b4)
                            have nA := hA.1
                            have nB := hB.1
                            refine A_aload_n hG 2 dX12_laySpans_156 rfl rfl ?_
                            refine A_getR (r := 506) hG dX12_laySpans_157 fl_X12_22 (by decide) k500 (by decide) rfl ?_
                            refine A_iconst (n := 5) hG dX12_laySpans_160 ?_
                            refine A_iload hG 8 dX12_laySpans_161 rfl ?_
                            refine A_imul hG dX12_laySpans_163 ?_
                            refine A_iconst (n := 3) hG dX12_laySpans_164 ?_
                            refine A_iadd hG dX12_laySpans_165 ?_
                            refine M_iald (v := h.1 506 ((5 * r) + 3)) hG dX12_laySpans_166 k506 n506 (by omega) rfl (fun ⟨ra_166, rb_166⟩ => ?_)
                            refine A_iconst (n := 1) hG dX12_laySpans_167 ?_
                            refine A_icmp_ne hG 184 dX12_laySpans_168 (by decide) (by constructor <;> omega) (by constructor <;> omega) (fun c_168 => ?_) (fun c_168 => ?_)
                            ·
                              refine A_iconst (n := 0) hG dX12_laySpans_184 ?_
                              refine A_istore (L' := [(10, vI 0), (9, vI (nib (f (9 * (b + k) + (n - k))) (h.1 506 ((5 * r) + 2)))), (8, vI (nib (f (9 * b + k)) (h.1 506 ((5 * r) + 1)))), (0, .ref 500), (1, vI s), (2, vI fr), (3, vI n), (4, vI b), (6, vI k), (7, vI r)]) hG dX12_laySpans_185 (by decide) rfl ?_
                              refine A_iload hG 2 dX12_laySpans_187 rfl ?_
                              refine A_if_eq hG 197 dX12_laySpans_189 (by decide) (by constructor <;> omega) (fun c_189 => ?_) (fun c_189 => ?_)
                              ·
                                refine A_iconst (n := 0) hG dX12_laySpans_197 ?_
                                refine A_goto hG 235 dX12_laySpans_198 (by decide) ?_
                                refine A_sub hG [3, 4, 5, 6, 7, 8, 9] rfl ?_
                                exact c_12 0 (by first | (exfalso; omega) | exact jn_0 hA hB (Or.inl c_189) | exact jn_0 hA hB (Or.inr c_194) | exact jn_A hA hB c_189 c_194 ⟨by omega, has_no hz174 c_177⟩ | exact jn_Y hA hB c_189 c_194 (fun q => c_168 (by omega)) (by omega) | exact jn_Z hA hB c_189 c_194 (fun q => c_168 (by omega)) (by omega) | exact jn_Y hA hB c_189 c_194 (fun q => q.2 (has_yes hz174 c_177)) (by omega) | exact jn_Z hA hB c_189 c_194 (fun q => q.2 (has_yes hz174 c_177)) (by omega))
                              ·
                                refine A_iload hG 1 dX12_laySpans_192 rfl ?_
                                refine A_if_ne hG 201 dX12_laySpans_194 (by decide) (by constructor <;> omega) (fun c_194 => ?_) (fun c_194 => ?_)
                                ·
                                  refine A_iload hG 0 dX12_laySpans_201 rfl ?_
                                  refine A_if_eq hG 214 dX12_laySpans_203 (by decide) (by constructor <;> omega) (fun c_203 => ?_) (fun c_203 => ?_)
                                  ·
                                    refine A_aload_n hG 3 dX12_laySpans_214 rfl rfl ?_
                                    refine A_getR (r := 506) hG dX12_laySpans_215 fl_X12_22 (by decide) k500 (by decide) rfl ?_
                                    refine A_iconst (n := 5) hG dX12_laySpans_218 ?_
                                    refine A_iload hG 9 dX12_laySpans_219 rfl ?_
                                    refine A_imul hG dX12_laySpans_221 ?_
                                    refine A_iconst (n := 4) hG dX12_laySpans_222 ?_
                                    refine A_iadd hG dX12_laySpans_223 ?_
                                    refine M_iald (v := h.1 506 ((5 * r) + 4)) hG dX12_laySpans_224 k506 n506 (by omega) rfl (fun ⟨ra_224, rb_224⟩ => ?_)
                                    refine A_if_ne hG 233 dX12_laySpans_225 (by decide) (by constructor <;> omega) (fun c_225 => ?_) (fun c_225 => ?_)
                                    ·
                                      refine A_iload hG 1 dX12_laySpans_233 rfl ?_
                                      refine A_sub hG [3, 4, 5, 6, 7, 8, 9] rfl ?_
                                      exact c_12 (nib (f (9 * (b + k) + (n - k))) (h.1 506 ((5 * r) + 2))) (by first | (exfalso; omega) | exact jn_0 hA hB (Or.inl c_189) | exact jn_0 hA hB (Or.inr c_194) | exact jn_A hA hB c_189 c_194 ⟨by omega, has_no hz174 c_177⟩ | exact jn_Y hA hB c_189 c_194 (fun q => c_168 (by omega)) (by omega) | exact jn_Z hA hB c_189 c_194 (fun q => c_168 (by omega)) (by omega) | exact jn_Y hA hB c_189 c_194 (fun q => q.2 (has_yes hz174 c_177)) (by omega) | exact jn_Z hA hB c_189 c_194 (fun q => q.2 (has_yes hz174 c_177)) (by omega))
                                    ·
                                      refine A_iload hG 2 dX12_laySpans_228 rfl ?_
                                      refine A_goto hG 235 dX12_laySpans_230 (by decide) ?_
                                      refine A_sub hG [3, 4, 5, 6, 7, 8, 9] rfl ?_
                                      exact c_12 (nib (f (9 * b + k)) (h.1 506 ((5 * r) + 1))) (by first | (exfalso; omega) | exact jn_0 hA hB (Or.inl c_189) | exact jn_0 hA hB (Or.inr c_194) | exact jn_A hA hB c_189 c_194 ⟨by omega, has_no hz174 c_177⟩ | exact jn_Y hA hB c_189 c_194 (fun q => c_168 (by omega)) (by omega) | exact jn_Z hA hB c_189 c_194 (fun q => c_168 (by omega)) (by omega) | exact jn_Y hA hB c_189 c_194 (fun q => q.2 (has_yes hz174 c_177)) (by omega) | exact jn_Z hA hB c_189 c_194 (fun q => q.2 (has_yes hz174 c_177)) (by omega))
                                  ·
                                    refine A_iload hG 2 dX12_laySpans_206 rfl ?_
                                    refine A_iload hG 1 dX12_laySpans_208 rfl ?_
                                    refine A_iand hG dX12_laySpans_210 ?_
                                    refine A_goto hG 235 dX12_laySpans_211 (by decide) ?_
                                    refine A_sub hG [3, 4, 5, 6, 7, 8, 9] rfl ?_
                                    exact c_12 (iand (nib (f (9 * b + k)) (h.1 506 ((5 * r) + 1))) (nib (f (9 * (b + k) + (n - k))) (h.1 506 ((5 * r) + 2)))) (by first | (exfalso; omega) | exact jn_0 hA hB (Or.inl c_189) | exact jn_0 hA hB (Or.inr c_194) | exact jn_A hA hB c_189 c_194 ⟨by omega, has_no hz174 c_177⟩ | exact jn_Y hA hB c_189 c_194 (fun q => c_168 (by omega)) (by omega) | exact jn_Z hA hB c_189 c_194 (fun q => c_168 (by omega)) (by omega) | exact jn_Y hA hB c_189 c_194 (fun q => q.2 (has_yes hz174 c_177)) (by omega) | exact jn_Z hA hB c_189 c_194 (fun q => q.2 (has_yes hz174 c_177)) (by omega))
                                ·
                                  refine A_iconst (n := 0) hG dX12_laySpans_197 ?_
                                  refine A_goto hG 235 dX12_laySpans_198 (by decide) ?_
                                  refine A_sub hG [3, 4, 5, 6, 7, 8, 9] rfl ?_
                                  exact c_12 0 (by first | (exfalso; omega) | exact jn_0 hA hB (Or.inl c_189) | exact jn_0 hA hB (Or.inr c_194) | exact jn_A hA hB c_189 c_194 ⟨by omega, has_no hz174 c_177⟩ | exact jn_Y hA hB c_189 c_194 (fun q => c_168 (by omega)) (by omega) | exact jn_Z hA hB c_189 c_194 (fun q => c_168 (by omega)) (by omega) | exact jn_Y hA hB c_189 c_194 (fun q => q.2 (has_yes hz174 c_177)) (by omega) | exact jn_Z hA hB c_189 c_194 (fun q => q.2 (has_yes hz174 c_177)) (by omega))
                            ·
                              refine A_iload_n hG 4 dX12_laySpans_171 rfl rfl ?_
                              refine A_iload hG 8 dX12_laySpans_172 rfl ?_
                              refine C_Si (as := [vI fr, vI r]) (st := []) hG dX12_laySpans_174 ml_X12_143 mf_X12_has ms_X12_has (r_has (hm h [] [(518, f)] []) fr r) (by decide) (by decide) rfl rfl (by decide) (fun z174 g174 ri_174 hp_174 => ?_)
                              obtain ⟨ra_174, rb_174⟩ := ri_174
                              obtain ⟨hz174, rfl⟩ := hp_174
                              refine A_if_ne hG 184 dX12_laySpans_177 (by decide) (by constructor <;> omega) (fun c_177 => ?_) (fun c_177 => ?_)
                              ·
                                refine A_iconst (n := 0) hG dX12_laySpans_184 ?_
                                refine A_istore (L' := [(10, vI 0), (9, vI (nib (f (9 * (b + k) + (n - k))) (h.1 506 ((5 * r) + 2)))), (8, vI (nib (f (9 * b + k)) (h.1 506 ((5 * r) + 1)))), (0, .ref 500), (1, vI s), (2, vI fr), (3, vI n), (4, vI b), (6, vI k), (7, vI r)]) hG dX12_laySpans_185 (by decide) rfl ?_
                                refine A_iload hG 2 dX12_laySpans_187 rfl ?_
                                refine A_if_eq hG 197 dX12_laySpans_189 (by decide) (by constructor <;> omega) (fun c_189 => ?_) (fun c_189 => ?_)
                                ·
                                  refine A_iconst (n := 0) hG dX12_laySpans_197 ?_
                                  refine A_goto hG 235 dX12_laySpans_198 (by decide) ?_
                                  refine A_sub hG [3, 4, 5, 6, 7, 8, 9] rfl ?_
                                  exact c_12 0 (by first | (exfalso; omega) | exact jn_0 hA hB (Or.inl c_189) | exact jn_0 hA hB (Or.inr c_194) | exact jn_A hA hB c_189 c_194 ⟨by omega, has_no hz174 c_177⟩ | exact jn_Y hA hB c_189 c_194 (fun q => c_168 (by omega)) (by omega) | exact jn_Z hA hB c_189 c_194 (fun q => c_168 (by omega)) (by omega) | exact jn_Y hA hB c_189 c_194 (fun q => q.2 (has_yes hz174 c_177)) (by omega) | exact jn_Z hA hB c_189 c_194 (fun q => q.2 (has_yes hz174 c_177)) (by omega))
                                ·
                                  refine A_iload hG 1 dX12_laySpans_192 rfl ?_
                                  refine A_if_ne hG 201 dX12_laySpans_194 (by decide) (by constructor <;> omega) (fun c_194 => ?_) (fun c_194 => ?_)
                                  ·
                                    refine A_iload hG 0 dX12_laySpans_201 rfl ?_
                                    refine A_if_eq hG 214 dX12_laySpans_203 (by decide) (by constructor <;> omega) (fun c_203 => ?_) (fun c_203 => ?_)
                                    ·
                                      refine A_aload_n hG 3 dX12_laySpans_214 rfl rfl ?_
                                      refine A_getR (r := 506) hG dX12_laySpans_215 fl_X12_22 (by decide) k500 (by decide) rfl ?_
                                      refine A_iconst (n := 5) hG dX12_laySpans_218 ?_
                                      refine A_iload hG 9 dX12_laySpans_219 rfl ?_
                                      refine A_imul hG dX12_laySpans_221 ?_
                                      refine A_iconst (n := 4) hG dX12_laySpans_222 ?_
                                      refine A_iadd hG dX12_laySpans_223 ?_
                                      refine M_iald (v := h.1 506 ((5 * r) + 4)) hG dX12_laySpans_224 k506 n506 (by omega) rfl (fun ⟨ra_224, rb_224⟩ => ?_)
                                      refine A_if_ne hG 233 dX12_laySpans_225 (by decide) (by constructor <;> omega) (fun c_225 => ?_) (fun c_225 => ?_)
                                      ·
                                        refine A_iload hG 1 dX12_laySpans_233 rfl ?_
                                        refine A_sub hG [3, 4, 5, 6, 7, 8, 9] rfl ?_
                                        exact c_12 (nib (f (9 * (b + k) + (n - k))) (h.1 506 ((5 * r) + 2))) (by first | (exfalso; omega) | exact jn_0 hA hB (Or.inl c_189) | exact jn_0 hA hB (Or.inr c_194) | exact jn_A hA hB c_189 c_194 ⟨by omega, has_no hz174 c_177⟩ | exact jn_Y hA hB c_189 c_194 (fun q => c_168 (by omega)) (by omega) | exact jn_Z hA hB c_189 c_194 (fun q => c_168 (by omega)) (by omega) | exact jn_Y hA hB c_189 c_194 (fun q => q.2 (has_yes hz174 c_177)) (by omega) | exact jn_Z hA hB c_189 c_194 (fun q => q.2 (has_yes hz174 c_177)) (by omega))
                                      ·
                                        refine A_iload hG 2 dX12_laySpans_228 rfl ?_
                                        refine A_goto hG 235 dX12_laySpans_230 (by decide) ?_
                                        refine A_sub hG [3, 4, 5, 6, 7, 8, 9] rfl ?_
                                        exact c_12 (nib (f (9 * b + k)) (h.1 506 ((5 * r) + 1))) (by first | (exfalso; omega) | exact jn_0 hA hB (Or.inl c_189) | exact jn_0 hA hB (Or.inr c_194) | exact jn_A hA hB c_189 c_194 ⟨by omega, has_no hz174 c_177⟩ | exact jn_Y hA hB c_189 c_194 (fun q => c_168 (by omega)) (by omega) | exact jn_Z hA hB c_189 c_194 (fun q => c_168 (by omega)) (by omega) | exact jn_Y hA hB c_189 c_194 (fun q => q.2 (has_yes hz174 c_177)) (by omega) | exact jn_Z hA hB c_189 c_194 (fun q => q.2 (has_yes hz174 c_177)) (by omega))
                                    ·
                                      refine A_iload hG 2 dX12_laySpans_206 rfl ?_
                                      refine A_iload hG 1 dX12_laySpans_208 rfl ?_
                                      refine A_iand hG dX12_laySpans_210 ?_
                                      refine A_goto hG 235 dX12_laySpans_211 (by decide) ?_
                                      refine A_sub hG [3, 4, 5, 6, 7, 8, 9] rfl ?_
                                      exact c_12 (iand (nib (f (9 * b + k)) (h.1 506 ((5 * r) + 1))) (nib (f (9 * (b + k) + (n - k))) (h.1 506 ((5 * r) + 2)))) (by first | (exfalso; omega) | exact jn_0 hA hB (Or.inl c_189) | exact jn_0 hA hB (Or.inr c_194) | exact jn_A hA hB c_189 c_194 ⟨by omega, has_no hz174 c_177⟩ | exact jn_Y hA hB c_189 c_194 (fun q => c_168 (by omega)) (by omega) | exact jn_Z hA hB c_189 c_194 (fun q => c_168 (by omega)) (by omega) | exact jn_Y hA hB c_189 c_194 (fun q => q.2 (has_yes hz174 c_177)) (by omega) | exact jn_Z hA hB c_189 c_194 (fun q => q.2 (has_yes hz174 c_177)) (by omega))
                                  ·
                                    refine A_iconst (n := 0) hG dX12_laySpans_197 ?_
                                    refine A_goto hG 235 dX12_laySpans_198 (by decide) ?_
                                    refine A_sub hG [3, 4, 5, 6, 7, 8, 9] rfl ?_
                                    exact c_12 0 (by first | (exfalso; omega) | exact jn_0 hA hB (Or.inl c_189) | exact jn_0 hA hB (Or.inr c_194) | exact jn_A hA hB c_189 c_194 ⟨by omega, has_no hz174 c_177⟩ | exact jn_Y hA hB c_189 c_194 (fun q => c_168 (by omega)) (by omega) | exact jn_Z hA hB c_189 c_194 (fun q => c_168 (by omega)) (by omega) | exact jn_Y hA hB c_189 c_194 (fun q => q.2 (has_yes hz174 c_177)) (by omega) | exact jn_Z hA hB c_189 c_194 (fun q => q.2 (has_yes hz174 c_177)) (by omega))
                              ·
                                refine A_iconst (n := 1) hG dX12_laySpans_180 ?_
                                refine A_goto hG 185 dX12_laySpans_181 (by decide) ?_
                                refine A_istore (L' := [(10, vI 1), (9, vI (nib (f (9 * (b + k) + (n - k))) (h.1 506 ((5 * r) + 2)))), (8, vI (nib (f (9 * b + k)) (h.1 506 ((5 * r) + 1)))), (0, .ref 500), (1, vI s), (2, vI fr), (3, vI n), (4, vI b), (6, vI k), (7, vI r)]) hG dX12_laySpans_185 (by decide) rfl ?_
                                refine A_iload hG 2 dX12_laySpans_187 rfl ?_
                                refine A_if_eq hG 197 dX12_laySpans_189 (by decide) (by constructor <;> omega) (fun c_189 => ?_) (fun c_189 => ?_)
                                ·
                                  refine A_iconst (n := 0) hG dX12_laySpans_197 ?_
                                  refine A_goto hG 235 dX12_laySpans_198 (by decide) ?_
                                  refine A_sub hG [3, 4, 5, 6, 7, 8, 9] rfl ?_
                                  exact c_12 0 (by first | (exfalso; omega) | exact jn_0 hA hB (Or.inl c_189) | exact jn_0 hA hB (Or.inr c_194) | exact jn_A hA hB c_189 c_194 ⟨by omega, has_no hz174 c_177⟩ | exact jn_Y hA hB c_189 c_194 (fun q => c_168 (by omega)) (by omega) | exact jn_Z hA hB c_189 c_194 (fun q => c_168 (by omega)) (by omega) | exact jn_Y hA hB c_189 c_194 (fun q => q.2 (has_yes hz174 c_177)) (by omega) | exact jn_Z hA hB c_189 c_194 (fun q => q.2 (has_yes hz174 c_177)) (by omega))
                                ·
                                  refine A_iload hG 1 dX12_laySpans_192 rfl ?_
                                  refine A_if_ne hG 201 dX12_laySpans_194 (by decide) (by constructor <;> omega) (fun c_194 => ?_) (fun c_194 => ?_)
                                  ·
                                    refine A_iload hG 0 dX12_laySpans_201 rfl ?_
                                    refine A_if_eq hG 214 dX12_laySpans_203 (by decide) (by constructor <;> omega) (fun c_203 => ?_) (fun c_203 => ?_)
                                    ·
                                      refine A_aload_n hG 3 dX12_laySpans_214 rfl rfl ?_
                                      refine A_getR (r := 506) hG dX12_laySpans_215 fl_X12_22 (by decide) k500 (by decide) rfl ?_
                                      refine A_iconst (n := 5) hG dX12_laySpans_218 ?_
                                      refine A_iload hG 9 dX12_laySpans_219 rfl ?_
                                      refine A_imul hG dX12_laySpans_221 ?_
                                      refine A_iconst (n := 4) hG dX12_laySpans_222 ?_
                                      refine A_iadd hG dX12_laySpans_223 ?_
                                      refine M_iald (v := h.1 506 ((5 * r) + 4)) hG dX12_laySpans_224 k506 n506 (by omega) rfl (fun ⟨ra_224, rb_224⟩ => ?_)
                                      refine A_if_ne hG 233 dX12_laySpans_225 (by decide) (by constructor <;> omega) (fun c_225 => ?_) (fun c_225 => ?_)
                                      ·
                                        refine A_iload hG 1 dX12_laySpans_233 rfl ?_
                                        refine A_sub hG [3, 4, 5, 6, 7, 8, 9] rfl ?_
                                        exact c_12 (nib (f (9 * (b + k) + (n - k))) (h.1 506 ((5 * r) + 2))) (by first | (exfalso; omega) | exact jn_0 hA hB (Or.inl c_189) | exact jn_0 hA hB (Or.inr c_194) | exact jn_A hA hB c_189 c_194 ⟨by omega, has_no hz174 c_177⟩ | exact jn_Y hA hB c_189 c_194 (fun q => c_168 (by omega)) (by omega) | exact jn_Z hA hB c_189 c_194 (fun q => c_168 (by omega)) (by omega) | exact jn_Y hA hB c_189 c_194 (fun q => q.2 (has_yes hz174 c_177)) (by omega) | exact jn_Z hA hB c_189 c_194 (fun q => q.2 (has_yes hz174 c_177)) (by omega))
                                      ·
                                        refine A_iload hG 2 dX12_laySpans_228 rfl ?_
                                        refine A_goto hG 235 dX12_laySpans_230 (by decide) ?_
                                        refine A_sub hG [3, 4, 5, 6, 7, 8, 9] rfl ?_
                                        exact c_12 (nib (f (9 * b + k)) (h.1 506 ((5 * r) + 1))) (by first | (exfalso; omega) | exact jn_0 hA hB (Or.inl c_189) | exact jn_0 hA hB (Or.inr c_194) | exact jn_A hA hB c_189 c_194 ⟨by omega, has_no hz174 c_177⟩ | exact jn_Y hA hB c_189 c_194 (fun q => c_168 (by omega)) (by omega) | exact jn_Z hA hB c_189 c_194 (fun q => c_168 (by omega)) (by omega) | exact jn_Y hA hB c_189 c_194 (fun q => q.2 (has_yes hz174 c_177)) (by omega) | exact jn_Z hA hB c_189 c_194 (fun q => q.2 (has_yes hz174 c_177)) (by omega))
                                    ·
                                      refine A_iload hG 2 dX12_laySpans_206 rfl ?_
                                      refine A_iload hG 1 dX12_laySpans_208 rfl ?_
                                      refine A_iand hG dX12_laySpans_210 ?_
                                      refine A_goto hG 235 dX12_laySpans_211 (by decide) ?_
                                      refine A_sub hG [3, 4, 5, 6, 7, 8, 9] rfl ?_
                                      exact c_12 (iand (nib (f (9 * b + k)) (h.1 506 ((5 * r) + 1))) (nib (f (9 * (b + k) + (n - k))) (h.1 506 ((5 * r) + 2)))) (by first | (exfalso; omega) | exact jn_0 hA hB (Or.inl c_189) | exact jn_0 hA hB (Or.inr c_194) | exact jn_A hA hB c_189 c_194 ⟨by omega, has_no hz174 c_177⟩ | exact jn_Y hA hB c_189 c_194 (fun q => c_168 (by omega)) (by omega) | exact jn_Z hA hB c_189 c_194 (fun q => c_168 (by omega)) (by omega) | exact jn_Y hA hB c_189 c_194 (fun q => q.2 (has_yes hz174 c_177)) (by omega) | exact jn_Z hA hB c_189 c_194 (fun q => q.2 (has_yes hz174 c_177)) (by omega))
                                  ·
                                    refine A_iconst (n := 0) hG dX12_laySpans_197 ?_
                                    refine A_goto hG 235 dX12_laySpans_198 (by decide) ?_
                                    refine A_sub hG [3, 4, 5, 6, 7, 8, 9] rfl ?_
                                    exact c_12 0 (by first | (exfalso; omega) | exact jn_0 hA hB (Or.inl c_189) | exact jn_0 hA hB (Or.inr c_194) | exact jn_A hA hB c_189 c_194 ⟨by omega, has_no hz174 c_177⟩ | exact jn_Y hA hB c_189 c_194 (fun q => c_168 (by omega)) (by omega) | exact jn_Z hA hB c_189 c_194 (fun q => c_168 (by omega)) (by omega) | exact jn_Y hA hB c_189 c_194 (fun q => q.2 (has_yes hz174 c_177)) (by omega) | exact jn_Z hA hB c_189 c_194 (fun q => q.2 (has_yes hz174 c_177)) (by omega))
                      refine A_sub hG [1, 2, 3, 4, 5, 6, 0] rfl ?_
                      exact r_9 _ 0 f (by omega) hd hp (Nat.lt_succ_self _)
                refine A_sub hG [2, 3, 4, 5, 6, 0] rfl ?_
                exact k_8 _ 1 (up f ((9 * b) + n) (lshl (i2l 1) ((4 * (h.1 504 (4 * (h.1 509 ((10 * s) + b))))) + (h.1 504 ((4 * (h.1 509 ((10 * s) + b))) + 1))))) (by omega) (fun n' f' a1 a2 a3 a4 kd m b1 b2 b3 b4 => by rw [up_ne _ _ (by omega)]; exact hd n' f' a1 a2 a3 a4 kd m b1 b2 b3 b4) (fun kd m b1 b2 b3 b4 => by rw [up_eq, PJ_0]; exact leaf1 c_57 hG0 hw0 (by omega) b1 b2 b3 b4) (Nat.lt_succ_self _)
        refine A_sub hG [1, 2, 3, 4, 0] rfl ?_
        exact b_1 _ 0 f (by omega) (fun n' f' a1 a2 a3 a4 => hd n' f' a1 a2 a3 (by omega)) (Nat.lt_succ_self _)
  refine A_sub hG [1, 2, 3, 0] rfl ?_
  exact n_0 _ 1 (h.2.1 518) (by omega) (fun n' f' a1 a2 a3 a4 => by omega) (Nat.lt_succ_self _)

end
