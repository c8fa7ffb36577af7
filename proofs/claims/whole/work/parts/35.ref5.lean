/-! the reference: trees (printed by gen) -/
section
theorem i2l_0 : i2l 0 = Int64.ofNat 0 := by decide
theorem i2l_1 : i2l 1 = Int64.ofNat 1 := by decide
theorem cell_st {n b : Int} {h : AH} {s kd m : Int} (hn : n = 1) (hb : 0 ≤ b ∧ b < h.1 508 s) (hw : 0 ≤ h.1 509 (10 * s + b) ∧ h.1 509 (10 * s + b) < h.1 503 0) : cP (gR h) (rowR h s) n b 0 0 kd m = if h.1 504 (4 * h.1 509 (10 * s + b)) = kd ∧ h.1 504 (4 * h.1 509 (10 * s + b) + 1) = m then 1 else 0 := by
  rw [cP_0, if_pos hn, cnt_1, rowR_in hb, (gR_w hw).1, (gR_w hw).2.1]
set_option maxHeartbeats 2000000 in
set_option maxRecDepth 20000 in
theorem r_layCounts (h : AH) {s : Int} (hs : 0 ≤ s ∧ s ≤ 9) (hG0 : okG (gR h)) (hW0 : okW (gR h) (rowR h s) (h.1 508 s)) : AMet yX12_layCounts cX12_layCounts 8 none 1 26 [.ref 500, vI s] h (Qv (fun h' => ∃ f : Int → Int64, (∀ n' f' : Int, 1 ≤ n' → 0 ≤ f' → f' + n' ≤ h.1 508 s → ∀ k m, 0 ≤ k → k ≤ 9 → 0 ≤ m → m < 4 → f (40 * (9 * f' + n') + (4 * k + m)) = Int64.ofNat (cnt (gR h) (rowR h s) n' f' k m)) ∧ h' = hm h [] [(519, f)] [])) := by
  have hlen := hW0.1
  have hnr := hG0.2.1
  rw [(gR_n h).2] at hnr
  have hnw := hG0.1
  rw [(gR_n h).1] at hnw
  refine AMet.of (by decide) (Nat.le_of_ble_eq_true rfl) (fun G hM => ?_)
  have hG := hM.cx
  refine A_hm0 (G := G) (L := [(0, .ref 500), (1, vI s)]) ?_
  refine A_iconst (n := 1) hG dX12_layCounts_0 ?_
  refine A_istore_n (L' := [(2, vI 1), (0, .ref 500), (1, vI s)]) hG dX12_layCounts_1 rfl (by decide) rfl ?_
  refine A_insL 519 (ll' := [(519, h.2.1 519)]) rfl ?_
  have n_0 : ∀ fu : Nat, ∀ (n : Int) (f : Int → Int64), (1 ≤ n ∧ n ≤ h.1 508 s + 1) → (∀ n' f' : Int, 1 ≤ n' → 0 ≤ f' → f' + n' ≤ h.1 508 s → (n' < n) → ∀ k m, 0 ≤ k → k ≤ 9 → 0 ≤ m → m < 4 → f (40 * (9 * f' + n') + (4 * k + m)) = Int64.ofNat (cnt (gR h) (rowR h s) n' f' k m)) → ((10 - n).toNat) < fu → G 2 [(0, .ref 500), (1, vI s), (2, vI n)] [] (hm h [] [(519, f)] []) := by
    intro fu
    induction fu with
    | zero => intro n f hn hd hfu; exact absurd hfu (Nat.not_lt_zero _)
    | succ fu ih_n =>
      intro n f hn hd hfu
      refine A_iload_n hG 2 dX12_layCounts_2 rfl rfl ?_
      refine A_aload_n hG 0 dX12_layCounts_3 rfl rfl ?_
      refine A_getR (r := 508) hG dX12_layCounts_4 fl_X12_28 (by decide) k500 (by decide) rfl ?_
      refine A_iload_n hG 1 dX12_layCounts_7 rfl rfl ?_
      refine M_iald (v := h.1 508 s) hG dX12_layCounts_8 k508 n508 (by omega) rfl (fun ⟨ra_8, rb_8⟩ => ?_)
      refine A_icmp_gt hG 222 dX12_layCounts_9 (by decide) (by constructor <;> omega) (by constructor <;> omega) (fun c_9 => ?_) (fun c_9 => ?_)
      ·
        exact Ret_v hM dX12_layCounts_222 (⟨f, fun n' f' a1 a2 a3 => hd n' f' a1 a2 a3 (by omega), rfl⟩)
      ·
        refine A_iconst (n := 0) hG dX12_layCounts_12 ?_
        refine A_istore_n (L' := [(3, vI 0), (0, .ref 500), (1, vI s), (2, vI n)]) hG dX12_layCounts_13 rfl (by decide) rfl ?_
        have b_1 : ∀ fu : Nat, ∀ (b : Int) (f : Int → Int64), (0 ≤ b ∧ b ≤ 8) → (∀ n' f' : Int, 1 ≤ n' → 0 ≤ f' → f' + n' ≤ h.1 508 s → (n' < n ∨ n' = n ∧ f' < b) → ∀ k m, 0 ≤ k → k ≤ 9 → 0 ≤ m → m < 4 → f (40 * (9 * f' + n') + (4 * k + m)) = Int64.ofNat (cnt (gR h) (rowR h s) n' f' k m)) → ((10 - b).toNat) < fu → G 14 [(0, .ref 500), (1, vI s), (2, vI n), (3, vI b)] [] (hm h [] [(519, f)] []) := by
          intro fu
          induction fu with
          | zero => intro b f hb hd hfu; exact absurd hfu (Nat.not_lt_zero _)
          | succ fu ih_b =>
            intro b f hb hd hfu
            refine A_iload_n hG 3 dX12_layCounts_14 rfl rfl ?_
            refine A_iload_n hG 2 dX12_layCounts_15 rfl rfl ?_
            refine A_iadd hG dX12_layCounts_16 ?_
            refine A_aload_n hG 0 dX12_layCounts_17 rfl rfl ?_
            refine A_getR (r := 508) hG dX12_layCounts_18 fl_X12_28 (by decide) k500 (by decide) rfl ?_
            refine A_iload_n hG 1 dX12_layCounts_21 rfl rfl ?_
            refine M_iald (v := h.1 508 s) hG dX12_layCounts_22 k508 n508 (by omega) rfl (fun ⟨ra_22, rb_22⟩ => ?_)
            refine A_icmp_gt hG 216 dX12_layCounts_23 (by decide) (by constructor <;> omega) (by constructor <;> omega) (fun c_23 => ?_) (fun c_23 => ?_)
            ·
              refine A_iinc (L' := [(2, vI (n + 1)), (0, .ref 500), (1, vI s), (3, vI b)]) hG 2 dX12_layCounts_216 rfl (by decide) rfl ?_
              refine A_goto hG 2 dX12_layCounts_219 (by decide) ?_
              refine A_sub hG [1, 2, 0] rfl ?_
              exact ih_n (n + 1) f (by omega) (fun n' f' a1 a2 a3 a4 => hd n' f' a1 a2 a3 (by omega)) (by omega)
            ·
              have hw0 := hW0.2 b (by omega) (by omega)
              rw [rowR_in (by omega), (gR_n h).1] at hw0
              have hw1 := gR_w (h := h) (j := h.1 509 (10 * s + b)) (by omega)
              have hw2 := hG0.2.2.1 (h.1 509 (10 * s + b)) (by omega) (by rw [(gR_n h).1]; omega)
              refine A_bipush (n := 40) hG dX12_layCounts_26 (by decide) ?_
              refine A_bipush (n := 9) hG dX12_layCounts_28 (by decide) ?_
              refine A_iload_n hG 3 dX12_layCounts_30 rfl rfl ?_
              refine A_imul hG dX12_layCounts_31 ?_
              refine A_iload_n hG 2 dX12_layCounts_32 rfl rfl ?_
              refine A_iadd hG dX12_layCounts_33 ?_
              refine A_imul hG dX12_layCounts_34 ?_
              refine A_istore (L' := [(4, vI (40 * ((9 * b) + n))), (0, .ref 500), (1, vI s), (2, vI n), (3, vI b)]) hG dX12_layCounts_35 (by decide) rfl ?_
              refine A_iconst (n := 4) hG dX12_layCounts_37 ?_
              refine A_aload_n hG 1 dX12_layCounts_38 rfl rfl ?_
              refine A_getR (r := 509) hG dX12_layCounts_39 fl_X12_31 (by decide) k500 (by decide) rfl ?_
              refine A_bipush (n := 10) hG dX12_layCounts_42 (by decide) ?_
              refine A_iload_n hG 2 dX12_layCounts_44 rfl rfl ?_
              refine A_imul hG dX12_layCounts_45 ?_
              refine A_iload_n hG 4 dX12_layCounts_46 rfl rfl ?_
              refine A_iadd hG dX12_layCounts_47 ?_
              refine M_iald (v := h.1 509 ((10 * s) + b)) hG dX12_layCounts_48 k509 n509 (by omega) rfl (fun ⟨ra_48, rb_48⟩ => ?_)
              refine A_imul hG dX12_layCounts_49 ?_
              refine A_istore (L' := [(5, vI (4 * (h.1 509 ((10 * s) + b)))), (4, vI (40 * ((9 * b) + n))), (0, .ref 500), (1, vI s), (2, vI n), (3, vI b)]) hG dX12_layCounts_50 (by decide) rfl ?_
              refine A_iconst (n := 0) hG dX12_layCounts_52 ?_
              refine A_istore (L' := [(6, vI 0), (5, vI (4 * (h.1 509 ((10 * s) + b)))), (4, vI (40 * ((9 * b) + n))), (0, .ref 500), (1, vI s), (2, vI n), (3, vI b)]) hG dX12_layCounts_53 (by decide) rfl ?_
              have i_2 : ∀ fu : Nat, ∀ (i : Int) (f : Int → Int64), (0 ≤ i ∧ i ≤ 40) → (∀ n' f' : Int, 1 ≤ n' → 0 ≤ f' → f' + n' ≤ h.1 508 s → (n' < n ∨ n' = n ∧ f' < b) → ∀ k m, 0 ≤ k → k ≤ 9 → 0 ≤ m → m < 4 → f (40 * (9 * f' + n') + (4 * k + m)) = Int64.ofNat (cnt (gR h) (rowR h s) n' f' k m)) → (∀ kd m, 0 ≤ kd → kd ≤ 9 → 0 ≤ m → m < 4 → 4 * kd + m < i → f (40 * (9 * b + n) + (4 * kd + m)) = Int64.ofNat (cP (gR h) (rowR h s) n b 0 0 kd m)) → ((40 - i).toNat) < fu → G 55 [(0, .ref 500), (1, vI s), (2, vI n), (3, vI b), (4, vI (40 * (9 * b + n))), (5, vI (4 * h.1 509 (10 * s + b))), (6, vI i)] [] (hm h [] [(519, f)] []) := by
                intro fu
                induction fu with
                | zero => intro i f hi hd hi0 hfu; exact absurd hfu (Nat.not_lt_zero _)
                | succ fu ih_i =>
                  intro i f hi hd hi0 hfu
                  refine A_iload hG 6 dX12_layCounts_55 rfl ?_
                  refine A_bipush (n := 40) hG dX12_layCounts_57 (by decide) ?_
                  refine A_icmp_ge hG 112 dX12_layCounts_59 (by decide) (by constructor <;> omega) (by constructor <;> omega) (fun c_59 => ?_) (fun c_59 => ?_)
                  ·
                    refine A_iconst (n := 1) hG dX12_layCounts_112 ?_
                    refine A_istore (L' := [(6, vI 1), (0, .ref 500), (1, vI s), (2, vI n), (3, vI b), (4, vI (40 * (9 * b + n))), (5, vI (4 * h.1 509 (10 * s + b)))]) hG dX12_layCounts_113 (by decide) rfl ?_
                    have a_3 : ∀ fu : Nat, ∀ (a : Nat) (f : Int → Int64), ((a : Int) + 1 ≤ n) → (∀ n' f' : Int, 1 ≤ n' → 0 ≤ f' → f' + n' ≤ h.1 508 s → (n' < n ∨ n' = n ∧ f' < b) → ∀ k m, 0 ≤ k → k ≤ 9 → 0 ≤ m → m < 4 → f (40 * (9 * f' + n') + (4 * k + m)) = Int64.ofNat (cnt (gR h) (rowR h s) n' f' k m)) → (∀ kd m, 0 ≤ kd → kd ≤ 9 → 0 ≤ m → m < 4 → f (40 * (9 * b + n) + (4 * kd + m)) = Int64.ofNat (cP (gR h) (rowR h s) n b a 0 kd m)) → (10 - a) < fu → G 115 [(0, .ref 500), (1, vI s), (2, vI n), (3, vI b), (4, vI (40 * (9 * b + n))), (6, vI ((a : Int) + 1))] [] (hm h [] [(519, f)] []) := by
                      intro fu
                      induction fu with
                      | zero => intro a f ha hd hp hfu; exact absurd hfu (Nat.not_lt_zero _)
                      | succ fu ih_a =>
                        intro a f ha hd hp hfu
                        refine A_iload hG 5 dX12_layCounts_115 rfl ?_
                        refine A_iload_n hG 2 dX12_layCounts_117 rfl rfl ?_
                        refine A_icmp_ge hG 210 dX12_layCounts_118 (by decide) (by constructor <;> omega) (by constructor <;> omega) (fun c_118 => ?_) (fun c_118 => ?_)
                        ·
                          refine A_iinc (L' := [(3, vI (b + 1)), (0, .ref 500), (1, vI s), (2, vI n), (4, vI (40 * (9 * b + n))), (6, vI ((a : Int) + 1))]) hG 3 dX12_layCounts_210 rfl (by decide) rfl ?_
                          refine A_goto hG 14 dX12_layCounts_213 (by decide) ?_
                          refine A_sub hG [1, 2, 3, 0] rfl ?_
                          exact ih_b (b + 1) f (by omega) (fun n' f' a1 a2 a3 a4 => by
                              rcases (show (n' < n ∨ n' = n ∧ f' < b) ∨ (n' = n ∧ f' = b) by omega) with a5 | ⟨rfl, rfl⟩
                              · exact hd n' f' a1 a2 a3 a5
                              · intro kd m b1 b2 b3 b4
                                rw [hp kd m b1 b2 b3 b4, show a = n'.toNat - 1 by omega, cP_end a1]) (by omega)
                        ·
                          refine A_iconst (n := 0) hG dX12_layCounts_121 ?_
                          refine A_istore (L' := [(7, vI 0), (0, .ref 500), (1, vI s), (2, vI n), (3, vI b), (4, vI (40 * (9 * b + n))), (6, vI ((a : Int) + 1))]) hG dX12_layCounts_122 (by decide) rfl ?_
                          have r_4 : ∀ fu : Nat, ∀ (r : Nat) (f : Int → Int64), ((r : Int) ≤ h.1 505 0) → (∀ n' f' : Int, 1 ≤ n' → 0 ≤ f' → f' + n' ≤ h.1 508 s → (n' < n ∨ n' = n ∧ f' < b) → ∀ k m, 0 ≤ k → k ≤ 9 → 0 ≤ m → m < 4 → f (40 * (9 * f' + n') + (4 * k + m)) = Int64.ofNat (cnt (gR h) (rowR h s) n' f' k m)) → (∀ kd m, 0 ≤ kd → kd ≤ 9 → 0 ≤ m → m < 4 → f (40 * (9 * b + n) + (4 * kd + m)) = Int64.ofNat (cP (gR h) (rowR h s) n b a r kd m)) → (30 - r) < fu → G 124 [(0, .ref 500), (1, vI s), (2, vI n), (3, vI b), (4, vI (40 * (9 * b + n))), (6, vI ((a : Int) + 1)), (7, vI (r : Int))] [] (hm h [] [(519, f)] []) := by
                            intro fu
                            induction fu with
                            | zero => intro r f hr hd hp hfu; exact absurd hfu (Nat.not_lt_zero _)
                            | succ fu ih_r =>
                              intro r f hr hd hp hfu
                              refine A_iload hG 6 dX12_layCounts_124 rfl ?_
                              refine A_aload_n hG 0 dX12_layCounts_126 rfl rfl ?_
                              refine A_getR (r := 505) hG dX12_layCounts_127 fl_X12_19 (by decide) k500 (by decide) rfl ?_
                              refine A_iconst (n := 0) hG dX12_layCounts_130 ?_
                              refine M_iald (v := h.1 505 0) hG dX12_layCounts_131 k505 n505 (by omega) rfl (fun ⟨ra_131, rb_131⟩ => ?_)
                              refine A_icmp_ge hG 204 dX12_layCounts_132 (by decide) (by constructor <;> omega) (by constructor <;> omega) (fun c_132 => ?_) (fun c_132 => ?_)
                              ·
                                refine A_iinc (L' := [(6, vI (((a : Int) + 1) + 1)), (0, .ref 500), (1, vI s), (2, vI n), (3, vI b), (4, vI (40 * (9 * b + n))), (7, vI (r : Int))]) hG 5 dX12_layCounts_204 rfl (by decide) rfl ?_
                                refine A_goto hG 115 dX12_layCounts_207 (by decide) ?_
                                refine A_sub hG [1, 2, 3, 4, 5, 0] rfl ?_
                                exact ih_a (a + 1) f (by omega) hd (fun kd m b1 b2 b3 b4 => by rw [hp kd m b1 b2 b3 b4, show r = (gR h 10 1).toNat by rw [(gR_n h).2]; omega, cP_row]) (by omega)
                              ·
                                have er := gR_r (h := h) (j := r) (by omega)
                                have ok := hG0.2.2.2.1 r (by omega) (by rw [(gR_n h).2]; omega)
                                refine A_aload_n hG 0 dX12_layCounts_135 rfl rfl ?_
                                refine A_iload hG 4 dX12_layCounts_136 rfl ?_
                                refine A_bipush (n := 40) hG dX12_layCounts_138 (by decide) ?_
                                refine A_bipush (n := 9) hG dX12_layCounts_140 (by decide) ?_
                                refine A_iload_n hG 3 dX12_layCounts_142 rfl rfl ?_
                                refine A_imul hG dX12_layCounts_143 ?_
                                refine A_iload hG 5 dX12_layCounts_144 rfl ?_
                                refine A_iadd hG dX12_layCounts_146 ?_
                                refine A_imul hG dX12_layCounts_147 ?_
                                refine A_iconst (n := 4) hG dX12_layCounts_148 ?_
                                refine A_aload_n hG 0 dX12_layCounts_149 rfl rfl ?_
                                refine A_getR (r := 506) hG dX12_layCounts_150 fl_X12_22 (by decide) k500 (by decide) rfl ?_
                                refine A_iconst (n := 5) hG dX12_layCounts_153 ?_
                                refine A_iload hG 6 dX12_layCounts_154 rfl ?_
                                refine A_imul hG dX12_layCounts_156 ?_
                                refine A_iconst (n := 1) hG dX12_layCounts_157 ?_
                                refine A_iadd hG dX12_layCounts_158 ?_
                                refine M_iald (v := h.1 506 ((5 * (r : Int)) + 1)) hG dX12_layCounts_159 k506 n506 (by omega) rfl (fun ⟨ra_159, rb_159⟩ => ?_)
                                refine A_imul hG dX12_layCounts_160 ?_
                                refine A_iadd hG dX12_layCounts_161 ?_
                                refine A_bipush (n := 40) hG dX12_layCounts_162 (by decide) ?_
                                refine A_bipush (n := 9) hG dX12_layCounts_164 (by decide) ?_
                                refine A_iload_n hG 3 dX12_layCounts_166 rfl rfl ?_
                                refine A_iload hG 5 dX12_layCounts_167 rfl ?_
                                refine A_iadd hG dX12_layCounts_169 ?_
                                refine A_imul hG dX12_layCounts_170 ?_
                                refine A_iload_n hG 2 dX12_layCounts_171 rfl rfl ?_
                                refine A_iadd hG dX12_layCounts_172 ?_
                                refine A_iload hG 5 dX12_layCounts_173 rfl ?_
                                refine A_isub hG dX12_layCounts_175 ?_
                                refine A_imul hG dX12_layCounts_176 ?_
                                refine A_iconst (n := 4) hG dX12_layCounts_177 ?_
                                refine A_aload_n hG 0 dX12_layCounts_178 rfl rfl ?_
                                refine A_getR (r := 506) hG dX12_layCounts_179 fl_X12_22 (by decide) k500 (by decide) rfl ?_
                                refine A_iconst (n := 5) hG dX12_layCounts_182 ?_
                                refine A_iload hG 6 dX12_layCounts_183 rfl ?_
                                refine A_imul hG dX12_layCounts_185 ?_
                                refine A_iconst (n := 2) hG dX12_layCounts_186 ?_
                                refine A_iadd hG dX12_layCounts_187 ?_
                                refine M_iald (v := h.1 506 ((5 * (r : Int)) + 2)) hG dX12_layCounts_188 k506 n506 (by omega) rfl (fun ⟨ra_188, rb_188⟩ => ?_)
                                refine A_imul hG dX12_layCounts_189 ?_
                                refine A_iadd hG dX12_layCounts_190 ?_
                                refine A_iconst (n := 5) hG dX12_layCounts_191 ?_
                                refine A_iload hG 6 dX12_layCounts_192 rfl ?_
                                refine A_imul hG dX12_layCounts_194 ?_
                                have er0 := er.1
                                refine C_Vv (as := [vI (40 * (9 * b + n)), vI ((40 * ((9 * b) + ((a : Int) + 1))) + (4 * (h.1 506 ((5 * (r : Int)) + 1)))), vI ((40 * (((9 * (b + ((a : Int) + 1))) + n) - ((a : Int) + 1))) + (4 * (h.1 506 ((5 * (r : Int)) + 2)))), vI (5 * (r : Int))]) (st := []) (k := 500) (c := 11) hG dX12_layCounts_195 ml_X12_151 mf_X12_addTrees mi_X12_addTrees se_X12_addTrees rfl (by decide) k500 (r_addTrees (hm h [] [(519, f)] []) (p := (40 * (9 * b + n))) (ys := ((40 * ((9 * b) + ((a : Int) + 1))) + (4 * (h.1 506 ((5 * (r : Int)) + 1))))) (zs := ((40 * (((9 * (b + ((a : Int) + 1))) + n) - ((a : Int) + 1))) + (4 * (h.1 506 ((5 * (r : Int)) + 2))))) (u := (5 * (r : Int))) (by omega) (by omega) (by omega) (by omega) (show 0 ≤ h.1 506 (5 * (r : Int)) ∧ h.1 506 (5 * (r : Int)) ≤ 9 by omega) (show ((40 * ((9 * b) + ((a : Int) + 1))) + (4 * (h.1 506 ((5 * (r : Int)) + 1)))) + 3 < (40 * (9 * b + n)) + 4 * h.1 506 (5 * (r : Int)) ∨ (40 * (9 * b + n)) + 4 * h.1 506 (5 * (r : Int)) + 3 < ((40 * ((9 * b) + ((a : Int) + 1))) + (4 * (h.1 506 ((5 * (r : Int)) + 1)))) by omega) (show ((40 * (((9 * (b + ((a : Int) + 1))) + n) - ((a : Int) + 1))) + (4 * (h.1 506 ((5 * (r : Int)) + 2)))) + 3 < (40 * (9 * b + n)) + 4 * h.1 506 (5 * (r : Int)) ∨ (40 * (9 * b + n)) + 4 * h.1 506 (5 * (r : Int)) + 3 < ((40 * (((9 * (b + ((a : Int) + 1))) + n) - ((a : Int) + 1))) + (4 * (h.1 506 ((5 * (r : Int)) + 2)))) by omega)) (by decide) (by decide) rfl rfl (by decide) (fun g195 hp_195 => ?_)
                                have hq_195 : ∃ f' : Int → Int64, (∀ i, f' i = if (40 * (9 * b + n)) + 4 * h.1 506 (5 * (r : Int)) ≤ i ∧ i < (40 * (9 * b + n)) + 4 * h.1 506 (5 * (r : Int)) + 4 then f i + tS (h.1 506 ((5 * (r : Int)) + 3)) (h.1 506 ((5 * (r : Int)) + 4)) (fun q => f (((40 * ((9 * b) + ((a : Int) + 1))) + (4 * (h.1 506 ((5 * (r : Int)) + 1)))) + q)) (fun q => f (((40 * (((9 * (b + ((a : Int) + 1))) + n) - ((a : Int) + 1))) + (4 * (h.1 506 ((5 * (r : Int)) + 2)))) + q)) (i - ((40 * (9 * b + n)) + 4 * h.1 506 (5 * (r : Int)))) 16 else f i) ∧ g195 = hm (hm h [] [(519, f)] []) [] [(519, f')] [] := hp_195
                                obtain ⟨f195, hf195, rfl⟩ := hq_195
                                refine A_hm (la := []) (lb := [(519, f195)]) (lc := []) rfl rfl rfl ?_
                                refine A_iinc (L' := [(7, vI ((r : Int) + 1)), (0, .ref 500), (1, vI s), (2, vI n), (3, vI b), (4, vI (40 * (9 * b + n))), (6, vI ((a : Int) + 1))]) hG 6 dX12_layCounts_198 rfl (by decide) rfl ?_
                                refine A_goto hG 124 dX12_layCounts_201 (by decide) ?_
                                refine A_sub hG [1, 2, 3, 4, 5, 6, 0] rfl ?_
                                exact ih_r (r + 1) f195 (by omega) (fun n' f' a1 a2 a3 a4 k m b1 b2 b3 b4 => by rw [hf195 _, if_neg (by omega)]; exact hd n' f' a1 a2 a3 a4 k m b1 b2 b3 b4) (fun kd m b1 b2 b3 b4 => by
                                    rw [hf195 _, cP_s, Int64.ofNat_add]
                                    by_cases hk : kd = h.1 506 (5 * r)
                                    · rw [if_pos (by omega), hp kd m b1 b2 b3 b4, show 40 * (9 * b + n) + (4 * kd + m) - (40 * (9 * b + n) + 4 * h.1 506 (5 * r)) = m by omega]
                                      congr 1
                                      rw [tS_16 (A := cnt (gR h) (rowR h s) ((a : Int) + 1) b (gR h 5 r)) (B := cnt (gR h) (rowR h s) (n - ((a : Int) + 1)) (b + ((a : Int) + 1)) (gR h 6 r)) (by omega) ⟨b3, b4⟩ (fun q q1 q2 => by rw [er.2.1, ← hd ((a : Int) + 1) b (by omega) (by omega) (by omega) (by omega) (h.1 506 (5 * r + 1)) q (by omega) (by omega) q1 q2]; congr 1; omega) (fun q q1 q2 => by rw [er.2.2.1, ← hd (n - ((a : Int) + 1)) (b + ((a : Int) + 1)) (by omega) (by omega) (by omega) (by omega) (h.1 506 (5 * r + 2)) q (by omega) (by omega) q1 q2]; congr 1; omega)]
                                      unfold tm
                                      rw [if_pos (show gR h 4 r = kd by omega), er.2.2.2.1, er.2.2.2.2]
                                    · rw [if_neg (by omega), hp kd m b1 b2 b3 b4]
                                      unfold tm
                                      rw [if_neg (show ¬ gR h 4 r = kd by omega)]
                                      simp) (by omega)
                          refine A_sub hG [1, 2, 3, 4, 5, 6, 0] rfl ?_
                          exact r_4 _ 0 f (by omega) hd hp (Nat.lt_succ_self _)
                    refine A_sub hG [1, 2, 3, 4, 5, 0] rfl ?_
                    exact a_3 _ 0 f (by omega) hd (fun kd m b1 b2 b3 b4 => hi0 kd m b1 b2 b3 b4 (by omega)) (Nat.lt_succ_self _)
                  ·
                    refine A_aload_n hG 0 dX12_layCounts_62 rfl rfl ?_
                    refine A_getR (r := 519) hG dX12_layCounts_63 fl_X12_53 (by decide) k500 (by decide) rfl ?_
                    refine A_iload hG 4 dX12_layCounts_66 rfl ?_
                    refine A_iload hG 6 dX12_layCounts_68 rfl ?_
                    refine A_iadd hG dX12_layCounts_70 ?_
                    refine A_iload_n hG 2 dX12_layCounts_71 rfl rfl ?_
                    refine A_iconst (n := 1) hG dX12_layCounts_72 ?_
                    refine A_icmp_ne hG 104 dX12_layCounts_73 (by decide) (by constructor <;> omega) (by constructor <;> omega) (fun c_73 => ?_) (fun c_73 => ?_)
                    ·
                      refine A_lconst (v := i2l 0) hG dX12_layCounts_104 (by decide) ?_
                      refine M_last (ll' := [(519, up f ((40 * (9 * b + n)) + i) (i2l 0))]) hG dX12_layCounts_105 k519 n519 (by omega) rfl ?_
                      refine A_iinc (L' := [(6, vI (i + 1)), (0, .ref 500), (1, vI s), (2, vI n), (3, vI b), (4, vI (40 * (9 * b + n))), (5, vI (4 * h.1 509 (10 * s + b)))]) hG 6 dX12_layCounts_106 rfl (by decide) rfl ?_
                      refine A_goto hG 55 dX12_layCounts_109 (by decide) ?_
                      refine A_sub hG [1, 2, 3, 4, 5, 6, 0] rfl ?_
                      exact ih_i (i + 1) (up f ((40 * (9 * b + n)) + i) (i2l 0)) (by omega) (fun n' f' a1 a2 a3 a4 k m b1 b2 b3 b4 => by rw [up_ne _ _ (by omega)]; exact hd n' f' a1 a2 a3 a4 k m b1 b2 b3 b4) (fun kd m b1 b2 b3 b4 b5 => by
                          by_cases hi : 4 * kd + m = i
                          · rw [show 40 * (9 * b + n) + (4 * kd + m) = 40 * (9 * b + n) + i by omega, up_eq]
                            first | (rw [i2l_0, cP_0, if_neg (by omega)]; done) | (rw [i2l_0, cell_st (by omega) (by omega) hw0, if_neg (by omega)])
                          · rw [up_ne _ _ (by omega)]; exact hi0 kd m b1 b2 b3 b4 (by omega)) (by omega)
                    ·
                      refine A_iload hG 6 dX12_layCounts_76 rfl ?_
                      refine A_iconst (n := 4) hG dX12_layCounts_78 ?_
                      refine A_aload_n hG 0 dX12_layCounts_79 rfl rfl ?_
                      refine A_getR (r := 504) hG dX12_layCounts_80 fl_X12_16 (by decide) k500 (by decide) rfl ?_
                      refine A_iload hG 5 dX12_layCounts_83 rfl ?_
                      refine M_iald (v := h.1 504 (4 * h.1 509 (10 * s + b))) hG dX12_layCounts_85 k504 n504 (by omega) rfl (fun ⟨ra_85, rb_85⟩ => ?_)
                      refine A_imul hG dX12_layCounts_86 ?_
                      refine A_aload_n hG 0 dX12_layCounts_87 rfl rfl ?_
                      refine A_getR (r := 504) hG dX12_layCounts_88 fl_X12_16 (by decide) k500 (by decide) rfl ?_
                      refine A_iload hG 5 dX12_layCounts_91 rfl ?_
                      refine A_iconst (n := 1) hG dX12_layCounts_93 ?_
                      refine A_iadd hG dX12_layCounts_94 ?_
                      refine M_iald (v := h.1 504 ((4 * h.1 509 (10 * s + b)) + 1)) hG dX12_layCounts_95 k504 n504 (by omega) rfl (fun ⟨ra_95, rb_95⟩ => ?_)
                      refine A_iadd hG dX12_layCounts_96 ?_
                      refine A_icmp_ne hG 104 dX12_layCounts_97 (by decide) (by constructor <;> omega) (by constructor <;> omega) (fun c_97 => ?_) (fun c_97 => ?_)
                      ·
                        refine A_lconst (v := i2l 0) hG dX12_layCounts_104 (by decide) ?_
                        refine M_last (ll' := [(519, up f ((40 * (9 * b + n)) + i) (i2l 0))]) hG dX12_layCounts_105 k519 n519 (by omega) rfl ?_
                        refine A_iinc (L' := [(6, vI (i + 1)), (0, .ref 500), (1, vI s), (2, vI n), (3, vI b), (4, vI (40 * (9 * b + n))), (5, vI (4 * h.1 509 (10 * s + b)))]) hG 6 dX12_layCounts_106 rfl (by decide) rfl ?_
                        refine A_goto hG 55 dX12_layCounts_109 (by decide) ?_
                        refine A_sub hG [1, 2, 3, 4, 5, 6, 0] rfl ?_
                        exact ih_i (i + 1) (up f ((40 * (9 * b + n)) + i) (i2l 0)) (by omega) (fun n' f' a1 a2 a3 a4 k m b1 b2 b3 b4 => by rw [up_ne _ _ (by omega)]; exact hd n' f' a1 a2 a3 a4 k m b1 b2 b3 b4) (fun kd m b1 b2 b3 b4 b5 => by
                            by_cases hi : 4 * kd + m = i
                            · rw [show 40 * (9 * b + n) + (4 * kd + m) = 40 * (9 * b + n) + i by omega, up_eq]
                              first | (rw [i2l_0, cP_0, if_neg (by omega)]; done) | (rw [i2l_0, cell_st (by omega) (by omega) hw0, if_neg (by omega)])
                            · rw [up_ne _ _ (by omega)]; exact hi0 kd m b1 b2 b3 b4 (by omega)) (by omega)
                      ·
                        refine A_lconst (v := i2l 1) hG dX12_layCounts_100 (by decide) ?_
                        refine A_goto hG 105 dX12_layCounts_101 (by decide) ?_
                        refine M_last (ll' := [(519, up f ((40 * (9 * b + n)) + i) (i2l 1))]) hG dX12_layCounts_105 k519 n519 (by omega) rfl ?_
                        refine A_iinc (L' := [(6, vI (i + 1)), (0, .ref 500), (1, vI s), (2, vI n), (3, vI b), (4, vI (40 * (9 * b + n))), (5, vI (4 * h.1 509 (10 * s + b)))]) hG 6 dX12_layCounts_106 rfl (by decide) rfl ?_
                        refine A_goto hG 55 dX12_layCounts_109 (by decide) ?_
                        refine A_sub hG [1, 2, 3, 4, 5, 6, 0] rfl ?_
                        exact ih_i (i + 1) (up f ((40 * (9 * b + n)) + i) (i2l 1)) (by omega) (fun n' f' a1 a2 a3 a4 k m b1 b2 b3 b4 => by rw [up_ne _ _ (by omega)]; exact hd n' f' a1 a2 a3 a4 k m b1 b2 b3 b4) (fun kd m b1 b2 b3 b4 b5 => by
                            by_cases hi : 4 * kd + m = i
                            · rw [show 40 * (9 * b + n) + (4 * kd + m) = 40 * (9 * b + n) + i by omega, up_eq]
                              rw [i2l_1, cell_st c_73 (by omega) hw0, if_pos (by omega)]
                            · rw [up_ne _ _ (by omega)]; exact hi0 kd m b1 b2 b3 b4 (by omega)) (by omega)
              refine A_sub hG [3, 4, 5, 6, 2, 1, 0] rfl ?_
              exact i_2 _ 0 f (by omega) hd (fun kd m b1 b2 b3 b4 b5 => by omega) (Nat.lt_succ_self _)
        refine A_sub hG [1, 2, 3, 0] rfl ?_
        exact b_1 _ 0 f (by omega) (fun n' f' a1 a2 a3 a4 => hd n' f' a1 a2 a3 (by omega)) (Nat.lt_succ_self _)
  refine A_sub hG [1, 2, 0] rfl ?_
  exact n_0 _ 1 (h.2.1 519) (by omega) (fun n' f' a1 a2 a3 a4 => by omega) (Nat.lt_succ_self _)

set_option maxHeartbeats 2000000 in
set_option maxRecDepth 20000 in
theorem r_trees (h : AH) {s m : Int} (hs : ir s) (hm0 : ir m) (hG0 : okG (gR h)) (hW : ∀ s, 0 ≤ s → s ≤ 7 → okW (gR h) (rowR h s) (h.1 508 s)) : AMet yX12_trees cX12_trees 4 (some .long) 2 53 [.ref 500, vI s, vI m] h (Ql (fun z h' => ∃ f, ((z = i2l (-1) ∧ (s < 0 ∨ 7 < s ∨ m < -1 ∨ 3 < m)) ∨ (z = i2l (-2) ∧ (0 ≤ s ∧ s ≤ 7 ∧ -1 ≤ m ∧ m ≤ 3) ∧ h.1 508 s = 0) ∨ ((0 ≤ s ∧ s ≤ 7 ∧ -1 ≤ m ∧ m ≤ 3) ∧ h.1 508 s ≠ 0 ∧ ((m = -1 ∧ z = Int64.ofNat (cnt (gR h) (rowR h s) (h.1 508 s) 0 0 0 + cnt (gR h) (rowR h s) (h.1 508 s) 0 0 1 + cnt (gR h) (rowR h s) (h.1 508 s) 0 0 2 + cnt (gR h) (rowR h s) (h.1 508 s) 0 0 3)) ∨ (m ≠ -1 ∧ z = Int64.ofNat (cnt (gR h) (rowR h s) (h.1 508 s) 0 0 m))))) ∧ h' = hm h [] [(519, f)] [])) := by
  obtain ⟨hs1, hs2⟩ := hs
  obtain ⟨hm1, hm2⟩ := hm0
  refine AMet.of (by decide) (Nat.le_of_ble_eq_true rfl) (fun G hM => ?_)
  have hG := hM.cx
  refine A_hm0 (G := G) (L := [(0, .ref 500), (1, vI s), (2, vI m)]) ?_
  refine A_iload_n hG 1 dX12_trees_0 rfl rfl ?_
  refine C_Si (as := [vI s]) (st := []) hG dX12_trees_1 ml_X12_134 mf_X12_isSentence ms_X12_isSentence (r_isSentence (hm h [] [] []) (by constructor <;> omega)) (by decide) (by decide) rfl rfl (by decide) (fun z1 g1 ri_1 hp_1 => ?_)
  obtain ⟨ra_1, rb_1⟩ := ri_1
  obtain ⟨hz1, rfl⟩ := hp_1
  refine A_if_eq hG 21 dX12_trees_4 (by decide) (by constructor <;> omega) (fun c_4 => ?_) (fun c_4 => ?_)
  ·
    refine A_ldc2 (v := i2l (-1)) hG dX12_trees_21 (by rw [show i2l (-1) = (-1 : Int64) by decide]; exact kl_X12_155) ?_
    exact Ret_l hM dX12_trees_24 (⟨h.2.1 519, Or.inl ⟨rfl, by omega⟩, (hm_selfL h 519).symm⟩)
  ·
    refine A_iload_n hG 2 dX12_trees_7 rfl rfl ?_
    refine A_i2l hG dX12_trees_8 ?_
    refine A_ldc2 (v := i2l (-1)) hG dX12_trees_9 (by rw [show i2l (-1) = (-1 : Int64) by decide]; exact kl_X12_155) ?_
    refine A_ldc2 (v := i2l 3) hG dX12_trees_12 (by rw [show i2l 3 = (3 : Int64) by decide]; exact kl_X12_157) ?_
    refine C_Si (as := [.long (i2l m), .long (i2l (-1)), .long (i2l 3)]) (st := []) hG dX12_trees_15 ml_X12_80 mf_X12_in ms_X12_in (r_in (hm h [] [] []) (by constructor <;> omega) (by constructor <;> omega) (by constructor <;> omega)) (by decide) (by decide) rfl rfl (by decide) (fun z15 g15 ri_15 hp_15 => ?_)
    obtain ⟨ra_15, rb_15⟩ := ri_15
    obtain ⟨hz15, rfl⟩ := hp_15
    refine A_if_ne hG 25 dX12_trees_18 (by decide) (by constructor <;> omega) (fun c_18 => ?_) (fun c_18 => ?_)
    ·
      have hW0 := hW s (by omega) (by omega)
      have hlen := hW0.1
      refine A_aload_n hG 0 dX12_trees_25 rfl rfl ?_
      refine A_getR (r := 508) hG dX12_trees_26 fl_X12_28 (by decide) k500 (by decide) rfl ?_
      refine A_iload_n hG 1 dX12_trees_29 rfl rfl ?_
      refine M_iald (v := h.1 508 s) hG dX12_trees_30 k508 n508 (by omega) rfl (fun ⟨ra_30, rb_30⟩ => ?_)
      refine A_if_ne hG 38 dX12_trees_31 (by decide) (by constructor <;> omega) (fun c_31 => ?_) (fun c_31 => ?_)
      ·
        refine A_aload_n hG 0 dX12_trees_38 rfl rfl ?_
        refine A_iload_n hG 1 dX12_trees_39 rfl rfl ?_
        refine C_Vv (as := [vI s]) (st := []) (k := 500) (c := 11) hG dX12_trees_40 ml_X12_161 mf_X12_layCounts mi_X12_layCounts se_X12_layCounts rfl (by decide) k500 (r_layCounts (hm h [] [] []) (by omega) hG0 hW0) (by decide) (by decide) rfl rfl (by decide) (fun g40 hp_40 => ?_)
        have hq_40 : ∃ f : Int → Int64, (∀ n' f' : Int, 1 ≤ n' → 0 ≤ f' → f' + n' ≤ h.1 508 s → ∀ k m, 0 ≤ k → k ≤ 9 → 0 ≤ m → m < 4 → f (40 * (9 * f' + n') + (4 * k + m)) = Int64.ofNat (cnt (gR h) (rowR h s) n' f' k m)) ∧ g40 = hm (hm h [] [] []) [] [(519, f)] [] := hp_40
        obtain ⟨f40, hf40, rfl⟩ := hq_40
        refine A_hm (la := []) (lb := [(519, f40)]) (lc := []) rfl rfl rfl ?_
        have hc : ∀ m, 0 ≤ m → m < 4 → f40 (40 * h.1 508 s + m) = Int64.ofNat (cnt (gR h) (rowR h s) (h.1 508 s) 0 0 m) := fun m b1 b2 => by rw [← hf40 (h.1 508 s) 0 (by omega) (by omega) (by omega) 0 m (by omega) (by omega) b1 b2]; congr 1; omega
        refine A_bipush (n := 40) hG dX12_trees_43 (by decide) ?_
        refine A_aload_n hG 0 dX12_trees_45 rfl rfl ?_
        refine A_getR (r := 508) hG dX12_trees_46 fl_X12_28 (by decide) k500 (by decide) rfl ?_
        refine A_iload_n hG 1 dX12_trees_49 rfl rfl ?_
        refine M_iald (v := h.1 508 s) hG dX12_trees_50 k508 n508 (by omega) rfl (fun ⟨ra_50, rb_50⟩ => ?_)
        refine A_imul hG dX12_trees_51 ?_
        refine A_istore_n (L' := [(3, vI (40 * (h.1 508 s))), (0, .ref 500), (1, vI s), (2, vI m)]) hG dX12_trees_52 rfl (by decide) rfl ?_
        refine A_iload_n hG 3 dX12_trees_53 rfl rfl ?_
        refine A_if_ge hG 93 dX12_trees_54 (by decide) (by constructor <;> omega) (fun c_54 => ?_) (fun c_54 => ?_)
        ·
          refine A_aload_n hG 1 dX12_trees_93 rfl rfl ?_
          refine A_getR (r := 519) hG dX12_trees_94 fl_X12_53 (by decide) k500 (by decide) rfl ?_
          refine A_iload_n hG 0 dX12_trees_97 rfl rfl ?_
          refine A_iload_n hG 3 dX12_trees_98 rfl rfl ?_
          refine A_iadd hG dX12_trees_99 ?_
          refine M_lald (v := f40 ((40 * (h.1 508 s)) + m)) hG dX12_trees_100 k519 n519 (by omega) rfl ?_
          exact Ret_l hM dX12_trees_101 (⟨f40, Or.inr (Or.inr ⟨by omega, c_31, Or.inr ⟨by omega, hc m (by omega) (by omega)⟩⟩), rfl⟩)
        ·
          refine A_aload_n hG 1 dX12_trees_57 rfl rfl ?_
          refine A_getR (r := 519) hG dX12_trees_58 fl_X12_53 (by decide) k500 (by decide) rfl ?_
          refine A_iload_n hG 0 dX12_trees_61 rfl rfl ?_
          refine M_lald (v := f40 (40 * (h.1 508 s))) hG dX12_trees_62 k519 n519 (by omega) rfl ?_
          refine A_aload_n hG 1 dX12_trees_63 rfl rfl ?_
          refine A_getR (r := 519) hG dX12_trees_64 fl_X12_53 (by decide) k500 (by decide) rfl ?_
          refine A_iload_n hG 0 dX12_trees_67 rfl rfl ?_
          refine A_iconst (n := 1) hG dX12_trees_68 ?_
          refine A_iadd hG dX12_trees_69 ?_
          refine M_lald (v := f40 ((40 * (h.1 508 s)) + 1)) hG dX12_trees_70 k519 n519 (by omega) rfl ?_
          refine A_ladd hG dX12_trees_71 ?_
          refine A_aload_n hG 1 dX12_trees_72 rfl rfl ?_
          refine A_getR (r := 519) hG dX12_trees_73 fl_X12_53 (by decide) k500 (by decide) rfl ?_
          refine A_iload_n hG 0 dX12_trees_76 rfl rfl ?_
          refine A_iconst (n := 2) hG dX12_trees_77 ?_
          refine A_iadd hG dX12_trees_78 ?_
          refine M_lald (v := f40 ((40 * (h.1 508 s)) + 2)) hG dX12_trees_79 k519 n519 (by omega) rfl ?_
          refine A_ladd hG dX12_trees_80 ?_
          refine A_aload_n hG 1 dX12_trees_81 rfl rfl ?_
          refine A_getR (r := 519) hG dX12_trees_82 fl_X12_53 (by decide) k500 (by decide) rfl ?_
          refine A_iload_n hG 0 dX12_trees_85 rfl rfl ?_
          refine A_iconst (n := 3) hG dX12_trees_86 ?_
          refine A_iadd hG dX12_trees_87 ?_
          refine M_lald (v := f40 ((40 * (h.1 508 s)) + 3)) hG dX12_trees_88 k519 n519 (by omega) rfl ?_
          refine A_ladd hG dX12_trees_89 ?_
          refine A_goto hG 101 dX12_trees_90 (by decide) ?_
          exact Ret_l hM dX12_trees_101 (⟨f40, Or.inr (Or.inr ⟨by omega, c_31, Or.inl ⟨by omega, by rw [show 40 * h.1 508 s = 40 * h.1 508 s + 0 by omega, hc 0 (by omega) (by omega), show 40 * h.1 508 s + 0 + 1 = 40 * h.1 508 s + 1 by omega, show 40 * h.1 508 s + 0 + 2 = 40 * h.1 508 s + 2 by omega, show 40 * h.1 508 s + 0 + 3 = 40 * h.1 508 s + 3 by omega, hc 1 (by omega) (by omega), hc 2 (by omega) (by omega), hc 3 (by omega) (by omega), Int64.ofNat_add, Int64.ofNat_add, Int64.ofNat_add]⟩⟩), rfl⟩)
      ·
        refine A_ldc2 (v := i2l (-2)) hG dX12_trees_34 (by rw [show i2l (-2) = (-2 : Int64) by decide]; exact kl_X12_159) ?_
        exact Ret_l hM dX12_trees_37 (⟨h.2.1 519, Or.inr (Or.inl ⟨rfl, by omega, c_31⟩), (hm_selfL h 519).symm⟩)
    ·
      refine A_ldc2 (v := i2l (-1)) hG dX12_trees_21 (by rw [show i2l (-1) = (-1 : Int64) by decide]; exact kl_X12_155) ?_
      exact Ret_l hM dX12_trees_24 (⟨h.2.1 519, Or.inl ⟨rfl, by omega⟩, (hm_selfL h 519).symm⟩)

end
