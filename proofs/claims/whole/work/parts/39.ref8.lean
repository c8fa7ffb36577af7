/-! the reference: goOver (printed by gen) -/
section
theorem z01 {z x y u v : Int} (h : (z = 0 ∧ x ≤ y ∧ u = x) ∨ (z = 1 ∧ y < x ∧ u = v)) : z = 0 ∨ z = 1 := h.elim (fun q => Or.inl q.1) (fun q => Or.inr q.1)
theorem i01 {x a b : Int} (h : (x = 0 ∧ a = 0 ∧ b = 0) ∨ (x = 1 ∧ (a = 1 ∨ b = 1))) : x = 0 ∨ x = 1 := h.elim (fun q => Or.inl q.1) (fun q => Or.inr q.1)
theorem ch0 {z x y u v : Int} (h : (z = 0 ∧ x ≤ y ∧ u = x) ∨ (z = 1 ∧ y < x ∧ u = v)) (hz : z = 0) : x ≤ y := by
  rcases h with h | h
  · exact h.2.1
  · omega
theorem ch0f {z x y u v : Int} (h : (z = 0 ∧ x ≤ y ∧ u = x) ∨ (z = 1 ∧ y < x ∧ u = v)) (hz : z = 0) : u = x := by
  rcases h with h | h
  · exact h.2.2
  · omega
set_option maxHeartbeats 2000000 in
set_option maxRecDepth 20000 in
theorem r_goOver (h : AH) (Pc : Int → Int → Prop) {s a b : Int} (hPc : ∀ x y, a ≤ x → x ≤ y → y ≤ b → Pc x y) (hs : 0 ≤ s ∧ s ≤ 9) (hG0 : okG (gR h)) (hlen : 0 ≤ h.1 508 s ∧ h.1 508 s ≤ 8) (hab : 0 ≤ a ∧ a ≤ b ∧ b ≤ h.1 508 s) (hpp : ∀ c, 0 ≤ c → c < 5 → 0 ≤ h.1 521 c ∧ h.1 521 c ≤ 99) (hF : ∀ i, 0 ≤ i → i < 4050 → 0 ≤ h.1 520 i) (hT : ∀ i, 0 ≤ i → i < 4050 → h.1 520 i ≤ 100000) : AMet yX12_goOver cX12_goOver 12 (some .boolean) 1 22 [.ref 500, vI s, vI a, vI b] h (Qi (fun z h' => ∃ f : Int → Int, (gJ Pc (gR h) (h.1 521) (hasb (h.1 510 s)) (rowR h s) (h.1 508 s) (40 * (10 * a + b)) (h.1 520) f z ∧ (z = 0 → (a < b → ∀ k, 0 ≤ k → k < 40 → cB (h.1 521) (hasb (h.1 510 s)) (tR (h.1 520)) a b k) ∧ ∀ m r y z, a ≤ m → m ≤ b → 0 ≤ r → r < h.1 505 0 → 0 ≤ y → y < 4 → 0 ≤ z → z < 4 → cC (gR h) (tR (h.1 520)) a b m r y z)) ∧ h' = hm h [(520, f)] [] [])) := by
  have hnr := hG0.2.1
  rw [(gR_n h).2] at hnr
  have hp3 := hpp 3 (by omega) (by omega)
  refine AMet.of (by decide) (Nat.le_of_ble_eq_true rfl) (fun G hM => ?_)
  have hG := hM.cx
  refine A_hm0 (G := G) (L := [(0, .ref 500), (1, vI s), (2, vI a), (3, vI b)]) ?_
  refine A_iconst (n := 0) hG dX12_goOver_0 ?_
  refine A_istore (L' := [(4, vI 0), (0, .ref 500), (1, vI s), (2, vI a), (3, vI b)]) hG dX12_goOver_1 (by decide) rfl ?_
  refine A_aload_n hG 1 dX12_goOver_3 rfl rfl ?_
  refine A_iload_n hG 3 dX12_goOver_4 rfl rfl ?_
  refine A_iload_n hG 4 dX12_goOver_5 rfl rfl ?_
  refine C_Vi (as := [vI a, vI b]) (st := []) (k := 500) (c := 11) hG dX12_goOver_6 ml_X12_167 mf_X12_costAt mi_X12_costAt se_X12_costAt rfl (by decide) k500 (r_costAt (hm h [] [] []) (a := a) (b := b) (by omega) (by omega)) (by decide) (by decide) rfl rfl (Nat.le_of_ble_eq_true rfl) (fun z6 g6 ri_6 hp_6 => ?_)
  obtain ⟨ra_6, rb_6⟩ := ri_6
  obtain ⟨rfl, rfl⟩ := hp_6
  refine A_istore (L' := [(5, vI (40 * (10 * a + b))), (4, vI 0), (0, .ref 500), (1, vI s), (2, vI a), (3, vI b)]) hG dX12_goOver_9 (by decide) rfl ?_
  refine A_iconst (n := 0) hG dX12_goOver_11 ?_
  refine A_istore (L' := [(6, vI 0), (5, vI (40 * (10 * a + b))), (4, vI 0), (0, .ref 500), (1, vI s), (2, vI a), (3, vI b)]) hG dX12_goOver_12 (by decide) rfl ?_
  refine A_insI 520 (li' := [(520, h.1 520)]) rfl ?_
  have k_1 : ∀ fu : Nat, ∀ (k : Int) (n : Int) (f : Int → Int), (0 ≤ k ∧ k ≤ 40) → (gJ Pc (gR h) (h.1 521) (hasb (h.1 510 s)) (rowR h s) (h.1 508 s) (40 * (10 * a + b)) (h.1 520) f n) → (n = 0 → ∀ k2, 0 ≤ k2 → k2 < k → cB (h.1 521) (hasb (h.1 510 s)) (tR (h.1 520)) a b k2) → ((40 - k).toNat) < fu → G 14 [(0, .ref 500), (1, vI s), (2, vI a), (3, vI b), (4, vI n), (5, vI (40 * (10 * a + b))), (6, vI k)] [] (hm h [(520, f)] [] []) := by
    intro fu
    induction fu with
    | zero => intro k n f hk hI hP hfu; exact absurd hfu (Nat.not_lt_zero _)
    | succ fu ih_k =>
      intro k n f hk hI hP hfu
      have hn01 := hI.1
      refine A_iload hG 6 dX12_goOver_14 rfl ?_
      refine A_bipush (n := 40) hG dX12_goOver_16 (by decide) ?_
      refine A_icmp_ge hG 134 dX12_goOver_18 (by decide) (by constructor <;> omega) (by constructor <;> omega) (fun c_18 => ?_) (fun c_18 => ?_)
      ·
        refine A_iload_n hG 2 dX12_goOver_134 rfl rfl ?_
        refine A_istore (L' := [(6, vI a), (0, .ref 500), (1, vI s), (2, vI a), (3, vI b), (4, vI n), (5, vI (40 * (10 * a + b)))]) hG dX12_goOver_135 (by decide) rfl ?_
        have m_2 : ∀ fu : Nat, ∀ (m : Int) (n : Int) (f : Int → Int), (a ≤ m ∧ m ≤ b + 1) → (gJ Pc (gR h) (h.1 521) (hasb (h.1 510 s)) (rowR h s) (h.1 508 s) (40 * (10 * a + b)) (h.1 520) f n) → (n = 0 → a < b → ∀ k, 0 ≤ k → k < 40 → cB (h.1 521) (hasb (h.1 510 s)) (tR (h.1 520)) a b k) → (n = 0 → ∀ m' r' y' z', a ≤ m' → m' ≤ b → 0 ≤ r' → r' < h.1 505 0 → 0 ≤ y' → y' < 4 → 0 ≤ z' → z' < 4 → (m' < m ∨ m' = m ∧ (r' < 0 ∨ r' = 0 ∧ (y' < 0 ∨ y' = 0 ∧ z' < 0))) → cC (gR h) (tR (h.1 520)) a b m' r' y' z') → ((10 - m).toNat) < fu → G 137 [(0, .ref 500), (1, vI s), (2, vI a), (3, vI b), (4, vI n), (5, vI (40 * (10 * a + b))), (6, vI m)] [] (hm h [(520, f)] [] []) := by
          intro fu
          induction fu with
          | zero => intro m n f hm0 hI hC hP hfu; exact absurd hfu (Nat.not_lt_zero _)
          | succ fu ih_m =>
            intro m n f hm0 hI hC hP hfu
            have hn01 := hI.1
            refine A_iload hG 6 dX12_goOver_137 rfl ?_
            refine A_iload_n hG 3 dX12_goOver_139 rfl rfl ?_
            refine A_icmp_gt hG 332 dX12_goOver_140 (by decide) (by constructor <;> omega) (by constructor <;> omega) (fun c_140 => ?_) (fun c_140 => ?_)
            ·
              refine A_iload hG 4 dX12_goOver_332 rfl ?_
              exact Ret_z hM dX12_goOver_334 (by omega) (⟨f, ⟨hI, fun q => ⟨hC q, fun m' r' y' z' a1 a2 a3 a4 a5 a6 a7 a8 => hP q m' r' y' z' a1 a2 a3 a4 a5 a6 a7 a8 (by omega)⟩⟩, rfl⟩)
            ·
              refine A_iconst (n := 0) hG dX12_goOver_143 ?_
              refine A_istore (L' := [(7, vI 0), (0, .ref 500), (1, vI s), (2, vI a), (3, vI b), (4, vI n), (5, vI (40 * (10 * a + b))), (6, vI m)]) hG dX12_goOver_144 (by decide) rfl ?_
              have r_3 : ∀ fu : Nat, ∀ (r : Int) (n : Int) (f : Int → Int), (0 ≤ r ∧ r ≤ h.1 505 0) → (gJ Pc (gR h) (h.1 521) (hasb (h.1 510 s)) (rowR h s) (h.1 508 s) (40 * (10 * a + b)) (h.1 520) f n) → (n = 0 → a < b → ∀ k, 0 ≤ k → k < 40 → cB (h.1 521) (hasb (h.1 510 s)) (tR (h.1 520)) a b k) → (n = 0 → ∀ m' r' y' z', a ≤ m' → m' ≤ b → 0 ≤ r' → r' < h.1 505 0 → 0 ≤ y' → y' < 4 → 0 ≤ z' → z' < 4 → (m' < m ∨ m' = m ∧ (r' < r ∨ r' = r ∧ (y' < 0 ∨ y' = 0 ∧ z' < 0))) → cC (gR h) (tR (h.1 520)) a b m' r' y' z') → ((30 - r).toNat) < fu → G 146 [(0, .ref 500), (1, vI s), (2, vI a), (3, vI b), (4, vI n), (5, vI (40 * (10 * a + b))), (6, vI m), (7, vI r)] [] (hm h [(520, f)] [] []) := by
                intro fu
                induction fu with
                | zero => intro r n f hr hI hC hP hfu; exact absurd hfu (Nat.not_lt_zero _)
                | succ fu ih_r =>
                  intro r n f hr hI hC hP hfu
                  have hn01 := hI.1
                  refine A_iload hG 7 dX12_goOver_146 rfl ?_
                  refine A_aload_n hG 0 dX12_goOver_148 rfl rfl ?_
                  refine A_getR (r := 505) hG dX12_goOver_149 fl_X12_19 (by decide) k500 (by decide) rfl ?_
                  refine A_iconst (n := 0) hG dX12_goOver_152 ?_
                  refine M_iald (v := h.1 505 0) hG dX12_goOver_153 k505 n505 (by omega) rfl (fun ⟨ra_153, rb_153⟩ => ?_)
                  refine A_icmp_ge hG 326 dX12_goOver_154 (by decide) (by constructor <;> omega) (by constructor <;> omega) (fun c_154 => ?_) (fun c_154 => ?_)
                  ·
                    refine A_iinc (L' := [(6, vI (m + 1)), (0, .ref 500), (1, vI s), (2, vI a), (3, vI b), (4, vI n), (5, vI (40 * (10 * a + b))), (7, vI r)]) hG 6 dX12_goOver_326 rfl (by decide) rfl ?_
                    refine A_goto hG 137 dX12_goOver_329 (by decide) ?_
                    refine A_sub hG [1, 2, 3, 4, 5, 6, 0] rfl ?_
                    exact ih_m (m + 1) n f (by omega) hI hC (fun q m' r' y' z' a1 a2 a3 a4 a5 a6 a7 a8 a9 => hP q m' r' y' z' a1 a2 a3 a4 a5 a6 a7 a8 (by omega)) (by omega)
                  ·
                    have er := gR_r (h := h) (j := r) (by omega)
                    have ok := hG0.2.2.2.1 r (by omega) (by rw [(gR_n h).2]; omega)
                    refine A_aload_n hG 0 dX12_goOver_157 rfl rfl ?_
                    refine A_iload_n hG 2 dX12_goOver_158 rfl rfl ?_
                    refine A_iload hG 6 dX12_goOver_159 rfl ?_
                    refine C_Vi (as := [vI a, vI m]) (st := []) (k := 500) (c := 11) hG dX12_goOver_161 ml_X12_167 mf_X12_costAt mi_X12_costAt se_X12_costAt rfl (by decide) k500 (r_costAt (hm h [(520, f)] [] []) (a := a) (b := m) (by omega) (by omega)) (by decide) (by decide) rfl rfl (Nat.le_of_ble_eq_true rfl) (fun z161 g161 ri_161 hp_161 => ?_)
                    obtain ⟨ra_161, rb_161⟩ := ri_161
                    obtain ⟨rfl, rfl⟩ := hp_161
                    refine A_iconst (n := 4) hG dX12_goOver_164 ?_
                    refine A_aload_n hG 0 dX12_goOver_165 rfl rfl ?_
                    refine A_getR (r := 506) hG dX12_goOver_166 fl_X12_22 (by decide) k500 (by decide) rfl ?_
                    refine A_iconst (n := 5) hG dX12_goOver_169 ?_
                    refine A_iload hG 7 dX12_goOver_170 rfl ?_
                    refine A_imul hG dX12_goOver_172 ?_
                    refine A_iconst (n := 1) hG dX12_goOver_173 ?_
                    refine A_iadd hG dX12_goOver_174 ?_
                    refine M_iald (v := h.1 506 ((5 * r) + 1)) hG dX12_goOver_175 k506 n506 (by omega) rfl (fun ⟨ra_175, rb_175⟩ => ?_)
                    refine A_imul hG dX12_goOver_176 ?_
                    refine A_iadd hG dX12_goOver_177 ?_
                    refine A_istore (L' := [(8, vI ((40 * (10 * a + m)) + (4 * (h.1 506 ((5 * r) + 1))))), (0, .ref 500), (1, vI s), (2, vI a), (3, vI b), (4, vI n), (5, vI (40 * (10 * a + b))), (6, vI m), (7, vI r)]) hG dX12_goOver_178 (by decide) rfl ?_
                    refine A_aload_n hG 1 dX12_goOver_180 rfl rfl ?_
                    refine A_iload hG 7 dX12_goOver_181 rfl ?_
                    refine A_iload_n hG 4 dX12_goOver_183 rfl rfl ?_
                    refine C_Vi (as := [vI m, vI b]) (st := []) (k := 500) (c := 11) hG dX12_goOver_184 ml_X12_167 mf_X12_costAt mi_X12_costAt se_X12_costAt rfl (by decide) k500 (r_costAt (hm h [(520, f)] [] []) (a := m) (b := b) (by omega) (by omega)) (by decide) (by decide) rfl rfl (Nat.le_of_ble_eq_true rfl) (fun z184 g184 ri_184 hp_184 => ?_)
                    obtain ⟨ra_184, rb_184⟩ := ri_184
                    obtain ⟨rfl, rfl⟩ := hp_184
                    refine A_iconst (n := 4) hG dX12_goOver_187 ?_
                    refine A_aload_n hG 1 dX12_goOver_188 rfl rfl ?_
                    refine A_getR (r := 506) hG dX12_goOver_189 fl_X12_22 (by decide) k500 (by decide) rfl ?_
                    refine A_iconst (n := 5) hG dX12_goOver_192 ?_
                    refine A_iload hG 8 dX12_goOver_193 rfl ?_
                    refine A_imul hG dX12_goOver_195 ?_
                    refine A_iconst (n := 2) hG dX12_goOver_196 ?_
                    refine A_iadd hG dX12_goOver_197 ?_
                    refine M_iald (v := h.1 506 ((5 * r) + 2)) hG dX12_goOver_198 k506 n506 (by omega) rfl (fun ⟨ra_198, rb_198⟩ => ?_)
                    refine A_imul hG dX12_goOver_199 ?_
                    refine A_iadd hG dX12_goOver_200 ?_
                    refine A_istore (L' := [(9, vI ((40 * (10 * m + b)) + (4 * (h.1 506 ((5 * r) + 2))))), (8, vI ((40 * (10 * a + m)) + (4 * (h.1 506 ((5 * r) + 1))))), (0, .ref 500), (1, vI s), (2, vI a), (3, vI b), (4, vI n), (5, vI (40 * (10 * a + b))), (6, vI m), (7, vI r)]) hG dX12_goOver_201 (by decide) rfl ?_
                    refine A_iconst (n := 0) hG dX12_goOver_203 ?_
                    refine A_istore (L' := [(10, vI 0), (9, vI ((40 * (10 * m + b)) + (4 * (h.1 506 ((5 * r) + 2))))), (8, vI ((40 * (10 * a + m)) + (4 * (h.1 506 ((5 * r) + 1))))), (0, .ref 500), (1, vI s), (2, vI a), (3, vI b), (4, vI n), (5, vI (40 * (10 * a + b))), (6, vI m), (7, vI r)]) hG dX12_goOver_204 (by decide) rfl ?_
                    have y_6 : ∀ fu : Nat, ∀ (y : Int) (n : Int) (f : Int → Int), (0 ≤ y ∧ y ≤ 4) → (gJ Pc (gR h) (h.1 521) (hasb (h.1 510 s)) (rowR h s) (h.1 508 s) (40 * (10 * a + b)) (h.1 520) f n) → (n = 0 → a < b → ∀ k, 0 ≤ k → k < 40 → cB (h.1 521) (hasb (h.1 510 s)) (tR (h.1 520)) a b k) → (n = 0 → ∀ m' r' y' z', a ≤ m' → m' ≤ b → 0 ≤ r' → r' < h.1 505 0 → 0 ≤ y' → y' < 4 → 0 ≤ z' → z' < 4 → (m' < m ∨ m' = m ∧ (r' < r ∨ r' = r ∧ (y' < y ∨ y' = y ∧ z' < 0))) → cC (gR h) (tR (h.1 520)) a b m' r' y' z') → ((4 - y).toNat) < fu → G 206 [(0, .ref 500), (1, vI s), (2, vI a), (3, vI b), (4, vI n), (5, vI (40 * (10 * a + b))), (6, vI m), (7, vI r), (8, vI (40 * (10 * a + m) + 4 * h.1 506 (5 * r + 1))), (9, vI (40 * (10 * m + b) + 4 * h.1 506 (5 * r + 2))), (10, vI y)] [] (hm h [(520, f)] [] []) := by
                      intro fu
                      induction fu with
                      | zero => intro y n f hy hI hC hP hfu; exact absurd hfu (Nat.not_lt_zero _)
                      | succ fu ih_y =>
                        intro y n f hy hI hC hP hfu
                        have hn01 := hI.1
                        refine A_iload hG 10 dX12_goOver_206 rfl ?_
                        refine A_iconst (n := 4) hG dX12_goOver_208 ?_
                        refine A_icmp_ge hG 320 dX12_goOver_209 (by decide) (by constructor <;> omega) (by constructor <;> omega) (fun c_209 => ?_) (fun c_209 => ?_)
                        ·
                          refine A_iinc (L' := [(7, vI (r + 1)), (0, .ref 500), (1, vI s), (2, vI a), (3, vI b), (4, vI n), (5, vI (40 * (10 * a + b))), (6, vI m), (8, vI (40 * (10 * a + m) + 4 * h.1 506 (5 * r + 1))), (9, vI (40 * (10 * m + b) + 4 * h.1 506 (5 * r + 2))), (10, vI y)]) hG 7 dX12_goOver_320 rfl (by decide) rfl ?_
                          refine A_goto hG 146 dX12_goOver_323 (by decide) ?_
                          refine A_sub hG [1, 2, 3, 4, 5, 6, 7, 0] rfl ?_
                          exact ih_r (r + 1) n f (by omega) hI hC (fun q m' r' y' z' a1 a2 a3 a4 a5 a6 a7 a8 a9 => hP q m' r' y' z' a1 a2 a3 a4 a5 a6 a7 a8 (by omega)) (by omega)
                        ·
                          refine A_iconst (n := 0) hG dX12_goOver_212 ?_
                          refine A_istore (L' := [(11, vI 0), (0, .ref 500), (1, vI s), (2, vI a), (3, vI b), (4, vI n), (5, vI (40 * (10 * a + b))), (6, vI m), (7, vI r), (8, vI (40 * (10 * a + m) + 4 * h.1 506 (5 * r + 1))), (9, vI (40 * (10 * m + b) + 4 * h.1 506 (5 * r + 2))), (10, vI y)]) hG dX12_goOver_213 (by decide) rfl ?_
                          have z_7 : ∀ fu : Nat, ∀ (z : Int) (n : Int) (f : Int → Int), (0 ≤ z ∧ z ≤ 4) → (gJ Pc (gR h) (h.1 521) (hasb (h.1 510 s)) (rowR h s) (h.1 508 s) (40 * (10 * a + b)) (h.1 520) f n) → (n = 0 → a < b → ∀ k, 0 ≤ k → k < 40 → cB (h.1 521) (hasb (h.1 510 s)) (tR (h.1 520)) a b k) → (n = 0 → ∀ m' r' y' z', a ≤ m' → m' ≤ b → 0 ≤ r' → r' < h.1 505 0 → 0 ≤ y' → y' < 4 → 0 ≤ z' → z' < 4 → (m' < m ∨ m' = m ∧ (r' < r ∨ r' = r ∧ (y' < y ∨ y' = y ∧ z' < z))) → cC (gR h) (tR (h.1 520)) a b m' r' y' z') → ((4 - z).toNat) < fu → G 215 [(0, .ref 500), (1, vI s), (2, vI a), (3, vI b), (4, vI n), (5, vI (40 * (10 * a + b))), (6, vI m), (7, vI r), (8, vI (40 * (10 * a + m) + 4 * h.1 506 (5 * r + 1))), (9, vI (40 * (10 * m + b) + 4 * h.1 506 (5 * r + 2))), (10, vI y), (11, vI z)] [] (hm h [(520, f)] [] []) := by
                            intro fu
                            induction fu with
                            | zero => intro z n f hz hI hC hP hfu; exact absurd hfu (Nat.not_lt_zero _)
                            | succ fu ih_z =>
                              intro z n f hz hI hC hP hfu
                              have hn01 := hI.1
                              refine A_iload hG 11 dX12_goOver_215 rfl ?_
                              refine A_iconst (n := 4) hG dX12_goOver_217 ?_
                              refine A_icmp_ge hG 314 dX12_goOver_218 (by decide) (by constructor <;> omega) (by constructor <;> omega) (fun c_218 => ?_) (fun c_218 => ?_)
                              ·
                                refine A_iinc (L' := [(10, vI (y + 1)), (0, .ref 500), (1, vI s), (2, vI a), (3, vI b), (4, vI n), (5, vI (40 * (10 * a + b))), (6, vI m), (7, vI r), (8, vI (40 * (10 * a + m) + 4 * h.1 506 (5 * r + 1))), (9, vI (40 * (10 * m + b) + 4 * h.1 506 (5 * r + 2))), (11, vI z)]) hG 10 dX12_goOver_314 rfl (by decide) rfl ?_
                                refine A_goto hG 206 dX12_goOver_317 (by decide) ?_
                                refine A_sub hG [1, 2, 3, 4, 5, 6, 7, 8, 9, 10, 0] rfl ?_
                                exact ih_y (y + 1) n f (by omega) hI hC (fun q m' r' y' z' a1 a2 a3 a4 a5 a6 a7 a8 a9 => hP q m' r' y' z' a1 a2 a3 a4 a5 a6 a7 a8 (by omega)) (by omega)
                              ·
                                refine A_aload_n hG 0 dX12_goOver_221 rfl rfl ?_
                                refine A_getR (r := 506) hG dX12_goOver_222 fl_X12_22 (by decide) k500 (by decide) rfl ?_
                                refine A_iconst (n := 5) hG dX12_goOver_225 ?_
                                refine A_iload hG 7 dX12_goOver_226 rfl ?_
                                refine A_imul hG dX12_goOver_228 ?_
                                refine A_iconst (n := 3) hG dX12_goOver_229 ?_
                                refine A_iadd hG dX12_goOver_230 ?_
                                refine M_iald (v := h.1 506 ((5 * r) + 3)) hG dX12_goOver_231 k506 n506 (by omega) rfl (fun ⟨ra_231, rb_231⟩ => ?_)
                                refine A_if_eq hG 242 dX12_goOver_232 (by decide) (by constructor <;> omega) (fun c_232 => ?_) (fun c_232 => ?_)
                                ·
                                  refine A_iload hG 4 dX12_goOver_242 rfl ?_
                                  refine A_aload_n hG 0 dX12_goOver_244 rfl rfl ?_
                                  refine A_iload hG 5 dX12_goOver_245 rfl ?_
                                  refine A_iconst (n := 4) hG dX12_goOver_247 ?_
                                  refine A_aload_n hG 0 dX12_goOver_248 rfl rfl ?_
                                  refine A_getR (r := 506) hG dX12_goOver_249 fl_X12_22 (by decide) k500 (by decide) rfl ?_
                                  refine A_iconst (n := 5) hG dX12_goOver_252 ?_
                                  refine A_iload hG 7 dX12_goOver_253 rfl ?_
                                  refine A_imul hG dX12_goOver_255 ?_
                                  refine M_iald (v := h.1 506 (5 * r)) hG dX12_goOver_256 k506 n506 (by omega) rfl (fun ⟨ra_256, rb_256⟩ => ?_)
                                  refine A_imul hG dX12_goOver_257 ?_
                                  refine A_iadd hG dX12_goOver_258 ?_
                                  refine A_aload_n hG 0 dX12_goOver_259 rfl rfl ?_
                                  refine A_getR (r := 506) hG dX12_goOver_260 fl_X12_22 (by decide) k500 (by decide) rfl ?_
                                  refine A_iconst (n := 5) hG dX12_goOver_263 ?_
                                  refine A_iload hG 7 dX12_goOver_264 rfl ?_
                                  refine A_imul hG dX12_goOver_266 ?_
                                  refine A_iconst (n := 4) hG dX12_goOver_267 ?_
                                  refine A_iadd hG dX12_goOver_268 ?_
                                  refine M_iald (v := h.1 506 ((5 * r) + 4)) hG dX12_goOver_269 k506 n506 (by omega) rfl (fun ⟨ra_269, rb_269⟩ => ?_)
                                  refine A_if_ne hG 278 dX12_goOver_270 (by decide) (by constructor <;> omega) (fun c_270 => ?_) (fun c_270 => ?_)
                                  ·
                                    refine A_iload hG 11 dX12_goOver_278 rfl ?_
                                    refine A_iadd hG dX12_goOver_280 ?_
                                    have u1 := hI.2.1 (40 * (10 * a + m) + 4 * h.1 506 (5 * r + 1) + y)
                                    have t1 := hT (40 * (10 * a + m) + 4 * h.1 506 (5 * r + 1) + y) (by omega) (by omega)
                                    have u2 := hI.2.1 (40 * (10 * m + b) + 4 * h.1 506 (5 * r + 2) + z)
                                    have t2 := hT (40 * (10 * m + b) + 4 * h.1 506 (5 * r + 2) + z) (by omega) (by omega)
                                    have v1 := hI.2.2.2.1 (40 * (10 * a + m) + 4 * h.1 506 (5 * r + 1) + y) (by omega) (by omega)
                                    have v2 := hI.2.2.2.1 (40 * (10 * m + b) + 4 * h.1 506 (5 * r + 2) + z) (by omega) (by omega)
                                    refine A_aload_n hG 0 dX12_goOver_281 rfl rfl ?_
                                    refine A_getR (r := 520) hG dX12_goOver_282 fl_X12_56 (by decide) k500 (by decide) rfl ?_
                                    refine A_iload hG 8 dX12_goOver_285 rfl ?_
                                    refine A_iload hG 10 dX12_goOver_287 rfl ?_
                                    refine A_iadd hG dX12_goOver_289 ?_
                                    refine M_iald (v := f ((40 * (10 * a + m) + 4 * h.1 506 (5 * r + 1)) + y)) hG dX12_goOver_290 k520 n520 (by omega) rfl (fun ⟨ra_290, rb_290⟩ => ?_)
                                    refine A_aload_n hG 0 dX12_goOver_291 rfl rfl ?_
                                    refine A_getR (r := 520) hG dX12_goOver_292 fl_X12_56 (by decide) k500 (by decide) rfl ?_
                                    refine A_iload hG 9 dX12_goOver_295 rfl ?_
                                    refine A_iload hG 11 dX12_goOver_297 rfl ?_
                                    refine A_iadd hG dX12_goOver_299 ?_
                                    refine M_iald (v := f ((40 * (10 * m + b) + 4 * h.1 506 (5 * r + 2)) + z)) hG dX12_goOver_300 k520 n520 (by omega) rfl (fun ⟨ra_300, rb_300⟩ => ?_)
                                    refine A_iadd hG dX12_goOver_301 ?_
                                    refine C_Vi (as := [vI (((40 * (10 * a + b)) + (4 * (h.1 506 (5 * r)))) + z), vI ((f ((40 * (10 * a + m) + 4 * h.1 506 (5 * r + 1)) + y)) + (f ((40 * (10 * m + b) + 4 * h.1 506 (5 * r + 2)) + z)))]) (st := [vI n]) (k := 500) (c := 11) hG dX12_goOver_302 ml_X12_174 mf_X12_cheaper mi_X12_cheaper se_X12_cheaper rfl (by decide) k500 (r_cheaper (hm h [(520, f)] [] []) (p := (((40 * (10 * a + b)) + (4 * (h.1 506 (5 * r)))) + z)) (v := ((f ((40 * (10 * a + m) + 4 * h.1 506 (5 * r + 1)) + y)) + (f ((40 * (10 * m + b) + 4 * h.1 506 (5 * r + 2)) + z)))) (by omega) (by constructor <;> omega)) (by decide) (by decide) rfl rfl (Nat.le_of_ble_eq_true rfl) (fun z302 g302 ri_302 hp_302 => ?_)
                                    obtain ⟨ra_302, rb_302⟩ := ri_302
                                    have hq_302 : ∃ fx : Int → Int, ((∀ i, i ≠ (((40 * (10 * a + b)) + (4 * (h.1 506 (5 * r)))) + z) → fx i = f i) ∧ ((z302 = 0 ∧ f (((40 * (10 * a + b)) + (4 * (h.1 506 (5 * r)))) + z) ≤ ((f ((40 * (10 * a + m) + 4 * h.1 506 (5 * r + 1)) + y)) + (f ((40 * (10 * m + b) + 4 * h.1 506 (5 * r + 2)) + z))) ∧ fx (((40 * (10 * a + b)) + (4 * (h.1 506 (5 * r)))) + z) = f (((40 * (10 * a + b)) + (4 * (h.1 506 (5 * r)))) + z)) ∨ (z302 = 1 ∧ ((f ((40 * (10 * a + m) + 4 * h.1 506 (5 * r + 1)) + y)) + (f ((40 * (10 * m + b) + 4 * h.1 506 (5 * r + 2)) + z))) < f (((40 * (10 * a + b)) + (4 * (h.1 506 (5 * r)))) + z) ∧ fx (((40 * (10 * a + b)) + (4 * (h.1 506 (5 * r)))) + z) = ((f ((40 * (10 * a + m) + 4 * h.1 506 (5 * r + 1)) + y)) + (f ((40 * (10 * m + b) + 4 * h.1 506 (5 * r + 2)) + z)))))) ∧ g302 = hm (hm h [(520, f)] [] []) [(520, fx)] [] [] := hp_302
                                    obtain ⟨f302, ⟨hn302, hz302⟩, rfl⟩ := hq_302
                                    refine A_hm (la := [(520, f302)]) (lb := []) (lc := []) rfl rfl rfl ?_
                                    have hU302 : ∀ U, clsd (gR h) (h.1 521) (hasb (h.1 510 s)) (rowR h s) (h.1 508 s) 100000 U → belowP Pc (h.1 508 s) U (tR f) → U a b (((40 * (10 * a + b) + 4 * h.1 506 (5 * r)) + z) - 40 * (10 * a + b)) ≤ f (40 * (10 * a + m) + 4 * h.1 506 (5 * r + 1) + y) + f (40 * (10 * m + b) + 4 * h.1 506 (5 * r + 2) + z) := fun U hc hb => by
                                      have g0 := (hc a b (by omega) (by omega) (by omega)).2.2.2.2 m (by omega) (by omega) r (by omega) (by rw [(gR_n h).2]; omega) y z (by omega) (by omega) (by omega) (by omega) (by rw [er.2.2.2.1]; omega)
                                      rw [er.1, er.2.1, er.2.2.1, er.2.2.2.2, if_neg c_270] at g0
                                      have g1 := hb a m (4 * h.1 506 (5 * r + 1) + y) (by omega) (by omega) (by omega) (hPc _ _ (by omega) (by omega) (by omega)) (by omega) (by omega)
                                      have g2 := hb m b (4 * h.1 506 (5 * r + 2) + z) (by omega) (by omega) (by omega) (hPc _ _ (by omega) (by omega) (by omega)) (by omega) (by omega)
                                      unfold tR at g1 g2
                                      rw [← Int.add_assoc] at g1 g2
                                      rw [show ((40 * (10 * a + b) + 4 * h.1 506 (5 * r)) + z) - 40 * (10 * a + b) = 4 * h.1 506 (5 * r) + z by omega]
                                      exact Int.le_trans g0 (Int.add_le_add g1 g2)
                                    have hv302 : 0 ≤ f (40 * (10 * a + m) + 4 * h.1 506 (5 * r + 1) + y) + f (40 * (10 * m + b) + 4 * h.1 506 (5 * r + 2) + z) := Int.add_nonneg (hI.2.2.2.1 _ (by omega) (by omega)) (hI.2.2.2.1 _ (by omega) (by omega))
                                    refine A_ior hG dX12_goOver_305 ?_
                                    refine A_istore (L' := [(4, vI (ior n z302)), (0, .ref 500), (1, vI s), (2, vI a), (3, vI b), (5, vI (40 * (10 * a + b))), (6, vI m), (7, vI r), (8, vI (40 * (10 * a + m) + 4 * h.1 506 (5 * r + 1))), (9, vI (40 * (10 * m + b) + 4 * h.1 506 (5 * r + 2))), (10, vI y), (11, vI z)]) hG dX12_goOver_306 (by decide) rfl ?_
                                    refine A_iinc (L' := [(11, vI (z + 1)), (4, vI (ior n z302)), (0, .ref 500), (1, vI s), (2, vI a), (3, vI b), (5, vI (40 * (10 * a + b))), (6, vI m), (7, vI r), (8, vI (40 * (10 * a + m) + 4 * h.1 506 (5 * r + 1))), (9, vI (40 * (10 * m + b) + 4 * h.1 506 (5 * r + 2))), (10, vI y)]) hG 11 dX12_goOver_308 rfl (by decide) rfl ?_
                                    refine A_goto hG 215 dX12_goOver_311 (by decide) ?_
                                    refine A_sub hG [2, 3, 4, 5, 1, 6, 7, 8, 9, 10, 11, 0] rfl ?_
                                    exact ih_z (z + 1) (ior n z302) f302 (by omega) (gJ_s hI (by omega) (by omega) (by omega) (by omega) hn302 hz302 hU302) (fun q => hC (by have i1 := ior01 hI.1 (z01 hz302); omega)) (fun q m' r' y' z' a1 a2 a3 a4 a5 a6 a7 a8 a9 => by
                                        have i1 := ior01 hI.1 (z01 hz302)
                                        by_cases hq : m' = m ∧ r' = r ∧ y' = y ∧ z' = z
                                        · obtain ⟨rfl, rfl, rfl, rfl⟩ := hq
                                          have e0 := hI.2.2.2.2.1 (by omega)
                                          have j1 := ch0 hz302 (by omega)
                                          rw [e0, e0, e0] at j1
                                          intro hc
                                          rw [er.1, er.2.1, er.2.2.1, er.2.2.2.2]
                                          rw [if_neg c_270]
                                          unfold tR
                                          rw [Int.add_assoc, Int.add_assoc, Int.add_assoc] at j1
                                          exact j1
                                        · exact hP (by omega) m' r' y' z' a1 a2 a3 a4 a5 a6 a7 a8 (by omega)) (by omega)
                                  ·
                                    refine A_iload hG 10 dX12_goOver_273 rfl ?_
                                    refine A_goto hG 280 dX12_goOver_275 (by decide) ?_
                                    refine A_iadd hG dX12_goOver_280 ?_
                                    have u1 := hI.2.1 (40 * (10 * a + m) + 4 * h.1 506 (5 * r + 1) + y)
                                    have t1 := hT (40 * (10 * a + m) + 4 * h.1 506 (5 * r + 1) + y) (by omega) (by omega)
                                    have u2 := hI.2.1 (40 * (10 * m + b) + 4 * h.1 506 (5 * r + 2) + z)
                                    have t2 := hT (40 * (10 * m + b) + 4 * h.1 506 (5 * r + 2) + z) (by omega) (by omega)
                                    have v1 := hI.2.2.2.1 (40 * (10 * a + m) + 4 * h.1 506 (5 * r + 1) + y) (by omega) (by omega)
                                    have v2 := hI.2.2.2.1 (40 * (10 * m + b) + 4 * h.1 506 (5 * r + 2) + z) (by omega) (by omega)
                                    refine A_aload_n hG 0 dX12_goOver_281 rfl rfl ?_
                                    refine A_getR (r := 520) hG dX12_goOver_282 fl_X12_56 (by decide) k500 (by decide) rfl ?_
                                    refine A_iload hG 8 dX12_goOver_285 rfl ?_
                                    refine A_iload hG 10 dX12_goOver_287 rfl ?_
                                    refine A_iadd hG dX12_goOver_289 ?_
                                    refine M_iald (v := f ((40 * (10 * a + m) + 4 * h.1 506 (5 * r + 1)) + y)) hG dX12_goOver_290 k520 n520 (by omega) rfl (fun ⟨ra_290, rb_290⟩ => ?_)
                                    refine A_aload_n hG 0 dX12_goOver_291 rfl rfl ?_
                                    refine A_getR (r := 520) hG dX12_goOver_292 fl_X12_56 (by decide) k500 (by decide) rfl ?_
                                    refine A_iload hG 9 dX12_goOver_295 rfl ?_
                                    refine A_iload hG 11 dX12_goOver_297 rfl ?_
                                    refine A_iadd hG dX12_goOver_299 ?_
                                    refine M_iald (v := f ((40 * (10 * m + b) + 4 * h.1 506 (5 * r + 2)) + z)) hG dX12_goOver_300 k520 n520 (by omega) rfl (fun ⟨ra_300, rb_300⟩ => ?_)
                                    refine A_iadd hG dX12_goOver_301 ?_
                                    refine C_Vi (as := [vI (((40 * (10 * a + b)) + (4 * (h.1 506 (5 * r)))) + y), vI ((f ((40 * (10 * a + m) + 4 * h.1 506 (5 * r + 1)) + y)) + (f ((40 * (10 * m + b) + 4 * h.1 506 (5 * r + 2)) + z)))]) (st := [vI n]) (k := 500) (c := 11) hG dX12_goOver_302 ml_X12_174 mf_X12_cheaper mi_X12_cheaper se_X12_cheaper rfl (by decide) k500 (r_cheaper (hm h [(520, f)] [] []) (p := (((40 * (10 * a + b)) + (4 * (h.1 506 (5 * r)))) + y)) (v := ((f ((40 * (10 * a + m) + 4 * h.1 506 (5 * r + 1)) + y)) + (f ((40 * (10 * m + b) + 4 * h.1 506 (5 * r + 2)) + z)))) (by omega) (by constructor <;> omega)) (by decide) (by decide) rfl rfl (Nat.le_of_ble_eq_true rfl) (fun z302 g302 ri_302 hp_302 => ?_)
                                    obtain ⟨ra_302, rb_302⟩ := ri_302
                                    have hq_302 : ∃ fx : Int → Int, ((∀ i, i ≠ (((40 * (10 * a + b)) + (4 * (h.1 506 (5 * r)))) + y) → fx i = f i) ∧ ((z302 = 0 ∧ f (((40 * (10 * a + b)) + (4 * (h.1 506 (5 * r)))) + y) ≤ ((f ((40 * (10 * a + m) + 4 * h.1 506 (5 * r + 1)) + y)) + (f ((40 * (10 * m + b) + 4 * h.1 506 (5 * r + 2)) + z))) ∧ fx (((40 * (10 * a + b)) + (4 * (h.1 506 (5 * r)))) + y) = f (((40 * (10 * a + b)) + (4 * (h.1 506 (5 * r)))) + y)) ∨ (z302 = 1 ∧ ((f ((40 * (10 * a + m) + 4 * h.1 506 (5 * r + 1)) + y)) + (f ((40 * (10 * m + b) + 4 * h.1 506 (5 * r + 2)) + z))) < f (((40 * (10 * a + b)) + (4 * (h.1 506 (5 * r)))) + y) ∧ fx (((40 * (10 * a + b)) + (4 * (h.1 506 (5 * r)))) + y) = ((f ((40 * (10 * a + m) + 4 * h.1 506 (5 * r + 1)) + y)) + (f ((40 * (10 * m + b) + 4 * h.1 506 (5 * r + 2)) + z)))))) ∧ g302 = hm (hm h [(520, f)] [] []) [(520, fx)] [] [] := hp_302
                                    obtain ⟨f302, ⟨hn302, hz302⟩, rfl⟩ := hq_302
                                    refine A_hm (la := [(520, f302)]) (lb := []) (lc := []) rfl rfl rfl ?_
                                    have hU302 : ∀ U, clsd (gR h) (h.1 521) (hasb (h.1 510 s)) (rowR h s) (h.1 508 s) 100000 U → belowP Pc (h.1 508 s) U (tR f) → U a b (((40 * (10 * a + b) + 4 * h.1 506 (5 * r)) + y) - 40 * (10 * a + b)) ≤ f (40 * (10 * a + m) + 4 * h.1 506 (5 * r + 1) + y) + f (40 * (10 * m + b) + 4 * h.1 506 (5 * r + 2) + z) := fun U hc hb => by
                                      have g0 := (hc a b (by omega) (by omega) (by omega)).2.2.2.2 m (by omega) (by omega) r (by omega) (by rw [(gR_n h).2]; omega) y z (by omega) (by omega) (by omega) (by omega) (by rw [er.2.2.2.1]; omega)
                                      rw [er.1, er.2.1, er.2.2.1, er.2.2.2.2, if_pos c_270] at g0
                                      have g1 := hb a m (4 * h.1 506 (5 * r + 1) + y) (by omega) (by omega) (by omega) (hPc _ _ (by omega) (by omega) (by omega)) (by omega) (by omega)
                                      have g2 := hb m b (4 * h.1 506 (5 * r + 2) + z) (by omega) (by omega) (by omega) (hPc _ _ (by omega) (by omega) (by omega)) (by omega) (by omega)
                                      unfold tR at g1 g2
                                      rw [← Int.add_assoc] at g1 g2
                                      rw [show ((40 * (10 * a + b) + 4 * h.1 506 (5 * r)) + y) - 40 * (10 * a + b) = 4 * h.1 506 (5 * r) + y by omega]
                                      exact Int.le_trans g0 (Int.add_le_add g1 g2)
                                    have hv302 : 0 ≤ f (40 * (10 * a + m) + 4 * h.1 506 (5 * r + 1) + y) + f (40 * (10 * m + b) + 4 * h.1 506 (5 * r + 2) + z) := Int.add_nonneg (hI.2.2.2.1 _ (by omega) (by omega)) (hI.2.2.2.1 _ (by omega) (by omega))
                                    refine A_ior hG dX12_goOver_305 ?_
                                    refine A_istore (L' := [(4, vI (ior n z302)), (0, .ref 500), (1, vI s), (2, vI a), (3, vI b), (5, vI (40 * (10 * a + b))), (6, vI m), (7, vI r), (8, vI (40 * (10 * a + m) + 4 * h.1 506 (5 * r + 1))), (9, vI (40 * (10 * m + b) + 4 * h.1 506 (5 * r + 2))), (10, vI y), (11, vI z)]) hG dX12_goOver_306 (by decide) rfl ?_
                                    refine A_iinc (L' := [(11, vI (z + 1)), (4, vI (ior n z302)), (0, .ref 500), (1, vI s), (2, vI a), (3, vI b), (5, vI (40 * (10 * a + b))), (6, vI m), (7, vI r), (8, vI (40 * (10 * a + m) + 4 * h.1 506 (5 * r + 1))), (9, vI (40 * (10 * m + b) + 4 * h.1 506 (5 * r + 2))), (10, vI y)]) hG 11 dX12_goOver_308 rfl (by decide) rfl ?_
                                    refine A_goto hG 215 dX12_goOver_311 (by decide) ?_
                                    refine A_sub hG [2, 3, 4, 5, 1, 6, 7, 8, 9, 10, 11, 0] rfl ?_
                                    exact ih_z (z + 1) (ior n z302) f302 (by omega) (gJ_s hI (by omega) (by omega) (by omega) (by omega) hn302 hz302 hU302) (fun q => hC (by have i1 := ior01 hI.1 (z01 hz302); omega)) (fun q m' r' y' z' a1 a2 a3 a4 a5 a6 a7 a8 a9 => by
                                        have i1 := ior01 hI.1 (z01 hz302)
                                        by_cases hq : m' = m ∧ r' = r ∧ y' = y ∧ z' = z
                                        · obtain ⟨rfl, rfl, rfl, rfl⟩ := hq
                                          have e0 := hI.2.2.2.2.1 (by omega)
                                          have j1 := ch0 hz302 (by omega)
                                          rw [e0, e0, e0] at j1
                                          intro hc
                                          rw [er.1, er.2.1, er.2.2.1, er.2.2.2.2]
                                          rw [if_pos c_270]
                                          unfold tR
                                          rw [Int.add_assoc, Int.add_assoc, Int.add_assoc] at j1
                                          exact j1
                                        · exact hP (by omega) m' r' y' z' a1 a2 a3 a4 a5 a6 a7 a8 (by omega)) (by omega)
                                ·
                                  refine A_iload hG 10 dX12_goOver_235 rfl ?_
                                  refine A_iload hG 11 dX12_goOver_237 rfl ?_
                                  refine A_icmp_ne hG 308 dX12_goOver_239 (by decide) (by constructor <;> omega) (by constructor <;> omega) (fun c_239 => ?_) (fun c_239 => ?_)
                                  ·
                                    refine A_iinc (L' := [(11, vI (z + 1)), (0, .ref 500), (1, vI s), (2, vI a), (3, vI b), (4, vI n), (5, vI (40 * (10 * a + b))), (6, vI m), (7, vI r), (8, vI (40 * (10 * a + m) + 4 * h.1 506 (5 * r + 1))), (9, vI (40 * (10 * m + b) + 4 * h.1 506 (5 * r + 2))), (10, vI y)]) hG 11 dX12_goOver_308 rfl (by decide) rfl ?_
                                    refine A_goto hG 215 dX12_goOver_311 (by decide) ?_
                                    refine A_sub hG [1, 2, 3, 4, 5, 6, 7, 8, 9, 10, 11, 0] rfl ?_
                                    exact ih_z (z + 1) n f (by omega) hI hC (fun q m' r' y' z' a1 a2 a3 a4 a5 a6 a7 a8 a9 => by
                                        by_cases hq : m' = m ∧ r' = r ∧ y' = y ∧ z' = z
                                        · obtain ⟨rfl, rfl, rfl, rfl⟩ := hq
                                          intro hc
                                          rw [er.2.2.2.1] at hc
                                          omega
                                        · exact hP q m' r' y' z' a1 a2 a3 a4 a5 a6 a7 a8 (by omega)) (by omega)
                                  ·
                                    refine A_iload hG 4 dX12_goOver_242 rfl ?_
                                    refine A_aload_n hG 0 dX12_goOver_244 rfl rfl ?_
                                    refine A_iload hG 5 dX12_goOver_245 rfl ?_
                                    refine A_iconst (n := 4) hG dX12_goOver_247 ?_
                                    refine A_aload_n hG 0 dX12_goOver_248 rfl rfl ?_
                                    refine A_getR (r := 506) hG dX12_goOver_249 fl_X12_22 (by decide) k500 (by decide) rfl ?_
                                    refine A_iconst (n := 5) hG dX12_goOver_252 ?_
                                    refine A_iload hG 7 dX12_goOver_253 rfl ?_
                                    refine A_imul hG dX12_goOver_255 ?_
                                    refine M_iald (v := h.1 506 (5 * r)) hG dX12_goOver_256 k506 n506 (by omega) rfl (fun ⟨ra_256, rb_256⟩ => ?_)
                                    refine A_imul hG dX12_goOver_257 ?_
                                    refine A_iadd hG dX12_goOver_258 ?_
                                    refine A_aload_n hG 0 dX12_goOver_259 rfl rfl ?_
                                    refine A_getR (r := 506) hG dX12_goOver_260 fl_X12_22 (by decide) k500 (by decide) rfl ?_
                                    refine A_iconst (n := 5) hG dX12_goOver_263 ?_
                                    refine A_iload hG 7 dX12_goOver_264 rfl ?_
                                    refine A_imul hG dX12_goOver_266 ?_
                                    refine A_iconst (n := 4) hG dX12_goOver_267 ?_
                                    refine A_iadd hG dX12_goOver_268 ?_
                                    refine M_iald (v := h.1 506 ((5 * r) + 4)) hG dX12_goOver_269 k506 n506 (by omega) rfl (fun ⟨ra_269, rb_269⟩ => ?_)
                                    refine A_if_ne hG 278 dX12_goOver_270 (by decide) (by constructor <;> omega) (fun c_270 => ?_) (fun c_270 => ?_)
                                    ·
                                      refine A_iload hG 11 dX12_goOver_278 rfl ?_
                                      refine A_iadd hG dX12_goOver_280 ?_
                                      have u1 := hI.2.1 (40 * (10 * a + m) + 4 * h.1 506 (5 * r + 1) + y)
                                      have t1 := hT (40 * (10 * a + m) + 4 * h.1 506 (5 * r + 1) + y) (by omega) (by omega)
                                      have u2 := hI.2.1 (40 * (10 * m + b) + 4 * h.1 506 (5 * r + 2) + z)
                                      have t2 := hT (40 * (10 * m + b) + 4 * h.1 506 (5 * r + 2) + z) (by omega) (by omega)
                                      have v1 := hI.2.2.2.1 (40 * (10 * a + m) + 4 * h.1 506 (5 * r + 1) + y) (by omega) (by omega)
                                      have v2 := hI.2.2.2.1 (40 * (10 * m + b) + 4 * h.1 506 (5 * r + 2) + z) (by omega) (by omega)
                                      refine A_aload_n hG 0 dX12_goOver_281 rfl rfl ?_
                                      refine A_getR (r := 520) hG dX12_goOver_282 fl_X12_56 (by decide) k500 (by decide) rfl ?_
                                      refine A_iload hG 8 dX12_goOver_285 rfl ?_
                                      refine A_iload hG 10 dX12_goOver_287 rfl ?_
                                      refine A_iadd hG dX12_goOver_289 ?_
                                      refine M_iald (v := f ((40 * (10 * a + m) + 4 * h.1 506 (5 * r + 1)) + y)) hG dX12_goOver_290 k520 n520 (by omega) rfl (fun ⟨ra_290, rb_290⟩ => ?_)
                                      refine A_aload_n hG 0 dX12_goOver_291 rfl rfl ?_
                                      refine A_getR (r := 520) hG dX12_goOver_292 fl_X12_56 (by decide) k500 (by decide) rfl ?_
                                      refine A_iload hG 9 dX12_goOver_295 rfl ?_
                                      refine A_iload hG 11 dX12_goOver_297 rfl ?_
                                      refine A_iadd hG dX12_goOver_299 ?_
                                      refine M_iald (v := f ((40 * (10 * m + b) + 4 * h.1 506 (5 * r + 2)) + z)) hG dX12_goOver_300 k520 n520 (by omega) rfl (fun ⟨ra_300, rb_300⟩ => ?_)
                                      refine A_iadd hG dX12_goOver_301 ?_
                                      refine C_Vi (as := [vI (((40 * (10 * a + b)) + (4 * (h.1 506 (5 * r)))) + z), vI ((f ((40 * (10 * a + m) + 4 * h.1 506 (5 * r + 1)) + y)) + (f ((40 * (10 * m + b) + 4 * h.1 506 (5 * r + 2)) + z)))]) (st := [vI n]) (k := 500) (c := 11) hG dX12_goOver_302 ml_X12_174 mf_X12_cheaper mi_X12_cheaper se_X12_cheaper rfl (by decide) k500 (r_cheaper (hm h [(520, f)] [] []) (p := (((40 * (10 * a + b)) + (4 * (h.1 506 (5 * r)))) + z)) (v := ((f ((40 * (10 * a + m) + 4 * h.1 506 (5 * r + 1)) + y)) + (f ((40 * (10 * m + b) + 4 * h.1 506 (5 * r + 2)) + z)))) (by omega) (by constructor <;> omega)) (by decide) (by decide) rfl rfl (Nat.le_of_ble_eq_true rfl) (fun z302 g302 ri_302 hp_302 => ?_)
                                      obtain ⟨ra_302, rb_302⟩ := ri_302
                                      have hq_302 : ∃ fx : Int → Int, ((∀ i, i ≠ (((40 * (10 * a + b)) + (4 * (h.1 506 (5 * r)))) + z) → fx i = f i) ∧ ((z302 = 0 ∧ f (((40 * (10 * a + b)) + (4 * (h.1 506 (5 * r)))) + z) ≤ ((f ((40 * (10 * a + m) + 4 * h.1 506 (5 * r + 1)) + y)) + (f ((40 * (10 * m + b) + 4 * h.1 506 (5 * r + 2)) + z))) ∧ fx (((40 * (10 * a + b)) + (4 * (h.1 506 (5 * r)))) + z) = f (((40 * (10 * a + b)) + (4 * (h.1 506 (5 * r)))) + z)) ∨ (z302 = 1 ∧ ((f ((40 * (10 * a + m) + 4 * h.1 506 (5 * r + 1)) + y)) + (f ((40 * (10 * m + b) + 4 * h.1 506 (5 * r + 2)) + z))) < f (((40 * (10 * a + b)) + (4 * (h.1 506 (5 * r)))) + z) ∧ fx (((40 * (10 * a + b)) + (4 * (h.1 506 (5 * r)))) + z) = ((f ((40 * (10 * a + m) + 4 * h.1 506 (5 * r + 1)) + y)) + (f ((40 * (10 * m + b) + 4 * h.1 506 (5 * r + 2)) + z)))))) ∧ g302 = hm (hm h [(520, f)] [] []) [(520, fx)] [] [] := hp_302
                                      obtain ⟨f302, ⟨hn302, hz302⟩, rfl⟩ := hq_302
                                      refine A_hm (la := [(520, f302)]) (lb := []) (lc := []) rfl rfl rfl ?_
                                      have hU302 : ∀ U, clsd (gR h) (h.1 521) (hasb (h.1 510 s)) (rowR h s) (h.1 508 s) 100000 U → belowP Pc (h.1 508 s) U (tR f) → U a b (((40 * (10 * a + b) + 4 * h.1 506 (5 * r)) + z) - 40 * (10 * a + b)) ≤ f (40 * (10 * a + m) + 4 * h.1 506 (5 * r + 1) + y) + f (40 * (10 * m + b) + 4 * h.1 506 (5 * r + 2) + z) := fun U hc hb => by
                                        have g0 := (hc a b (by omega) (by omega) (by omega)).2.2.2.2 m (by omega) (by omega) r (by omega) (by rw [(gR_n h).2]; omega) y z (by omega) (by omega) (by omega) (by omega) (by rw [er.2.2.2.1]; omega)
                                        rw [er.1, er.2.1, er.2.2.1, er.2.2.2.2, if_neg c_270] at g0
                                        have g1 := hb a m (4 * h.1 506 (5 * r + 1) + y) (by omega) (by omega) (by omega) (hPc _ _ (by omega) (by omega) (by omega)) (by omega) (by omega)
                                        have g2 := hb m b (4 * h.1 506 (5 * r + 2) + z) (by omega) (by omega) (by omega) (hPc _ _ (by omega) (by omega) (by omega)) (by omega) (by omega)
                                        unfold tR at g1 g2
                                        rw [← Int.add_assoc] at g1 g2
                                        rw [show ((40 * (10 * a + b) + 4 * h.1 506 (5 * r)) + z) - 40 * (10 * a + b) = 4 * h.1 506 (5 * r) + z by omega]
                                        exact Int.le_trans g0 (Int.add_le_add g1 g2)
                                      have hv302 : 0 ≤ f (40 * (10 * a + m) + 4 * h.1 506 (5 * r + 1) + y) + f (40 * (10 * m + b) + 4 * h.1 506 (5 * r + 2) + z) := Int.add_nonneg (hI.2.2.2.1 _ (by omega) (by omega)) (hI.2.2.2.1 _ (by omega) (by omega))
                                      refine A_ior hG dX12_goOver_305 ?_
                                      refine A_istore (L' := [(4, vI (ior n z302)), (0, .ref 500), (1, vI s), (2, vI a), (3, vI b), (5, vI (40 * (10 * a + b))), (6, vI m), (7, vI r), (8, vI (40 * (10 * a + m) + 4 * h.1 506 (5 * r + 1))), (9, vI (40 * (10 * m + b) + 4 * h.1 506 (5 * r + 2))), (10, vI y), (11, vI z)]) hG dX12_goOver_306 (by decide) rfl ?_
                                      refine A_iinc (L' := [(11, vI (z + 1)), (4, vI (ior n z302)), (0, .ref 500), (1, vI s), (2, vI a), (3, vI b), (5, vI (40 * (10 * a + b))), (6, vI m), (7, vI r), (8, vI (40 * (10 * a + m) + 4 * h.1 506 (5 * r + 1))), (9, vI (40 * (10 * m + b) + 4 * h.1 506 (5 * r + 2))), (10, vI y)]) hG 11 dX12_goOver_308 rfl (by decide) rfl ?_
                                      refine A_goto hG 215 dX12_goOver_311 (by decide) ?_
                                      refine A_sub hG [2, 3, 4, 5, 1, 6, 7, 8, 9, 10, 11, 0] rfl ?_
                                      exact ih_z (z + 1) (ior n z302) f302 (by omega) (gJ_s hI (by omega) (by omega) (by omega) (by omega) hn302 hz302 hU302) (fun q => hC (by have i1 := ior01 hI.1 (z01 hz302); omega)) (fun q m' r' y' z' a1 a2 a3 a4 a5 a6 a7 a8 a9 => by
                                          have i1 := ior01 hI.1 (z01 hz302)
                                          by_cases hq : m' = m ∧ r' = r ∧ y' = y ∧ z' = z
                                          · obtain ⟨rfl, rfl, rfl, rfl⟩ := hq
                                            have e0 := hI.2.2.2.2.1 (by omega)
                                            have j1 := ch0 hz302 (by omega)
                                            rw [e0, e0, e0] at j1
                                            intro hc
                                            rw [er.1, er.2.1, er.2.2.1, er.2.2.2.2]
                                            rw [if_neg c_270]
                                            unfold tR
                                            rw [Int.add_assoc, Int.add_assoc, Int.add_assoc] at j1
                                            exact j1
                                          · exact hP (by omega) m' r' y' z' a1 a2 a3 a4 a5 a6 a7 a8 (by omega)) (by omega)
                                    ·
                                      refine A_iload hG 10 dX12_goOver_273 rfl ?_
                                      refine A_goto hG 280 dX12_goOver_275 (by decide) ?_
                                      refine A_iadd hG dX12_goOver_280 ?_
                                      have u1 := hI.2.1 (40 * (10 * a + m) + 4 * h.1 506 (5 * r + 1) + y)
                                      have t1 := hT (40 * (10 * a + m) + 4 * h.1 506 (5 * r + 1) + y) (by omega) (by omega)
                                      have u2 := hI.2.1 (40 * (10 * m + b) + 4 * h.1 506 (5 * r + 2) + z)
                                      have t2 := hT (40 * (10 * m + b) + 4 * h.1 506 (5 * r + 2) + z) (by omega) (by omega)
                                      have v1 := hI.2.2.2.1 (40 * (10 * a + m) + 4 * h.1 506 (5 * r + 1) + y) (by omega) (by omega)
                                      have v2 := hI.2.2.2.1 (40 * (10 * m + b) + 4 * h.1 506 (5 * r + 2) + z) (by omega) (by omega)
                                      refine A_aload_n hG 0 dX12_goOver_281 rfl rfl ?_
                                      refine A_getR (r := 520) hG dX12_goOver_282 fl_X12_56 (by decide) k500 (by decide) rfl ?_
                                      refine A_iload hG 8 dX12_goOver_285 rfl ?_
                                      refine A_iload hG 10 dX12_goOver_287 rfl ?_
                                      refine A_iadd hG dX12_goOver_289 ?_
                                      refine M_iald (v := f ((40 * (10 * a + m) + 4 * h.1 506 (5 * r + 1)) + y)) hG dX12_goOver_290 k520 n520 (by omega) rfl (fun ⟨ra_290, rb_290⟩ => ?_)
                                      refine A_aload_n hG 0 dX12_goOver_291 rfl rfl ?_
                                      refine A_getR (r := 520) hG dX12_goOver_292 fl_X12_56 (by decide) k500 (by decide) rfl ?_
                                      refine A_iload hG 9 dX12_goOver_295 rfl ?_
                                      refine A_iload hG 11 dX12_goOver_297 rfl ?_
                                      refine A_iadd hG dX12_goOver_299 ?_
                                      refine M_iald (v := f ((40 * (10 * m + b) + 4 * h.1 506 (5 * r + 2)) + z)) hG dX12_goOver_300 k520 n520 (by omega) rfl (fun ⟨ra_300, rb_300⟩ => ?_)
                                      refine A_iadd hG dX12_goOver_301 ?_
                                      refine C_Vi (as := [vI (((40 * (10 * a + b)) + (4 * (h.1 506 (5 * r)))) + y), vI ((f ((40 * (10 * a + m) + 4 * h.1 506 (5 * r + 1)) + y)) + (f ((40 * (10 * m + b) + 4 * h.1 506 (5 * r + 2)) + z)))]) (st := [vI n]) (k := 500) (c := 11) hG dX12_goOver_302 ml_X12_174 mf_X12_cheaper mi_X12_cheaper se_X12_cheaper rfl (by decide) k500 (r_cheaper (hm h [(520, f)] [] []) (p := (((40 * (10 * a + b)) + (4 * (h.1 506 (5 * r)))) + y)) (v := ((f ((40 * (10 * a + m) + 4 * h.1 506 (5 * r + 1)) + y)) + (f ((40 * (10 * m + b) + 4 * h.1 506 (5 * r + 2)) + z)))) (by omega) (by constructor <;> omega)) (by decide) (by decide) rfl rfl (Nat.le_of_ble_eq_true rfl) (fun z302 g302 ri_302 hp_302 => ?_)
                                      obtain ⟨ra_302, rb_302⟩ := ri_302
                                      have hq_302 : ∃ fx : Int → Int, ((∀ i, i ≠ (((40 * (10 * a + b)) + (4 * (h.1 506 (5 * r)))) + y) → fx i = f i) ∧ ((z302 = 0 ∧ f (((40 * (10 * a + b)) + (4 * (h.1 506 (5 * r)))) + y) ≤ ((f ((40 * (10 * a + m) + 4 * h.1 506 (5 * r + 1)) + y)) + (f ((40 * (10 * m + b) + 4 * h.1 506 (5 * r + 2)) + z))) ∧ fx (((40 * (10 * a + b)) + (4 * (h.1 506 (5 * r)))) + y) = f (((40 * (10 * a + b)) + (4 * (h.1 506 (5 * r)))) + y)) ∨ (z302 = 1 ∧ ((f ((40 * (10 * a + m) + 4 * h.1 506 (5 * r + 1)) + y)) + (f ((40 * (10 * m + b) + 4 * h.1 506 (5 * r + 2)) + z))) < f (((40 * (10 * a + b)) + (4 * (h.1 506 (5 * r)))) + y) ∧ fx (((40 * (10 * a + b)) + (4 * (h.1 506 (5 * r)))) + y) = ((f ((40 * (10 * a + m) + 4 * h.1 506 (5 * r + 1)) + y)) + (f ((40 * (10 * m + b) + 4 * h.1 506 (5 * r + 2)) + z)))))) ∧ g302 = hm (hm h [(520, f)] [] []) [(520, fx)] [] [] := hp_302
                                      obtain ⟨f302, ⟨hn302, hz302⟩, rfl⟩ := hq_302
                                      refine A_hm (la := [(520, f302)]) (lb := []) (lc := []) rfl rfl rfl ?_
                                      have hU302 : ∀ U, clsd (gR h) (h.1 521) (hasb (h.1 510 s)) (rowR h s) (h.1 508 s) 100000 U → belowP Pc (h.1 508 s) U (tR f) → U a b (((40 * (10 * a + b) + 4 * h.1 506 (5 * r)) + y) - 40 * (10 * a + b)) ≤ f (40 * (10 * a + m) + 4 * h.1 506 (5 * r + 1) + y) + f (40 * (10 * m + b) + 4 * h.1 506 (5 * r + 2) + z) := fun U hc hb => by
                                        have g0 := (hc a b (by omega) (by omega) (by omega)).2.2.2.2 m (by omega) (by omega) r (by omega) (by rw [(gR_n h).2]; omega) y z (by omega) (by omega) (by omega) (by omega) (by rw [er.2.2.2.1]; omega)
                                        rw [er.1, er.2.1, er.2.2.1, er.2.2.2.2, if_pos c_270] at g0
                                        have g1 := hb a m (4 * h.1 506 (5 * r + 1) + y) (by omega) (by omega) (by omega) (hPc _ _ (by omega) (by omega) (by omega)) (by omega) (by omega)
                                        have g2 := hb m b (4 * h.1 506 (5 * r + 2) + z) (by omega) (by omega) (by omega) (hPc _ _ (by omega) (by omega) (by omega)) (by omega) (by omega)
                                        unfold tR at g1 g2
                                        rw [← Int.add_assoc] at g1 g2
                                        rw [show ((40 * (10 * a + b) + 4 * h.1 506 (5 * r)) + y) - 40 * (10 * a + b) = 4 * h.1 506 (5 * r) + y by omega]
                                        exact Int.le_trans g0 (Int.add_le_add g1 g2)
                                      have hv302 : 0 ≤ f (40 * (10 * a + m) + 4 * h.1 506 (5 * r + 1) + y) + f (40 * (10 * m + b) + 4 * h.1 506 (5 * r + 2) + z) := Int.add_nonneg (hI.2.2.2.1 _ (by omega) (by omega)) (hI.2.2.2.1 _ (by omega) (by omega))
                                      refine A_ior hG dX12_goOver_305 ?_
                                      refine A_istore (L' := [(4, vI (ior n z302)), (0, .ref 500), (1, vI s), (2, vI a), (3, vI b), (5, vI (40 * (10 * a + b))), (6, vI m), (7, vI r), (8, vI (40 * (10 * a + m) + 4 * h.1 506 (5 * r + 1))), (9, vI (40 * (10 * m + b) + 4 * h.1 506 (5 * r + 2))), (10, vI y), (11, vI z)]) hG dX12_goOver_306 (by decide) rfl ?_
                                      refine A_iinc (L' := [(11, vI (z + 1)), (4, vI (ior n z302)), (0, .ref 500), (1, vI s), (2, vI a), (3, vI b), (5, vI (40 * (10 * a + b))), (6, vI m), (7, vI r), (8, vI (40 * (10 * a + m) + 4 * h.1 506 (5 * r + 1))), (9, vI (40 * (10 * m + b) + 4 * h.1 506 (5 * r + 2))), (10, vI y)]) hG 11 dX12_goOver_308 rfl (by decide) rfl ?_
                                      refine A_goto hG 215 dX12_goOver_311 (by decide) ?_
                                      refine A_sub hG [2, 3, 4, 5, 1, 6, 7, 8, 9, 10, 11, 0] rfl ?_
                                      exact ih_z (z + 1) (ior n z302) f302 (by omega) (gJ_s hI (by omega) (by omega) (by omega) (by omega) hn302 hz302 hU302) (fun q => hC (by have i1 := ior01 hI.1 (z01 hz302); omega)) (fun q m' r' y' z' a1 a2 a3 a4 a5 a6 a7 a8 a9 => by
                                          have i1 := ior01 hI.1 (z01 hz302)
                                          by_cases hq : m' = m ∧ r' = r ∧ y' = y ∧ z' = z
                                          · obtain ⟨rfl, rfl, rfl, rfl⟩ := hq
                                            have e0 := hI.2.2.2.2.1 (by omega)
                                            have j1 := ch0 hz302 (by omega)
                                            rw [e0, e0, e0] at j1
                                            intro hc
                                            rw [er.1, er.2.1, er.2.2.1, er.2.2.2.2]
                                            rw [if_pos c_270]
                                            unfold tR
                                            rw [Int.add_assoc, Int.add_assoc, Int.add_assoc] at j1
                                            exact j1
                                          · exact hP (by omega) m' r' y' z' a1 a2 a3 a4 a5 a6 a7 a8 (by omega)) (by omega)
                          refine A_sub hG [1, 2, 3, 4, 5, 6, 7, 8, 9, 10, 11, 0] rfl ?_
                          exact z_7 _ 0 n f (by omega) hI hC (fun q m' r' y' z' a1 a2 a3 a4 a5 a6 a7 a8 a9 => hP q m' r' y' z' a1 a2 a3 a4 a5 a6 a7 a8 (by omega)) (Nat.lt_succ_self _)
                    refine A_sub hG [3, 4, 5, 6, 7, 8, 9, 10, 2, 1, 0] rfl ?_
                    exact y_6 _ 0 n f (by omega) hI hC (fun q m' r' y' z' a1 a2 a3 a4 a5 a6 a7 a8 a9 => hP q m' r' y' z' a1 a2 a3 a4 a5 a6 a7 a8 (by omega)) (Nat.lt_succ_self _)
              refine A_sub hG [1, 2, 3, 4, 5, 6, 7, 0] rfl ?_
              exact r_3 _ 0 n f (by omega) hI hC (fun q m' r' y' z' a1 a2 a3 a4 a5 a6 a7 a8 a9 => hP q m' r' y' z' a1 a2 a3 a4 a5 a6 a7 a8 (by omega)) (Nat.lt_succ_self _)
        refine A_sub hG [1, 2, 3, 4, 5, 6, 0] rfl ?_
        exact m_2 _ a n f (by omega) hI (fun q hab k2 k3 k4 => hP q k2 k3 (by omega)) (fun q m' r' y' z' a1 a2 a3 a4 a5 a6 a7 a8 a9 => by omega) (Nat.lt_succ_self _)
      ·
        refine A_iload_n hG 2 dX12_goOver_21 rfl rfl ?_
        refine A_iload_n hG 3 dX12_goOver_22 rfl rfl ?_
        refine A_icmp_ge hG 134 dX12_goOver_23 (by decide) (by constructor <;> omega) (by constructor <;> omega) (fun c_23 => ?_) (fun c_23 => ?_)
        ·
          refine A_iload_n hG 2 dX12_goOver_134 rfl rfl ?_
          refine A_istore (L' := [(6, vI a), (0, .ref 500), (1, vI s), (2, vI a), (3, vI b), (4, vI n), (5, vI (40 * (10 * a + b)))]) hG dX12_goOver_135 (by decide) rfl ?_
          have m_12 : ∀ fu : Nat, ∀ (m : Int) (n : Int) (f : Int → Int), (a ≤ m ∧ m ≤ b + 1) → (gJ Pc (gR h) (h.1 521) (hasb (h.1 510 s)) (rowR h s) (h.1 508 s) (40 * (10 * a + b)) (h.1 520) f n) → (n = 0 → a < b → ∀ k, 0 ≤ k → k < 40 → cB (h.1 521) (hasb (h.1 510 s)) (tR (h.1 520)) a b k) → (n = 0 → ∀ m' r' y' z', a ≤ m' → m' ≤ b → 0 ≤ r' → r' < h.1 505 0 → 0 ≤ y' → y' < 4 → 0 ≤ z' → z' < 4 → (m' < m ∨ m' = m ∧ (r' < 0 ∨ r' = 0 ∧ (y' < 0 ∨ y' = 0 ∧ z' < 0))) → cC (gR h) (tR (h.1 520)) a b m' r' y' z') → ((10 - m).toNat) < fu → G 137 [(0, .ref 500), (1, vI s), (2, vI a), (3, vI b), (4, vI n), (5, vI (40 * (10 * a + b))), (6, vI m)] [] (hm h [(520, f)] [] []) := by
            intro fu
            induction fu with
            | zero => intro m n f hm0 hI hC hP hfu; exact absurd hfu (Nat.not_lt_zero _)
            | succ fu ih_m =>
              intro m n f hm0 hI hC hP hfu
              have hn01 := hI.1
              refine A_iload hG 6 dX12_goOver_137 rfl ?_
              refine A_iload_n hG 3 dX12_goOver_139 rfl rfl ?_
              refine A_icmp_gt hG 332 dX12_goOver_140 (by decide) (by constructor <;> omega) (by constructor <;> omega) (fun c_140 => ?_) (fun c_140 => ?_)
              ·
                refine A_iload hG 4 dX12_goOver_332 rfl ?_
                exact Ret_z hM dX12_goOver_334 (by omega) (⟨f, ⟨hI, fun q => ⟨hC q, fun m' r' y' z' a1 a2 a3 a4 a5 a6 a7 a8 => hP q m' r' y' z' a1 a2 a3 a4 a5 a6 a7 a8 (by omega)⟩⟩, rfl⟩)
              ·
                refine A_iconst (n := 0) hG dX12_goOver_143 ?_
                refine A_istore (L' := [(7, vI 0), (0, .ref 500), (1, vI s), (2, vI a), (3, vI b), (4, vI n), (5, vI (40 * (10 * a + b))), (6, vI m)]) hG dX12_goOver_144 (by decide) rfl ?_
                have r_13 : ∀ fu : Nat, ∀ (r : Int) (n : Int) (f : Int → Int), (0 ≤ r ∧ r ≤ h.1 505 0) → (gJ Pc (gR h) (h.1 521) (hasb (h.1 510 s)) (rowR h s) (h.1 508 s) (40 * (10 * a + b)) (h.1 520) f n) → (n = 0 → a < b → ∀ k, 0 ≤ k → k < 40 → cB (h.1 521) (hasb (h.1 510 s)) (tR (h.1 520)) a b k) → (n = 0 → ∀ m' r' y' z', a ≤ m' → m' ≤ b → 0 ≤ r' → r' < h.1 505 0 → 0 ≤ y' → y' < 4 → 0 ≤ z' → z' < 4 → (m' < m ∨ m' = m ∧ (r' < r ∨ r' = r ∧ (y' < 0 ∨ y' = 0 ∧ z' < 0))) → cC (gR h) (tR (h.1 520)) a b m' r' y' z') → ((30 - r).toNat) < fu → G 146 [(0, .ref 500), (1, vI s), (2, vI a), (3, vI b), (4, vI n), (5, vI (40 * (10 * a + b))), (6, vI m), (7, vI r)] [] (hm h [(520, f)] [] []) := by
                  intro fu
                  induction fu with
                  | zero => intro r n f hr hI hC hP hfu; exact absurd hfu (Nat.not_lt_zero _)
                  | succ fu ih_r =>
                    intro r n f hr hI hC hP hfu
                    have hn01 := hI.1
                    refine A_iload hG 7 dX12_goOver_146 rfl ?_
                    refine A_aload_n hG 0 dX12_goOver_148 rfl rfl ?_
                    refine A_getR (r := 505) hG dX12_goOver_149 fl_X12_19 (by decide) k500 (by decide) rfl ?_
                    refine A_iconst (n := 0) hG dX12_goOver_152 ?_
                    refine M_iald (v := h.1 505 0) hG dX12_goOver_153 k505 n505 (by omega) rfl (fun ⟨ra_153, rb_153⟩ => ?_)
                    refine A_icmp_ge hG 326 dX12_goOver_154 (by decide) (by constructor <;> omega) (by constructor <;> omega) (fun c_154 => ?_) (fun c_154 => ?_)
                    ·
                      refine A_iinc (L' := [(6, vI (m + 1)), (0, .ref 500), (1, vI s), (2, vI a), (3, vI b), (4, vI n), (5, vI (40 * (10 * a + b))), (7, vI r)]) hG 6 dX12_goOver_326 rfl (by decide) rfl ?_
                      refine A_goto hG 137 dX12_goOver_329 (by decide) ?_
                      refine A_sub hG [1, 2, 3, 4, 5, 6, 0] rfl ?_
                      exact ih_m (m + 1) n f (by omega) hI hC (fun q m' r' y' z' a1 a2 a3 a4 a5 a6 a7 a8 a9 => hP q m' r' y' z' a1 a2 a3 a4 a5 a6 a7 a8 (by omega)) (by omega)
                    ·
                      have er := gR_r (h := h) (j := r) (by omega)
                      have ok := hG0.2.2.2.1 r (by omega) (by rw [(gR_n h).2]; omega)
                      refine A_aload_n hG 0 dX12_goOver_157 rfl rfl ?_
                      refine A_iload_n hG 2 dX12_goOver_158 rfl rfl ?_
                      refine A_iload hG 6 dX12_goOver_159 rfl ?_
                      refine C_Vi (as := [vI a, vI m]) (st := []) (k := 500) (c := 11) hG dX12_goOver_161 ml_X12_167 mf_X12_costAt mi_X12_costAt se_X12_costAt rfl (by decide) k500 (r_costAt (hm h [(520, f)] [] []) (a := a) (b := m) (by omega) (by omega)) (by decide) (by decide) rfl rfl (Nat.le_of_ble_eq_true rfl) (fun z161 g161 ri_161 hp_161 => ?_)
                      obtain ⟨ra_161, rb_161⟩ := ri_161
                      obtain ⟨rfl, rfl⟩ := hp_161
                      refine A_iconst (n := 4) hG dX12_goOver_164 ?_
                      refine A_aload_n hG 0 dX12_goOver_165 rfl rfl ?_
                      refine A_getR (r := 506) hG dX12_goOver_166 fl_X12_22 (by decide) k500 (by decide) rfl ?_
                      refine A_iconst (n := 5) hG dX12_goOver_169 ?_
                      refine A_iload hG 7 dX12_goOver_170 rfl ?_
                      refine A_imul hG dX12_goOver_172 ?_
                      refine A_iconst (n := 1) hG dX12_goOver_173 ?_
                      refine A_iadd hG dX12_goOver_174 ?_
                      refine M_iald (v := h.1 506 ((5 * r) + 1)) hG dX12_goOver_175 k506 n506 (by omega) rfl (fun ⟨ra_175, rb_175⟩ => ?_)
                      refine A_imul hG dX12_goOver_176 ?_
                      refine A_iadd hG dX12_goOver_177 ?_
                      refine A_istore (L' := [(8, vI ((40 * (10 * a + m)) + (4 * (h.1 506 ((5 * r) + 1))))), (0, .ref 500), (1, vI s), (2, vI a), (3, vI b), (4, vI n), (5, vI (40 * (10 * a + b))), (6, vI m), (7, vI r)]) hG dX12_goOver_178 (by decide) rfl ?_
                      refine A_aload_n hG 1 dX12_goOver_180 rfl rfl ?_
                      refine A_iload hG 7 dX12_goOver_181 rfl ?_
                      refine A_iload_n hG 4 dX12_goOver_183 rfl rfl ?_
                      refine C_Vi (as := [vI m, vI b]) (st := []) (k := 500) (c := 11) hG dX12_goOver_184 ml_X12_167 mf_X12_costAt mi_X12_costAt se_X12_costAt rfl (by decide) k500 (r_costAt (hm h [(520, f)] [] []) (a := m) (b := b) (by omega) (by omega)) (by decide) (by decide) rfl rfl (Nat.le_of_ble_eq_true rfl) (fun z184 g184 ri_184 hp_184 => ?_)
                      obtain ⟨ra_184, rb_184⟩ := ri_184
                      obtain ⟨rfl, rfl⟩ := hp_184
                      refine A_iconst (n := 4) hG dX12_goOver_187 ?_
                      refine A_aload_n hG 1 dX12_goOver_188 rfl rfl ?_
                      refine A_getR (r := 506) hG dX12_goOver_189 fl_X12_22 (by decide) k500 (by decide) rfl ?_
                      refine A_iconst (n := 5) hG dX12_goOver_192 ?_
                      refine A_iload hG 8 dX12_goOver_193 rfl ?_
                      refine A_imul hG dX12_goOver_195 ?_
                      refine A_iconst (n := 2) hG dX12_goOver_196 ?_
                      refine A_iadd hG dX12_goOver_197 ?_
                      refine M_iald (v := h.1 506 ((5 * r) + 2)) hG dX12_goOver_198 k506 n506 (by omega) rfl (fun ⟨ra_198, rb_198⟩ => ?_)
                      refine A_imul hG dX12_goOver_199 ?_
                      refine A_iadd hG dX12_goOver_200 ?_
                      refine A_istore (L' := [(9, vI ((40 * (10 * m + b)) + (4 * (h.1 506 ((5 * r) + 2))))), (8, vI ((40 * (10 * a + m)) + (4 * (h.1 506 ((5 * r) + 1))))), (0, .ref 500), (1, vI s), (2, vI a), (3, vI b), (4, vI n), (5, vI (40 * (10 * a + b))), (6, vI m), (7, vI r)]) hG dX12_goOver_201 (by decide) rfl ?_
                      refine A_iconst (n := 0) hG dX12_goOver_203 ?_
                      refine A_istore (L' := [(10, vI 0), (9, vI ((40 * (10 * m + b)) + (4 * (h.1 506 ((5 * r) + 2))))), (8, vI ((40 * (10 * a + m)) + (4 * (h.1 506 ((5 * r) + 1))))), (0, .ref 500), (1, vI s), (2, vI a), (3, vI b), (4, vI n), (5, vI (40 * (10 * a + b))), (6, vI m), (7, vI r)]) hG dX12_goOver_204 (by decide) rfl ?_
                      have y_16 : ∀ fu : Nat, ∀ (y : Int) (n : Int) (f : Int → Int), (0 ≤ y ∧ y ≤ 4) → (gJ Pc (gR h) (h.1 521) (hasb (h.1 510 s)) (rowR h s) (h.1 508 s) (40 * (10 * a + b)) (h.1 520) f n) → (n = 0 → a < b → ∀ k, 0 ≤ k → k < 40 → cB (h.1 521) (hasb (h.1 510 s)) (tR (h.1 520)) a b k) → (n = 0 → ∀ m' r' y' z', a ≤ m' → m' ≤ b → 0 ≤ r' → r' < h.1 505 0 → 0 ≤ y' → y' < 4 → 0 ≤ z' → z' < 4 → (m' < m ∨ m' = m ∧ (r' < r ∨ r' = r ∧ (y' < y ∨ y' = y ∧ z' < 0))) → cC (gR h) (tR (h.1 520)) a b m' r' y' z') → ((4 - y).toNat) < fu → G 206 [(0, .ref 500), (1, vI s), (2, vI a), (3, vI b), (4, vI n), (5, vI (40 * (10 * a + b))), (6, vI m), (7, vI r), (8, vI (40 * (10 * a + m) + 4 * h.1 506 (5 * r + 1))), (9, vI (40 * (10 * m + b) + 4 * h.1 506 (5 * r + 2))), (10, vI y)] [] (hm h [(520, f)] [] []) := by
                        intro fu
                        induction fu with
                        | zero => intro y n f hy hI hC hP hfu; exact absurd hfu (Nat.not_lt_zero _)
                        | succ fu ih_y =>
                          intro y n f hy hI hC hP hfu
                          have hn01 := hI.1
                          refine A_iload hG 10 dX12_goOver_206 rfl ?_
                          refine A_iconst (n := 4) hG dX12_goOver_208 ?_
                          refine A_icmp_ge hG 320 dX12_goOver_209 (by decide) (by constructor <;> omega) (by constructor <;> omega) (fun c_209 => ?_) (fun c_209 => ?_)
                          ·
                            refine A_iinc (L' := [(7, vI (r + 1)), (0, .ref 500), (1, vI s), (2, vI a), (3, vI b), (4, vI n), (5, vI (40 * (10 * a + b))), (6, vI m), (8, vI (40 * (10 * a + m) + 4 * h.1 506 (5 * r + 1))), (9, vI (40 * (10 * m + b) + 4 * h.1 506 (5 * r + 2))), (10, vI y)]) hG 7 dX12_goOver_320 rfl (by decide) rfl ?_
                            refine A_goto hG 146 dX12_goOver_323 (by decide) ?_
                            refine A_sub hG [1, 2, 3, 4, 5, 6, 7, 0] rfl ?_
                            exact ih_r (r + 1) n f (by omega) hI hC (fun q m' r' y' z' a1 a2 a3 a4 a5 a6 a7 a8 a9 => hP q m' r' y' z' a1 a2 a3 a4 a5 a6 a7 a8 (by omega)) (by omega)
                          ·
                            refine A_iconst (n := 0) hG dX12_goOver_212 ?_
                            refine A_istore (L' := [(11, vI 0), (0, .ref 500), (1, vI s), (2, vI a), (3, vI b), (4, vI n), (5, vI (40 * (10 * a + b))), (6, vI m), (7, vI r), (8, vI (40 * (10 * a + m) + 4 * h.1 506 (5 * r + 1))), (9, vI (40 * (10 * m + b) + 4 * h.1 506 (5 * r + 2))), (10, vI y)]) hG dX12_goOver_213 (by decide) rfl ?_
                            have z_17 : ∀ fu : Nat, ∀ (z : Int) (n : Int) (f : Int → Int), (0 ≤ z ∧ z ≤ 4) → (gJ Pc (gR h) (h.1 521) (hasb (h.1 510 s)) (rowR h s) (h.1 508 s) (40 * (10 * a + b)) (h.1 520) f n) → (n = 0 → a < b → ∀ k, 0 ≤ k → k < 40 → cB (h.1 521) (hasb (h.1 510 s)) (tR (h.1 520)) a b k) → (n = 0 → ∀ m' r' y' z', a ≤ m' → m' ≤ b → 0 ≤ r' → r' < h.1 505 0 → 0 ≤ y' → y' < 4 → 0 ≤ z' → z' < 4 → (m' < m ∨ m' = m ∧ (r' < r ∨ r' = r ∧ (y' < y ∨ y' = y ∧ z' < z))) → cC (gR h) (tR (h.1 520)) a b m' r' y' z') → ((4 - z).toNat) < fu → G 215 [(0, .ref 500), (1, vI s), (2, vI a), (3, vI b), (4, vI n), (5, vI (40 * (10 * a + b))), (6, vI m), (7, vI r), (8, vI (40 * (10 * a + m) + 4 * h.1 506 (5 * r + 1))), (9, vI (40 * (10 * m + b) + 4 * h.1 506 (5 * r + 2))), (10, vI y), (11, vI z)] [] (hm h [(520, f)] [] []) := by
                              intro fu
                              induction fu with
                              | zero => intro z n f hz hI hC hP hfu; exact absurd hfu (Nat.not_lt_zero _)
                              | succ fu ih_z =>
                                intro z n f hz hI hC hP hfu
                                have hn01 := hI.1
                                refine A_iload hG 11 dX12_goOver_215 rfl ?_
                                refine A_iconst (n := 4) hG dX12_goOver_217 ?_
                                refine A_icmp_ge hG 314 dX12_goOver_218 (by decide) (by constructor <;> omega) (by constructor <;> omega) (fun c_218 => ?_) (fun c_218 => ?_)
                                ·
                                  refine A_iinc (L' := [(10, vI (y + 1)), (0, .ref 500), (1, vI s), (2, vI a), (3, vI b), (4, vI n), (5, vI (40 * (10 * a + b))), (6, vI m), (7, vI r), (8, vI (40 * (10 * a + m) + 4 * h.1 506 (5 * r + 1))), (9, vI (40 * (10 * m + b) + 4 * h.1 506 (5 * r + 2))), (11, vI z)]) hG 10 dX12_goOver_314 rfl (by decide) rfl ?_
                                  refine A_goto hG 206 dX12_goOver_317 (by decide) ?_
                                  refine A_sub hG [1, 2, 3, 4, 5, 6, 7, 8, 9, 10, 0] rfl ?_
                                  exact ih_y (y + 1) n f (by omega) hI hC (fun q m' r' y' z' a1 a2 a3 a4 a5 a6 a7 a8 a9 => hP q m' r' y' z' a1 a2 a3 a4 a5 a6 a7 a8 (by omega)) (by omega)
                                ·
                                  refine A_aload_n hG 0 dX12_goOver_221 rfl rfl ?_
                                  refine A_getR (r := 506) hG dX12_goOver_222 fl_X12_22 (by decide) k500 (by decide) rfl ?_
                                  refine A_iconst (n := 5) hG dX12_goOver_225 ?_
                                  refine A_iload hG 7 dX12_goOver_226 rfl ?_
                                  refine A_imul hG dX12_goOver_228 ?_
                                  refine A_iconst (n := 3) hG dX12_goOver_229 ?_
                                  refine A_iadd hG dX12_goOver_230 ?_
                                  refine M_iald (v := h.1 506 ((5 * r) + 3)) hG dX12_goOver_231 k506 n506 (by omega) rfl (fun ⟨ra_231, rb_231⟩ => ?_)
                                  refine A_if_eq hG 242 dX12_goOver_232 (by decide) (by constructor <;> omega) (fun c_232 => ?_) (fun c_232 => ?_)
                                  ·
                                    refine A_iload hG 4 dX12_goOver_242 rfl ?_
                                    refine A_aload_n hG 0 dX12_goOver_244 rfl rfl ?_
                                    refine A_iload hG 5 dX12_goOver_245 rfl ?_
                                    refine A_iconst (n := 4) hG dX12_goOver_247 ?_
                                    refine A_aload_n hG 0 dX12_goOver_248 rfl rfl ?_
                                    refine A_getR (r := 506) hG dX12_goOver_249 fl_X12_22 (by decide) k500 (by decide) rfl ?_
                                    refine A_iconst (n := 5) hG dX12_goOver_252 ?_
                                    refine A_iload hG 7 dX12_goOver_253 rfl ?_
                                    refine A_imul hG dX12_goOver_255 ?_
                                    refine M_iald (v := h.1 506 (5 * r)) hG dX12_goOver_256 k506 n506 (by omega) rfl (fun ⟨ra_256, rb_256⟩ => ?_)
                                    refine A_imul hG dX12_goOver_257 ?_
                                    refine A_iadd hG dX12_goOver_258 ?_
                                    refine A_aload_n hG 0 dX12_goOver_259 rfl rfl ?_
                                    refine A_getR (r := 506) hG dX12_goOver_260 fl_X12_22 (by decide) k500 (by decide) rfl ?_
                                    refine A_iconst (n := 5) hG dX12_goOver_263 ?_
                                    refine A_iload hG 7 dX12_goOver_264 rfl ?_
                                    refine A_imul hG dX12_goOver_266 ?_
                                    refine A_iconst (n := 4) hG dX12_goOver_267 ?_
                                    refine A_iadd hG dX12_goOver_268 ?_
                                    refine M_iald (v := h.1 506 ((5 * r) + 4)) hG dX12_goOver_269 k506 n506 (by omega) rfl (fun ⟨ra_269, rb_269⟩ => ?_)
                                    refine A_if_ne hG 278 dX12_goOver_270 (by decide) (by constructor <;> omega) (fun c_270 => ?_) (fun c_270 => ?_)
                                    ·
                                      refine A_iload hG 11 dX12_goOver_278 rfl ?_
                                      refine A_iadd hG dX12_goOver_280 ?_
                                      have u1 := hI.2.1 (40 * (10 * a + m) + 4 * h.1 506 (5 * r + 1) + y)
                                      have t1 := hT (40 * (10 * a + m) + 4 * h.1 506 (5 * r + 1) + y) (by omega) (by omega)
                                      have u2 := hI.2.1 (40 * (10 * m + b) + 4 * h.1 506 (5 * r + 2) + z)
                                      have t2 := hT (40 * (10 * m + b) + 4 * h.1 506 (5 * r + 2) + z) (by omega) (by omega)
                                      have v1 := hI.2.2.2.1 (40 * (10 * a + m) + 4 * h.1 506 (5 * r + 1) + y) (by omega) (by omega)
                                      have v2 := hI.2.2.2.1 (40 * (10 * m + b) + 4 * h.1 506 (5 * r + 2) + z) (by omega) (by omega)
                                      refine A_aload_n hG 0 dX12_goOver_281 rfl rfl ?_
                                      refine A_getR (r := 520) hG dX12_goOver_282 fl_X12_56 (by decide) k500 (by decide) rfl ?_
                                      refine A_iload hG 8 dX12_goOver_285 rfl ?_
                                      refine A_iload hG 10 dX12_goOver_287 rfl ?_
                                      refine A_iadd hG dX12_goOver_289 ?_
                                      refine M_iald (v := f ((40 * (10 * a + m) + 4 * h.1 506 (5 * r + 1)) + y)) hG dX12_goOver_290 k520 n520 (by omega) rfl (fun ⟨ra_290, rb_290⟩ => ?_)
                                      refine A_aload_n hG 0 dX12_goOver_291 rfl rfl ?_
                                      refine A_getR (r := 520) hG dX12_goOver_292 fl_X12_56 (by decide) k500 (by decide) rfl ?_
                                      refine A_iload hG 9 dX12_goOver_295 rfl ?_
                                      refine A_iload hG 11 dX12_goOver_297 rfl ?_
                                      refine A_iadd hG dX12_goOver_299 ?_
                                      refine M_iald (v := f ((40 * (10 * m + b) + 4 * h.1 506 (5 * r + 2)) + z)) hG dX12_goOver_300 k520 n520 (by omega) rfl (fun ⟨ra_300, rb_300⟩ => ?_)
                                      refine A_iadd hG dX12_goOver_301 ?_
                                      refine C_Vi (as := [vI (((40 * (10 * a + b)) + (4 * (h.1 506 (5 * r)))) + z), vI ((f ((40 * (10 * a + m) + 4 * h.1 506 (5 * r + 1)) + y)) + (f ((40 * (10 * m + b) + 4 * h.1 506 (5 * r + 2)) + z)))]) (st := [vI n]) (k := 500) (c := 11) hG dX12_goOver_302 ml_X12_174 mf_X12_cheaper mi_X12_cheaper se_X12_cheaper rfl (by decide) k500 (r_cheaper (hm h [(520, f)] [] []) (p := (((40 * (10 * a + b)) + (4 * (h.1 506 (5 * r)))) + z)) (v := ((f ((40 * (10 * a + m) + 4 * h.1 506 (5 * r + 1)) + y)) + (f ((40 * (10 * m + b) + 4 * h.1 506 (5 * r + 2)) + z)))) (by omega) (by constructor <;> omega)) (by decide) (by decide) rfl rfl (Nat.le_of_ble_eq_true rfl) (fun z302 g302 ri_302 hp_302 => ?_)
                                      obtain ⟨ra_302, rb_302⟩ := ri_302
                                      have hq_302 : ∃ fx : Int → Int, ((∀ i, i ≠ (((40 * (10 * a + b)) + (4 * (h.1 506 (5 * r)))) + z) → fx i = f i) ∧ ((z302 = 0 ∧ f (((40 * (10 * a + b)) + (4 * (h.1 506 (5 * r)))) + z) ≤ ((f ((40 * (10 * a + m) + 4 * h.1 506 (5 * r + 1)) + y)) + (f ((40 * (10 * m + b) + 4 * h.1 506 (5 * r + 2)) + z))) ∧ fx (((40 * (10 * a + b)) + (4 * (h.1 506 (5 * r)))) + z) = f (((40 * (10 * a + b)) + (4 * (h.1 506 (5 * r)))) + z)) ∨ (z302 = 1 ∧ ((f ((40 * (10 * a + m) + 4 * h.1 506 (5 * r + 1)) + y)) + (f ((40 * (10 * m + b) + 4 * h.1 506 (5 * r + 2)) + z))) < f (((40 * (10 * a + b)) + (4 * (h.1 506 (5 * r)))) + z) ∧ fx (((40 * (10 * a + b)) + (4 * (h.1 506 (5 * r)))) + z) = ((f ((40 * (10 * a + m) + 4 * h.1 506 (5 * r + 1)) + y)) + (f ((40 * (10 * m + b) + 4 * h.1 506 (5 * r + 2)) + z)))))) ∧ g302 = hm (hm h [(520, f)] [] []) [(520, fx)] [] [] := hp_302
                                      obtain ⟨f302, ⟨hn302, hz302⟩, rfl⟩ := hq_302
                                      refine A_hm (la := [(520, f302)]) (lb := []) (lc := []) rfl rfl rfl ?_
                                      have hU302 : ∀ U, clsd (gR h) (h.1 521) (hasb (h.1 510 s)) (rowR h s) (h.1 508 s) 100000 U → belowP Pc (h.1 508 s) U (tR f) → U a b (((40 * (10 * a + b) + 4 * h.1 506 (5 * r)) + z) - 40 * (10 * a + b)) ≤ f (40 * (10 * a + m) + 4 * h.1 506 (5 * r + 1) + y) + f (40 * (10 * m + b) + 4 * h.1 506 (5 * r + 2) + z) := fun U hc hb => by
                                        have g0 := (hc a b (by omega) (by omega) (by omega)).2.2.2.2 m (by omega) (by omega) r (by omega) (by rw [(gR_n h).2]; omega) y z (by omega) (by omega) (by omega) (by omega) (by rw [er.2.2.2.1]; omega)
                                        rw [er.1, er.2.1, er.2.2.1, er.2.2.2.2, if_neg c_270] at g0
                                        have g1 := hb a m (4 * h.1 506 (5 * r + 1) + y) (by omega) (by omega) (by omega) (hPc _ _ (by omega) (by omega) (by omega)) (by omega) (by omega)
                                        have g2 := hb m b (4 * h.1 506 (5 * r + 2) + z) (by omega) (by omega) (by omega) (hPc _ _ (by omega) (by omega) (by omega)) (by omega) (by omega)
                                        unfold tR at g1 g2
                                        rw [← Int.add_assoc] at g1 g2
                                        rw [show ((40 * (10 * a + b) + 4 * h.1 506 (5 * r)) + z) - 40 * (10 * a + b) = 4 * h.1 506 (5 * r) + z by omega]
                                        exact Int.le_trans g0 (Int.add_le_add g1 g2)
                                      have hv302 : 0 ≤ f (40 * (10 * a + m) + 4 * h.1 506 (5 * r + 1) + y) + f (40 * (10 * m + b) + 4 * h.1 506 (5 * r + 2) + z) := Int.add_nonneg (hI.2.2.2.1 _ (by omega) (by omega)) (hI.2.2.2.1 _ (by omega) (by omega))
                                      refine A_ior hG dX12_goOver_305 ?_
                                      refine A_istore (L' := [(4, vI (ior n z302)), (0, .ref 500), (1, vI s), (2, vI a), (3, vI b), (5, vI (40 * (10 * a + b))), (6, vI m), (7, vI r), (8, vI (40 * (10 * a + m) + 4 * h.1 506 (5 * r + 1))), (9, vI (40 * (10 * m + b) + 4 * h.1 506 (5 * r + 2))), (10, vI y), (11, vI z)]) hG dX12_goOver_306 (by decide) rfl ?_
                                      refine A_iinc (L' := [(11, vI (z + 1)), (4, vI (ior n z302)), (0, .ref 500), (1, vI s), (2, vI a), (3, vI b), (5, vI (40 * (10 * a + b))), (6, vI m), (7, vI r), (8, vI (40 * (10 * a + m) + 4 * h.1 506 (5 * r + 1))), (9, vI (40 * (10 * m + b) + 4 * h.1 506 (5 * r + 2))), (10, vI y)]) hG 11 dX12_goOver_308 rfl (by decide) rfl ?_
                                      refine A_goto hG 215 dX12_goOver_311 (by decide) ?_
                                      refine A_sub hG [2, 3, 4, 5, 1, 6, 7, 8, 9, 10, 11, 0] rfl ?_
                                      exact ih_z (z + 1) (ior n z302) f302 (by omega) (gJ_s hI (by omega) (by omega) (by omega) (by omega) hn302 hz302 hU302) (fun q => hC (by have i1 := ior01 hI.1 (z01 hz302); omega)) (fun q m' r' y' z' a1 a2 a3 a4 a5 a6 a7 a8 a9 => by
                                          have i1 := ior01 hI.1 (z01 hz302)
                                          by_cases hq : m' = m ∧ r' = r ∧ y' = y ∧ z' = z
                                          · obtain ⟨rfl, rfl, rfl, rfl⟩ := hq
                                            have e0 := hI.2.2.2.2.1 (by omega)
                                            have j1 := ch0 hz302 (by omega)
                                            rw [e0, e0, e0] at j1
                                            intro hc
                                            rw [er.1, er.2.1, er.2.2.1, er.2.2.2.2]
                                            rw [if_neg c_270]
                                            unfold tR
                                            rw [Int.add_assoc, Int.add_assoc, Int.add_assoc] at j1
                                            exact j1
                                          · exact hP (by omega) m' r' y' z' a1 a2 a3 a4 a5 a6 a7 a8 (by omega)) (by omega)
                                    ·
                                      refine A_iload hG 10 dX12_goOver_273 rfl ?_
                                      refine A_goto hG 280 dX12_goOver_275 (by decide) ?_
                                      refine A_iadd hG dX12_goOver_280 ?_
                                      have u1 := hI.2.1 (40 * (10 * a + m) + 4 * h.1 506 (5 * r + 1) + y)
                                      have t1 := hT (40 * (10 * a + m) + 4 * h.1 506 (5 * r + 1) + y) (by omega) (by omega)
                                      have u2 := hI.2.1 (40 * (10 * m + b) + 4 * h.1 506 (5 * r + 2) + z)
                                      have t2 := hT (40 * (10 * m + b) + 4 * h.1 506 (5 * r + 2) + z) (by omega) (by omega)
                                      have v1 := hI.2.2.2.1 (40 * (10 * a + m) + 4 * h.1 506 (5 * r + 1) + y) (by omega) (by omega)
                                      have v2 := hI.2.2.2.1 (40 * (10 * m + b) + 4 * h.1 506 (5 * r + 2) + z) (by omega) (by omega)
                                      refine A_aload_n hG 0 dX12_goOver_281 rfl rfl ?_
                                      refine A_getR (r := 520) hG dX12_goOver_282 fl_X12_56 (by decide) k500 (by decide) rfl ?_
                                      refine A_iload hG 8 dX12_goOver_285 rfl ?_
                                      refine A_iload hG 10 dX12_goOver_287 rfl ?_
                                      refine A_iadd hG dX12_goOver_289 ?_
                                      refine M_iald (v := f ((40 * (10 * a + m) + 4 * h.1 506 (5 * r + 1)) + y)) hG dX12_goOver_290 k520 n520 (by omega) rfl (fun ⟨ra_290, rb_290⟩ => ?_)
                                      refine A_aload_n hG 0 dX12_goOver_291 rfl rfl ?_
                                      refine A_getR (r := 520) hG dX12_goOver_292 fl_X12_56 (by decide) k500 (by decide) rfl ?_
                                      refine A_iload hG 9 dX12_goOver_295 rfl ?_
                                      refine A_iload hG 11 dX12_goOver_297 rfl ?_
                                      refine A_iadd hG dX12_goOver_299 ?_
                                      refine M_iald (v := f ((40 * (10 * m + b) + 4 * h.1 506 (5 * r + 2)) + z)) hG dX12_goOver_300 k520 n520 (by omega) rfl (fun ⟨ra_300, rb_300⟩ => ?_)
                                      refine A_iadd hG dX12_goOver_301 ?_
                                      refine C_Vi (as := [vI (((40 * (10 * a + b)) + (4 * (h.1 506 (5 * r)))) + y), vI ((f ((40 * (10 * a + m) + 4 * h.1 506 (5 * r + 1)) + y)) + (f ((40 * (10 * m + b) + 4 * h.1 506 (5 * r + 2)) + z)))]) (st := [vI n]) (k := 500) (c := 11) hG dX12_goOver_302 ml_X12_174 mf_X12_cheaper mi_X12_cheaper se_X12_cheaper rfl (by decide) k500 (r_cheaper (hm h [(520, f)] [] []) (p := (((40 * (10 * a + b)) + (4 * (h.1 506 (5 * r)))) + y)) (v := ((f ((40 * (10 * a + m) + 4 * h.1 506 (5 * r + 1)) + y)) + (f ((40 * (10 * m + b) + 4 * h.1 506 (5 * r + 2)) + z)))) (by omega) (by constructor <;> omega)) (by decide) (by decide) rfl rfl (Nat.le_of_ble_eq_true rfl) (fun z302 g302 ri_302 hp_302 => ?_)
                                      obtain ⟨ra_302, rb_302⟩ := ri_302
                                      have hq_302 : ∃ fx : Int → Int, ((∀ i, i ≠ (((40 * (10 * a + b)) + (4 * (h.1 506 (5 * r)))) + y) → fx i = f i) ∧ ((z302 = 0 ∧ f (((40 * (10 * a + b)) + (4 * (h.1 506 (5 * r)))) + y) ≤ ((f ((40 * (10 * a + m) + 4 * h.1 506 (5 * r + 1)) + y)) + (f ((40 * (10 * m + b) + 4 * h.1 506 (5 * r + 2)) + z))) ∧ fx (((40 * (10 * a + b)) + (4 * (h.1 506 (5 * r)))) + y) = f (((40 * (10 * a + b)) + (4 * (h.1 506 (5 * r)))) + y)) ∨ (z302 = 1 ∧ ((f ((40 * (10 * a + m) + 4 * h.1 506 (5 * r + 1)) + y)) + (f ((40 * (10 * m + b) + 4 * h.1 506 (5 * r + 2)) + z))) < f (((40 * (10 * a + b)) + (4 * (h.1 506 (5 * r)))) + y) ∧ fx (((40 * (10 * a + b)) + (4 * (h.1 506 (5 * r)))) + y) = ((f ((40 * (10 * a + m) + 4 * h.1 506 (5 * r + 1)) + y)) + (f ((40 * (10 * m + b) + 4 * h.1 506 (5 * r + 2)) + z)))))) ∧ g302 = hm (hm h [(520, f)] [] []) [(520, fx)] [] [] := hp_302
                                      obtain ⟨f302, ⟨hn302, hz302⟩, rfl⟩ := hq_302
                                      refine A_hm (la := [(520, f302)]) (lb := []) (lc := []) rfl rfl rfl ?_
                                      have hU302 : ∀ U, clsd (gR h) (h.1 521) (hasb (h.1 510 s)) (rowR h s) (h.1 508 s) 100000 U → belowP Pc (h.1 508 s) U (tR f) → U a b (((40 * (10 * a + b) + 4 * h.1 506 (5 * r)) + y) - 40 * (10 * a + b)) ≤ f (40 * (10 * a + m) + 4 * h.1 506 (5 * r + 1) + y) + f (40 * (10 * m + b) + 4 * h.1 506 (5 * r + 2) + z) := fun U hc hb => by
                                        have g0 := (hc a b (by omega) (by omega) (by omega)).2.2.2.2 m (by omega) (by omega) r (by omega) (by rw [(gR_n h).2]; omega) y z (by omega) (by omega) (by omega) (by omega) (by rw [er.2.2.2.1]; omega)
                                        rw [er.1, er.2.1, er.2.2.1, er.2.2.2.2, if_pos c_270] at g0
                                        have g1 := hb a m (4 * h.1 506 (5 * r + 1) + y) (by omega) (by omega) (by omega) (hPc _ _ (by omega) (by omega) (by omega)) (by omega) (by omega)
                                        have g2 := hb m b (4 * h.1 506 (5 * r + 2) + z) (by omega) (by omega) (by omega) (hPc _ _ (by omega) (by omega) (by omega)) (by omega) (by omega)
                                        unfold tR at g1 g2
                                        rw [← Int.add_assoc] at g1 g2
                                        rw [show ((40 * (10 * a + b) + 4 * h.1 506 (5 * r)) + y) - 40 * (10 * a + b) = 4 * h.1 506 (5 * r) + y by omega]
                                        exact Int.le_trans g0 (Int.add_le_add g1 g2)
                                      have hv302 : 0 ≤ f (40 * (10 * a + m) + 4 * h.1 506 (5 * r + 1) + y) + f (40 * (10 * m + b) + 4 * h.1 506 (5 * r + 2) + z) := Int.add_nonneg (hI.2.2.2.1 _ (by omega) (by omega)) (hI.2.2.2.1 _ (by omega) (by omega))
                                      refine A_ior hG dX12_goOver_305 ?_
                                      refine A_istore (L' := [(4, vI (ior n z302)), (0, .ref 500), (1, vI s), (2, vI a), (3, vI b), (5, vI (40 * (10 * a + b))), (6, vI m), (7, vI r), (8, vI (40 * (10 * a + m) + 4 * h.1 506 (5 * r + 1))), (9, vI (40 * (10 * m + b) + 4 * h.1 506 (5 * r + 2))), (10, vI y), (11, vI z)]) hG dX12_goOver_306 (by decide) rfl ?_
                                      refine A_iinc (L' := [(11, vI (z + 1)), (4, vI (ior n z302)), (0, .ref 500), (1, vI s), (2, vI a), (3, vI b), (5, vI (40 * (10 * a + b))), (6, vI m), (7, vI r), (8, vI (40 * (10 * a + m) + 4 * h.1 506 (5 * r + 1))), (9, vI (40 * (10 * m + b) + 4 * h.1 506 (5 * r + 2))), (10, vI y)]) hG 11 dX12_goOver_308 rfl (by decide) rfl ?_
                                      refine A_goto hG 215 dX12_goOver_311 (by decide) ?_
                                      refine A_sub hG [2, 3, 4, 5, 1, 6, 7, 8, 9, 10, 11, 0] rfl ?_
                                      exact ih_z (z + 1) (ior n z302) f302 (by omega) (gJ_s hI (by omega) (by omega) (by omega) (by omega) hn302 hz302 hU302) (fun q => hC (by have i1 := ior01 hI.1 (z01 hz302); omega)) (fun q m' r' y' z' a1 a2 a3 a4 a5 a6 a7 a8 a9 => by
                                          have i1 := ior01 hI.1 (z01 hz302)
                                          by_cases hq : m' = m ∧ r' = r ∧ y' = y ∧ z' = z
                                          · obtain ⟨rfl, rfl, rfl, rfl⟩ := hq
                                            have e0 := hI.2.2.2.2.1 (by omega)
                                            have j1 := ch0 hz302 (by omega)
                                            rw [e0, e0, e0] at j1
                                            intro hc
                                            rw [er.1, er.2.1, er.2.2.1, er.2.2.2.2]
                                            rw [if_pos c_270]
                                            unfold tR
                                            rw [Int.add_assoc, Int.add_assoc, Int.add_assoc] at j1
                                            exact j1
                                          · exact hP (by omega) m' r' y' z' a1 a2 a3 a4 a5 a6 a7 a8 (by omega)) (by omega)
                                  ·
                                    refine A_iload hG 10 dX12_goOver_235 rfl ?_
                                    refine A_iload hG 11 dX12_goOver_237 rfl ?_
                                    refine A_icmp_ne hG 308 dX12_goOver_239 (by decide) (by constructor <;> omega) (by constructor <;> omega) (fun c_239 => ?_) (fun c_239 => ?_)
                                    ·
                                      refine A_iinc (L' := [(11, vI (z + 1)), (0, .ref 500), (1, vI s), (2, vI a), (3, vI b), (4, vI n), (5, vI (40 * (10 * a + b))), (6, vI m), (7, vI r), (8, vI (40 * (10 * a + m) + 4 * h.1 506 (5 * r + 1))), (9, vI (40 * (10 * m + b) + 4 * h.1 506 (5 * r + 2))), (10, vI y)]) hG 11 dX12_goOver_308 rfl (by decide) rfl ?_
                                      refine A_goto hG 215 dX12_goOver_311 (by decide) ?_
                                      refine A_sub hG [1, 2, 3, 4, 5, 6, 7, 8, 9, 10, 11, 0] rfl ?_
                                      exact ih_z (z + 1) n f (by omega) hI hC (fun q m' r' y' z' a1 a2 a3 a4 a5 a6 a7 a8 a9 => by
                                          by_cases hq : m' = m ∧ r' = r ∧ y' = y ∧ z' = z
                                          · obtain ⟨rfl, rfl, rfl, rfl⟩ := hq
                                            intro hc
                                            rw [er.2.2.2.1] at hc
                                            omega
                                          · exact hP q m' r' y' z' a1 a2 a3 a4 a5 a6 a7 a8 (by omega)) (by omega)
                                    ·
                                      refine A_iload hG 4 dX12_goOver_242 rfl ?_
                                      refine A_aload_n hG 0 dX12_goOver_244 rfl rfl ?_
                                      refine A_iload hG 5 dX12_goOver_245 rfl ?_
                                      refine A_iconst (n := 4) hG dX12_goOver_247 ?_
                                      refine A_aload_n hG 0 dX12_goOver_248 rfl rfl ?_
                                      refine A_getR (r := 506) hG dX12_goOver_249 fl_X12_22 (by decide) k500 (by decide) rfl ?_
                                      refine A_iconst (n := 5) hG dX12_goOver_252 ?_
                                      refine A_iload hG 7 dX12_goOver_253 rfl ?_
                                      refine A_imul hG dX12_goOver_255 ?_
                                      refine M_iald (v := h.1 506 (5 * r)) hG dX12_goOver_256 k506 n506 (by omega) rfl (fun ⟨ra_256, rb_256⟩ => ?_)
                                      refine A_imul hG dX12_goOver_257 ?_
                                      refine A_iadd hG dX12_goOver_258 ?_
                                      refine A_aload_n hG 0 dX12_goOver_259 rfl rfl ?_
                                      refine A_getR (r := 506) hG dX12_goOver_260 fl_X12_22 (by decide) k500 (by decide) rfl ?_
                                      refine A_iconst (n := 5) hG dX12_goOver_263 ?_
                                      refine A_iload hG 7 dX12_goOver_264 rfl ?_
                                      refine A_imul hG dX12_goOver_266 ?_
                                      refine A_iconst (n := 4) hG dX12_goOver_267 ?_
                                      refine A_iadd hG dX12_goOver_268 ?_
                                      refine M_iald (v := h.1 506 ((5 * r) + 4)) hG dX12_goOver_269 k506 n506 (by omega) rfl (fun ⟨ra_269, rb_269⟩ => ?_)
                                      refine A_if_ne hG 278 dX12_goOver_270 (by decide) (by constructor <;> omega) (fun c_270 => ?_) (fun c_270 => ?_)
                                      ·
                                        refine A_iload hG 11 dX12_goOver_278 rfl ?_
                                        refine A_iadd hG dX12_goOver_280 ?_
                                        have u1 := hI.2.1 (40 * (10 * a + m) + 4 * h.1 506 (5 * r + 1) + y)
                                        have t1 := hT (40 * (10 * a + m) + 4 * h.1 506 (5 * r + 1) + y) (by omega) (by omega)
                                        have u2 := hI.2.1 (40 * (10 * m + b) + 4 * h.1 506 (5 * r + 2) + z)
                                        have t2 := hT (40 * (10 * m + b) + 4 * h.1 506 (5 * r + 2) + z) (by omega) (by omega)
                                        have v1 := hI.2.2.2.1 (40 * (10 * a + m) + 4 * h.1 506 (5 * r + 1) + y) (by omega) (by omega)
                                        have v2 := hI.2.2.2.1 (40 * (10 * m + b) + 4 * h.1 506 (5 * r + 2) + z) (by omega) (by omega)
                                        refine A_aload_n hG 0 dX12_goOver_281 rfl rfl ?_
                                        refine A_getR (r := 520) hG dX12_goOver_282 fl_X12_56 (by decide) k500 (by decide) rfl ?_
                                        refine A_iload hG 8 dX12_goOver_285 rfl ?_
                                        refine A_iload hG 10 dX12_goOver_287 rfl ?_
                                        refine A_iadd hG dX12_goOver_289 ?_
                                        refine M_iald (v := f ((40 * (10 * a + m) + 4 * h.1 506 (5 * r + 1)) + y)) hG dX12_goOver_290 k520 n520 (by omega) rfl (fun ⟨ra_290, rb_290⟩ => ?_)
                                        refine A_aload_n hG 0 dX12_goOver_291 rfl rfl ?_
                                        refine A_getR (r := 520) hG dX12_goOver_292 fl_X12_56 (by decide) k500 (by decide) rfl ?_
                                        refine A_iload hG 9 dX12_goOver_295 rfl ?_
                                        refine A_iload hG 11 dX12_goOver_297 rfl ?_
                                        refine A_iadd hG dX12_goOver_299 ?_
                                        refine M_iald (v := f ((40 * (10 * m + b) + 4 * h.1 506 (5 * r + 2)) + z)) hG dX12_goOver_300 k520 n520 (by omega) rfl (fun ⟨ra_300, rb_300⟩ => ?_)
                                        refine A_iadd hG dX12_goOver_301 ?_
                                        refine C_Vi (as := [vI (((40 * (10 * a + b)) + (4 * (h.1 506 (5 * r)))) + z), vI ((f ((40 * (10 * a + m) + 4 * h.1 506 (5 * r + 1)) + y)) + (f ((40 * (10 * m + b) + 4 * h.1 506 (5 * r + 2)) + z)))]) (st := [vI n]) (k := 500) (c := 11) hG dX12_goOver_302 ml_X12_174 mf_X12_cheaper mi_X12_cheaper se_X12_cheaper rfl (by decide) k500 (r_cheaper (hm h [(520, f)] [] []) (p := (((40 * (10 * a + b)) + (4 * (h.1 506 (5 * r)))) + z)) (v := ((f ((40 * (10 * a + m) + 4 * h.1 506 (5 * r + 1)) + y)) + (f ((40 * (10 * m + b) + 4 * h.1 506 (5 * r + 2)) + z)))) (by omega) (by constructor <;> omega)) (by decide) (by decide) rfl rfl (Nat.le_of_ble_eq_true rfl) (fun z302 g302 ri_302 hp_302 => ?_)
                                        obtain ⟨ra_302, rb_302⟩ := ri_302
                                        have hq_302 : ∃ fx : Int → Int, ((∀ i, i ≠ (((40 * (10 * a + b)) + (4 * (h.1 506 (5 * r)))) + z) → fx i = f i) ∧ ((z302 = 0 ∧ f (((40 * (10 * a + b)) + (4 * (h.1 506 (5 * r)))) + z) ≤ ((f ((40 * (10 * a + m) + 4 * h.1 506 (5 * r + 1)) + y)) + (f ((40 * (10 * m + b) + 4 * h.1 506 (5 * r + 2)) + z))) ∧ fx (((40 * (10 * a + b)) + (4 * (h.1 506 (5 * r)))) + z) = f (((40 * (10 * a + b)) + (4 * (h.1 506 (5 * r)))) + z)) ∨ (z302 = 1 ∧ ((f ((40 * (10 * a + m) + 4 * h.1 506 (5 * r + 1)) + y)) + (f ((40 * (10 * m + b) + 4 * h.1 506 (5 * r + 2)) + z))) < f (((40 * (10 * a + b)) + (4 * (h.1 506 (5 * r)))) + z) ∧ fx (((40 * (10 * a + b)) + (4 * (h.1 506 (5 * r)))) + z) = ((f ((40 * (10 * a + m) + 4 * h.1 506 (5 * r + 1)) + y)) + (f ((40 * (10 * m + b) + 4 * h.1 506 (5 * r + 2)) + z)))))) ∧ g302 = hm (hm h [(520, f)] [] []) [(520, fx)] [] [] := hp_302
                                        obtain ⟨f302, ⟨hn302, hz302⟩, rfl⟩ := hq_302
                                        refine A_hm (la := [(520, f302)]) (lb := []) (lc := []) rfl rfl rfl ?_
                                        have hU302 : ∀ U, clsd (gR h) (h.1 521) (hasb (h.1 510 s)) (rowR h s) (h.1 508 s) 100000 U → belowP Pc (h.1 508 s) U (tR f) → U a b (((40 * (10 * a + b) + 4 * h.1 506 (5 * r)) + z) - 40 * (10 * a + b)) ≤ f (40 * (10 * a + m) + 4 * h.1 506 (5 * r + 1) + y) + f (40 * (10 * m + b) + 4 * h.1 506 (5 * r + 2) + z) := fun U hc hb => by
                                          have g0 := (hc a b (by omega) (by omega) (by omega)).2.2.2.2 m (by omega) (by omega) r (by omega) (by rw [(gR_n h).2]; omega) y z (by omega) (by omega) (by omega) (by omega) (by rw [er.2.2.2.1]; omega)
                                          rw [er.1, er.2.1, er.2.2.1, er.2.2.2.2, if_neg c_270] at g0
                                          have g1 := hb a m (4 * h.1 506 (5 * r + 1) + y) (by omega) (by omega) (by omega) (hPc _ _ (by omega) (by omega) (by omega)) (by omega) (by omega)
                                          have g2 := hb m b (4 * h.1 506 (5 * r + 2) + z) (by omega) (by omega) (by omega) (hPc _ _ (by omega) (by omega) (by omega)) (by omega) (by omega)
                                          unfold tR at g1 g2
                                          rw [← Int.add_assoc] at g1 g2
                                          rw [show ((40 * (10 * a + b) + 4 * h.1 506 (5 * r)) + z) - 40 * (10 * a + b) = 4 * h.1 506 (5 * r) + z by omega]
                                          exact Int.le_trans g0 (Int.add_le_add g1 g2)
                                        have hv302 : 0 ≤ f (40 * (10 * a + m) + 4 * h.1 506 (5 * r + 1) + y) + f (40 * (10 * m + b) + 4 * h.1 506 (5 * r + 2) + z) := Int.add_nonneg (hI.2.2.2.1 _ (by omega) (by omega)) (hI.2.2.2.1 _ (by omega) (by omega))
                                        refine A_ior hG dX12_goOver_305 ?_
                                        refine A_istore (L' := [(4, vI (ior n z302)), (0, .ref 500), (1, vI s), (2, vI a), (3, vI b), (5, vI (40 * (10 * a + b))), (6, vI m), (7, vI r), (8, vI (40 * (10 * a + m) + 4 * h.1 506 (5 * r + 1))), (9, vI (40 * (10 * m + b) + 4 * h.1 506 (5 * r + 2))), (10, vI y), (11, vI z)]) hG dX12_goOver_306 (by decide) rfl ?_
                                        refine A_iinc (L' := [(11, vI (z + 1)), (4, vI (ior n z302)), (0, .ref 500), (1, vI s), (2, vI a), (3, vI b), (5, vI (40 * (10 * a + b))), (6, vI m), (7, vI r), (8, vI (40 * (10 * a + m) + 4 * h.1 506 (5 * r + 1))), (9, vI (40 * (10 * m + b) + 4 * h.1 506 (5 * r + 2))), (10, vI y)]) hG 11 dX12_goOver_308 rfl (by decide) rfl ?_
                                        refine A_goto hG 215 dX12_goOver_311 (by decide) ?_
                                        refine A_sub hG [2, 3, 4, 5, 1, 6, 7, 8, 9, 10, 11, 0] rfl ?_
                                        exact ih_z (z + 1) (ior n z302) f302 (by omega) (gJ_s hI (by omega) (by omega) (by omega) (by omega) hn302 hz302 hU302) (fun q => hC (by have i1 := ior01 hI.1 (z01 hz302); omega)) (fun q m' r' y' z' a1 a2 a3 a4 a5 a6 a7 a8 a9 => by
                                            have i1 := ior01 hI.1 (z01 hz302)
                                            by_cases hq : m' = m ∧ r' = r ∧ y' = y ∧ z' = z
                                            · obtain ⟨rfl, rfl, rfl, rfl⟩ := hq
                                              have e0 := hI.2.2.2.2.1 (by omega)
                                              have j1 := ch0 hz302 (by omega)
                                              rw [e0, e0, e0] at j1
                                              intro hc
                                              rw [er.1, er.2.1, er.2.2.1, er.2.2.2.2]
                                              rw [if_neg c_270]
                                              unfold tR
                                              rw [Int.add_assoc, Int.add_assoc, Int.add_assoc] at j1
                                              exact j1
                                            · exact hP (by omega) m' r' y' z' a1 a2 a3 a4 a5 a6 a7 a8 (by omega)) (by omega)
                                      ·
                                        refine A_iload hG 10 dX12_goOver_273 rfl ?_
                                        refine A_goto hG 280 dX12_goOver_275 (by decide) ?_
                                        refine A_iadd hG dX12_goOver_280 ?_
                                        have u1 := hI.2.1 (40 * (10 * a + m) + 4 * h.1 506 (5 * r + 1) + y)
                                        have t1 := hT (40 * (10 * a + m) + 4 * h.1 506 (5 * r + 1) + y) (by omega) (by omega)
                                        have u2 := hI.2.1 (40 * (10 * m + b) + 4 * h.1 506 (5 * r + 2) + z)
                                        have t2 := hT (40 * (10 * m + b) + 4 * h.1 506 (5 * r + 2) + z) (by omega) (by omega)
                                        have v1 := hI.2.2.2.1 (40 * (10 * a + m) + 4 * h.1 506 (5 * r + 1) + y) (by omega) (by omega)
                                        have v2 := hI.2.2.2.1 (40 * (10 * m + b) + 4 * h.1 506 (5 * r + 2) + z) (by omega) (by omega)
                                        refine A_aload_n hG 0 dX12_goOver_281 rfl rfl ?_
                                        refine A_getR (r := 520) hG dX12_goOver_282 fl_X12_56 (by decide) k500 (by decide) rfl ?_
                                        refine A_iload hG 8 dX12_goOver_285 rfl ?_
                                        refine A_iload hG 10 dX12_goOver_287 rfl ?_
                                        refine A_iadd hG dX12_goOver_289 ?_
                                        refine M_iald (v := f ((40 * (10 * a + m) + 4 * h.1 506 (5 * r + 1)) + y)) hG dX12_goOver_290 k520 n520 (by omega) rfl (fun ⟨ra_290, rb_290⟩ => ?_)
                                        refine A_aload_n hG 0 dX12_goOver_291 rfl rfl ?_
                                        refine A_getR (r := 520) hG dX12_goOver_292 fl_X12_56 (by decide) k500 (by decide) rfl ?_
                                        refine A_iload hG 9 dX12_goOver_295 rfl ?_
                                        refine A_iload hG 11 dX12_goOver_297 rfl ?_
                                        refine A_iadd hG dX12_goOver_299 ?_
                                        refine M_iald (v := f ((40 * (10 * m + b) + 4 * h.1 506 (5 * r + 2)) + z)) hG dX12_goOver_300 k520 n520 (by omega) rfl (fun ⟨ra_300, rb_300⟩ => ?_)
                                        refine A_iadd hG dX12_goOver_301 ?_
                                        refine C_Vi (as := [vI (((40 * (10 * a + b)) + (4 * (h.1 506 (5 * r)))) + y), vI ((f ((40 * (10 * a + m) + 4 * h.1 506 (5 * r + 1)) + y)) + (f ((40 * (10 * m + b) + 4 * h.1 506 (5 * r + 2)) + z)))]) (st := [vI n]) (k := 500) (c := 11) hG dX12_goOver_302 ml_X12_174 mf_X12_cheaper mi_X12_cheaper se_X12_cheaper rfl (by decide) k500 (r_cheaper (hm h [(520, f)] [] []) (p := (((40 * (10 * a + b)) + (4 * (h.1 506 (5 * r)))) + y)) (v := ((f ((40 * (10 * a + m) + 4 * h.1 506 (5 * r + 1)) + y)) + (f ((40 * (10 * m + b) + 4 * h.1 506 (5 * r + 2)) + z)))) (by omega) (by constructor <;> omega)) (by decide) (by decide) rfl rfl (Nat.le_of_ble_eq_true rfl) (fun z302 g302 ri_302 hp_302 => ?_)
                                        obtain ⟨ra_302, rb_302⟩ := ri_302
                                        have hq_302 : ∃ fx : Int → Int, ((∀ i, i ≠ (((40 * (10 * a + b)) + (4 * (h.1 506 (5 * r)))) + y) → fx i = f i) ∧ ((z302 = 0 ∧ f (((40 * (10 * a + b)) + (4 * (h.1 506 (5 * r)))) + y) ≤ ((f ((40 * (10 * a + m) + 4 * h.1 506 (5 * r + 1)) + y)) + (f ((40 * (10 * m + b) + 4 * h.1 506 (5 * r + 2)) + z))) ∧ fx (((40 * (10 * a + b)) + (4 * (h.1 506 (5 * r)))) + y) = f (((40 * (10 * a + b)) + (4 * (h.1 506 (5 * r)))) + y)) ∨ (z302 = 1 ∧ ((f ((40 * (10 * a + m) + 4 * h.1 506 (5 * r + 1)) + y)) + (f ((40 * (10 * m + b) + 4 * h.1 506 (5 * r + 2)) + z))) < f (((40 * (10 * a + b)) + (4 * (h.1 506 (5 * r)))) + y) ∧ fx (((40 * (10 * a + b)) + (4 * (h.1 506 (5 * r)))) + y) = ((f ((40 * (10 * a + m) + 4 * h.1 506 (5 * r + 1)) + y)) + (f ((40 * (10 * m + b) + 4 * h.1 506 (5 * r + 2)) + z)))))) ∧ g302 = hm (hm h [(520, f)] [] []) [(520, fx)] [] [] := hp_302
                                        obtain ⟨f302, ⟨hn302, hz302⟩, rfl⟩ := hq_302
                                        refine A_hm (la := [(520, f302)]) (lb := []) (lc := []) rfl rfl rfl ?_
                                        have hU302 : ∀ U, clsd (gR h) (h.1 521) (hasb (h.1 510 s)) (rowR h s) (h.1 508 s) 100000 U → belowP Pc (h.1 508 s) U (tR f) → U a b (((40 * (10 * a + b) + 4 * h.1 506 (5 * r)) + y) - 40 * (10 * a + b)) ≤ f (40 * (10 * a + m) + 4 * h.1 506 (5 * r + 1) + y) + f (40 * (10 * m + b) + 4 * h.1 506 (5 * r + 2) + z) := fun U hc hb => by
                                          have g0 := (hc a b (by omega) (by omega) (by omega)).2.2.2.2 m (by omega) (by omega) r (by omega) (by rw [(gR_n h).2]; omega) y z (by omega) (by omega) (by omega) (by omega) (by rw [er.2.2.2.1]; omega)
                                          rw [er.1, er.2.1, er.2.2.1, er.2.2.2.2, if_pos c_270] at g0
                                          have g1 := hb a m (4 * h.1 506 (5 * r + 1) + y) (by omega) (by omega) (by omega) (hPc _ _ (by omega) (by omega) (by omega)) (by omega) (by omega)
                                          have g2 := hb m b (4 * h.1 506 (5 * r + 2) + z) (by omega) (by omega) (by omega) (hPc _ _ (by omega) (by omega) (by omega)) (by omega) (by omega)
                                          unfold tR at g1 g2
                                          rw [← Int.add_assoc] at g1 g2
                                          rw [show ((40 * (10 * a + b) + 4 * h.1 506 (5 * r)) + y) - 40 * (10 * a + b) = 4 * h.1 506 (5 * r) + y by omega]
                                          exact Int.le_trans g0 (Int.add_le_add g1 g2)
                                        have hv302 : 0 ≤ f (40 * (10 * a + m) + 4 * h.1 506 (5 * r + 1) + y) + f (40 * (10 * m + b) + 4 * h.1 506 (5 * r + 2) + z) := Int.add_nonneg (hI.2.2.2.1 _ (by omega) (by omega)) (hI.2.2.2.1 _ (by omega) (by omega))
                                        refine A_ior hG dX12_goOver_305 ?_
                                        refine A_istore (L' := [(4, vI (ior n z302)), (0, .ref 500), (1, vI s), (2, vI a), (3, vI b), (5, vI (40 * (10 * a + b))), (6, vI m), (7, vI r), (8, vI (40 * (10 * a + m) + 4 * h.1 506 (5 * r + 1))), (9, vI (40 * (10 * m + b) + 4 * h.1 506 (5 * r + 2))), (10, vI y), (11, vI z)]) hG dX12_goOver_306 (by decide) rfl ?_
                                        refine A_iinc (L' := [(11, vI (z + 1)), (4, vI (ior n z302)), (0, .ref 500), (1, vI s), (2, vI a), (3, vI b), (5, vI (40 * (10 * a + b))), (6, vI m), (7, vI r), (8, vI (40 * (10 * a + m) + 4 * h.1 506 (5 * r + 1))), (9, vI (40 * (10 * m + b) + 4 * h.1 506 (5 * r + 2))), (10, vI y)]) hG 11 dX12_goOver_308 rfl (by decide) rfl ?_
                                        refine A_goto hG 215 dX12_goOver_311 (by decide) ?_
                                        refine A_sub hG [2, 3, 4, 5, 1, 6, 7, 8, 9, 10, 11, 0] rfl ?_
                                        exact ih_z (z + 1) (ior n z302) f302 (by omega) (gJ_s hI (by omega) (by omega) (by omega) (by omega) hn302 hz302 hU302) (fun q => hC (by have i1 := ior01 hI.1 (z01 hz302); omega)) (fun q m' r' y' z' a1 a2 a3 a4 a5 a6 a7 a8 a9 => by
                                            have i1 := ior01 hI.1 (z01 hz302)
                                            by_cases hq : m' = m ∧ r' = r ∧ y' = y ∧ z' = z
                                            · obtain ⟨rfl, rfl, rfl, rfl⟩ := hq
                                              have e0 := hI.2.2.2.2.1 (by omega)
                                              have j1 := ch0 hz302 (by omega)
                                              rw [e0, e0, e0] at j1
                                              intro hc
                                              rw [er.1, er.2.1, er.2.2.1, er.2.2.2.2]
                                              rw [if_pos c_270]
                                              unfold tR
                                              rw [Int.add_assoc, Int.add_assoc, Int.add_assoc] at j1
                                              exact j1
                                            · exact hP (by omega) m' r' y' z' a1 a2 a3 a4 a5 a6 a7 a8 (by omega)) (by omega)
                            refine A_sub hG [1, 2, 3, 4, 5, 6, 7, 8, 9, 10, 11, 0] rfl ?_
                            exact z_17 _ 0 n f (by omega) hI hC (fun q m' r' y' z' a1 a2 a3 a4 a5 a6 a7 a8 a9 => hP q m' r' y' z' a1 a2 a3 a4 a5 a6 a7 a8 (by omega)) (Nat.lt_succ_self _)
                      refine A_sub hG [3, 4, 5, 6, 7, 8, 9, 10, 2, 1, 0] rfl ?_
                      exact y_16 _ 0 n f (by omega) hI hC (fun q m' r' y' z' a1 a2 a3 a4 a5 a6 a7 a8 a9 => hP q m' r' y' z' a1 a2 a3 a4 a5 a6 a7 a8 (by omega)) (Nat.lt_succ_self _)
                refine A_sub hG [1, 2, 3, 4, 5, 6, 7, 0] rfl ?_
                exact r_13 _ 0 n f (by omega) hI hC (fun q m' r' y' z' a1 a2 a3 a4 a5 a6 a7 a8 a9 => hP q m' r' y' z' a1 a2 a3 a4 a5 a6 a7 a8 (by omega)) (Nat.lt_succ_self _)
          refine A_sub hG [1, 2, 3, 4, 5, 6, 0] rfl ?_
          exact m_12 _ a n f (by omega) hI (fun q hab k2 k3 k4 => hP q k2 k3 (by omega)) (fun q m' r' y' z' a1 a2 a3 a4 a5 a6 a7 a8 a9 => by omega) (Nat.lt_succ_self _)
        ·
          refine A_aload_n hG 0 dX12_goOver_26 rfl rfl ?_
          refine A_getR (r := 510) hG dX12_goOver_27 fl_X12_34 (by decide) k500 (by decide) rfl ?_
          refine A_iload_n hG 1 dX12_goOver_30 rfl rfl ?_
          refine M_iald (v := h.1 510 s) hG dX12_goOver_31 k510 n510 (by omega) rfl (fun ⟨ra_31, rb_31⟩ => ?_)
          refine A_iload_n hG 2 dX12_goOver_32 rfl rfl ?_
          refine C_Si (as := [vI (h.1 510 s), vI a]) (st := []) hG dX12_goOver_33 ml_X12_143 mf_X12_has ms_X12_has (r_has (hm h [(520, f)] [] []) (h.1 510 s) a) (by decide) (by decide) rfl rfl (Nat.le_of_ble_eq_true rfl) (fun z33 g33 ri_33 hp_33 => ?_)
          obtain ⟨ra_33, rb_33⟩ := ri_33
          obtain ⟨hz33, rfl⟩ := hp_33
          refine A_if_ne hG 76 dX12_goOver_36 (by decide) (by constructor <;> omega) (fun c_36 => ?_) (fun c_36 => ?_)
          ·
            refine A_aload_n hG 0 dX12_goOver_76 rfl rfl ?_
            refine A_getR (r := 510) hG dX12_goOver_77 fl_X12_34 (by decide) k500 (by decide) rfl ?_
            refine A_iload_n hG 1 dX12_goOver_80 rfl rfl ?_
            refine M_iald (v := h.1 510 s) hG dX12_goOver_81 k510 n510 (by omega) rfl (fun ⟨ra_81, rb_81⟩ => ?_)
            refine A_iload_n hG 3 dX12_goOver_82 rfl rfl ?_
            refine A_iconst (n := 1) hG dX12_goOver_83 ?_
            refine A_isub hG dX12_goOver_84 ?_
            refine C_Si (as := [vI (h.1 510 s), vI (b - 1)]) (st := []) hG dX12_goOver_85 ml_X12_143 mf_X12_has ms_X12_has (r_has (hm h [(520, f)] [] []) (h.1 510 s) (b - 1)) (by decide) (by decide) rfl rfl (Nat.le_of_ble_eq_true rfl) (fun z85 g85 ri_85 hp_85 => ?_)
            obtain ⟨ra_85, rb_85⟩ := ri_85
            obtain ⟨hz85, rfl⟩ := hp_85
            refine A_if_ne hG 128 dX12_goOver_88 (by decide) (by constructor <;> omega) (fun c_88 => ?_) (fun c_88 => ?_)
            ·
              refine A_iinc (L' := [(6, vI (k + 1)), (0, .ref 500), (1, vI s), (2, vI a), (3, vI b), (4, vI n), (5, vI (40 * (10 * a + b)))]) hG 6 dX12_goOver_128 rfl (by decide) rfl ?_
              refine A_goto hG 14 dX12_goOver_131 (by decide) ?_
              refine A_sub hG [1, 2, 3, 4, 5, 6, 0] rfl ?_
              exact ih_k (k + 1) n f (by omega) hI (fun q k2 k3 k4 => by
                  by_cases hk : k2 = k
                  · subst hk
                    have e0 := hI.2.2.2.2.1 (by omega)
                    exact ⟨fun q => absurd (has_yes hz33 c_36) q, fun q => absurd (has_yes hz85 c_88) q⟩
                  · exact hP (by omega) k2 k3 (by omega)) (by omega)
            ·
              refine A_iload hG 4 dX12_goOver_91 rfl ?_
              refine A_aload_n hG 0 dX12_goOver_93 rfl rfl ?_
              refine A_iload hG 5 dX12_goOver_94 rfl ?_
              refine A_iload hG 6 dX12_goOver_96 rfl ?_
              refine A_iadd hG dX12_goOver_98 ?_
              refine A_aload_n hG 0 dX12_goOver_99 rfl rfl ?_
              refine A_getR (r := 520) hG dX12_goOver_100 fl_X12_56 (by decide) k500 (by decide) rfl ?_
              refine A_aload_n hG 0 dX12_goOver_103 rfl rfl ?_
              refine A_iload_n hG 2 dX12_goOver_104 rfl rfl ?_
              refine A_iload_n hG 3 dX12_goOver_105 rfl rfl ?_
              refine A_iconst (n := 1) hG dX12_goOver_106 ?_
              refine A_isub hG dX12_goOver_107 ?_
              refine C_Vi (as := [vI a, vI (b - 1)]) (st := [.ref 520, vI ((40 * (10 * a + b)) + k), .ref 500, vI n]) (k := 500) (c := 11) hG dX12_goOver_108 ml_X12_167 mf_X12_costAt mi_X12_costAt se_X12_costAt rfl (by decide) k500 (r_costAt (hm h [(520, f)] [] []) (a := a) (b := (b - 1)) (by omega) (by omega)) (by decide) (by decide) rfl rfl (Nat.le_of_ble_eq_true rfl) (fun z108 g108 ri_108 hp_108 => ?_)
              obtain ⟨ra_108, rb_108⟩ := ri_108
              obtain ⟨rfl, rfl⟩ := hp_108
              refine A_iload hG 6 dX12_goOver_111 rfl ?_
              refine A_iadd hG dX12_goOver_113 ?_
              have u62b := hI.2.1 (40 * (10 * a + (b - 1)) + k)
              have t62b := hT (40 * (10 * a + (b - 1)) + k) (by omega) (by omega)
              have v62b := hI.2.2.2.1 (40 * (10 * a + (b - 1)) + k) (by omega) (by omega)
              skip
              refine M_iald (v := f ((40 * (10 * a + (b - 1))) + k)) hG dX12_goOver_114 k520 n520 (by omega) rfl (fun ⟨ra_114, rb_114⟩ => ?_)
              refine A_aload_n hG 0 dX12_goOver_115 rfl rfl ?_
              refine A_getR (r := 521) hG dX12_goOver_116 fl_X12_59 (by decide) k500 (by decide) rfl ?_
              refine A_iconst (n := 3) hG dX12_goOver_119 ?_
              refine M_iald (v := h.1 521 3) hG dX12_goOver_120 k521 n521 (by omega) rfl (fun ⟨ra_120, rb_120⟩ => ?_)
              refine A_iadd hG dX12_goOver_121 ?_
              refine C_Vi (as := [vI ((40 * (10 * a + b)) + k), vI ((f ((40 * (10 * a + (b - 1))) + k)) + (h.1 521 3))]) (st := [vI n]) (k := 500) (c := 11) hG dX12_goOver_122 ml_X12_174 mf_X12_cheaper mi_X12_cheaper se_X12_cheaper rfl (by decide) k500 (r_cheaper (hm h [(520, f)] [] []) (p := ((40 * (10 * a + b)) + k)) (v := ((f ((40 * (10 * a + (b - 1))) + k)) + (h.1 521 3))) (by omega) (by constructor <;> omega)) (by decide) (by decide) rfl rfl (Nat.le_of_ble_eq_true rfl) (fun z122 g122 ri_122 hp_122 => ?_)
              obtain ⟨ra_122, rb_122⟩ := ri_122
              have hq_122 : ∃ fx : Int → Int, ((∀ i, i ≠ ((40 * (10 * a + b)) + k) → fx i = f i) ∧ ((z122 = 0 ∧ f ((40 * (10 * a + b)) + k) ≤ ((f ((40 * (10 * a + (b - 1))) + k)) + (h.1 521 3)) ∧ fx ((40 * (10 * a + b)) + k) = f ((40 * (10 * a + b)) + k)) ∨ (z122 = 1 ∧ ((f ((40 * (10 * a + (b - 1))) + k)) + (h.1 521 3)) < f ((40 * (10 * a + b)) + k) ∧ fx ((40 * (10 * a + b)) + k) = ((f ((40 * (10 * a + (b - 1))) + k)) + (h.1 521 3))))) ∧ g122 = hm (hm h [(520, f)] [] []) [(520, fx)] [] [] := hp_122
              obtain ⟨f122, ⟨hn122, hz122⟩, rfl⟩ := hq_122
              refine A_hm (la := [(520, f122)]) (lb := []) (lc := []) rfl rfl rfl ?_
              refine A_ior hG dX12_goOver_125 ?_
              refine A_istore (L' := [(4, vI (ior n z122)), (0, .ref 500), (1, vI s), (2, vI a), (3, vI b), (5, vI (40 * (10 * a + b))), (6, vI k)]) hG dX12_goOver_126 (by decide) rfl ?_
              refine A_iinc (L' := [(6, vI (k + 1)), (4, vI (ior n z122)), (0, .ref 500), (1, vI s), (2, vI a), (3, vI b), (5, vI (40 * (10 * a + b)))]) hG 6 dX12_goOver_128 rfl (by decide) rfl ?_
              refine A_goto hG 14 dX12_goOver_131 (by decide) ?_
              refine A_sub hG [2, 3, 4, 5, 1, 6, 0] rfl ?_
              exact ih_k (k + 1) (ior n z122) f122 (by omega) (gJ_s hI (by omega) (by omega) (by omega) (by have := hI.2.2.2.1 (40 * (10 * a + (b - 1)) + k) (by omega) (by omega); omega) hn122 hz122 (fun U hc hb => Int.le_trans (((hc a b (by omega) (by omega) (by omega)).2.2.2.1 (by omega) _ (by omega) (by omega)).2 (has_no hz85 (by omega))) (by have := hb a (b - 1) k (by omega) (by omega) (by omega) (hPc _ _ (by omega) (by omega) (by omega)) (by omega) (by omega); rw [show 40 * (10 * a + b) + k - 40 * (10 * a + b) = k by omega]; unfold tR at this; omega))) (fun q k2 k3 k4 => by
                  by_cases hk : k2 = k
                  · subst hk
                    have i2 := ior01 (hI.1) (z01 hz122)
                    have e0 := hI.2.2.2.2.1 (by omega)
                    have j2 := ch0 hz122 (by omega)
                    rw [e0, e0] at j2
                    exact ⟨fun q => absurd (has_yes hz33 c_36) q, fun q => by unfold tR; omega⟩
                  · exact hP (by have i2 := ior01 (hI.1) (z01 hz122); omega) k2 k3 (by omega)) (by omega)
          ·
            refine A_iload hG 4 dX12_goOver_39 rfl ?_
            refine A_aload_n hG 0 dX12_goOver_41 rfl rfl ?_
            refine A_iload hG 5 dX12_goOver_42 rfl ?_
            refine A_iload hG 6 dX12_goOver_44 rfl ?_
            refine A_iadd hG dX12_goOver_46 ?_
            refine A_aload_n hG 0 dX12_goOver_47 rfl rfl ?_
            refine A_getR (r := 520) hG dX12_goOver_48 fl_X12_56 (by decide) k500 (by decide) rfl ?_
            refine A_aload_n hG 0 dX12_goOver_51 rfl rfl ?_
            refine A_iload_n hG 2 dX12_goOver_52 rfl rfl ?_
            refine A_iconst (n := 1) hG dX12_goOver_53 ?_
            refine A_iadd hG dX12_goOver_54 ?_
            refine A_iload_n hG 3 dX12_goOver_55 rfl rfl ?_
            refine C_Vi (as := [vI (a + 1), vI b]) (st := [.ref 520, vI ((40 * (10 * a + b)) + k), .ref 500, vI n]) (k := 500) (c := 11) hG dX12_goOver_56 ml_X12_167 mf_X12_costAt mi_X12_costAt se_X12_costAt rfl (by decide) k500 (r_costAt (hm h [(520, f)] [] []) (a := (a + 1)) (b := b) (by omega) (by omega)) (by decide) (by decide) rfl rfl (Nat.le_of_ble_eq_true rfl) (fun z56 g56 ri_56 hp_56 => ?_)
            obtain ⟨ra_56, rb_56⟩ := ri_56
            obtain ⟨rfl, rfl⟩ := hp_56
            refine A_iload hG 6 dX12_goOver_59 rfl ?_
            refine A_iadd hG dX12_goOver_61 ?_
            have u62 := hI.2.1 (40 * (10 * (a + 1) + b) + k)
            have t62 := hT (40 * (10 * (a + 1) + b) + k) (by omega) (by omega)
            have v62 := hI.2.2.2.1 (40 * (10 * (a + 1) + b) + k) (by omega) (by omega)
            refine M_iald (v := f ((40 * (10 * (a + 1) + b)) + k)) hG dX12_goOver_62 k520 n520 (by omega) rfl (fun ⟨ra_62, rb_62⟩ => ?_)
            refine A_aload_n hG 0 dX12_goOver_63 rfl rfl ?_
            refine A_getR (r := 521) hG dX12_goOver_64 fl_X12_59 (by decide) k500 (by decide) rfl ?_
            refine A_iconst (n := 3) hG dX12_goOver_67 ?_
            refine M_iald (v := h.1 521 3) hG dX12_goOver_68 k521 n521 (by omega) rfl (fun ⟨ra_68, rb_68⟩ => ?_)
            refine A_iadd hG dX12_goOver_69 ?_
            refine C_Vi (as := [vI ((40 * (10 * a + b)) + k), vI ((f ((40 * (10 * (a + 1) + b)) + k)) + (h.1 521 3))]) (st := [vI n]) (k := 500) (c := 11) hG dX12_goOver_70 ml_X12_174 mf_X12_cheaper mi_X12_cheaper se_X12_cheaper rfl (by decide) k500 (r_cheaper (hm h [(520, f)] [] []) (p := ((40 * (10 * a + b)) + k)) (v := ((f ((40 * (10 * (a + 1) + b)) + k)) + (h.1 521 3))) (by omega) (by constructor <;> omega)) (by decide) (by decide) rfl rfl (Nat.le_of_ble_eq_true rfl) (fun z70 g70 ri_70 hp_70 => ?_)
            obtain ⟨ra_70, rb_70⟩ := ri_70
            have hq_70 : ∃ fx : Int → Int, ((∀ i, i ≠ ((40 * (10 * a + b)) + k) → fx i = f i) ∧ ((z70 = 0 ∧ f ((40 * (10 * a + b)) + k) ≤ ((f ((40 * (10 * (a + 1) + b)) + k)) + (h.1 521 3)) ∧ fx ((40 * (10 * a + b)) + k) = f ((40 * (10 * a + b)) + k)) ∨ (z70 = 1 ∧ ((f ((40 * (10 * (a + 1) + b)) + k)) + (h.1 521 3)) < f ((40 * (10 * a + b)) + k) ∧ fx ((40 * (10 * a + b)) + k) = ((f ((40 * (10 * (a + 1) + b)) + k)) + (h.1 521 3))))) ∧ g70 = hm (hm h [(520, f)] [] []) [(520, fx)] [] [] := hp_70
            obtain ⟨f70, ⟨hn70, hz70⟩, rfl⟩ := hq_70
            refine A_hm (la := [(520, f70)]) (lb := []) (lc := []) rfl rfl rfl ?_
            refine A_ior hG dX12_goOver_73 ?_
            refine A_istore (L' := [(4, vI (ior n z70)), (0, .ref 500), (1, vI s), (2, vI a), (3, vI b), (5, vI (40 * (10 * a + b))), (6, vI k)]) hG dX12_goOver_74 (by decide) rfl ?_
            refine A_aload_n hG 1 dX12_goOver_76 rfl rfl ?_
            refine A_getR (r := 510) hG dX12_goOver_77 fl_X12_34 (by decide) k500 (by decide) rfl ?_
            refine A_iload_n hG 2 dX12_goOver_80 rfl rfl ?_
            refine M_iald (v := h.1 510 s) hG dX12_goOver_81 k510 n510 (by omega) rfl (fun ⟨ra_81, rb_81⟩ => ?_)
            refine A_iload_n hG 4 dX12_goOver_82 rfl rfl ?_
            refine A_iconst (n := 1) hG dX12_goOver_83 ?_
            refine A_isub hG dX12_goOver_84 ?_
            refine C_Si (as := [vI (h.1 510 s), vI (b - 1)]) (st := []) hG dX12_goOver_85 ml_X12_143 mf_X12_has ms_X12_has (r_has (hm h [(520, f70)] [] []) (h.1 510 s) (b - 1)) (by decide) (by decide) rfl rfl (Nat.le_of_ble_eq_true rfl) (fun z85 g85 ri_85 hp_85 => ?_)
            obtain ⟨ra_85, rb_85⟩ := ri_85
            obtain ⟨hz85, rfl⟩ := hp_85
            refine A_if_ne hG 128 dX12_goOver_88 (by decide) (by constructor <;> omega) (fun c_88 => ?_) (fun c_88 => ?_)
            ·
              refine A_iinc (L' := [(6, vI (k + 1)), (4, vI (ior n z70)), (0, .ref 500), (1, vI s), (2, vI a), (3, vI b), (5, vI (40 * (10 * a + b)))]) hG 6 dX12_goOver_128 rfl (by decide) rfl ?_
              refine A_goto hG 14 dX12_goOver_131 (by decide) ?_
              refine A_sub hG [2, 3, 4, 5, 1, 6, 0] rfl ?_
              exact ih_k (k + 1) (ior n z70) f70 (by omega) (gJ_s hI (by omega) (by omega) (by omega) (by have := hI.2.2.2.1 (40 * (10 * (a + 1) + b) + k) (by omega) (by omega); omega) hn70 hz70 (fun U hc hb => Int.le_trans (((hc a b (by omega) (by omega) (by omega)).2.2.2.1 (by omega) _ (by omega) (by omega)).1 (has_no hz33 (by omega))) (by have := hb (a + 1) b k (by omega) (by omega) (by omega) (hPc _ _ (by omega) (by omega) (by omega)) (by omega) (by omega); rw [show 40 * (10 * a + b) + k - 40 * (10 * a + b) = k by omega]; unfold tR at this; omega))) (fun q k2 k3 k4 => by
                  by_cases hk : k2 = k
                  · subst hk
                    have i1 := ior01 hI.1 (z01 hz70)
                    have e0 := hI.2.2.2.2.1 (by omega)
                    have j1 := ch0 hz70 (by omega)
                    rw [e0, e0] at j1
                    exact ⟨fun q => by unfold tR; omega, fun q => absurd (has_yes hz85 c_88) q⟩
                  · exact hP (by have i1 := ior01 hI.1 (z01 hz70); omega) k2 k3 (by omega)) (by omega)
            ·
              refine A_iload hG 0 dX12_goOver_91 rfl ?_
              refine A_aload_n hG 1 dX12_goOver_93 rfl rfl ?_
              refine A_iload hG 5 dX12_goOver_94 rfl ?_
              refine A_iload hG 6 dX12_goOver_96 rfl ?_
              refine A_iadd hG dX12_goOver_98 ?_
              refine A_aload_n hG 1 dX12_goOver_99 rfl rfl ?_
              refine A_getR (r := 520) hG dX12_goOver_100 fl_X12_56 (by decide) k500 (by decide) rfl ?_
              refine A_aload_n hG 1 dX12_goOver_103 rfl rfl ?_
              refine A_iload_n hG 3 dX12_goOver_104 rfl rfl ?_
              refine A_iload_n hG 4 dX12_goOver_105 rfl rfl ?_
              refine A_iconst (n := 1) hG dX12_goOver_106 ?_
              refine A_isub hG dX12_goOver_107 ?_
              refine C_Vi (as := [vI a, vI (b - 1)]) (st := [.ref 520, vI ((40 * (10 * a + b)) + k), .ref 500, vI (ior n z70)]) (k := 500) (c := 11) hG dX12_goOver_108 ml_X12_167 mf_X12_costAt mi_X12_costAt se_X12_costAt rfl (by decide) k500 (r_costAt (hm h [(520, f70)] [] []) (a := a) (b := (b - 1)) (by omega) (by omega)) (by decide) (by decide) rfl rfl (Nat.le_of_ble_eq_true rfl) (fun z108 g108 ri_108 hp_108 => ?_)
              obtain ⟨ra_108, rb_108⟩ := ri_108
              obtain ⟨rfl, rfl⟩ := hp_108
              refine A_iload hG 6 dX12_goOver_111 rfl ?_
              refine A_iadd hG dX12_goOver_113 ?_
              have w62 := hn70 (40 * (10 * a + (b - 1)) + k) (by omega)
              have u62b := hI.2.1 (40 * (10 * a + (b - 1)) + k)
              have t62b := hT (40 * (10 * a + (b - 1)) + k) (by omega) (by omega)
              have v62b := hI.2.2.2.1 (40 * (10 * a + (b - 1)) + k) (by omega) (by omega)
              refine M_iald (v := f70 ((40 * (10 * a + (b - 1))) + k)) hG dX12_goOver_114 k520 n520 (by omega) rfl (fun ⟨ra_114, rb_114⟩ => ?_)
              refine A_aload_n hG 1 dX12_goOver_115 rfl rfl ?_
              refine A_getR (r := 521) hG dX12_goOver_116 fl_X12_59 (by decide) k500 (by decide) rfl ?_
              refine A_iconst (n := 3) hG dX12_goOver_119 ?_
              refine M_iald (v := h.1 521 3) hG dX12_goOver_120 k521 n521 (by omega) rfl (fun ⟨ra_120, rb_120⟩ => ?_)
              refine A_iadd hG dX12_goOver_121 ?_
              refine C_Vi (as := [vI ((40 * (10 * a + b)) + k), vI ((f70 ((40 * (10 * a + (b - 1))) + k)) + (h.1 521 3))]) (st := [vI (ior n z70)]) (k := 500) (c := 11) hG dX12_goOver_122 ml_X12_174 mf_X12_cheaper mi_X12_cheaper se_X12_cheaper rfl (by decide) k500 (r_cheaper (hm h [(520, f70)] [] []) (p := ((40 * (10 * a + b)) + k)) (v := ((f70 ((40 * (10 * a + (b - 1))) + k)) + (h.1 521 3))) (by omega) (by constructor <;> omega)) (by decide) (by decide) rfl rfl (Nat.le_of_ble_eq_true rfl) (fun z122 g122 ri_122 hp_122 => ?_)
              obtain ⟨ra_122, rb_122⟩ := ri_122
              have hq_122 : ∃ fx : Int → Int, ((∀ i, i ≠ ((40 * (10 * a + b)) + k) → fx i = f70 i) ∧ ((z122 = 0 ∧ f70 ((40 * (10 * a + b)) + k) ≤ ((f70 ((40 * (10 * a + (b - 1))) + k)) + (h.1 521 3)) ∧ fx ((40 * (10 * a + b)) + k) = f70 ((40 * (10 * a + b)) + k)) ∨ (z122 = 1 ∧ ((f70 ((40 * (10 * a + (b - 1))) + k)) + (h.1 521 3)) < f70 ((40 * (10 * a + b)) + k) ∧ fx ((40 * (10 * a + b)) + k) = ((f70 ((40 * (10 * a + (b - 1))) + k)) + (h.1 521 3))))) ∧ g122 = hm (hm h [(520, f70)] [] []) [(520, fx)] [] [] := hp_122
              obtain ⟨f122, ⟨hn122, hz122⟩, rfl⟩ := hq_122
              refine A_hm (la := [(520, f122)]) (lb := []) (lc := []) rfl rfl rfl ?_
              refine A_ior hG dX12_goOver_125 ?_
              refine A_istore (L' := [(4, vI (ior (ior n z70) z122)), (0, .ref 500), (1, vI s), (2, vI a), (3, vI b), (5, vI (40 * (10 * a + b))), (6, vI k)]) hG dX12_goOver_126 (by decide) rfl ?_
              refine A_iinc (L' := [(6, vI (k + 1)), (4, vI (ior (ior n z70) z122)), (0, .ref 500), (1, vI s), (2, vI a), (3, vI b), (5, vI (40 * (10 * a + b)))]) hG 6 dX12_goOver_128 rfl (by decide) rfl ?_
              refine A_goto hG 14 dX12_goOver_131 (by decide) ?_
              refine A_sub hG [2, 3, 4, 5, 1, 6, 0] rfl ?_
              exact ih_k (k + 1) (ior (ior n z70) z122) f122 (by omega) (by have hI70 := gJ_s hI (by omega) (by omega) (by omega) (by have := hI.2.2.2.1 (40 * (10 * (a + 1) + b) + k) (by omega) (by omega); omega) hn70 hz70 (fun U hc hb => Int.le_trans (((hc a b (by omega) (by omega) (by omega)).2.2.2.1 (by omega) _ (by omega) (by omega)).1 (has_no hz33 (by omega))) (by have := hb (a + 1) b k (by omega) (by omega) (by omega) (hPc _ _ (by omega) (by omega) (by omega)) (by omega) (by omega); rw [show 40 * (10 * a + b) + k - 40 * (10 * a + b) = k by omega]; unfold tR at this; omega)); exact gJ_s hI70 (by omega) (by omega) (by omega) (by have := hI70.2.2.2.1 (40 * (10 * a + (b - 1)) + k) (by omega) (by omega); omega) hn122 hz122 (fun U hc hb => Int.le_trans (((hc a b (by omega) (by omega) (by omega)).2.2.2.1 (by omega) _ (by omega) (by omega)).2 (has_no hz85 (by omega))) (by have := hb a (b - 1) k (by omega) (by omega) (by omega) (hPc _ _ (by omega) (by omega) (by omega)) (by omega) (by omega); rw [show 40 * (10 * a + b) + k - 40 * (10 * a + b) = k by omega]; unfold tR at this; omega))) (fun q k2 k3 k4 => by
                  by_cases hk : k2 = k
                  · subst hk
                    have i1 := ior01 hI.1 (z01 hz70)
                    have i2 := ior01 (i01 i1) (z01 hz122)
                    have e0 := hI.2.2.2.2.1 (by omega)
                    have j1 := ch0 hz70 (by omega)
                    rw [e0, e0] at j1
                    have j2 := ch0 hz122 (by omega)
                    rw [ch0f hz70 (by omega), hn70 _ (by omega), e0, e0] at j2
                    exact ⟨fun q => by unfold tR; omega, fun q => by unfold tR; omega⟩
                  · exact hP (by have i1 := ior01 hI.1 (z01 hz70); have i2 := ior01 (i01 i1) (z01 hz122); omega) k2 k3 (by omega)) (by omega)
  refine A_sub hG [3, 4, 5, 6, 2, 1, 0] rfl ?_
  exact k_1 _ 0 0 (h.1 520) (by omega) (gJ_0 hF) (fun _ k2 k3 k4 => by omega) (Nat.lt_succ_self _)

end
