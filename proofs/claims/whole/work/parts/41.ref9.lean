/-! the reference: least (printed by gen) -/
section
def atR (f : Int → Int) (len x : Int) : Prop := x = 100000 ∨ ∃ q, 0 ≤ q ∧ q < 4 ∧ x = tR f 0 len q
theorem w_measure {Pc : Int → Int → Prop} {g : Gm} {p : Int → Int} {qs : Int → Prop} {w : Int → Int} {len at0 o z : Int} {f f' : Int → Int} {fu : Nat} (hJ : gJ Pc g p qs w len at0 f f' z) (hR : ∀ k, 0 ≤ k → k < 40 → 0 ≤ f (at0 + k)) (hfu : (2 * sumN (fun k => f (at0 + k)) 40 + o).toNat < fu + 1) (ho : o = 1) : (2 * sumN (fun k => f' (at0 + k)) 40 + z).toNat < fu := by
  obtain ⟨c1, c2, c3, c4, c5, c6, -⟩ := hJ
  have e1 := sumN_lt (f := fun k => f' (at0 + k)) (g := fun k => f (at0 + k)) (n := 40) (fun i _ _ => c2 _)
  have e2 := sumN_le (f := fun k => f (at0 + k)) (b := 100000000) (n := 0) (fun i h0 h1 => by omega)
  have e3 : 0 ≤ sumN (fun k => f (at0 + k)) 40 := by
    have : ∀ n : Nat, n ≤ 40 → 0 ≤ sumN (fun k => f (at0 + k)) n := by
      intro n
      induction n with
      | zero => intro _; exact Int.le_refl _
      | succ n ih =>
        intro hn
        have h1 := ih (by omega)
        have h2 := hR n (by omega) (by omega)
        simp only [sumN]
        omega
    exact this 40 (by omega)
  rcases c1 with q | q
  · have e4 := e1.1; clear e1 c6; omega
  · have e4 : sumN (fun k => f' (at0 + k)) 40 < sumN (fun k => f (at0 + k)) 40 := e1.2 (by
      obtain ⟨i, i1, i2, i3⟩ := c6 q
      exact ⟨i - at0, by omega, by omega, by show f' (at0 + (i - at0)) < f (at0 + (i - at0)); rw [show at0 + (i - at0) = i by omega]; exact i3⟩)
    clear e1 c6; omega
theorem hm_self2 (h : AH) (k q : Nat) : hm h [(k, h.1 k), (q, h.1 q)] [] [] = h := by
  have e : (fun r => alk [(k, h.1 k), (q, h.1 q)] r (h.1 r)) = h.1 := by
    funext r
    simp only [alk]
    by_cases hq : r = k
    · subst hq; simp
    · by_cases hr : r = q
      · subst hr; simp [hq]
      · simp [hq, hr]
  unfold hm
  rw [e]
  rfl
set_option maxHeartbeats 2000000 in
set_option maxRecDepth 20000 in
theorem r_least (h : AH) {s t : Int} (hs : ir s) (ht : t = 0 ∨ t = 1) (hn0 : 0 ≤ h.1 500 13 ∧ h.1 500 13 ≤ 60) (hG0 : okG (gR h)) (hW : ∀ s, 0 ≤ s → s ≤ 7 → okW (gR h) (rowR h s) (h.1 508 s)) (hC0 : ∀ i, 0 ≤ i → i < 4050 → 0 ≤ h.1 520 i ∧ h.1 520 i ≤ 100000) : AMet yX12_least cX12_least 6 (some .int) 2 55 [.ref 500, vI s, vI t] h (Qi (fun z h' => ∃ pv f, ((z = -1 ∧ (s < 0 ∨ 7 < s)) ∨ (z = -2 ∧ (0 ≤ s ∧ s ≤ 7) ∧ h.1 508 s = 0) ∨ ((0 ≤ s ∧ s ≤ 7) ∧ h.1 508 s ≠ 0 ∧ (∀ c, 0 ≤ c → c < 5 → pv c = fitP (h.1 500 13) (h.1 507) (h.1 515) c t) ∧ best (gR h) pv (hasb (h.1 510 s)) (rowR h s) (h.1 508 s) 100000 (tR f) ∧ lstOf (tR f) (h.1 508 s) z)) ∧ (∀ i, 0 ≤ i → i < 4050 → 0 ≤ f i ∧ f i ≤ 100000) ∧ h' = hm h [(521, pv), (520, f)] [] [])) := by
  obtain ⟨hs1, hs2⟩ := hs
  have hnr := hG0.2.1
  rw [(gR_n h).2] at hnr
  have hp0 : ∀ c, 0 ≤ c → c < 5 → 0 ≤ h.1 507 c ∧ h.1 507 c ≤ 99 := fun c c1 c2 => by have := hG0.2.2.2.2 c c1 c2; rw [gR_p ⟨c1, c2⟩] at this; exact this
  refine AMet.of (by decide) (Nat.le_of_ble_eq_true rfl) (fun G hM => ?_)
  have hG := hM.cx
  refine A_hm0 (G := G) (L := [(0, .ref 500), (1, vI s), (2, vI t)]) ?_
  refine A_iload_n hG 1 dX12_least_0 rfl rfl ?_
  refine C_Si (as := [vI s]) (st := []) hG dX12_least_1 ml_X12_134 mf_X12_isSentence ms_X12_isSentence (r_isSentence (hm h [] [] []) (by constructor <;> omega)) (by decide) (by decide) rfl rfl (Nat.le_of_ble_eq_true rfl) (fun z1 g1 ri_1 hp_1 => ?_)
  obtain ⟨ra_1, rb_1⟩ := ri_1
  obtain ⟨hz1, rfl⟩ := hp_1
  refine A_if_ne hG 9 dX12_least_4 (by decide) (by constructor <;> omega) (fun c_4 => ?_) (fun c_4 => ?_)
  ·
    have hW0 := hW s (by omega) (by omega)
    have hlen := hW0.1
    refine A_aload_n hG 0 dX12_least_9 rfl rfl ?_
    refine A_getR (r := 508) hG dX12_least_10 fl_X12_28 (by decide) k500 (by decide) rfl ?_
    refine A_iload_n hG 1 dX12_least_13 rfl rfl ?_
    refine M_iald (v := h.1 508 s) hG dX12_least_14 k508 n508 (by omega) rfl (fun ⟨ra_14, rb_14⟩ => ?_)
    refine A_if_ne hG 21 dX12_least_15 (by decide) (by constructor <;> omega) (fun c_15 => ?_) (fun c_15 => ?_)
    ·
      refine A_iconst (n := 0) hG dX12_least_21 ?_
      refine A_istore_n (L' := [(3, vI 0), (0, .ref 500), (1, vI s), (2, vI t)]) hG dX12_least_22 rfl (by decide) rfl ?_
      refine A_insI 521 (li' := [(521, h.1 521)]) rfl ?_
      have c_1 : ∀ fu : Nat, ∀ (c : Int) (pv : Int → Int), (0 ≤ c ∧ c ≤ 5) → (∀ j, 0 ≤ j → j < c → pv j = fitP (h.1 500 13) (h.1 507) (h.1 515) j t) → ((5 - c).toNat) < fu → G 23 [(0, .ref 500), (1, vI s), (2, vI t), (3, vI c)] [] (hm h [(521, pv)] [] []) := by
        intro fu
        induction fu with
        | zero => intro c pv hc hpv hfu; exact absurd hfu (Nat.not_lt_zero _)
        | succ fu ih_c =>
          intro c pv hc hpv hfu
          refine A_iload_n hG 3 dX12_least_23 rfl rfl ?_
          refine A_iconst (n := 5) hG dX12_least_24 ?_
          refine A_icmp_ge hG 58 dX12_least_25 (by decide) (by constructor <;> omega) (by constructor <;> omega) (fun c_25 => ?_) (fun c_25 => ?_)
          ·
            have hpr : ∀ c, 0 ≤ c → c < 5 → 0 ≤ pv c ∧ pv c ≤ 99 := fun j j1 j2 => by rw [hpv j j1 (by omega)]; exact fitP_rng hn0 (hp0 j j1 j2)
            refine A_iconst (n := 0) hG dX12_least_58 ?_
            refine A_istore_n (L' := [(3, vI 0), (0, .ref 500), (1, vI s), (2, vI t)]) hG dX12_least_59 rfl (by decide) rfl ?_
            refine A_insI 520 (li' := [(521, pv), (520, h.1 520)]) rfl ?_
            have n_2 : ∀ fu : Nat, ∀ (n : Int) (f : Int → Int), (0 ≤ n ∧ n ≤ h.1 508 s + 1) → (∀ i, 0 ≤ i → i < 4050 → 0 ≤ f i ∧ f i ≤ 100000) → (∀ a' b', 0 ≤ a' → a' ≤ b' → b' ≤ h.1 508 s → (b' - a' < n) → cell (gR h) pv (hasb (h.1 510 s)) (rowR h s) 100000 (tR f) a' b') → (∀ U, clsd (gR h) pv (hasb (h.1 510 s)) (rowR h s) (h.1 508 s) 100000 U → belowP (fun x y => y - x < n) (h.1 508 s) U (tR f)) → ((10 - n).toNat) < fu → G 60 [(0, .ref 500), (1, vI s), (3, vI n)] [] (hm h [(521, pv), (520, f)] [] []) := by
              intro fu
              induction fu with
              | zero => intro n f hn hR hd hx hfu; exact absurd hfu (Nat.not_lt_zero _)
              | succ fu ih_n =>
                intro n f hn hR hd hx hfu
                refine A_iload_n hG 2 dX12_least_60 rfl rfl ?_
                refine A_aload_n hG 0 dX12_least_61 rfl rfl ?_
                refine A_getR (r := 508) hG dX12_least_62 fl_X12_28 (by decide) k500 (by decide) rfl ?_
                refine A_iload_n hG 1 dX12_least_65 rfl rfl ?_
                refine M_iald (v := h.1 508 s) hG dX12_least_66 k508 n508 (by omega) rfl (fun ⟨ra_66, rb_66⟩ => ?_)
                refine A_icmp_gt hG 133 dX12_least_67 (by decide) (by constructor <;> omega) (by constructor <;> omega) (fun c_67 => ?_) (fun c_67 => ?_)
                ·
                  refine A_ldc (n := 100000) hG dX12_least_133 kc_X12_166 ?_
                  refine A_istore_n (L' := [(3, vI 100000), (0, .ref 500), (1, vI s)]) hG dX12_least_135 rfl (by decide) rfl ?_
                  refine A_iconst (n := 0) hG dX12_least_136 ?_
                  refine A_istore (L' := [(4, vI 0), (3, vI 100000), (0, .ref 500), (1, vI s)]) hG dX12_least_137 (by decide) rfl ?_
                  have m_3 : ∀ fu : Nat, ∀ (x : Int) (m : Int), (0 ≤ m ∧ m ≤ 4) → (0 ≤ x ∧ x ≤ 100000) → (∀ q, 0 ≤ q → q < m → x ≤ tR f 0 (h.1 508 s) q) → (atR f (h.1 508 s) x) → ((4 - m).toNat) < fu → G 139 [(0, .ref 500), (1, vI s), (3, vI x), (4, vI m)] [] (hm h [(521, pv), (520, f)] [] []) := by
                    intro fu
                    induction fu with
                    | zero => intro x m hm0 hx2 hx3 hx4 hfu; exact absurd hfu (Nat.not_lt_zero _)
                    | succ fu ih_m =>
                      intro x m hm0 hx2 hx3 hx4 hfu
                      refine A_iload hG 3 dX12_least_139 rfl ?_
                      refine A_iconst (n := 4) hG dX12_least_141 ?_
                      refine A_icmp_ge hG 185 dX12_least_142 (by decide) (by constructor <;> omega) (by constructor <;> omega) (fun c_142 => ?_) (fun c_142 => ?_)
                      ·
                        refine A_iload_n hG 2 dX12_least_185 rfl rfl ?_
                        refine A_bipush (n := 99) hG dX12_least_186 (by decide) ?_
                        refine A_icmp_gt hG 195 dX12_least_188 (by decide) (by constructor <;> omega) (by constructor <;> omega) (fun c_188 => ?_) (fun c_188 => ?_)
                        ·
                          refine A_bipush (n := -4) hG dX12_least_195 (by decide) ?_
                          exact Ret_i hM dX12_least_197 (by constructor <;> omega) (⟨pv, f, Or.inr (Or.inr ⟨by omega, c_15, fun c c1 c2 => hpv c c1 (by omega), ⟨fun a b a1 a2 a3 => hd a b a1 a2 a3 (by omega), fun U hU x y k x1 x2 x3 => hx U hU x y k x1 x2 x3 (by omega)⟩, Or.inr ⟨rfl, fun q q1 q2 => by have := hx3 q q1 (by omega); omega⟩⟩), hR, rfl⟩)
                        ·
                          refine A_iload_n hG 2 dX12_least_191 rfl rfl ?_
                          refine A_goto hG 197 dX12_least_192 (by decide) ?_
                          exact Ret_i hM dX12_least_197 (by constructor <;> omega) (⟨pv, f, Or.inr (Or.inr ⟨by omega, c_15, fun c c1 c2 => hpv c c1 (by omega), ⟨fun a b a1 a2 a3 => hd a b a1 a2 a3 (by omega), fun U hU x y k x1 x2 x3 => hx U hU x y k x1 x2 x3 (by omega)⟩, Or.inl (by rcases hx4 with q | ⟨q, q1, q2, q3⟩; (omega); exact ⟨q, q1, q2, q3, c_188, fun r r1 r2 => hx3 r r1 (by omega)⟩)⟩), hR, rfl⟩)
                      ·
                        refine A_aload_n hG 0 dX12_least_145 rfl rfl ?_
                        refine A_getR (r := 520) hG dX12_least_146 fl_X12_56 (by decide) k500 (by decide) rfl ?_
                        refine A_aload_n hG 0 dX12_least_149 rfl rfl ?_
                        refine A_iconst (n := 0) hG dX12_least_150 ?_
                        refine A_aload_n hG 0 dX12_least_151 rfl rfl ?_
                        refine A_getR (r := 508) hG dX12_least_152 fl_X12_28 (by decide) k500 (by decide) rfl ?_
                        refine A_iload_n hG 1 dX12_least_155 rfl rfl ?_
                        refine M_iald (v := h.1 508 s) hG dX12_least_156 k508 n508 (by omega) rfl (fun ⟨ra_156, rb_156⟩ => ?_)
                        refine C_Vi (as := [vI 0, vI (h.1 508 s)]) (st := [.ref 520]) (k := 500) (c := 11) hG dX12_least_157 ml_X12_167 mf_X12_costAt mi_X12_costAt se_X12_costAt rfl (by decide) k500 (r_costAt (hm h [(521, pv), (520, f)] [] []) (a := 0) (b := (h.1 508 s)) (by omega) (by omega)) (by decide) (by decide) rfl rfl (Nat.le_of_ble_eq_true rfl) (fun z157 g157 ri_157 hp_157 => ?_)
                        obtain ⟨ra_157, rb_157⟩ := ri_157
                        obtain ⟨rfl, rfl⟩ := hp_157
                        refine A_iload hG 3 dX12_least_160 rfl ?_
                        refine A_iadd hG dX12_least_162 ?_
                        have hcc := hR (40 * (10 * 0 + h.1 508 s) + m) (by omega) (by omega)
                        refine M_iald (v := f ((40 * (10 * 0 + (h.1 508 s))) + m)) hG dX12_least_163 k520 n520 (by omega) rfl (fun ⟨ra_163, rb_163⟩ => ?_)
                        refine A_istore (L' := [(5, vI (f ((40 * (10 * 0 + (h.1 508 s))) + m))), (0, .ref 500), (1, vI s), (3, vI x), (4, vI m)]) hG dX12_least_164 (by decide) rfl ?_
                        refine A_iload hG 0 dX12_least_166 rfl ?_
                        refine A_iload_n hG 3 dX12_least_168 rfl rfl ?_
                        refine A_icmp_ge hG 177 dX12_least_169 (by decide) (by constructor <;> omega) (by constructor <;> omega) (fun c_169 => ?_) (fun c_169 => ?_)
                        ·
                          refine A_iload_n hG 3 dX12_least_177 rfl rfl ?_
                          refine A_istore_n (L' := [(3, vI x), (5, vI (f ((40 * (10 * 0 + (h.1 508 s))) + m))), (0, .ref 500), (1, vI s), (4, vI m)]) hG dX12_least_178 rfl (by decide) rfl ?_
                          refine A_iinc (L' := [(4, vI (m + 1)), (3, vI x), (5, vI (f ((40 * (10 * 0 + (h.1 508 s))) + m))), (0, .ref 500), (1, vI s)]) hG 4 dX12_least_179 rfl (by decide) rfl ?_
                          refine A_goto hG 139 dX12_least_182 (by decide) ?_
                          refine A_sub hG [3, 4, 1, 0] rfl ?_
                          exact ih_m x (m + 1) (by omega) (by omega) (fun q q1 q2 => by
                              by_cases hq : q = m
                              · subst hq; unfold tR; omega
                              · have := hx3 q q1 (by omega); omega) hx4 (by omega)
                        ·
                          refine A_iload hG 0 dX12_least_172 rfl ?_
                          refine A_goto hG 178 dX12_least_174 (by decide) ?_
                          refine A_istore_n (L' := [(3, vI (f ((40 * (10 * 0 + (h.1 508 s))) + m))), (5, vI (f ((40 * (10 * 0 + (h.1 508 s))) + m))), (0, .ref 500), (1, vI s), (4, vI m)]) hG dX12_least_178 rfl (by decide) rfl ?_
                          refine A_iinc (L' := [(4, vI (m + 1)), (3, vI (f ((40 * (10 * 0 + (h.1 508 s))) + m))), (5, vI (f ((40 * (10 * 0 + (h.1 508 s))) + m))), (0, .ref 500), (1, vI s)]) hG 4 dX12_least_179 rfl (by decide) rfl ?_
                          refine A_goto hG 139 dX12_least_182 (by decide) ?_
                          refine A_sub hG [3, 4, 1, 0] rfl ?_
                          exact ih_m (f ((40 * (10 * 0 + (h.1 508 s))) + m)) (m + 1) (by omega) (by omega) (fun q q1 q2 => by
                              by_cases hq : q = m
                              · subst hq; unfold tR; omega
                              · have := hx3 q q1 (by omega); omega) (Or.inr ⟨m, by omega, by omega, rfl⟩) (by omega)
                  refine A_sub hG [2, 3, 1, 0] rfl ?_
                  exact m_3 _ 100000 0 (by omega) (by omega) (fun q q1 q2 => by omega) (Or.inl rfl) (Nat.lt_succ_self _)
                ·
                  refine A_iconst (n := 0) hG dX12_least_70 ?_
                  refine A_istore (L' := [(4, vI 0), (0, .ref 500), (1, vI s), (3, vI n)]) hG dX12_least_71 (by decide) rfl ?_
                  have a_5 : ∀ fu : Nat, ∀ (a : Int) (f : Int → Int), (0 ≤ a ∧ a ≤ 9) → (∀ i, 0 ≤ i → i < 4050 → 0 ≤ f i ∧ f i ≤ 100000) → (∀ a' b', 0 ≤ a' → a' ≤ b' → b' ≤ h.1 508 s → (b' - a' < n ∨ (b' - a' = n ∧ a' < a)) → cell (gR h) pv (hasb (h.1 510 s)) (rowR h s) 100000 (tR f) a' b') → (∀ U, clsd (gR h) pv (hasb (h.1 510 s)) (rowR h s) (h.1 508 s) 100000 U → belowP (fun x y => y - x < n ∨ (y - x = n ∧ x < a)) (h.1 508 s) U (tR f)) → ((10 - a).toNat) < fu → G 73 [(0, .ref 500), (1, vI s), (3, vI n), (4, vI a)] [] (hm h [(521, pv), (520, f)] [] []) := by
                    intro fu
                    induction fu with
                    | zero => intro a f ha hR hd hx hfu; exact absurd hfu (Nat.not_lt_zero _)
                    | succ fu ih_a =>
                      intro a f ha hR hd hx hfu
                      refine A_iload hG 3 dX12_least_73 rfl ?_
                      refine A_iload_n hG 2 dX12_least_75 rfl rfl ?_
                      refine A_iadd hG dX12_least_76 ?_
                      refine A_aload_n hG 0 dX12_least_77 rfl rfl ?_
                      refine A_getR (r := 508) hG dX12_least_78 fl_X12_28 (by decide) k500 (by decide) rfl ?_
                      refine A_iload_n hG 1 dX12_least_81 rfl rfl ?_
                      refine M_iald (v := h.1 508 s) hG dX12_least_82 k508 n508 (by omega) rfl (fun ⟨ra_82, rb_82⟩ => ?_)
                      refine A_icmp_gt hG 127 dX12_least_83 (by decide) (by constructor <;> omega) (by constructor <;> omega) (fun c_83 => ?_) (fun c_83 => ?_)
                      ·
                        refine A_iinc (L' := [(3, vI (n + 1)), (0, .ref 500), (1, vI s), (4, vI a)]) hG 2 dX12_least_127 rfl (by decide) rfl ?_
                        refine A_goto hG 60 dX12_least_130 (by decide) ?_
                        refine A_sub hG [1, 2, 0] rfl ?_
                        exact ih_n (n + 1) f (by omega) hR (fun a' b' a1 a2 a3 a4 => hd a' b' a1 a2 a3 (by omega)) (fun U hU x y k x1 x2 x3 x4 => hx U hU x y k x1 x2 x3 (by omega)) (by omega)
                      ·
                        refine A_aload_n hG 0 dX12_least_86 rfl rfl ?_
                        refine A_iload_n hG 1 dX12_least_87 rfl rfl ?_
                        refine A_iload hG 3 dX12_least_88 rfl ?_
                        refine A_iload hG 3 dX12_least_90 rfl ?_
                        refine A_iload_n hG 2 dX12_least_92 rfl rfl ?_
                        refine A_iadd hG dX12_least_93 ?_
                        refine C_Vv (as := [vI s, vI a, vI (a + n)]) (st := []) (k := 500) (c := 11) hG dX12_least_94 ml_X12_177 mf_X12_layLeaves mi_X12_layLeaves se_X12_layLeaves rfl (by decide) k500 (r_layLeaves (hm h [(521, pv), (520, f)] [] []) (s := s) (a := a) (b := (a + n)) (by omega) hG0 hW0 (show 0 ≤ a ∧ a ≤ (a + n) ∧ (a + n) ≤ h.1 508 s by omega) hpr) (by decide) (by decide) rfl rfl (Nat.le_of_ble_eq_true rfl) (fun g94 hp_94 => ?_)
                        have hq_94 : ∃ fx : Int → Int, ((∀ i, (i < 40 * (10 * a + (a + n)) ∨ 40 * (10 * a + (a + n)) + 40 ≤ i) → fx i = f i) ∧ (∀ k, 0 ≤ k → k < 40 → 0 ≤ fx (40 * (10 * a + (a + n)) + k)) ∧ leafC (gR h) pv (hasb (h.1 510 s) a) (h.1 509 (10 * s + a)) a (a + n) (fun k => fx (40 * (10 * a + (a + n)) + k)) ∧ (∀ u, leafC (gR h) pv (hasb (h.1 510 s) a) (h.1 509 (10 * s + a)) a (a + n) u → ∀ k, 0 ≤ k → k < 40 → u k ≤ fx (40 * (10 * a + (a + n)) + k))) ∧ g94 = hm (hm h [(521, pv), (520, f)] [] []) [(520, fx)] [] [] := hp_94
                        obtain ⟨f94, ⟨hA94, hB94, hC94, hD94⟩, rfl⟩ := hq_94
                        refine A_hm (la := [(521, pv), (520, f94)]) (lb := []) (lc := []) rfl rfl rfl ?_
                        refine A_iconst (n := 1) hG dX12_least_97 ?_
                        refine A_istore (L' := [(5, vI 1), (0, .ref 500), (1, vI s), (3, vI n), (4, vI a)]) hG dX12_least_98 (by decide) rfl ?_
                        have w_7 : ∀ fu : Nat, ∀ (o : Int) (f : Int → Int), (o = 0 ∨ o = 1) → (∀ i, 0 ≤ i → i < 4050 → 0 ≤ f i ∧ f i ≤ 100000) → (∀ a' b', 0 ≤ a' → a' ≤ b' → b' ≤ h.1 508 s → (b' - a' < n ∨ (b' - a' = n ∧ a' < a)) → cell (gR h) pv (hasb (h.1 510 s)) (rowR h s) 100000 (tR f) a' b') → (∀ U, clsd (gR h) pv (hasb (h.1 510 s)) (rowR h s) (h.1 508 s) 100000 U → belowP (fun x y => y - x < n ∨ (y - x = n ∧ x ≤ a)) (h.1 508 s) U (tR f)) → (leafC (gR h) pv (hasb (h.1 510 s) a) (h.1 509 (10 * s + a)) a (a + n) (fun k => f (40 * (10 * a + (a + n)) + k))) → (o = 0 → (a < a + n → ∀ k, 0 ≤ k → k < 40 → cB pv (hasb (h.1 510 s)) (tR f) a (a + n) k) ∧ ∀ m r y z, a ≤ m → m ≤ a + n → 0 ≤ r → r < h.1 505 0 → 0 ≤ y → y < 4 → 0 ≤ z → z < 4 → cC (gR h) (tR f) a (a + n) m r y z) → ((2 * sumN (fun k => f (40 * (10 * a + (a + n)) + k)) 40 + o).toNat) < fu → G 100 [(0, .ref 500), (1, vI s), (3, vI n), (4, vI a), (5, vI o)] [] (hm h [(521, pv), (520, f)] [] []) := by
                          intro fu
                          induction fu with
                          | zero => intro o f ho hR hd hx hL hM hfu; exact absurd hfu (Nat.not_lt_zero _)
                          | succ fu ih_w =>
                            intro o f ho hR hd hx hL hM hfu
                            refine A_iload hG 4 dX12_least_100 rfl ?_
                            refine A_if_eq hG 121 dX12_least_102 (by decide) (by constructor <;> omega) (fun c_102 => ?_) (fun c_102 => ?_)
                            ·
                              refine A_iinc (L' := [(4, vI (a + 1)), (0, .ref 500), (1, vI s), (3, vI n), (5, vI o)]) hG 3 dX12_least_121 rfl (by decide) rfl ?_
                              refine A_goto hG 73 dX12_least_124 (by decide) ?_
                              refine A_sub hG [1, 2, 3, 0] rfl ?_
                              exact ih_a (a + 1) f (by omega) hR (fun a' b' a1 a2 a3 a4 => by
                                  rcases (show (b' - a' < n ∨ (b' - a' = n ∧ a' < a)) ∨ (a' = a ∧ b' = a + n) by omega) with a5 | ⟨rfl, rfl⟩
                                  · exact hd a' b' a1 a2 a3 a5
                                  · exact ⟨fun k k1 k2 => (hR _ (by omega) (by omega)).2, hL.2.1, fun e v v1 v2 => by rw [rowR_in (by omega)]; exact hL.2.2 e v v1 v2, (hM c_102).1, fun m m1 m2 r r1 r2 y z y1 y2 z1 z2 => (hM c_102).2 m r y z m1 m2 r1 (by rw [(gR_n h).2] at r2; exact r2) y1 y2 z1 z2⟩) (fun U hU x y k x1 x2 x3 x4 => hx U hU x y k x1 x2 x3 (by omega)) (by omega)
                            ·
                              refine A_aload_n hG 0 dX12_least_105 rfl rfl ?_
                              refine A_iload_n hG 1 dX12_least_106 rfl rfl ?_
                              refine A_iload hG 3 dX12_least_107 rfl ?_
                              refine A_iload hG 3 dX12_least_109 rfl ?_
                              refine A_iload_n hG 2 dX12_least_111 rfl rfl ?_
                              refine A_iadd hG dX12_least_112 ?_
                              refine C_Vi (as := [vI s, vI a, vI (a + n)]) (st := []) (k := 500) (c := 11) hG dX12_least_113 ml_X12_181 mf_X12_goOver mi_X12_goOver se_X12_goOver rfl (by decide) k500 (r_goOver (hm h [(521, pv), (520, f)] [] []) (fun x y => y - x < n ∨ (y - x = n ∧ x ≤ a)) (s := s) (a := a) (b := (a + n)) (fun x y x1 x2 x3 => by omega) (by omega) hG0 hlen (show 0 ≤ a ∧ a ≤ (a + n) ∧ (a + n) ≤ h.1 508 s by omega) hpr (fun i i1 i2 => (hR i i1 i2).1) (fun i i1 i2 => (hR i i1 i2).2)) (by decide) (by decide) rfl rfl (Nat.le_of_ble_eq_true rfl) (fun z113 g113 ri_113 hp_113 => ?_)
                              obtain ⟨ra_113, rb_113⟩ := ri_113
                              have hq_113 : ∃ fx : Int → Int, (gJ (fun x y => y - x < n ∨ (y - x = n ∧ x ≤ a)) (gR h) pv (hasb (h.1 510 s)) (rowR h s) (h.1 508 s) (40 * (10 * a + (a + n))) f fx z113 ∧ (z113 = 0 → (a < (a + n) → ∀ k, 0 ≤ k → k < 40 → cB pv (hasb (h.1 510 s)) (tR f) a (a + n) k) ∧ ∀ m r y z, a ≤ m → m ≤ (a + n) → 0 ≤ r → r < h.1 505 0 → 0 ≤ y → y < 4 → 0 ≤ z → z < 4 → cC (gR h) (tR f) a (a + n) m r y z)) ∧ g113 = hm (hm h [(521, pv), (520, f)] [] []) [(520, fx)] [] [] := hp_113
                              obtain ⟨f113, ⟨hJ113, hK113⟩, rfl⟩ := hq_113
                              refine A_hm (la := [(521, pv), (520, f113)]) (lb := []) (lc := []) rfl rfl rfl ?_
                              refine A_istore (L' := [(5, vI z113), (0, .ref 500), (1, vI s), (3, vI n), (4, vI a)]) hG dX12_least_116 (by decide) rfl ?_
                              refine A_goto hG 100 dX12_least_118 (by decide) ?_
                              refine A_sub hG [1, 2, 3, 4, 0] rfl ?_
                              exact ih_w z113 f113 hJ113.1 (fun i i1 i2 => ⟨hJ113.2.2.2.1 i i1 i2, Int.le_trans (hJ113.2.1 i) (hR i i1 i2).2⟩) (fun a' b' a1 a2 a3 a4 => cell_congr hG0 (fun x y k x1 x2 x3 k1 k2 => by unfold tR; exact hJ113.2.2.1 _ (by omega)) a2 (hd a' b' a1 a2 a3 a4)) (fun U hU => hJ113.2.2.2.2.2.2 U hU (hx U hU)) (leafC_mono hG0 (fun k k1 k2 => hJ113.2.1 _) hL) (fun q => by
                                  have e : f113 = f := funext (hJ113.2.2.2.2.1 q)
                                  rw [e]
                                  exact hK113 q) (w_measure hJ113 (fun k k1 k2 => (hR _ (by omega) (by omega)).1) hfu (by omega))
                        refine A_sub hG [1, 2, 3, 4, 0] rfl ?_
                        exact w_7 _ 1 f94 (Or.inr rfl) (fun i i1 i2 => by
                            by_cases hi : i < 40 * (10 * a + (a + n)) ∨ 40 * (10 * a + (a + n)) + 40 ≤ i
                            · rw [hA94 i hi]; exact hR i i1 i2
                            · have e1 := hB94 (i - 40 * (10 * a + (a + n))) (by omega) (by omega)
                              have e2 := hC94.1 (i - 40 * (10 * a + (a + n))) (by omega) (by omega)
                              rw [show 40 * (10 * a + (a + n)) + (i - 40 * (10 * a + (a + n))) = i by omega] at e1
                              simp only at e2
                              rw [show 40 * (10 * a + (a + n)) + (i - 40 * (10 * a + (a + n))) = i by omega] at e2
                              exact ⟨e1, e2⟩) (fun a' b' a1 a2 a3 a4 => cell_congr hG0 (fun x y k x1 x2 x3 k1 k2 => by unfold tR; exact hA94 _ (by omega)) a2 (hd a' b' a1 a2 a3 a4)) (fun U hU x y k x1 x2 x3 x4 k1 k2 => by
                            by_cases hq : x = a ∧ y = a + n
                            · obtain ⟨rfl, rfl⟩ := hq
                              obtain ⟨u1, u2, u3, -⟩ := hU x (x + n) x1 x2 x3
                              exact hD94 (U x (x + n)) ⟨u1, u2, fun e v v1 v2 => by have := u3 e v v1 v2; rw [rowR_in (by omega)] at this; exact this⟩ k k1 k2
                            · unfold tR
                              rw [hA94 _ (by omega)]
                              exact hx U hU x y k x1 x2 x3 (by omega) k1 k2) hC94 (fun q => by omega) (Nat.lt_succ_self _)
                  refine A_sub hG [1, 2, 3, 0] rfl ?_
                  exact a_5 _ 0 f (by omega) hR (fun a' b' a1 a2 a3 a4 => hd a' b' a1 a2 a3 (by omega)) (fun U hU x y k x1 x2 x3 x4 => hx U hU x y k x1 x2 x3 (by omega)) (Nat.lt_succ_self _)
            refine A_sub hG [1, 2, 0] rfl ?_
            exact n_2 _ 0 (h.1 520) (by omega) hC0 (fun a' b' a1 a2 a3 a4 => by omega) (fun U hU x y k x1 x2 x3 x4 => by omega) (Nat.lt_succ_self _)
          ·
            refine A_aload_n hG 0 dX12_least_28 rfl rfl ?_
            refine A_getR (r := 521) hG dX12_least_29 fl_X12_59 (by decide) k500 (by decide) rfl ?_
            refine A_iload_n hG 3 dX12_least_32 rfl rfl ?_
            refine A_iload_n hG 2 dX12_least_33 rfl rfl ?_
            refine A_if_eq hG 45 dX12_least_34 (by decide) (by constructor <;> omega) (fun c_34 => ?_) (fun c_34 => ?_)
            ·
              refine A_aload_n hG 0 dX12_least_45 rfl rfl ?_
              refine A_getR (r := 507) hG dX12_least_46 fl_X12_25 (by decide) k500 (by decide) rfl ?_
              refine A_iload_n hG 3 dX12_least_49 rfl rfl ?_
              refine M_iald (v := h.1 507 c) hG dX12_least_50 k507 n507 (by omega) rfl (fun ⟨ra_50, rb_50⟩ => ?_)
              have hfr := fitP_rng (e := h.1 515) (c := c) (f := 1) hn0 (hp0 c (by omega) (by omega))
              refine M_iast (li' := [(521, up pv c (h.1 507 c))]) hG dX12_least_51 k521 n521 (by omega) (by constructor <;> omega) rfl ?_
              refine A_iinc (L' := [(3, vI (c + 1)), (0, .ref 500), (1, vI s), (2, vI t)]) hG 3 dX12_least_52 rfl (by decide) rfl ?_
              refine A_goto hG 23 dX12_least_55 (by decide) ?_
              refine A_sub hG [1, 2, 3, 0] rfl ?_
              exact ih_c (c + 1) (up pv c (h.1 507 c)) (by omega) (fun j j1 j2 => by
                  by_cases hj : j = c
                  · rw [hj, up_eq]; rw [fitP, if_neg (by omega)]
                  · rw [up_ne _ _ hj]; exact hpv j j1 (by omega)) (by omega)
            ·
              refine A_aload_n hG 0 dX12_least_37 rfl rfl ?_
              refine A_iload_n hG 3 dX12_least_38 rfl rfl ?_
              refine C_Vi (as := [vI c]) (st := [vI c, .ref 521]) (k := 500) (c := 11) hG dX12_least_39 ml_X12_128 mf_X12_fitted mi_X12_fitted se_X12_fitted rfl (by decide) k500 (r_fitted (hm h [(521, pv)] [] []) (by omega) hn0) (by decide) (by decide) rfl rfl (Nat.le_of_ble_eq_true rfl) (fun z39 g39 ri_39 hp_39 => ?_)
              obtain ⟨ra_39, rb_39⟩ := ri_39
              have hq_39 : z39 = fitP (h.1 500 13) (h.1 507) (h.1 515) c 1 ∧ g39 = hm h [(521, pv)] [] [] := hp_39
              obtain ⟨rfl, rfl⟩ := hq_39
              refine A_goto hG 51 dX12_least_42 (by decide) ?_
              have hfr := fitP_rng (e := h.1 515) (c := c) (f := 1) hn0 (hp0 c (by omega) (by omega))
              refine M_iast (li' := [(521, up pv c (fitP (h.1 500 13) (h.1 507) (h.1 515) c 1))]) hG dX12_least_51 k521 n521 (by omega) (by constructor <;> omega) rfl ?_
              refine A_iinc (L' := [(3, vI (c + 1)), (0, .ref 500), (1, vI s), (2, vI t)]) hG 3 dX12_least_52 rfl (by decide) rfl ?_
              refine A_goto hG 23 dX12_least_55 (by decide) ?_
              refine A_sub hG [1, 2, 3, 0] rfl ?_
              exact ih_c (c + 1) (up pv c (fitP (h.1 500 13) (h.1 507) (h.1 515) c 1)) (by omega) (fun j j1 j2 => by
                  by_cases hj : j = c
                  · rw [hj, up_eq]; rw [show t = 1 by omega]
                  · rw [up_ne _ _ hj]; exact hpv j j1 (by omega)) (by omega)
      refine A_sub hG [1, 2, 3, 0] rfl ?_
      exact c_1 _ 0 (h.1 521) (by omega) (fun j j1 j2 => by omega) (Nat.lt_succ_self _)
    ·
      refine A_bipush (n := -2) hG dX12_least_18 (by decide) ?_
      exact Ret_i hM dX12_least_20 (by constructor <;> omega) (⟨h.1 521, h.1 520, Or.inr (Or.inl ⟨rfl, by omega, c_15⟩), hC0, (hm_self2 h 521 520).symm⟩)
  ·
    refine A_iconst (n := -1) hG dX12_least_7 ?_
    exact Ret_i hM dX12_least_8 (by constructor <;> omega) (⟨h.1 521, h.1 520, Or.inl ⟨rfl, by omega⟩, hC0, (hm_self2 h 521 520).symm⟩)

end
